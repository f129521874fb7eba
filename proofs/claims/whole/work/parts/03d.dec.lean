theorem dX12_level_54 : decode cX12_level 54 = .ok (.iload_n 1, 1) := by decide +kernel
theorem dX12_level_55 : decode cX12_level 55 = .ok (.iaload, 1) := by decide +kernel
theorem dX12_level_56 : decode cX12_level 56 = .ok (.istore 7, 2) := by decide +kernel
theorem dX12_level_58 : decode cX12_level 58 = .ok (.iload 7, 2) := by decide +kernel
theorem dX12_level_60 : decode cX12_level 60 = .ok (.iconst 1, 1) := by decide +kernel
theorem dX12_level_61 : decode cX12_level 61 = .ok (.isub, 1) := by decide +kernel
theorem dX12_level_62 : decode cX12_level 62 = .ok (.istore 8, 2) := by decide +kernel
theorem dX12_level_64 : decode cX12_level 64 = .ok (.iload 8, 2) := by decide +kernel
theorem dX12_level_66 : decode cX12_level 66 = .ok (.ifCond .lt 175, 3) := by decide +kernel
theorem dX12_level_69 : decode cX12_level 69 = .ok (.iconst 0, 1) := by decide +kernel
theorem dX12_level_70 : decode cX12_level 70 = .ok (.istore 9, 2) := by decide +kernel
theorem dX12_level_72 : decode cX12_level 72 = .ok (.iload 9, 2) := by decide +kernel
theorem dX12_level_74 : decode cX12_level 74 = .ok (.bipush 100, 2) := by decide +kernel
theorem dX12_level_76 : decode cX12_level 76 = .ok (.if_icmp .ge 159, 3) := by decide +kernel
theorem dX12_level_79 : decode cX12_level 79 = .ok (.iload 8, 2) := by decide +kernel
theorem dX12_level_81 : decode cX12_level 81 = .ok (.iload 7, 2) := by decide +kernel
theorem dX12_level_83 : decode cX12_level 83 = .ok (.iconst 1, 1) := by decide +kernel
theorem dX12_level_84 : decode cX12_level 84 = .ok (.isub, 1) := by decide +kernel
theorem dX12_level_85 : decode cX12_level 85 = .ok (.if_icmp .ne 7, 3) := by decide +kernel
theorem dX12_level_88 : decode cX12_level 88 = .ok (.iconst 0, 1) := by decide +kernel
theorem dX12_level_89 : decode cX12_level 89 = .ok (.goto 5, 3) := by decide +kernel
theorem dX12_level_92 : decode cX12_level 92 = .ok (.ldc 189, 2) := by decide +kernel
theorem dX12_level_94 : decode cX12_level 94 = .ok (.istore 10, 2) := by decide +kernel
theorem dX12_level_96 : decode cX12_level 96 = .ok (.iconst 0, 1) := by decide +kernel
theorem dX12_level_97 : decode cX12_level 97 = .ok (.istore 11, 2) := by decide +kernel
theorem dX12_level_99 : decode cX12_level 99 = .ok (.iload 11, 2) := by decide +kernel
theorem dX12_level_101 : decode cX12_level 101 = .ok (.bipush 100, 2) := by decide +kernel
theorem dX12_level_103 : decode cX12_level 103 = .ok (.if_icmp .ge 80, 3) := by decide +kernel
theorem dX12_level_106 : decode cX12_level 106 = .ok (.iload 8, 2) := by decide +kernel
theorem dX12_level_108 : decode cX12_level 108 = .ok (.iload 7, 2) := by decide +kernel
theorem dX12_level_110 : decode cX12_level 110 = .ok (.iconst 1, 1) := by decide +kernel
theorem dX12_level_111 : decode cX12_level 111 = .ok (.isub, 1) := by decide +kernel
theorem dX12_level_112 : decode cX12_level 112 = .ok (.if_icmp .ge 71, 3) := by decide +kernel
theorem dX12_level_115 : decode cX12_level 115 = .ok (.iload 9, 2) := by decide +kernel
theorem dX12_level_117 : decode cX12_level 117 = .ok (.iload 11, 2) := by decide +kernel
theorem dX12_level_119 : decode cX12_level 119 = .ok (.iload 8, 2) := by decide +kernel
theorem dX12_level_121 : decode cX12_level 121 = .ok (.iload_n 3, 1) := by decide +kernel
theorem dX12_level_122 : decode cX12_level 122 = .ok (.if_icmp .ge 7, 3) := by decide +kernel
theorem dX12_level_125 : decode cX12_level 125 = .ok (.iconst 1, 1) := by decide +kernel
theorem dX12_level_126 : decode cX12_level 126 = .ok (.goto 4, 3) := by decide +kernel
theorem dX12_level_129 : decode cX12_level 129 = .ok (.iconst 0, 1) := by decide +kernel
theorem dX12_level_130 : decode cX12_level 130 = .ok (.iload 5, 2) := by decide +kernel
theorem dX12_level_132 : decode cX12_level 132 = .ok (.iload 6, 2) := by decide +kernel
theorem dX12_level_134 : decode cX12_level 134 = .ok (.invokestatic 190, 3) := by decide +kernel
theorem dX12_level_137 : decode cX12_level 137 = .ok (.ifCond .eq 40, 3) := by decide +kernel
theorem dX12_level_140 : decode cX12_level 140 = .ok (.aload_n 0, 1) := by decide +kernel
theorem dX12_level_141 : decode cX12_level 141 = .ok (.getfield 39, 3) := by decide +kernel
theorem dX12_level_144 : decode cX12_level 144 = .ok (.bipush 100, 2) := by decide +kernel
theorem dX12_level_146 : decode cX12_level 146 = .ok (.iload 8, 2) := by decide +kernel
theorem dX12_level_148 : decode cX12_level 148 = .ok (.iconst 1, 1) := by decide +kernel
theorem dX12_level_149 : decode cX12_level 149 = .ok (.iadd, 1) := by decide +kernel
theorem dX12_level_150 : decode cX12_level 150 = .ok (.imul, 1) := by decide +kernel
theorem dX12_level_151 : decode cX12_level 151 = .ok (.iload 11, 2) := by decide +kernel
theorem dX12_level_153 : decode cX12_level 153 = .ok (.iadd, 1) := by decide +kernel
theorem dX12_level_154 : decode cX12_level 154 = .ok (.iaload, 1) := by decide +kernel
theorem dX12_level_155 : decode cX12_level 155 = .ok (.iload 10, 2) := by decide +kernel
theorem dX12_level_157 : decode cX12_level 157 = .ok (.if_icmp .ge 20, 3) := by decide +kernel
theorem dX12_level_160 : decode cX12_level 160 = .ok (.aload_n 0, 1) := by decide +kernel
theorem dX12_level_161 : decode cX12_level 161 = .ok (.getfield 39, 3) := by decide +kernel
theorem dX12_level_164 : decode cX12_level 164 = .ok (.bipush 100, 2) := by decide +kernel
theorem dX12_level_166 : decode cX12_level 166 = .ok (.iload 8, 2) := by decide +kernel
theorem dX12_level_168 : decode cX12_level 168 = .ok (.iconst 1, 1) := by decide +kernel
theorem dX12_level_169 : decode cX12_level 169 = .ok (.iadd, 1) := by decide +kernel
theorem dX12_level_170 : decode cX12_level 170 = .ok (.imul, 1) := by decide +kernel
theorem dX12_level_171 : decode cX12_level 171 = .ok (.iload 11, 2) := by decide +kernel
theorem dX12_level_173 : decode cX12_level 173 = .ok (.iadd, 1) := by decide +kernel
theorem dX12_level_174 : decode cX12_level 174 = .ok (.iaload, 1) := by decide +kernel
theorem dX12_level_175 : decode cX12_level 175 = .ok (.istore 10, 2) := by decide +kernel
theorem dX12_level_177 : decode cX12_level 177 = .ok (.iinc 11 1, 3) := by decide +kernel
theorem dX12_level_180 : decode cX12_level 180 = .ok (.goto (-81), 3) := by decide +kernel
theorem dX12_level_183 : decode cX12_level 183 = .ok (.aload_n 0, 1) := by decide +kernel
theorem dX12_level_184 : decode cX12_level 184 = .ok (.getfield 39, 3) := by decide +kernel
theorem dX12_level_187 : decode cX12_level 187 = .ok (.bipush 100, 2) := by decide +kernel
theorem dX12_level_189 : decode cX12_level 189 = .ok (.iload 8, 2) := by decide +kernel
theorem dX12_level_191 : decode cX12_level 191 = .ok (.imul, 1) := by decide +kernel
theorem dX12_level_192 : decode cX12_level 192 = .ok (.iload 9, 2) := by decide +kernel
theorem dX12_level_194 : decode cX12_level 194 = .ok (.iadd, 1) := by decide +kernel
theorem dX12_level_195 : decode cX12_level 195 = .ok (.iload 10, 2) := by decide +kernel
theorem dX12_level_197 : decode cX12_level 197 = .ok (.ldc 189, 2) := by decide +kernel
theorem dX12_level_199 : decode cX12_level 199 = .ok (.if_icmp .ne 8, 3) := by decide +kernel
theorem dX12_level_202 : decode cX12_level 202 = .ok (.ldc 189, 2) := by decide +kernel
theorem dX12_level_204 : decode cX12_level 204 = .ok (.goto 24, 3) := by decide +kernel
theorem dX12_level_207 : decode cX12_level 207 = .ok (.iload 10, 2) := by decide +kernel
theorem dX12_level_209 : decode cX12_level 209 = .ok (.iload 9, 2) := by decide +kernel
theorem dX12_level_211 : decode cX12_level 211 = .ok (.aload_n 0, 1) := by decide +kernel
theorem dX12_level_212 : decode cX12_level 212 = .ok (.getfield 16, 3) := by decide +kernel
theorem dX12_level_215 : decode cX12_level 215 = .ok (.iload_n 1, 1) := by decide +kernel
theorem dX12_level_216 : decode cX12_level 216 = .ok (.iload_n 2, 1) := by decide +kernel
theorem dX12_level_217 : decode cX12_level 217 = .ok (.iload 8, 2) := by decide +kernel
theorem dX12_level_219 : decode cX12_level 219 = .ok (.invokestatic 175, 3) := by decide +kernel
theorem dX12_level_222 : decode cX12_level 222 = .ok (.iaload, 1) := by decide +kernel
theorem dX12_level_223 : decode cX12_level 223 = .ok (.isub, 1) := by decide +kernel
theorem dX12_level_224 : decode cX12_level 224 = .ok (.invokestatic 194, 3) := by decide +kernel
theorem dX12_level_227 : decode cX12_level 227 = .ok (.iadd, 1) := by decide +kernel
theorem dX12_level_228 : decode cX12_level 228 = .ok (.iastore, 1) := by decide +kernel
theorem dX12_level_229 : decode cX12_level 229 = .ok (.iinc 9 1, 3) := by decide +kernel
theorem dX12_level_232 : decode cX12_level 232 = .ok (.goto (-160), 3) := by decide +kernel
theorem dX12_level_235 : decode cX12_level 235 = .ok (.iinc 8 (-1), 3) := by decide +kernel
theorem dX12_level_238 : decode cX12_level 238 = .ok (.goto (-174), 3) := by decide +kernel
theorem dX12_level_241 : decode cX12_level 241 = .ok (.iconst 0, 1) := by decide +kernel
theorem dX12_level_242 : decode cX12_level 242 = .ok (.istore 8, 2) := by decide +kernel
theorem dX12_level_244 : decode cX12_level 244 = .ok (.iconst 1, 1) := by decide +kernel
theorem dX12_level_245 : decode cX12_level 245 = .ok (.istore 9, 2) := by decide +kernel
theorem dX12_level_247 : decode cX12_level 247 = .ok (.iload 9, 2) := by decide +kernel
theorem dX12_level_249 : decode cX12_level 249 = .ok (.bipush 100, 2) := by decide +kernel
theorem dX12_level_251 : decode cX12_level 251 = .ok (.if_icmp .ge 30, 3) := by decide +kernel
theorem dX12_level_254 : decode cX12_level 254 = .ok (.aload_n 0, 1) := by decide +kernel
theorem dX12_level_255 : decode cX12_level 255 = .ok (.getfield 39, 3) := by decide +kernel
theorem dX12_level_258 : decode cX12_level 258 = .ok (.iload 9, 2) := by decide +kernel
theorem dX12_level_260 : decode cX12_level 260 = .ok (.iaload, 1) := by decide +kernel
theorem dX12_level_261 : decode cX12_level 261 = .ok (.aload_n 0, 1) := by decide +kernel
theorem dX12_level_262 : decode cX12_level 262 = .ok (.getfield 39, 3) := by decide +kernel
theorem dX12_level_265 : decode cX12_level 265 = .ok (.iload 8, 2) := by decide +kernel
theorem dX12_level_267 : decode cX12_level 267 = .ok (.iaload, 1) := by decide +kernel
theorem dX12_level_268 : decode cX12_level 268 = .ok (.if_icmp .ge 7, 3) := by decide +kernel
theorem dX12_level_271 : decode cX12_level 271 = .ok (.iload 9, 2) := by decide +kernel
theorem dX12_level_273 : decode cX12_level 273 = .ok (.istore 8, 2) := by decide +kernel
theorem dX12_level_275 : decode cX12_level 275 = .ok (.iinc 9 1, 3) := by decide +kernel
theorem dX12_level_278 : decode cX12_level 278 = .ok (.goto (-31), 3) := by decide +kernel
theorem dX12_level_281 : decode cX12_level 281 = .ok (.aload_n 0, 1) := by decide +kernel
theorem dX12_level_282 : decode cX12_level 282 = .ok (.getfield 39, 3) := by decide +kernel
theorem dX12_level_285 : decode cX12_level 285 = .ok (.iload 8, 2) := by decide +kernel
theorem dX12_level_287 : decode cX12_level 287 = .ok (.iaload, 1) := by decide +kernel
theorem dX12_level_288 : decode cX12_level 288 = .ok (.ldc 189, 2) := by decide +kernel
theorem dX12_level_290 : decode cX12_level 290 = .ok (.if_icmp .lt 6, 3) := by decide +kernel
theorem dX12_level_293 : decode cX12_level 293 = .ok (.bipush (-2), 2) := by decide +kernel
theorem dX12_level_295 : decode cX12_level 295 = .ok (.ireturn, 1) := by decide +kernel
theorem dX12_level_296 : decode cX12_level 296 = .ok (.aload_n 0, 1) := by decide +kernel
theorem dX12_level_297 : decode cX12_level 297 = .ok (.iload_n 1, 1) := by decide +kernel
theorem dX12_level_298 : decode cX12_level 298 = .ok (.putfield 26, 3) := by decide +kernel
theorem dX12_level_301 : decode cX12_level 301 = .ok (.aload_n 0, 1) := by decide +kernel
theorem dX12_level_302 : decode cX12_level 302 = .ok (.iload_n 2, 1) := by decide +kernel
theorem dX12_level_303 : decode cX12_level 303 = .ok (.putfield 30, 3) := by decide +kernel
theorem dX12_level_306 : decode cX12_level 306 = .ok (.aload_n 0, 1) := by decide +kernel
theorem dX12_level_307 : decode cX12_level 307 = .ok (.iconst 1, 1) := by decide +kernel
theorem dX12_level_308 : decode cX12_level 308 = .ok (.putfield 198, 3) := by decide +kernel
theorem dX12_level_311 : decode cX12_level 311 = .ok (.aload_n 0, 1) := by decide +kernel
theorem dX12_level_312 : decode cX12_level 312 = .ok (.aload_n 0, 1) := by decide +kernel
theorem dX12_level_313 : decode cX12_level 313 = .ok (.getfield 39, 3) := by decide +kernel
theorem dX12_level_316 : decode cX12_level 316 = .ok (.iload 8, 2) := by decide +kernel
theorem dX12_level_318 : decode cX12_level 318 = .ok (.iaload, 1) := by decide +kernel
theorem dX12_level_319 : decode cX12_level 319 = .ok (.putfield 202, 3) := by decide +kernel
theorem dX12_level_322 : decode cX12_level 322 = .ok (.iconst 0, 1) := by decide +kernel
theorem dX12_level_323 : decode cX12_level 323 = .ok (.istore 9, 2) := by decide +kernel
theorem dX12_level_325 : decode cX12_level 325 = .ok (.iload 9, 2) := by decide +kernel
theorem dX12_level_327 : decode cX12_level 327 = .ok (.iload 7, 2) := by decide +kernel
theorem dX12_level_329 : decode cX12_level 329 = .ok (.if_icmp .ge 28, 3) := by decide +kernel
theorem dX12_level_332 : decode cX12_level 332 = .ok (.aload_n 0, 1) := by decide +kernel
theorem dX12_level_333 : decode cX12_level 333 = .ok (.getfield 36, 3) := by decide +kernel
theorem dX12_level_336 : decode cX12_level 336 = .ok (.iload 9, 2) := by decide +kernel
theorem dX12_level_338 : decode cX12_level 338 = .ok (.aload_n 0, 1) := by decide +kernel
theorem dX12_level_339 : decode cX12_level 339 = .ok (.getfield 16, 3) := by decide +kernel
theorem dX12_level_342 : decode cX12_level 342 = .ok (.iload_n 1, 1) := by decide +kernel
theorem dX12_level_343 : decode cX12_level 343 = .ok (.iload_n 2, 1) := by decide +kernel
theorem dX12_level_344 : decode cX12_level 344 = .ok (.iload 9, 2) := by decide +kernel
theorem dX12_level_346 : decode cX12_level 346 = .ok (.invokestatic 175, 3) := by decide +kernel
theorem dX12_level_349 : decode cX12_level 349 = .ok (.iaload, 1) := by decide +kernel
theorem dX12_level_350 : decode cX12_level 350 = .ok (.iastore, 1) := by decide +kernel
theorem dX12_level_351 : decode cX12_level 351 = .ok (.iinc 9 1, 3) := by decide +kernel
theorem dX12_level_354 : decode cX12_level 354 = .ok (.goto (-29), 3) := by decide +kernel
theorem dX12_level_357 : decode cX12_level 357 = .ok (.aload_n 0, 1) := by decide +kernel
theorem dX12_level_358 : decode cX12_level 358 = .ok (.getfield 33, 3) := by decide +kernel
theorem dX12_level_361 : decode cX12_level 361 = .ok (.iconst 0, 1) := by decide +kernel
theorem dX12_level_362 : decode cX12_level 362 = .ok (.iload 8, 2) := by decide +kernel
theorem dX12_level_364 : decode cX12_level 364 = .ok (.iastore, 1) := by decide +kernel
theorem dX12_level_365 : decode cX12_level 365 = .ok (.iconst 1, 1) := by decide +kernel
theorem dX12_level_366 : decode cX12_level 366 = .ok (.istore 9, 2) := by decide +kernel
theorem dX12_level_368 : decode cX12_level 368 = .ok (.iload 9, 2) := by decide +kernel
theorem dX12_level_370 : decode cX12_level 370 = .ok (.iload 7, 2) := by decide +kernel
theorem dX12_level_372 : decode cX12_level 372 = .ok (.if_icmp .ge 131, 3) := by decide +kernel
theorem dX12_level_375 : decode cX12_level 375 = .ok (.aload_n 0, 1) := by decide +kernel
theorem dX12_level_376 : decode cX12_level 376 = .ok (.getfield 39, 3) := by decide +kernel
theorem dX12_level_379 : decode cX12_level 379 = .ok (.bipush 100, 2) := by decide +kernel
theorem dX12_level_381 : decode cX12_level 381 = .ok (.iload 9, 2) := by decide +kernel
theorem dX12_level_383 : decode cX12_level 383 = .ok (.iconst 1, 1) := by decide +kernel
theorem dX12_level_384 : decode cX12_level 384 = .ok (.isub, 1) := by decide +kernel
theorem dX12_level_385 : decode cX12_level 385 = .ok (.imul, 1) := by decide +kernel
theorem dX12_level_386 : decode cX12_level 386 = .ok (.aload_n 0, 1) := by decide +kernel
theorem dX12_level_387 : decode cX12_level 387 = .ok (.getfield 33, 3) := by decide +kernel
theorem dX12_level_390 : decode cX12_level 390 = .ok (.iload 9, 2) := by decide +kernel
theorem dX12_level_392 : decode cX12_level 392 = .ok (.iconst 1, 1) := by decide +kernel
theorem dX12_level_393 : decode cX12_level 393 = .ok (.isub, 1) := by decide +kernel
theorem dX12_level_394 : decode cX12_level 394 = .ok (.iaload, 1) := by decide +kernel
theorem dX12_level_395 : decode cX12_level 395 = .ok (.iadd, 1) := by decide +kernel
theorem dX12_level_396 : decode cX12_level 396 = .ok (.iaload, 1) := by decide +kernel
theorem dX12_level_397 : decode cX12_level 397 = .ok (.aload_n 0, 1) := by decide +kernel
theorem dX12_level_398 : decode cX12_level 398 = .ok (.getfield 33, 3) := by decide +kernel
theorem dX12_level_401 : decode cX12_level 401 = .ok (.iload 9, 2) := by decide +kernel
theorem dX12_level_403 : decode cX12_level 403 = .ok (.iconst 1, 1) := by decide +kernel
theorem dX12_level_404 : decode cX12_level 404 = .ok (.isub, 1) := by decide +kernel
theorem dX12_level_405 : decode cX12_level 405 = .ok (.iaload, 1) := by decide +kernel
theorem dX12_level_406 : decode cX12_level 406 = .ok (.aload_n 0, 1) := by decide +kernel
theorem dX12_level_407 : decode cX12_level 407 = .ok (.getfield 16, 3) := by decide +kernel
theorem dX12_level_410 : decode cX12_level 410 = .ok (.iload_n 1, 1) := by decide +kernel
theorem dX12_level_411 : decode cX12_level 411 = .ok (.iload_n 2, 1) := by decide +kernel
theorem dX12_level_412 : decode cX12_level 412 = .ok (.iload 9, 2) := by decide +kernel
theorem dX12_level_414 : decode cX12_level 414 = .ok (.iconst 1, 1) := by decide +kernel
theorem dX12_level_415 : decode cX12_level 415 = .ok (.isub, 1) := by decide +kernel
theorem dX12_level_416 : decode cX12_level 416 = .ok (.invokestatic 175, 3) := by decide +kernel
theorem dX12_level_419 : decode cX12_level 419 = .ok (.iaload, 1) := by decide +kernel
theorem dX12_level_420 : decode cX12_level 420 = .ok (.isub, 1) := by decide +kernel
theorem dX12_level_421 : decode cX12_level 421 = .ok (.invokestatic 194, 3) := by decide +kernel
theorem dX12_level_424 : decode cX12_level 424 = .ok (.isub, 1) := by decide +kernel
theorem dX12_level_425 : decode cX12_level 425 = .ok (.istore 10, 2) := by decide +kernel
theorem dX12_level_427 : decode cX12_level 427 = .ok (.iconst 0, 1) := by decide +kernel
theorem dX12_level_428 : decode cX12_level 428 = .ok (.istore 11, 2) := by decide +kernel
theorem dX12_level_430 : decode cX12_level 430 = .ok (.aload_n 0, 1) := by decide +kernel
theorem dX12_level_431 : decode cX12_level 431 = .ok (.getfield 33, 3) := by decide +kernel
theorem dX12_level_434 : decode cX12_level 434 = .ok (.iload 9, 2) := by decide +kernel
theorem dX12_level_436 : decode cX12_level 436 = .ok (.iconst 1, 1) := by decide +kernel
theorem dX12_level_437 : decode cX12_level 437 = .ok (.isub, 1) := by decide +kernel
theorem dX12_level_438 : decode cX12_level 438 = .ok (.iaload, 1) := by decide +kernel
theorem dX12_level_439 : decode cX12_level 439 = .ok (.iload 11, 2) := by decide +kernel
theorem dX12_level_441 : decode cX12_level 441 = .ok (.iload 9, 2) := by decide +kernel
theorem dX12_level_443 : decode cX12_level 443 = .ok (.iconst 1, 1) := by decide +kernel
theorem dX12_level_444 : decode cX12_level 444 = .ok (.isub, 1) := by decide +kernel
theorem dX12_level_445 : decode cX12_level 445 = .ok (.iload_n 3, 1) := by decide +kernel
theorem dX12_level_446 : decode cX12_level 446 = .ok (.if_icmp .ge 7, 3) := by decide +kernel
theorem dX12_level_449 : decode cX12_level 449 = .ok (.iconst 1, 1) := by decide +kernel
theorem dX12_level_450 : decode cX12_level 450 = .ok (.goto 4, 3) := by decide +kernel
theorem dX12_level_453 : decode cX12_level 453 = .ok (.iconst 0, 1) := by decide +kernel
theorem dX12_level_454 : decode cX12_level 454 = .ok (.iload 5, 2) := by decide +kernel
theorem dX12_level_456 : decode cX12_level 456 = .ok (.iload 6, 2) := by decide +kernel
theorem dX12_level_458 : decode cX12_level 458 = .ok (.invokestatic 190, 3) := by decide +kernel
theorem dX12_level_461 : decode cX12_level 461 = .ok (.ifCond .eq 21, 3) := by decide +kernel
theorem dX12_level_464 : decode cX12_level 464 = .ok (.aload_n 0, 1) := by decide +kernel
theorem dX12_level_465 : decode cX12_level 465 = .ok (.getfield 39, 3) := by decide +kernel
theorem dX12_level_468 : decode cX12_level 468 = .ok (.bipush 100, 2) := by decide +kernel
theorem dX12_level_470 : decode cX12_level 470 = .ok (.iload 9, 2) := by decide +kernel
theorem dX12_level_472 : decode cX12_level 472 = .ok (.imul, 1) := by decide +kernel
theorem dX12_level_473 : decode cX12_level 473 = .ok (.iload 11, 2) := by decide +kernel
theorem dX12_level_475 : decode cX12_level 475 = .ok (.iadd, 1) := by decide +kernel
theorem dX12_level_476 : decode cX12_level 476 = .ok (.iaload, 1) := by decide +kernel
theorem dX12_level_477 : decode cX12_level 477 = .ok (.iload 10, 2) := by decide +kernel
theorem dX12_level_479 : decode cX12_level 479 = .ok (.if_icmp .eq 9, 3) := by decide +kernel
theorem dX12_level_482 : decode cX12_level 482 = .ok (.iinc 11 1, 3) := by decide +kernel
theorem dX12_level_485 : decode cX12_level 485 = .ok (.goto (-55), 3) := by decide +kernel
theorem dX12_level_488 : decode cX12_level 488 = .ok (.aload_n 0, 1) := by decide +kernel
theorem dX12_level_489 : decode cX12_level 489 = .ok (.getfield 33, 3) := by decide +kernel
theorem dX12_level_492 : decode cX12_level 492 = .ok (.iload 9, 2) := by decide +kernel
theorem dX12_level_494 : decode cX12_level 494 = .ok (.iload 11, 2) := by decide +kernel
theorem dX12_level_496 : decode cX12_level 496 = .ok (.iastore, 1) := by decide +kernel
theorem dX12_level_497 : decode cX12_level 497 = .ok (.iinc 9 1, 3) := by decide +kernel
theorem dX12_level_500 : decode cX12_level 500 = .ok (.goto (-132), 3) := by decide +kernel
theorem dX12_level_503 : decode cX12_level 503 = .ok (.aload_n 0, 1) := by decide +kernel
theorem dX12_level_504 : decode cX12_level 504 = .ok (.getfield 202, 3) := by decide +kernel
theorem dX12_level_507 : decode cX12_level 507 = .ok (.ireturn, 1) := by decide +kernel
theorem dX12_levelled_0 : decode cX12_levelled 0 = .ok (.aload_n 0, 1) := by decide +kernel
theorem dX12_levelled_1 : decode cX12_levelled 1 = .ok (.getfield 198, 3) := by decide +kernel
theorem dX12_levelled_4 : decode cX12_levelled 4 = .ok (.ifCond .eq 31, 3) := by decide +kernel
theorem dX12_levelled_7 : decode cX12_levelled 7 = .ok (.iload_n 1, 1) := by decide +kernel
theorem dX12_levelled_8 : decode cX12_levelled 8 = .ok (.iconst 0, 1) := by decide +kernel
theorem dX12_levelled_9 : decode cX12_levelled 9 = .ok (.aload_n 0, 1) := by decide +kernel
theorem dX12_levelled_10 : decode cX12_levelled 10 = .ok (.getfield 13, 3) := by decide +kernel
theorem dX12_levelled_13 : decode cX12_levelled 13 = .ok (.aload_n 0, 1) := by decide +kernel
theorem dX12_levelled_14 : decode cX12_levelled 14 = .ok (.getfield 26, 3) := by decide +kernel
theorem dX12_levelled_17 : decode cX12_levelled 17 = .ok (.iaload, 1) := by decide +kernel
theorem dX12_levelled_18 : decode cX12_levelled 18 = .ok (.iconst 1, 1) := by decide +kernel
theorem dX12_levelled_19 : decode cX12_levelled 19 = .ok (.isub, 1) := by decide +kernel
theorem dX12_levelled_20 : decode cX12_levelled 20 = .ok (.invokestatic 164, 3) := by decide +kernel
theorem dX12_levelled_23 : decode cX12_levelled 23 = .ok (.ifCond .eq 12, 3) := by decide +kernel
theorem dX12_levelled_26 : decode cX12_levelled 26 = .ok (.aload_n 0, 1) := by decide +kernel
theorem dX12_levelled_27 : decode cX12_levelled 27 = .ok (.getfield 33, 3) := by decide +kernel
theorem dX12_levelled_30 : decode cX12_levelled 30 = .ok (.iload_n 1, 1) := by decide +kernel
theorem dX12_levelled_31 : decode cX12_levelled 31 = .ok (.iaload, 1) := by decide +kernel
theorem dX12_levelled_32 : decode cX12_levelled 32 = .ok (.goto 4, 3) := by decide +kernel
theorem dX12_levelled_35 : decode cX12_levelled 35 = .ok (.iconst (-1), 1) := by decide +kernel
theorem dX12_levelled_36 : decode cX12_levelled 36 = .ok (.ireturn, 1) := by decide +kernel
theorem dX12_move_0 : decode cX12_move 0 = .ok (.aload_n 0, 1) := by decide +kernel
theorem dX12_move_1 : decode cX12_move 1 = .ok (.getfield 198, 3) := by decide +kernel
theorem dX12_move_4 : decode cX12_move 4 = .ok (.ifCond .ne 6, 3) := by decide +kernel
theorem dX12_move_7 : decode cX12_move 7 = .ok (.bipush (-2), 2) := by decide +kernel
theorem dX12_move_9 : decode cX12_move 9 = .ok (.ireturn, 1) := by decide +kernel
theorem dX12_move_10 : decode cX12_move 10 = .ok (.iconst 0, 1) := by decide +kernel
theorem dX12_move_11 : decode cX12_move 11 = .ok (.istore_n 1, 1) := by decide +kernel
theorem dX12_move_12 : decode cX12_move 12 = .ok (.iload_n 1, 1) := by decide +kernel
theorem dX12_move_13 : decode cX12_move 13 = .ok (.aload_n 0, 1) := by decide +kernel
theorem dX12_move_14 : decode cX12_move 14 = .ok (.getfield 13, 3) := by decide +kernel
theorem dX12_move_17 : decode cX12_move 17 = .ok (.aload_n 0, 1) := by decide +kernel
theorem dX12_move_18 : decode cX12_move 18 = .ok (.getfield 26, 3) := by decide +kernel
theorem dX12_move_21 : decode cX12_move 21 = .ok (.iaload, 1) := by decide +kernel
theorem dX12_move_22 : decode cX12_move 22 = .ok (.if_icmp .ge 38, 3) := by decide +kernel
theorem dX12_move_25 : decode cX12_move 25 = .ok (.aload_n 0, 1) := by decide +kernel
theorem dX12_move_26 : decode cX12_move 26 = .ok (.getfield 16, 3) := by decide +kernel
theorem dX12_move_29 : decode cX12_move 29 = .ok (.aload_n 0, 1) := by decide +kernel
theorem dX12_move_30 : decode cX12_move 30 = .ok (.getfield 26, 3) := by decide +kernel
theorem dX12_move_33 : decode cX12_move 33 = .ok (.aload_n 0, 1) := by decide +kernel
theorem dX12_move_34 : decode cX12_move 34 = .ok (.getfield 30, 3) := by decide +kernel
theorem dX12_move_37 : decode cX12_move 37 = .ok (.iload_n 1, 1) := by decide +kernel
theorem dX12_move_38 : decode cX12_move 38 = .ok (.invokestatic 175, 3) := by decide +kernel
theorem dX12_move_41 : decode cX12_move 41 = .ok (.iaload, 1) := by decide +kernel
theorem dX12_move_42 : decode cX12_move 42 = .ok (.aload_n 0, 1) := by decide +kernel
theorem dX12_move_43 : decode cX12_move 43 = .ok (.getfield 36, 3) := by decide +kernel
theorem dX12_move_46 : decode cX12_move 46 = .ok (.iload_n 1, 1) := by decide +kernel
theorem dX12_move_47 : decode cX12_move 47 = .ok (.iaload, 1) := by decide +kernel
theorem dX12_move_48 : decode cX12_move 48 = .ok (.if_icmp .eq 6, 3) := by decide +kernel
theorem dX12_move_51 : decode cX12_move 51 = .ok (.bipush (-2), 2) := by decide +kernel
theorem dX12_move_53 : decode cX12_move 53 = .ok (.ireturn, 1) := by decide +kernel
theorem dX12_move_54 : decode cX12_move 54 = .ok (.iinc 1 1, 3) := by decide +kernel
theorem dX12_move_57 : decode cX12_move 57 = .ok (.goto (-45), 3) := by decide +kernel
theorem dX12_move_60 : decode cX12_move 60 = .ok (.iconst 0, 1) := by decide +kernel
theorem dX12_move_61 : decode cX12_move 61 = .ok (.istore_n 1, 1) := by decide +kernel
theorem dX12_move_62 : decode cX12_move 62 = .ok (.iload_n 1, 1) := by decide +kernel
theorem dX12_move_63 : decode cX12_move 63 = .ok (.aload_n 0, 1) := by decide +kernel
theorem dX12_move_64 : decode cX12_move 64 = .ok (.getfield 13, 3) := by decide +kernel
theorem dX12_move_67 : decode cX12_move 67 = .ok (.aload_n 0, 1) := by decide +kernel
theorem dX12_move_68 : decode cX12_move 68 = .ok (.getfield 26, 3) := by decide +kernel
theorem dX12_move_71 : decode cX12_move 71 = .ok (.iaload, 1) := by decide +kernel
theorem dX12_move_72 : decode cX12_move 72 = .ok (.if_icmp .ge 32, 3) := by decide +kernel
theorem dX12_move_75 : decode cX12_move 75 = .ok (.aload_n 0, 1) := by decide +kernel
theorem dX12_move_76 : decode cX12_move 76 = .ok (.getfield 16, 3) := by decide +kernel
theorem dX12_move_79 : decode cX12_move 79 = .ok (.aload_n 0, 1) := by decide +kernel
theorem dX12_move_80 : decode cX12_move 80 = .ok (.getfield 26, 3) := by decide +kernel
theorem dX12_move_83 : decode cX12_move 83 = .ok (.aload_n 0, 1) := by decide +kernel
theorem dX12_move_84 : decode cX12_move 84 = .ok (.getfield 30, 3) := by decide +kernel
theorem dX12_move_87 : decode cX12_move 87 = .ok (.iload_n 1, 1) := by decide +kernel
theorem dX12_move_88 : decode cX12_move 88 = .ok (.invokestatic 175, 3) := by decide +kernel
theorem dX12_move_91 : decode cX12_move 91 = .ok (.aload_n 0, 1) := by decide +kernel
theorem dX12_move_92 : decode cX12_move 92 = .ok (.getfield 33, 3) := by decide +kernel
theorem dX12_move_95 : decode cX12_move 95 = .ok (.iload_n 1, 1) := by decide +kernel
theorem dX12_move_96 : decode cX12_move 96 = .ok (.iaload, 1) := by decide +kernel
theorem dX12_move_97 : decode cX12_move 97 = .ok (.iastore, 1) := by decide +kernel
theorem dX12_move_98 : decode cX12_move 98 = .ok (.iinc 1 1, 3) := by decide +kernel
theorem dX12_move_101 : decode cX12_move 101 = .ok (.goto (-39), 3) := by decide +kernel
theorem dX12_move_104 : decode cX12_move 104 = .ok (.aload_n 0, 1) := by decide +kernel
theorem dX12_move_105 : decode cX12_move 105 = .ok (.iconst 0, 1) := by decide +kernel
theorem dX12_move_106 : decode cX12_move 106 = .ok (.putfield 198, 3) := by decide +kernel
theorem dX12_move_109 : decode cX12_move 109 = .ok (.aload_n 0, 1) := by decide +kernel
theorem dX12_move_110 : decode cX12_move 110 = .ok (.getfield 202, 3) := by decide +kernel
theorem dX12_move_113 : decode cX12_move 113 = .ok (.ireturn, 1) := by decide +kernel
theorem dX12_stones_0 : decode cX12_stones 0 = .ok (.iload_n 1, 1) := by decide +kernel
theorem dX12_stones_1 : decode cX12_stones 1 = .ok (.iconst 1, 1) := by decide +kernel
theorem dX12_stones_2 : decode cX12_stones 2 = .ok (.bipush 9, 2) := by decide +kernel
theorem dX12_stones_4 : decode cX12_stones 4 = .ok (.invokestatic 164, 3) := by decide +kernel
theorem dX12_stones_7 : decode cX12_stones 7 = .ok (.ifCond .eq 13, 3) := by decide +kernel
theorem dX12_stones_10 : decode cX12_stones 10 = .ok (.iload_n 2, 1) := by decide +kernel
theorem dX12_stones_11 : decode cX12_stones 11 = .ok (.iconst 1, 1) := by decide +kernel
theorem dX12_stones_12 : decode cX12_stones 12 = .ok (.bipush 99, 2) := by decide +kernel
theorem dX12_stones_14 : decode cX12_stones 14 = .ok (.invokestatic 164, 3) := by decide +kernel
theorem dX12_stones_17 : decode cX12_stones 17 = .ok (.ifCond .ne 5, 3) := by decide +kernel
theorem dX12_stones_20 : decode cX12_stones 20 = .ok (.iconst (-1), 1) := by decide +kernel
theorem dX12_stones_21 : decode cX12_stones 21 = .ok (.ireturn, 1) := by decide +kernel
theorem dX12_stones_22 : decode cX12_stones 22 = .ok (.aload_n 0, 1) := by decide +kernel
theorem dX12_stones_23 : decode cX12_stones 23 = .ok (.getfield 42, 3) := by decide +kernel
theorem dX12_stones_26 : decode cX12_stones 26 = .ok (.iload_n 1, 1) := by decide +kernel
theorem dX12_stones_27 : decode cX12_stones 27 = .ok (.iaload, 1) := by decide +kernel
theorem dX12_stones_28 : decode cX12_stones 28 = .ok (.iload_n 2, 1) := by decide +kernel
theorem dX12_stones_29 : decode cX12_stones 29 = .ok (.iadd, 1) := by decide +kernel
theorem dX12_stones_30 : decode cX12_stones 30 = .ok (.sipush 999, 3) := by decide +kernel
theorem dX12_stones_33 : decode cX12_stones 33 = .ok (.if_icmp .le 6, 3) := by decide +kernel
theorem dX12_stones_36 : decode cX12_stones 36 = .ok (.bipush (-2), 2) := by decide +kernel
theorem dX12_stones_38 : decode cX12_stones 38 = .ok (.ireturn, 1) := by decide +kernel
theorem dX12_stones_39 : decode cX12_stones 39 = .ok (.aload_n 0, 1) := by decide +kernel
theorem dX12_stones_40 : decode cX12_stones 40 = .ok (.getfield 42, 3) := by decide +kernel
theorem dX12_stones_43 : decode cX12_stones 43 = .ok (.iload_n 1, 1) := by decide +kernel
theorem dX12_stones_44 : decode cX12_stones 44 = .ok (.dup2, 1) := by decide +kernel
theorem dX12_stones_45 : decode cX12_stones 45 = .ok (.iaload, 1) := by decide +kernel
theorem dX12_stones_46 : decode cX12_stones 46 = .ok (.iload_n 2, 1) := by decide +kernel
theorem dX12_stones_47 : decode cX12_stones 47 = .ok (.iadd, 1) := by decide +kernel
theorem dX12_stones_48 : decode cX12_stones 48 = .ok (.iastore, 1) := by decide +kernel
theorem dX12_stones_49 : decode cX12_stones 49 = .ok (.aload_n 0, 1) := by decide +kernel
theorem dX12_stones_50 : decode cX12_stones 50 = .ok (.getfield 42, 3) := by decide +kernel
theorem dX12_stones_53 : decode cX12_stones 53 = .ok (.iload_n 1, 1) := by decide +kernel
theorem dX12_stones_54 : decode cX12_stones 54 = .ok (.iaload, 1) := by decide +kernel
theorem dX12_stones_55 : decode cX12_stones 55 = .ok (.ireturn, 1) := by decide +kernel
theorem dX12_find_0 : decode cX12_find 0 = .ok (.iconst 0, 1) := by decide +kernel
theorem dX12_find_1 : decode cX12_find 1 = .ok (.istore_n 2, 1) := by decide +kernel
theorem dX12_find_2 : decode cX12_find 2 = .ok (.iload_n 2, 1) := by decide +kernel
theorem dX12_find_3 : decode cX12_find 3 = .ok (.iload_n 1, 1) := by decide +kernel
theorem dX12_find_4 : decode cX12_find 4 = .ok (.if_icmp .gt 25, 3) := by decide +kernel
theorem dX12_find_7 : decode cX12_find 7 = .ok (.aload_n 0, 1) := by decide +kernel
theorem dX12_find_8 : decode cX12_find 8 = .ok (.getfield 51, 3) := by decide +kernel
theorem dX12_find_11 : decode cX12_find 11 = .ok (.iload_n 2, 1) := by decide +kernel
theorem dX12_find_12 : decode cX12_find 12 = .ok (.iload_n 2, 1) := by decide +kernel
theorem dX12_find_13 : decode cX12_find 13 = .ok (.ifCond .ne 7, 3) := by decide +kernel
theorem dX12_find_16 : decode cX12_find 16 = .ok (.iconst 0, 1) := by decide +kernel
theorem dX12_find_17 : decode cX12_find 17 = .ok (.goto 5, 3) := by decide +kernel
theorem dX12_find_20 : decode cX12_find 20 = .ok (.ldc 189, 2) := by decide +kernel
theorem dX12_find_22 : decode cX12_find 22 = .ok (.iastore, 1) := by decide +kernel
theorem dX12_find_23 : decode cX12_find 23 = .ok (.iinc 2 1, 3) := by decide +kernel
theorem dX12_find_26 : decode cX12_find 26 = .ok (.goto (-24), 3) := by decide +kernel
theorem dX12_find_29 : decode cX12_find 29 = .ok (.iconst 1, 1) := by decide +kernel
theorem dX12_find_30 : decode cX12_find 30 = .ok (.istore_n 2, 1) := by decide +kernel
theorem dX12_find_31 : decode cX12_find 31 = .ok (.iload_n 2, 1) := by decide +kernel
theorem dX12_find_32 : decode cX12_find 32 = .ok (.bipush 9, 2) := by decide +kernel
theorem dX12_find_34 : decode cX12_find 34 = .ok (.if_icmp .gt 116, 3) := by decide +kernel
theorem dX12_find_37 : decode cX12_find 37 = .ok (.iconst 0, 1) := by decide +kernel
theorem dX12_find_38 : decode cX12_find 38 = .ok (.istore_n 3, 1) := by decide +kernel
theorem dX12_find_39 : decode cX12_find 39 = .ok (.iload_n 3, 1) := by decide +kernel
theorem dX12_find_40 : decode cX12_find 40 = .ok (.iload_n 1, 1) := by decide +kernel
theorem dX12_find_41 : decode cX12_find 41 = .ok (.if_icmp .gt 103, 3) := by decide +kernel
theorem dX12_find_44 : decode cX12_find 44 = .ok (.ldc 189, 2) := by decide +kernel
theorem dX12_find_46 : decode cX12_find 46 = .ok (.istore 4, 2) := by decide +kernel
theorem dX12_find_48 : decode cX12_find 48 = .ok (.iconst 0, 1) := by decide +kernel
theorem dX12_find_49 : decode cX12_find 49 = .ok (.istore 5, 2) := by decide +kernel
theorem dX12_find_51 : decode cX12_find 51 = .ok (.iload 5, 2) := by decide +kernel
theorem dX12_find_53 : decode cX12_find 53 = .ok (.aload_n 0, 1) := by decide +kernel
theorem dX12_find_54 : decode cX12_find 54 = .ok (.getfield 42, 3) := by decide +kernel
theorem dX12_find_57 : decode cX12_find 57 = .ok (.iload_n 2, 1) := by decide +kernel
theorem dX12_find_58 : decode cX12_find 58 = .ok (.iaload, 1) := by decide +kernel
theorem dX12_find_59 : decode cX12_find 59 = .ok (.if_icmp .gt 66, 3) := by decide +kernel
theorem dX12_find_62 : decode cX12_find 62 = .ok (.iload 5, 2) := by decide +kernel
theorem dX12_find_64 : decode cX12_find 64 = .ok (.iload_n 2, 1) := by decide +kernel
theorem dX12_find_65 : decode cX12_find 65 = .ok (.imul, 1) := by decide +kernel
theorem dX12_find_66 : decode cX12_find 66 = .ok (.iload_n 3, 1) := by decide +kernel
theorem dX12_find_67 : decode cX12_find 67 = .ok (.if_icmp .gt 58, 3) := by decide +kernel
theorem dX12_find_70 : decode cX12_find 70 = .ok (.aload_n 0, 1) := by decide +kernel
theorem dX12_find_71 : decode cX12_find 71 = .ok (.getfield 51, 3) := by decide +kernel
theorem dX12_find_74 : decode cX12_find 74 = .ok (.bipush 61, 2) := by decide +kernel
theorem dX12_find_76 : decode cX12_find 76 = .ok (.iload_n 2, 1) := by decide +kernel
theorem dX12_find_77 : decode cX12_find 77 = .ok (.iconst 1, 1) := by decide +kernel
theorem dX12_find_78 : decode cX12_find 78 = .ok (.isub, 1) := by decide +kernel
theorem dX12_find_79 : decode cX12_find 79 = .ok (.imul, 1) := by decide +kernel
theorem dX12_find_80 : decode cX12_find 80 = .ok (.iload_n 3, 1) := by decide +kernel
theorem dX12_find_81 : decode cX12_find 81 = .ok (.iadd, 1) := by decide +kernel
theorem dX12_find_82 : decode cX12_find 82 = .ok (.iload 5, 2) := by decide +kernel
theorem dX12_find_84 : decode cX12_find 84 = .ok (.iload_n 2, 1) := by decide +kernel
theorem dX12_find_85 : decode cX12_find 85 = .ok (.imul, 1) := by decide +kernel
theorem dX12_find_86 : decode cX12_find 86 = .ok (.isub, 1) := by decide +kernel
theorem dX12_find_87 : decode cX12_find 87 = .ok (.iaload, 1) := by decide +kernel
theorem dX12_find_88 : decode cX12_find 88 = .ok (.iload 5, 2) := by decide +kernel
theorem dX12_find_90 : decode cX12_find 90 = .ok (.iadd, 1) := by decide +kernel
theorem dX12_find_91 : decode cX12_find 91 = .ok (.iload 4, 2) := by decide +kernel
theorem dX12_find_93 : decode cX12_find 93 = .ok (.if_icmp .ge 26, 3) := by decide +kernel
theorem dX12_find_96 : decode cX12_find 96 = .ok (.aload_n 0, 1) := by decide +kernel
theorem dX12_find_97 : decode cX12_find 97 = .ok (.getfield 51, 3) := by decide +kernel
theorem dX12_find_100 : decode cX12_find 100 = .ok (.bipush 61, 2) := by decide +kernel
theorem dX12_find_102 : decode cX12_find 102 = .ok (.iload_n 2, 1) := by decide +kernel
theorem dX12_find_103 : decode cX12_find 103 = .ok (.iconst 1, 1) := by decide +kernel
theorem dX12_find_104 : decode cX12_find 104 = .ok (.isub, 1) := by decide +kernel
theorem dX12_find_105 : decode cX12_find 105 = .ok (.imul, 1) := by decide +kernel
theorem dX12_find_106 : decode cX12_find 106 = .ok (.iload_n 3, 1) := by decide +kernel
theorem dX12_find_107 : decode cX12_find 107 = .ok (.iadd, 1) := by decide +kernel
theorem dX12_find_108 : decode cX12_find 108 = .ok (.iload 5, 2) := by decide +kernel
theorem dX12_find_110 : decode cX12_find 110 = .ok (.iload_n 2, 1) := by decide +kernel
theorem dX12_find_111 : decode cX12_find 111 = .ok (.imul, 1) := by decide +kernel
theorem dX12_find_112 : decode cX12_find 112 = .ok (.isub, 1) := by decide +kernel
theorem dX12_find_113 : decode cX12_find 113 = .ok (.iaload, 1) := by decide +kernel
theorem dX12_find_114 : decode cX12_find 114 = .ok (.iload 5, 2) := by decide +kernel
theorem dX12_find_116 : decode cX12_find 116 = .ok (.iadd, 1) := by decide +kernel
theorem dX12_find_117 : decode cX12_find 117 = .ok (.istore 4, 2) := by decide +kernel
theorem dX12_find_119 : decode cX12_find 119 = .ok (.iinc 5 1, 3) := by decide +kernel
theorem dX12_find_122 : decode cX12_find 122 = .ok (.goto (-71), 3) := by decide +kernel
theorem dX12_find_125 : decode cX12_find 125 = .ok (.aload_n 0, 1) := by decide +kernel
theorem dX12_find_126 : decode cX12_find 126 = .ok (.getfield 51, 3) := by decide +kernel
theorem dX12_find_129 : decode cX12_find 129 = .ok (.bipush 61, 2) := by decide +kernel
theorem dX12_find_131 : decode cX12_find 131 = .ok (.iload_n 2, 1) := by decide +kernel
theorem dX12_find_132 : decode cX12_find 132 = .ok (.imul, 1) := by decide +kernel
theorem dX12_find_133 : decode cX12_find 133 = .ok (.iload_n 3, 1) := by decide +kernel
theorem dX12_find_134 : decode cX12_find 134 = .ok (.iadd, 1) := by decide +kernel
theorem dX12_find_135 : decode cX12_find 135 = .ok (.iload 4, 2) := by decide +kernel
theorem dX12_find_137 : decode cX12_find 137 = .ok (.iastore, 1) := by decide +kernel
theorem dX12_find_138 : decode cX12_find 138 = .ok (.iinc 3 1, 3) := by decide +kernel
theorem dX12_find_141 : decode cX12_find 141 = .ok (.goto (-102), 3) := by decide +kernel
theorem dX12_find_144 : decode cX12_find 144 = .ok (.iinc 2 1, 3) := by decide +kernel
theorem dX12_find_147 : decode cX12_find 147 = .ok (.goto (-116), 3) := by decide +kernel
theorem dX12_find_150 : decode cX12_find 150 = .ok (.aload_n 0, 1) := by decide +kernel
theorem dX12_find_151 : decode cX12_find 151 = .ok (.getfield 51, 3) := by decide +kernel
theorem dX12_find_154 : decode cX12_find 154 = .ok (.sipush 549, 3) := by decide +kernel
theorem dX12_find_157 : decode cX12_find 157 = .ok (.iload_n 1, 1) := by decide +kernel
theorem dX12_find_158 : decode cX12_find 158 = .ok (.iadd, 1) := by decide +kernel
theorem dX12_find_159 : decode cX12_find 159 = .ok (.iaload, 1) := by decide +kernel
theorem dX12_find_160 : decode cX12_find 160 = .ok (.istore_n 2, 1) := by decide +kernel
theorem dX12_find_161 : decode cX12_find 161 = .ok (.iload_n 2, 1) := by decide +kernel
theorem dX12_find_162 : decode cX12_find 162 = .ok (.ldc 189, 2) := by decide +kernel
theorem dX12_find_164 : decode cX12_find 164 = .ok (.if_icmp .lt 6, 3) := by decide +kernel
theorem dX12_find_167 : decode cX12_find 167 = .ok (.bipush (-2), 2) := by decide +kernel
theorem dX12_find_169 : decode cX12_find 169 = .ok (.ireturn, 1) := by decide +kernel
theorem dX12_find_170 : decode cX12_find 170 = .ok (.iload_n 1, 1) := by decide +kernel
theorem dX12_find_171 : decode cX12_find 171 = .ok (.istore_n 3, 1) := by decide +kernel
theorem dX12_find_172 : decode cX12_find 172 = .ok (.iload_n 2, 1) := by decide +kernel
theorem dX12_find_173 : decode cX12_find 173 = .ok (.istore 4, 2) := by decide +kernel
theorem dX12_find_175 : decode cX12_find 175 = .ok (.bipush 9, 2) := by decide +kernel
theorem dX12_find_177 : decode cX12_find 177 = .ok (.istore 5, 2) := by decide +kernel
theorem dX12_find_179 : decode cX12_find 179 = .ok (.iload 5, 2) := by decide +kernel
theorem dX12_find_181 : decode cX12_find 181 = .ok (.iconst 1, 1) := by decide +kernel
theorem dX12_find_182 : decode cX12_find 182 = .ok (.if_icmp .lt 97, 3) := by decide +kernel
theorem dX12_find_185 : decode cX12_find 185 = .ok (.aload_n 0, 1) := by decide +kernel
theorem dX12_find_186 : decode cX12_find 186 = .ok (.getfield 42, 3) := by decide +kernel
theorem dX12_find_189 : decode cX12_find 189 = .ok (.iload 5, 2) := by decide +kernel
theorem dX12_find_191 : decode cX12_find 191 = .ok (.iaload, 1) := by decide +kernel
theorem dX12_find_192 : decode cX12_find 192 = .ok (.iload_n 3, 1) := by decide +kernel
theorem dX12_find_193 : decode cX12_find 193 = .ok (.iload 5, 2) := by decide +kernel
theorem dX12_find_195 : decode cX12_find 195 = .ok (.idiv, 1) := by decide +kernel
theorem dX12_find_196 : decode cX12_find 196 = .ok (.if_icmp .ge 13, 3) := by decide +kernel
theorem dX12_find_199 : decode cX12_find 199 = .ok (.aload_n 0, 1) := by decide +kernel
theorem dX12_find_200 : decode cX12_find 200 = .ok (.getfield 42, 3) := by decide +kernel
theorem dX12_find_203 : decode cX12_find 203 = .ok (.iload 5, 2) := by decide +kernel
theorem dX12_find_205 : decode cX12_find 205 = .ok (.iaload, 1) := by decide +kernel
theorem dX12_find_206 : decode cX12_find 206 = .ok (.goto 7, 3) := by decide +kernel
theorem dX12_find_209 : decode cX12_find 209 = .ok (.iload_n 3, 1) := by decide +kernel
theorem dX12_find_210 : decode cX12_find 210 = .ok (.iload 5, 2) := by decide +kernel
theorem dX12_find_212 : decode cX12_find 212 = .ok (.idiv, 1) := by decide +kernel
theorem dX12_find_213 : decode cX12_find 213 = .ok (.istore 6, 2) := by decide +kernel
theorem dX12_find_215 : decode cX12_find 215 = .ok (.aload_n 0, 1) := by decide +kernel
theorem dX12_find_216 : decode cX12_find 216 = .ok (.getfield 51, 3) := by decide +kernel
theorem dX12_find_219 : decode cX12_find 219 = .ok (.bipush 61, 2) := by decide +kernel
theorem dX12_find_221 : decode cX12_find 221 = .ok (.iload 5, 2) := by decide +kernel
theorem dX12_find_223 : decode cX12_find 223 = .ok (.iconst 1, 1) := by decide +kernel
theorem dX12_find_224 : decode cX12_find 224 = .ok (.isub, 1) := by decide +kernel
theorem dX12_find_225 : decode cX12_find 225 = .ok (.imul, 1) := by decide +kernel
theorem dX12_find_226 : decode cX12_find 226 = .ok (.iload_n 3, 1) := by decide +kernel
theorem dX12_find_227 : decode cX12_find 227 = .ok (.iadd, 1) := by decide +kernel
theorem dX12_find_228 : decode cX12_find 228 = .ok (.iload 6, 2) := by decide +kernel
theorem dX12_find_230 : decode cX12_find 230 = .ok (.iload 5, 2) := by decide +kernel
theorem dX12_find_232 : decode cX12_find 232 = .ok (.imul, 1) := by decide +kernel
theorem dX12_find_233 : decode cX12_find 233 = .ok (.isub, 1) := by decide +kernel
theorem dX12_find_234 : decode cX12_find 234 = .ok (.iaload, 1) := by decide +kernel
theorem dX12_find_235 : decode cX12_find 235 = .ok (.iload 6, 2) := by decide +kernel
theorem dX12_find_237 : decode cX12_find 237 = .ok (.iadd, 1) := by decide +kernel
theorem dX12_find_238 : decode cX12_find 238 = .ok (.iload 4, 2) := by decide +kernel
theorem dX12_find_240 : decode cX12_find 240 = .ok (.if_icmp .eq 9, 3) := by decide +kernel
theorem dX12_find_243 : decode cX12_find 243 = .ok (.iinc 6 (-1), 3) := by decide +kernel
theorem dX12_find_246 : decode cX12_find 246 = .ok (.goto (-31), 3) := by decide +kernel
theorem dX12_find_249 : decode cX12_find 249 = .ok (.aload_n 0, 1) := by decide +kernel
theorem dX12_find_250 : decode cX12_find 250 = .ok (.getfield 45, 3) := by decide +kernel
theorem dX12_find_253 : decode cX12_find 253 = .ok (.iload 5, 2) := by decide +kernel
theorem dX12_find_255 : decode cX12_find 255 = .ok (.iload 6, 2) := by decide +kernel
theorem dX12_find_257 : decode cX12_find 257 = .ok (.iastore, 1) := by decide +kernel
theorem dX12_find_258 : decode cX12_find 258 = .ok (.iload_n 3, 1) := by decide +kernel
theorem dX12_find_259 : decode cX12_find 259 = .ok (.iload 6, 2) := by decide +kernel
theorem dX12_find_261 : decode cX12_find 261 = .ok (.iload 5, 2) := by decide +kernel
theorem dX12_find_263 : decode cX12_find 263 = .ok (.imul, 1) := by decide +kernel
theorem dX12_find_264 : decode cX12_find 264 = .ok (.isub, 1) := by decide +kernel
theorem dX12_find_265 : decode cX12_find 265 = .ok (.istore_n 3, 1) := by decide +kernel
theorem dX12_find_266 : decode cX12_find 266 = .ok (.iload 4, 2) := by decide +kernel
theorem dX12_find_268 : decode cX12_find 268 = .ok (.iload 6, 2) := by decide +kernel
theorem dX12_find_270 : decode cX12_find 270 = .ok (.isub, 1) := by decide +kernel
theorem dX12_find_271 : decode cX12_find 271 = .ok (.istore 4, 2) := by decide +kernel
theorem dX12_find_273 : decode cX12_find 273 = .ok (.iinc 5 (-1), 3) := by decide +kernel
theorem dX12_find_276 : decode cX12_find 276 = .ok (.goto (-97), 3) := by decide +kernel
theorem dX12_find_279 : decode cX12_find 279 = .ok (.iload_n 2, 1) := by decide +kernel
theorem dX12_find_280 : decode cX12_find 280 = .ok (.ireturn, 1) := by decide +kernel
theorem dX12_course_0 : decode cX12_course 0 = .ok (.iload_n 1, 1) := by decide +kernel
theorem dX12_course_1 : decode cX12_course 1 = .ok (.iconst 1, 1) := by decide +kernel
theorem dX12_course_2 : decode cX12_course 2 = .ok (.bipush 60, 2) := by decide +kernel
theorem dX12_course_4 : decode cX12_course 4 = .ok (.invokestatic 164, 3) := by decide +kernel
theorem dX12_course_7 : decode cX12_course 7 = .ok (.ifCond .ne 5, 3) := by decide +kernel
theorem dX12_course_10 : decode cX12_course 10 = .ok (.iconst (-1), 1) := by decide +kernel
theorem dX12_course_11 : decode cX12_course 11 = .ok (.ireturn, 1) := by decide +kernel
theorem dX12_course_12 : decode cX12_course 12 = .ok (.aload_n 0, 1) := by decide +kernel
theorem dX12_course_13 : decode cX12_course 13 = .ok (.iload_n 1, 1) := by decide +kernel
theorem dX12_course_14 : decode cX12_course 14 = .ok (.invokevirtual 205, 3) := by decide +kernel
theorem dX12_course_17 : decode cX12_course 17 = .ok (.istore_n 2, 1) := by decide +kernel
theorem dX12_course_18 : decode cX12_course 18 = .ok (.iload_n 2, 1) := by decide +kernel
theorem dX12_course_19 : decode cX12_course 19 = .ok (.ifCond .ge 6, 3) := by decide +kernel
theorem dX12_course_22 : decode cX12_course 22 = .ok (.bipush (-2), 2) := by decide +kernel
theorem dX12_course_24 : decode cX12_course 24 = .ok (.ireturn, 1) := by decide +kernel
theorem dX12_course_25 : decode cX12_course 25 = .ok (.aload_n 0, 1) := by decide +kernel
theorem dX12_course_26 : decode cX12_course 26 = .ok (.iconst 1, 1) := by decide +kernel
theorem dX12_course_27 : decode cX12_course 27 = .ok (.putfield 208, 3) := by decide +kernel
theorem dX12_course_30 : decode cX12_course 30 = .ok (.iconst 1, 1) := by decide +kernel
theorem dX12_course_31 : decode cX12_course 31 = .ok (.istore_n 3, 1) := by decide +kernel
theorem dX12_course_32 : decode cX12_course 32 = .ok (.iload_n 3, 1) := by decide +kernel
theorem dX12_course_33 : decode cX12_course 33 = .ok (.bipush 9, 2) := by decide +kernel
theorem dX12_course_35 : decode cX12_course 35 = .ok (.if_icmp .gt 21, 3) := by decide +kernel
theorem dX12_course_38 : decode cX12_course 38 = .ok (.aload_n 0, 1) := by decide +kernel
theorem dX12_course_39 : decode cX12_course 39 = .ok (.getfield 48, 3) := by decide +kernel
theorem dX12_course_42 : decode cX12_course 42 = .ok (.iload_n 3, 1) := by decide +kernel
theorem dX12_course_43 : decode cX12_course 43 = .ok (.aload_n 0, 1) := by decide +kernel
theorem dX12_course_44 : decode cX12_course 44 = .ok (.getfield 45, 3) := by decide +kernel
theorem dX12_course_47 : decode cX12_course 47 = .ok (.iload_n 3, 1) := by decide +kernel
theorem dX12_course_48 : decode cX12_course 48 = .ok (.iaload, 1) := by decide +kernel
theorem dX12_course_49 : decode cX12_course 49 = .ok (.iastore, 1) := by decide +kernel
theorem dX12_course_50 : decode cX12_course 50 = .ok (.iinc 3 1, 3) := by decide +kernel
theorem dX12_course_53 : decode cX12_course 53 = .ok (.goto (-21), 3) := by decide +kernel
theorem dX12_course_56 : decode cX12_course 56 = .ok (.iload_n 2, 1) := by decide +kernel
theorem dX12_course_57 : decode cX12_course 57 = .ok (.ireturn, 1) := by decide +kernel
theorem dX12_of_0 : decode cX12_of 0 = .ok (.aload_n 0, 1) := by decide +kernel
theorem dX12_of_1 : decode cX12_of 1 = .ok (.getfield 208, 3) := by decide +kernel
theorem dX12_of_4 : decode cX12_of 4 = .ok (.ifCond .eq 22, 3) := by decide +kernel
theorem dX12_of_7 : decode cX12_of 7 = .ok (.iload_n 1, 1) := by decide +kernel
theorem dX12_of_8 : decode cX12_of 8 = .ok (.iconst 1, 1) := by decide +kernel
theorem dX12_of_9 : decode cX12_of 9 = .ok (.bipush 9, 2) := by decide +kernel
theorem dX12_of_11 : decode cX12_of 11 = .ok (.invokestatic 164, 3) := by decide +kernel
theorem dX12_of_14 : decode cX12_of 14 = .ok (.ifCond .eq 12, 3) := by decide +kernel
theorem dX12_of_17 : decode cX12_of 17 = .ok (.aload_n 0, 1) := by decide +kernel
theorem dX12_of_18 : decode cX12_of 18 = .ok (.getfield 48, 3) := by decide +kernel
theorem dX12_of_21 : decode cX12_of 21 = .ok (.iload_n 1, 1) := by decide +kernel
theorem dX12_of_22 : decode cX12_of 22 = .ok (.iaload, 1) := by decide +kernel
theorem dX12_of_23 : decode cX12_of 23 = .ok (.goto 4, 3) := by decide +kernel
theorem dX12_of_26 : decode cX12_of 26 = .ok (.iconst (-1), 1) := by decide +kernel
theorem dX12_of_27 : decode cX12_of 27 = .ok (.ireturn, 1) := by decide +kernel
theorem dX12_lay_0 : decode cX12_lay 0 = .ok (.iload_n 1, 1) := by decide +kernel
theorem dX12_lay_1 : decode cX12_lay 1 = .ok (.iconst 1, 1) := by decide +kernel
theorem dX12_lay_2 : decode cX12_lay 2 = .ok (.bipush 60, 2) := by decide +kernel
theorem dX12_lay_4 : decode cX12_lay 4 = .ok (.invokestatic 164, 3) := by decide +kernel
theorem dX12_lay_7 : decode cX12_lay 7 = .ok (.ifCond .ne 5, 3) := by decide +kernel
theorem dX12_lay_10 : decode cX12_lay 10 = .ok (.iconst (-1), 1) := by decide +kernel
theorem dX12_lay_11 : decode cX12_lay 11 = .ok (.ireturn, 1) := by decide +kernel
theorem dX12_lay_12 : decode cX12_lay 12 = .ok (.aload_n 0, 1) := by decide +kernel
theorem dX12_lay_13 : decode cX12_lay 13 = .ok (.iload_n 1, 1) := by decide +kernel
theorem dX12_lay_14 : decode cX12_lay 14 = .ok (.invokevirtual 205, 3) := by decide +kernel
theorem dX12_lay_17 : decode cX12_lay 17 = .ok (.istore_n 2, 1) := by decide +kernel
theorem dX12_lay_18 : decode cX12_lay 18 = .ok (.iload_n 2, 1) := by decide +kernel
theorem dX12_lay_19 : decode cX12_lay 19 = .ok (.ifCond .ge 6, 3) := by decide +kernel
theorem dX12_lay_22 : decode cX12_lay 22 = .ok (.bipush (-2), 2) := by decide +kernel
theorem dX12_lay_24 : decode cX12_lay 24 = .ok (.ireturn, 1) := by decide +kernel
theorem dX12_lay_25 : decode cX12_lay 25 = .ok (.iconst 1, 1) := by decide +kernel
theorem dX12_lay_26 : decode cX12_lay 26 = .ok (.istore_n 3, 1) := by decide +kernel
theorem dX12_lay_27 : decode cX12_lay 27 = .ok (.iload_n 3, 1) := by decide +kernel
theorem dX12_lay_28 : decode cX12_lay 28 = .ok (.bipush 9, 2) := by decide +kernel
theorem dX12_lay_30 : decode cX12_lay 30 = .ok (.if_icmp .gt 24, 3) := by decide +kernel
theorem dX12_lay_33 : decode cX12_lay 33 = .ok (.aload_n 0, 1) := by decide +kernel
theorem dX12_lay_34 : decode cX12_lay 34 = .ok (.getfield 42, 3) := by decide +kernel
theorem dX12_lay_37 : decode cX12_lay 37 = .ok (.iload_n 3, 1) := by decide +kernel
theorem dX12_lay_38 : decode cX12_lay 38 = .ok (.dup2, 1) := by decide +kernel
theorem dX12_lay_39 : decode cX12_lay 39 = .ok (.iaload, 1) := by decide +kernel
theorem dX12_lay_40 : decode cX12_lay 40 = .ok (.aload_n 0, 1) := by decide +kernel
theorem dX12_lay_41 : decode cX12_lay 41 = .ok (.getfield 45, 3) := by decide +kernel
theorem dX12_lay_44 : decode cX12_lay 44 = .ok (.iload_n 3, 1) := by decide +kernel
theorem dX12_lay_45 : decode cX12_lay 45 = .ok (.iaload, 1) := by decide +kernel
theorem dX12_lay_46 : decode cX12_lay 46 = .ok (.isub, 1) := by decide +kernel
theorem dX12_lay_47 : decode cX12_lay 47 = .ok (.iastore, 1) := by decide +kernel
theorem dX12_lay_48 : decode cX12_lay 48 = .ok (.iinc 3 1, 3) := by decide +kernel
theorem dX12_lay_51 : decode cX12_lay 51 = .ok (.goto (-24), 3) := by decide +kernel
theorem dX12_lay_54 : decode cX12_lay 54 = .ok (.iload_n 2, 1) := by decide +kernel
theorem dX12_lay_55 : decode cX12_lay 55 = .ok (.ireturn, 1) := by decide +kernel
theorem dX12_year_0 : decode cX12_year 0 = .ok (.aload_n 0, 1) := by decide +kernel
theorem dX12_year_1 : decode cX12_year 1 = .ok (.getfield 211, 3) := by decide +kernel
theorem dX12_year_4 : decode cX12_year 4 = .ok (.bipush 30, 2) := by decide +kernel
theorem dX12_year_6 : decode cX12_year 6 = .ok (.if_icmp .ne 6, 3) := by decide +kernel
theorem dX12_year_9 : decode cX12_year 9 = .ok (.bipush (-2), 2) := by decide +kernel
theorem dX12_year_11 : decode cX12_year 11 = .ok (.ireturn, 1) := by decide +kernel
theorem dX12_year_12 : decode cX12_year 12 = .ok (.aload_n 0, 1) := by decide +kernel
theorem dX12_year_13 : decode cX12_year 13 = .ok (.dup, 1) := by decide +kernel
theorem dX12_year_14 : decode cX12_year 14 = .ok (.getfield 211, 3) := by decide +kernel
theorem dX12_year_17 : decode cX12_year 17 = .ok (.iconst 1, 1) := by decide +kernel
theorem dX12_year_18 : decode cX12_year 18 = .ok (.iadd, 1) := by decide +kernel
theorem dX12_year_19 : decode cX12_year 19 = .ok (.putfield 211, 3) := by decide +kernel
theorem dX12_year_22 : decode cX12_year 22 = .ok (.aload_n 0, 1) := by decide +kernel
theorem dX12_year_23 : decode cX12_year 23 = .ok (.getfield 211, 3) := by decide +kernel
theorem dX12_year_26 : decode cX12_year 26 = .ok (.ireturn, 1) := by decide +kernel
theorem dX12_wheels_0 : decode cX12_wheels 0 = .ok (.aload_n 0, 1) := by decide +kernel
theorem dX12_wheels_1 : decode cX12_wheels 1 = .ok (.iload_n 1, 1) := by decide +kernel
theorem dX12_wheels_2 : decode cX12_wheels 2 = .ok (.invokevirtual 168, 3) := by decide +kernel
theorem dX12_wheels_5 : decode cX12_wheels 5 = .ok (.ifCond .eq 26, 3) := by decide +kernel
theorem dX12_wheels_8 : decode cX12_wheels 8 = .ok (.iload_n 2, 1) := by decide +kernel
theorem dX12_wheels_9 : decode cX12_wheels 9 = .ok (.iconst 0, 1) := by decide +kernel
theorem dX12_wheels_10 : decode cX12_wheels 10 = .ok (.aload_n 0, 1) := by decide +kernel
theorem dX12_wheels_11 : decode cX12_wheels 11 = .ok (.getfield 211, 3) := by decide +kernel
theorem dX12_wheels_14 : decode cX12_wheels 14 = .ok (.invokestatic 164, 3) := by decide +kernel
theorem dX12_wheels_17 : decode cX12_wheels 17 = .ok (.ifCond .eq 14, 3) := by decide +kernel
theorem dX12_wheels_20 : decode cX12_wheels 20 = .ok (.iload_n 3, 1) := by decide +kernel
theorem dX12_wheels_21 : decode cX12_wheels 21 = .ok (.iconst (-1), 1) := by decide +kernel
theorem dX12_wheels_22 : decode cX12_wheels 22 = .ok (.sipush 9999, 3) := by decide +kernel
theorem dX12_wheels_25 : decode cX12_wheels 25 = .ok (.invokestatic 164, 3) := by decide +kernel
theorem dX12_wheels_28 : decode cX12_wheels 28 = .ok (.ifCond .ne 5, 3) := by decide +kernel
theorem dX12_wheels_31 : decode cX12_wheels 31 = .ok (.iconst (-1), 1) := by decide +kernel
theorem dX12_wheels_32 : decode cX12_wheels 32 = .ok (.ireturn, 1) := by decide +kernel
theorem dX12_wheels_33 : decode cX12_wheels 33 = .ok (.aload_n 0, 1) := by decide +kernel
theorem dX12_wheels_34 : decode cX12_wheels 34 = .ok (.getfield 54, 3) := by decide +kernel
theorem dX12_wheels_37 : decode cX12_wheels 37 = .ok (.bipush 31, 2) := by decide +kernel
theorem dX12_wheels_39 : decode cX12_wheels 39 = .ok (.iload_n 1, 1) := by decide +kernel
theorem dX12_wheels_40 : decode cX12_wheels 40 = .ok (.imul, 1) := by decide +kernel
theorem dX12_wheels_41 : decode cX12_wheels 41 = .ok (.iload_n 2, 1) := by decide +kernel
theorem dX12_wheels_42 : decode cX12_wheels 42 = .ok (.iadd, 1) := by decide +kernel
theorem dX12_wheels_43 : decode cX12_wheels 43 = .ok (.iload_n 3, 1) := by decide +kernel
theorem dX12_wheels_44 : decode cX12_wheels 44 = .ok (.ifCond .lt 7, 3) := by decide +kernel
theorem dX12_wheels_47 : decode cX12_wheels 47 = .ok (.iconst 1, 1) := by decide +kernel
theorem dX12_wheels_48 : decode cX12_wheels 48 = .ok (.goto 4, 3) := by decide +kernel
theorem dX12_wheels_51 : decode cX12_wheels 51 = .ok (.iconst 0, 1) := by decide +kernel
theorem dX12_wheels_52 : decode cX12_wheels 52 = .ok (.bastore, 1) := by decide +kernel
theorem dX12_wheels_53 : decode cX12_wheels 53 = .ok (.aload_n 0, 1) := by decide +kernel
theorem dX12_wheels_54 : decode cX12_wheels 54 = .ok (.getfield 57, 3) := by decide +kernel
theorem dX12_wheels_57 : decode cX12_wheels 57 = .ok (.bipush 31, 2) := by decide +kernel
theorem dX12_wheels_59 : decode cX12_wheels 59 = .ok (.iload_n 1, 1) := by decide +kernel
theorem dX12_wheels_60 : decode cX12_wheels 60 = .ok (.imul, 1) := by decide +kernel
theorem dX12_wheels_61 : decode cX12_wheels 61 = .ok (.iload_n 2, 1) := by decide +kernel
theorem dX12_wheels_62 : decode cX12_wheels 62 = .ok (.iadd, 1) := by decide +kernel
theorem dX12_wheels_63 : decode cX12_wheels 63 = .ok (.iload_n 3, 1) := by decide +kernel
theorem dX12_wheels_64 : decode cX12_wheels 64 = .ok (.iastore, 1) := by decide +kernel
theorem dX12_wheels_65 : decode cX12_wheels 65 = .ok (.iconst 1, 1) := by decide +kernel
theorem dX12_wheels_66 : decode cX12_wheels 66 = .ok (.ireturn, 1) := by decide +kernel
theorem dX12_mean_0 : decode cX12_mean 0 = .ok (.iconst 0, 1) := by decide +kernel
theorem dX12_mean_1 : decode cX12_mean 1 = .ok (.istore_n 2, 1) := by decide +kernel
theorem dX12_mean_2 : decode cX12_mean 2 = .ok (.iconst 0, 1) := by decide +kernel
theorem dX12_mean_3 : decode cX12_mean 3 = .ok (.istore_n 3, 1) := by decide +kernel
theorem dX12_mean_4 : decode cX12_mean 4 = .ok (.iconst 0, 1) := by decide +kernel
theorem dX12_mean_5 : decode cX12_mean 5 = .ok (.istore 4, 2) := by decide +kernel
theorem dX12_mean_7 : decode cX12_mean 7 = .ok (.iload 4, 2) := by decide +kernel
theorem dX12_mean_9 : decode cX12_mean 9 = .ok (.aload_n 0, 1) := by decide +kernel
theorem dX12_mean_10 : decode cX12_mean 10 = .ok (.getfield 211, 3) := by decide +kernel
theorem dX12_mean_13 : decode cX12_mean 13 = .ok (.if_icmp .ge 45, 3) := by decide +kernel
theorem dX12_mean_16 : decode cX12_mean 16 = .ok (.aload_n 0, 1) := by decide +kernel
theorem dX12_mean_17 : decode cX12_mean 17 = .ok (.getfield 54, 3) := by decide +kernel
theorem dX12_mean_20 : decode cX12_mean 20 = .ok (.bipush 31, 2) := by decide +kernel
theorem dX12_mean_22 : decode cX12_mean 22 = .ok (.iload_n 1, 1) := by decide +kernel
theorem dX12_mean_23 : decode cX12_mean 23 = .ok (.imul, 1) := by decide +kernel
theorem dX12_mean_24 : decode cX12_mean 24 = .ok (.iload 4, 2) := by decide +kernel
theorem dX12_mean_26 : decode cX12_mean 26 = .ok (.iadd, 1) := by decide +kernel
theorem dX12_mean_27 : decode cX12_mean 27 = .ok (.baload, 1) := by decide +kernel
theorem dX12_mean_28 : decode cX12_mean 28 = .ok (.ifCond .ne 6, 3) := by decide +kernel
theorem dX12_mean_31 : decode cX12_mean 31 = .ok (.goto 21, 3) := by decide +kernel
theorem dX12_mean_34 : decode cX12_mean 34 = .ok (.iload_n 2, 1) := by decide +kernel
theorem dX12_mean_35 : decode cX12_mean 35 = .ok (.aload_n 0, 1) := by decide +kernel
theorem dX12_mean_36 : decode cX12_mean 36 = .ok (.getfield 57, 3) := by decide +kernel
theorem dX12_mean_39 : decode cX12_mean 39 = .ok (.bipush 31, 2) := by decide +kernel
theorem dX12_mean_41 : decode cX12_mean 41 = .ok (.iload_n 1, 1) := by decide +kernel
theorem dX12_mean_42 : decode cX12_mean 42 = .ok (.imul, 1) := by decide +kernel
theorem dX12_mean_43 : decode cX12_mean 43 = .ok (.iload 4, 2) := by decide +kernel
theorem dX12_mean_45 : decode cX12_mean 45 = .ok (.iadd, 1) := by decide +kernel
theorem dX12_mean_46 : decode cX12_mean 46 = .ok (.iaload, 1) := by decide +kernel
theorem dX12_mean_47 : decode cX12_mean 47 = .ok (.iadd, 1) := by decide +kernel
theorem dX12_mean_48 : decode cX12_mean 48 = .ok (.istore_n 2, 1) := by decide +kernel
theorem dX12_mean_49 : decode cX12_mean 49 = .ok (.iinc 3 1, 3) := by decide +kernel
theorem dX12_mean_52 : decode cX12_mean 52 = .ok (.iinc 4 1, 3) := by decide +kernel
theorem dX12_mean_55 : decode cX12_mean 55 = .ok (.goto (-48), 3) := by decide +kernel
theorem dX12_mean_58 : decode cX12_mean 58 = .ok (.iload_n 3, 1) := by decide +kernel
theorem dX12_mean_59 : decode cX12_mean 59 = .ok (.ifCond .ne 7, 3) := by decide +kernel
theorem dX12_mean_62 : decode cX12_mean 62 = .ok (.iconst 0, 1) := by decide +kernel
theorem dX12_mean_63 : decode cX12_mean 63 = .ok (.goto 6, 3) := by decide +kernel
theorem dX12_mean_66 : decode cX12_mean 66 = .ok (.iload_n 2, 1) := by decide +kernel
theorem dX12_mean_67 : decode cX12_mean 67 = .ok (.iload_n 3, 1) := by decide +kernel
theorem dX12_mean_68 : decode cX12_mean 68 = .ok (.idiv, 1) := by decide +kernel
theorem dX12_mean_69 : decode cX12_mean 69 = .ok (.ireturn, 1) := by decide +kernel
theorem dX12_wearOf_0 : decode cX12_wearOf 0 = .ok (.iconst 0, 1) := by decide +kernel
theorem dX12_wearOf_1 : decode cX12_wearOf 1 = .ok (.istore_n 3, 1) := by decide +kernel
theorem dX12_wearOf_2 : decode cX12_wearOf 2 = .ok (.aload_n 0, 1) := by decide +kernel
theorem dX12_wearOf_3 : decode cX12_wearOf 3 = .ok (.getfield 60, 3) := by decide +kernel
theorem dX12_wearOf_6 : decode cX12_wearOf 6 = .ok (.iload_n 1, 1) := by decide +kernel
theorem dX12_wearOf_7 : decode cX12_wearOf 7 = .ok (.iaload, 1) := by decide +kernel
theorem dX12_wearOf_8 : decode cX12_wearOf 8 = .ok (.istore 4, 2) := by decide +kernel
theorem dX12_wearOf_10 : decode cX12_wearOf 10 = .ok (.iload 4, 2) := by decide +kernel
theorem dX12_wearOf_12 : decode cX12_wearOf 12 = .ok (.iload_n 2, 1) := by decide +kernel
theorem dX12_wearOf_13 : decode cX12_wearOf 13 = .ok (.if_icmp .ge 54, 3) := by decide +kernel
theorem dX12_wearOf_16 : decode cX12_wearOf 16 = .ok (.iload_n 3, 1) := by decide +kernel
theorem dX12_wearOf_17 : decode cX12_wearOf 17 = .ok (.iload 4, 2) := by decide +kernel
theorem dX12_wearOf_19 : decode cX12_wearOf 19 = .ok (.bipush 31, 2) := by decide +kernel
theorem dX12_wearOf_21 : decode cX12_wearOf 21 = .ok (.if_icmp .ge 33, 3) := by decide +kernel
theorem dX12_wearOf_24 : decode cX12_wearOf 24 = .ok (.aload_n 0, 1) := by decide +kernel
theorem dX12_wearOf_25 : decode cX12_wearOf 25 = .ok (.getfield 54, 3) := by decide +kernel
theorem dX12_wearOf_28 : decode cX12_wearOf 28 = .ok (.bipush 31, 2) := by decide +kernel
theorem dX12_wearOf_30 : decode cX12_wearOf 30 = .ok (.iload_n 1, 1) := by decide +kernel
theorem dX12_wearOf_31 : decode cX12_wearOf 31 = .ok (.imul, 1) := by decide +kernel
theorem dX12_wearOf_32 : decode cX12_wearOf 32 = .ok (.iload 4, 2) := by decide +kernel
theorem dX12_wearOf_34 : decode cX12_wearOf 34 = .ok (.iadd, 1) := by decide +kernel
theorem dX12_wearOf_35 : decode cX12_wearOf 35 = .ok (.baload, 1) := by decide +kernel
theorem dX12_wearOf_36 : decode cX12_wearOf 36 = .ok (.ifCond .eq 18, 3) := by decide +kernel
theorem dX12_wearOf_39 : decode cX12_wearOf 39 = .ok (.aload_n 0, 1) := by decide +kernel
theorem dX12_wearOf_40 : decode cX12_wearOf 40 = .ok (.getfield 57, 3) := by decide +kernel
theorem dX12_wearOf_43 : decode cX12_wearOf 43 = .ok (.bipush 31, 2) := by decide +kernel
theorem dX12_wearOf_45 : decode cX12_wearOf 45 = .ok (.iload_n 1, 1) := by decide +kernel
theorem dX12_wearOf_46 : decode cX12_wearOf 46 = .ok (.imul, 1) := by decide +kernel
theorem dX12_wearOf_47 : decode cX12_wearOf 47 = .ok (.iload 4, 2) := by decide +kernel
theorem dX12_wearOf_49 : decode cX12_wearOf 49 = .ok (.iadd, 1) := by decide +kernel
theorem dX12_wearOf_50 : decode cX12_wearOf 50 = .ok (.iaload, 1) := by decide +kernel
theorem dX12_wearOf_51 : decode cX12_wearOf 51 = .ok (.goto 8, 3) := by decide +kernel
theorem dX12_wearOf_54 : decode cX12_wearOf 54 = .ok (.aload_n 0, 1) := by decide +kernel
theorem dX12_wearOf_55 : decode cX12_wearOf 55 = .ok (.iload_n 1, 1) := by decide +kernel
theorem dX12_wearOf_56 : decode cX12_wearOf 56 = .ok (.invokevirtual 214, 3) := by decide +kernel
theorem dX12_wearOf_59 : decode cX12_wearOf 59 = .ok (.iadd, 1) := by decide +kernel
theorem dX12_wearOf_60 : decode cX12_wearOf 60 = .ok (.istore_n 3, 1) := by decide +kernel
theorem dX12_wearOf_61 : decode cX12_wearOf 61 = .ok (.iinc 4 1, 3) := by decide +kernel
theorem dX12_wearOf_64 : decode cX12_wearOf 64 = .ok (.goto (-54), 3) := by decide +kernel
theorem dX12_wearOf_67 : decode cX12_wearOf 67 = .ok (.iload_n 3, 1) := by decide +kernel
theorem dX12_wearOf_68 : decode cX12_wearOf 68 = .ok (.ireturn, 1) := by decide +kernel
theorem dX12_pave_0 : decode cX12_pave 0 = .ok (.aload_n 0, 1) := by decide +kernel
theorem dX12_pave_1 : decode cX12_pave 1 = .ok (.iload_n 1, 1) := by decide +kernel
theorem dX12_pave_2 : decode cX12_pave 2 = .ok (.invokevirtual 168, 3) := by decide +kernel
theorem dX12_pave_5 : decode cX12_pave 5 = .ok (.ifCond .ne 5, 3) := by decide +kernel
theorem dX12_pave_8 : decode cX12_pave 8 = .ok (.iconst (-1), 1) := by decide +kernel
theorem dX12_pave_9 : decode cX12_pave 9 = .ok (.ireturn, 1) := by decide +kernel
theorem dX12_pave_10 : decode cX12_pave 10 = .ok (.aload_n 0, 1) := by decide +kernel
theorem dX12_pave_11 : decode cX12_pave 11 = .ok (.iload_n 1, 1) := by decide +kernel
theorem dX12_pave_12 : decode cX12_pave 12 = .ok (.aload_n 0, 1) := by decide +kernel
theorem dX12_pave_13 : decode cX12_pave 13 = .ok (.getfield 211, 3) := by decide +kernel
theorem dX12_pave_16 : decode cX12_pave 16 = .ok (.invokevirtual 217, 3) := by decide +kernel
theorem dX12_pave_19 : decode cX12_pave 19 = .ok (.istore_n 2, 1) := by decide +kernel
theorem dX12_pave_20 : decode cX12_pave 20 = .ok (.aload_n 0, 1) := by decide +kernel
theorem dX12_pave_21 : decode cX12_pave 21 = .ok (.getfield 60, 3) := by decide +kernel
theorem dX12_pave_24 : decode cX12_pave 24 = .ok (.iload_n 1, 1) := by decide +kernel
theorem dX12_pave_25 : decode cX12_pave 25 = .ok (.aload_n 0, 1) := by decide +kernel
theorem dX12_pave_26 : decode cX12_pave 26 = .ok (.getfield 211, 3) := by decide +kernel
theorem dX12_pave_29 : decode cX12_pave 29 = .ok (.iastore, 1) := by decide +kernel
theorem dX12_pave_30 : decode cX12_pave 30 = .ok (.iload_n 2, 1) := by decide +kernel
theorem dX12_pave_31 : decode cX12_pave 31 = .ok (.ireturn, 1) := by decide +kernel
theorem dX12_wear_0 : decode cX12_wear 0 = .ok (.aload_n 0, 1) := by decide +kernel
theorem dX12_wear_1 : decode cX12_wear 1 = .ok (.iload_n 1, 1) := by decide +kernel
theorem dX12_wear_2 : decode cX12_wear 2 = .ok (.invokevirtual 168, 3) := by decide +kernel
theorem dX12_wear_5 : decode cX12_wear 5 = .ok (.ifCond .eq 22, 3) := by decide +kernel
theorem dX12_wear_8 : decode cX12_wear 8 = .ok (.iload_n 2, 1) := by decide +kernel
theorem dX12_wear_9 : decode cX12_wear 9 = .ok (.iconst 0, 1) := by decide +kernel
theorem dX12_wear_10 : decode cX12_wear 10 = .ok (.bipush 40, 2) := by decide +kernel
theorem dX12_wear_12 : decode cX12_wear 12 = .ok (.invokestatic 164, 3) := by decide +kernel
theorem dX12_wear_15 : decode cX12_wear 15 = .ok (.ifCond .eq 12, 3) := by decide +kernel
theorem dX12_wear_18 : decode cX12_wear 18 = .ok (.aload_n 0, 1) := by decide +kernel
theorem dX12_wear_19 : decode cX12_wear 19 = .ok (.iload_n 1, 1) := by decide +kernel
theorem dX12_wear_20 : decode cX12_wear 20 = .ok (.iload_n 2, 1) := by decide +kernel
theorem dX12_wear_21 : decode cX12_wear 21 = .ok (.invokevirtual 217, 3) := by decide +kernel
theorem dX12_wear_24 : decode cX12_wear 24 = .ok (.goto 4, 3) := by decide +kernel
theorem dX12_wear_27 : decode cX12_wear 27 = .ok (.iconst (-1), 1) := by decide +kernel
theorem dX12_wear_28 : decode cX12_wear 28 = .ok (.ireturn, 1) := by decide +kernel
theorem dX12_cost_0 : decode cX12_cost 0 = .ok (.aload_n 0, 1) := by decide +kernel
theorem dX12_cost_1 : decode cX12_cost 1 = .ok (.iload_n 1, 1) := by decide +kernel
theorem dX12_cost_2 : decode cX12_cost 2 = .ok (.invokevirtual 168, 3) := by decide +kernel
theorem dX12_cost_5 : decode cX12_cost 5 = .ok (.ifCond .eq 34, 3) := by decide +kernel
theorem dX12_cost_8 : decode cX12_cost 8 = .ok (.iload_n 2, 1) := by decide +kernel
theorem dX12_cost_9 : decode cX12_cost 9 = .ok (.iconst 1, 1) := by decide +kernel
theorem dX12_cost_10 : decode cX12_cost 10 = .ok (.sipush 9999, 3) := by decide +kernel
theorem dX12_cost_13 : decode cX12_cost 13 = .ok (.invokestatic 164, 3) := by decide +kernel
theorem dX12_cost_16 : decode cX12_cost 16 = .ok (.ifCond .eq 23, 3) := by decide +kernel
theorem dX12_cost_19 : decode cX12_cost 19 = .ok (.iload_n 3, 1) := by decide +kernel
theorem dX12_cost_20 : decode cX12_cost 20 = .ok (.iconst 0, 1) := by decide +kernel
theorem dX12_cost_21 : decode cX12_cost 21 = .ok (.iload_n 2, 1) := by decide +kernel
theorem dX12_cost_22 : decode cX12_cost 22 = .ok (.invokestatic 164, 3) := by decide +kernel
theorem dX12_cost_25 : decode cX12_cost 25 = .ok (.ifCond .eq 14, 3) := by decide +kernel
theorem dX12_cost_28 : decode cX12_cost 28 = .ok (.iload 4, 2) := by decide +kernel
theorem dX12_cost_30 : decode cX12_cost 30 = .ok (.iconst 0, 1) := by decide +kernel
theorem dX12_cost_31 : decode cX12_cost 31 = .ok (.bipush 40, 2) := by decide +kernel
theorem dX12_cost_33 : decode cX12_cost 33 = .ok (.invokestatic 164, 3) := by decide +kernel
theorem dX12_cost_36 : decode cX12_cost 36 = .ok (.ifCond .ne 5, 3) := by decide +kernel
theorem dX12_cost_39 : decode cX12_cost 39 = .ok (.iconst (-1), 1) := by decide +kernel
theorem dX12_cost_40 : decode cX12_cost 40 = .ok (.ireturn, 1) := by decide +kernel
theorem dX12_cost_41 : decode cX12_cost 41 = .ok (.aload_n 0, 1) := by decide +kernel
theorem dX12_cost_42 : decode cX12_cost 42 = .ok (.getfield 63, 3) := by decide +kernel
theorem dX12_cost_45 : decode cX12_cost 45 = .ok (.iload_n 1, 1) := by decide +kernel
theorem dX12_cost_46 : decode cX12_cost 46 = .ok (.iload_n 2, 1) := by decide +kernel
theorem dX12_cost_47 : decode cX12_cost 47 = .ok (.iastore, 1) := by decide +kernel
theorem dX12_cost_48 : decode cX12_cost 48 = .ok (.aload_n 0, 1) := by decide +kernel
theorem dX12_cost_49 : decode cX12_cost 49 = .ok (.getfield 66, 3) := by decide +kernel
theorem dX12_cost_52 : decode cX12_cost 52 = .ok (.iload_n 1, 1) := by decide +kernel
theorem dX12_cost_53 : decode cX12_cost 53 = .ok (.iload_n 3, 1) := by decide +kernel
theorem dX12_cost_54 : decode cX12_cost 54 = .ok (.iastore, 1) := by decide +kernel
theorem dX12_cost_55 : decode cX12_cost 55 = .ok (.aload_n 0, 1) := by decide +kernel
theorem dX12_cost_56 : decode cX12_cost 56 = .ok (.getfield 69, 3) := by decide +kernel
theorem dX12_cost_59 : decode cX12_cost 59 = .ok (.iload_n 1, 1) := by decide +kernel
theorem dX12_cost_60 : decode cX12_cost 60 = .ok (.iload 4, 2) := by decide +kernel
theorem dX12_cost_62 : decode cX12_cost 62 = .ok (.iastore, 1) := by decide +kernel
theorem dX12_cost_63 : decode cX12_cost 63 = .ok (.iconst 1, 1) := by decide +kernel
theorem dX12_cost_64 : decode cX12_cost 64 = .ok (.ireturn, 1) := by decide +kernel
theorem dX12_costOf_0 : decode cX12_costOf 0 = .ok (.aload_n 0, 1) := by decide +kernel
theorem dX12_costOf_1 : decode cX12_costOf 1 = .ok (.getfield 63, 3) := by decide +kernel
theorem dX12_costOf_4 : decode cX12_costOf 4 = .ok (.iload_n 1, 1) := by decide +kernel
theorem dX12_costOf_5 : decode cX12_costOf 5 = .ok (.iaload, 1) := by decide +kernel
theorem dX12_costOf_6 : decode cX12_costOf 6 = .ok (.aload_n 0, 1) := by decide +kernel
theorem dX12_costOf_7 : decode cX12_costOf 7 = .ok (.getfield 69, 3) := by decide +kernel
theorem dX12_costOf_10 : decode cX12_costOf 10 = .ok (.iload_n 1, 1) := by decide +kernel
theorem dX12_costOf_11 : decode cX12_costOf 11 = .ok (.iaload, 1) := by decide +kernel
theorem dX12_costOf_12 : decode cX12_costOf 12 = .ok (.iload_n 2, 1) := by decide +kernel
theorem dX12_costOf_13 : decode cX12_costOf 13 = .ok (.if_icmp .ne 12, 3) := by decide +kernel
theorem dX12_costOf_16 : decode cX12_costOf 16 = .ok (.aload_n 0, 1) := by decide +kernel
theorem dX12_costOf_17 : decode cX12_costOf 17 = .ok (.getfield 66, 3) := by decide +kernel
theorem dX12_costOf_20 : decode cX12_costOf 20 = .ok (.iload_n 1, 1) := by decide +kernel
theorem dX12_costOf_21 : decode cX12_costOf 21 = .ok (.iaload, 1) := by decide +kernel
theorem dX12_costOf_22 : decode cX12_costOf 22 = .ok (.goto 4, 3) := by decide +kernel
theorem dX12_costOf_25 : decode cX12_costOf 25 = .ok (.iconst 0, 1) := by decide +kernel
theorem dX12_costOf_26 : decode cX12_costOf 26 = .ok (.isub, 1) := by decide +kernel
theorem dX12_costOf_27 : decode cX12_costOf 27 = .ok (.ireturn, 1) := by decide +kernel
theorem dX12_plan_0 : decode cX12_plan 0 = .ok (.iload_n 1, 1) := by decide +kernel
theorem dX12_plan_1 : decode cX12_plan 1 = .ok (.iconst 1, 1) := by decide +kernel
theorem dX12_plan_2 : decode cX12_plan 2 = .ok (.sipush 255, 3) := by decide +kernel
theorem dX12_plan_5 : decode cX12_plan 5 = .ok (.invokestatic 164, 3) := by decide +kernel
theorem dX12_plan_8 : decode cX12_plan 8 = .ok (.ifCond .eq 64, 3) := by decide +kernel
theorem dX12_plan_11 : decode cX12_plan 11 = .ok (.iload_n 2, 1) := by decide +kernel
theorem dX12_plan_12 : decode cX12_plan 12 = .ok (.iconst 1, 1) := by decide +kernel
theorem dX12_plan_13 : decode cX12_plan 13 = .ok (.iconst 3, 1) := by decide +kernel
theorem dX12_plan_14 : decode cX12_plan 14 = .ok (.invokestatic 164, 3) := by decide +kernel
theorem dX12_plan_17 : decode cX12_plan 17 = .ok (.ifCond .eq 55, 3) := by decide +kernel
theorem dX12_plan_20 : decode cX12_plan 20 = .ok (.iload_n 3, 1) := by decide +kernel
theorem dX12_plan_21 : decode cX12_plan 21 = .ok (.iconst 0, 1) := by decide +kernel
theorem dX12_plan_22 : decode cX12_plan 22 = .ok (.ldc 221, 2) := by decide +kernel
theorem dX12_plan_24 : decode cX12_plan 24 = .ok (.invokestatic 164, 3) := by decide +kernel
theorem dX12_plan_27 : decode cX12_plan 27 = .ok (.ifCond .eq 45, 3) := by decide +kernel
theorem dX12_plan_30 : decode cX12_plan 30 = .ok (.iload 4, 2) := by decide +kernel
theorem dX12_plan_32 : decode cX12_plan 32 = .ok (.iconst 0, 1) := by decide +kernel
theorem dX12_plan_33 : decode cX12_plan 33 = .ok (.ldc 221, 2) := by decide +kernel
theorem dX12_plan_35 : decode cX12_plan 35 = .ok (.invokestatic 164, 3) := by decide +kernel
theorem dX12_plan_38 : decode cX12_plan 38 = .ok (.ifCond .eq 34, 3) := by decide +kernel
theorem dX12_plan_41 : decode cX12_plan 41 = .ok (.iload 5, 2) := by decide +kernel
theorem dX12_plan_43 : decode cX12_plan 43 = .ok (.iconst 0, 1) := by decide +kernel
theorem dX12_plan_44 : decode cX12_plan 44 = .ok (.ldc 221, 2) := by decide +kernel
theorem dX12_plan_46 : decode cX12_plan 46 = .ok (.invokestatic 164, 3) := by decide +kernel
theorem dX12_plan_49 : decode cX12_plan 49 = .ok (.ifCond .eq 23, 3) := by decide +kernel
theorem dX12_plan_52 : decode cX12_plan 52 = .ok (.iload_n 2, 1) := by decide +kernel
theorem dX12_plan_53 : decode cX12_plan 53 = .ok (.iconst 2, 1) := by decide +kernel
theorem dX12_plan_54 : decode cX12_plan 54 = .ok (.if_icmp .ge 8, 3) := by decide +kernel
theorem dX12_plan_57 : decode cX12_plan 57 = .ok (.iload 4, 2) := by decide +kernel
theorem dX12_plan_59 : decode cX12_plan 59 = .ok (.ifCond .ne 13, 3) := by decide +kernel
theorem dX12_plan_62 : decode cX12_plan 62 = .ok (.iload_n 2, 1) := by decide +kernel
theorem dX12_plan_63 : decode cX12_plan 63 = .ok (.iconst 3, 1) := by decide +kernel
theorem dX12_plan_64 : decode cX12_plan 64 = .ok (.if_icmp .ge 10, 3) := by decide +kernel
theorem dX12_plan_67 : decode cX12_plan 67 = .ok (.iload 5, 2) := by decide +kernel
theorem dX12_plan_69 : decode cX12_plan 69 = .ok (.ifCond .eq 5, 3) := by decide +kernel
theorem dX12_plan_72 : decode cX12_plan 72 = .ok (.iconst (-1), 1) := by decide +kernel
theorem dX12_plan_73 : decode cX12_plan 73 = .ok (.ireturn, 1) := by decide +kernel
theorem dX12_plan_74 : decode cX12_plan 74 = .ok (.iconst 0, 1) := by decide +kernel
theorem dX12_plan_75 : decode cX12_plan 75 = .ok (.istore 6, 2) := by decide +kernel
theorem dX12_plan_77 : decode cX12_plan 77 = .ok (.iconst 0, 1) := by decide +kernel
theorem dX12_plan_78 : decode cX12_plan 78 = .ok (.istore 7, 2) := by decide +kernel
theorem dX12_plan_80 : decode cX12_plan 80 = .ok (.iload 7, 2) := by decide +kernel
theorem dX12_plan_82 : decode cX12_plan 82 = .ok (.bipush 8, 2) := by decide +kernel
theorem dX12_plan_84 : decode cX12_plan 84 = .ok (.if_icmp .ge 45, 3) := by decide +kernel
theorem dX12_plan_87 : decode cX12_plan 87 = .ok (.iload_n 1, 1) := by decide +kernel
theorem dX12_plan_88 : decode cX12_plan 88 = .ok (.iload 7, 2) := by decide +kernel
theorem dX12_plan_90 : decode cX12_plan 90 = .ok (.ishr, 1) := by decide +kernel
theorem dX12_plan_91 : decode cX12_plan 91 = .ok (.iconst 1, 1) := by decide +kernel
theorem dX12_plan_92 : decode cX12_plan 92 = .ok (.iand, 1) := by decide +kernel
theorem dX12_plan_93 : decode cX12_plan 93 = .ok (.ifCond .ne 6, 3) := by decide +kernel
theorem dX12_plan_96 : decode cX12_plan 96 = .ok (.goto 27, 3) := by decide +kernel
theorem dX12_plan_99 : decode cX12_plan 99 = .ok (.aload_n 0, 1) := by decide +kernel
theorem dX12_plan_100 : decode cX12_plan 100 = .ok (.iload 7, 2) := by decide +kernel
theorem dX12_plan_102 : decode cX12_plan 102 = .ok (.invokevirtual 168, 3) := by decide +kernel
theorem dX12_plan_105 : decode cX12_plan 105 = .ok (.ifCond .eq 13, 3) := by decide +kernel
theorem dX12_plan_108 : decode cX12_plan 108 = .ok (.aload_n 0, 1) := by decide +kernel
theorem dX12_plan_109 : decode cX12_plan 109 = .ok (.getfield 63, 3) := by decide +kernel
theorem dX12_plan_112 : decode cX12_plan 112 = .ok (.iload 7, 2) := by decide +kernel
theorem dX12_plan_114 : decode cX12_plan 114 = .ok (.iaload, 1) := by decide +kernel
theorem dX12_plan_115 : decode cX12_plan 115 = .ok (.ifCond .ne 5, 3) := by decide +kernel
theorem dX12_plan_118 : decode cX12_plan 118 = .ok (.iconst (-1), 1) := by decide +kernel
theorem dX12_plan_119 : decode cX12_plan 119 = .ok (.ireturn, 1) := by decide +kernel
theorem dX12_plan_120 : decode cX12_plan 120 = .ok (.iinc 6 1, 3) := by decide +kernel
theorem dX12_plan_123 : decode cX12_plan 123 = .ok (.iinc 7 1, 3) := by decide +kernel
theorem dX12_plan_126 : decode cX12_plan 126 = .ok (.goto (-46), 3) := by decide +kernel
theorem dX12_plan_129 : decode cX12_plan 129 = .ok (.iload 6, 2) := by decide +kernel
theorem dX12_plan_131 : decode cX12_plan 131 = .ok (.bipush 6, 2) := by decide +kernel
theorem dX12_plan_133 : decode cX12_plan 133 = .ok (.if_icmp .le 5, 3) := by decide +kernel
theorem dX12_plan_136 : decode cX12_plan 136 = .ok (.iconst (-1), 1) := by decide +kernel
theorem dX12_plan_137 : decode cX12_plan 137 = .ok (.ireturn, 1) := by decide +kernel
theorem dX12_plan_138 : decode cX12_plan 138 = .ok (.aload_n 0, 1) := by decide +kernel
theorem dX12_plan_139 : decode cX12_plan 139 = .ok (.getfield 78, 3) := by decide +kernel
theorem dX12_plan_142 : decode cX12_plan 142 = .ok (.iconst 0, 1) := by decide +kernel
theorem dX12_plan_143 : decode cX12_plan 143 = .ok (.iload_n 3, 1) := by decide +kernel
theorem dX12_plan_144 : decode cX12_plan 144 = .ok (.iastore, 1) := by decide +kernel
theorem dX12_plan_145 : decode cX12_plan 145 = .ok (.aload_n 0, 1) := by decide +kernel
theorem dX12_plan_146 : decode cX12_plan 146 = .ok (.getfield 78, 3) := by decide +kernel
theorem dX12_plan_149 : decode cX12_plan 149 = .ok (.iconst 1, 1) := by decide +kernel
theorem dX12_plan_150 : decode cX12_plan 150 = .ok (.iload 4, 2) := by decide +kernel
theorem dX12_plan_152 : decode cX12_plan 152 = .ok (.iastore, 1) := by decide +kernel
theorem dX12_plan_153 : decode cX12_plan 153 = .ok (.aload_n 0, 1) := by decide +kernel
theorem dX12_plan_154 : decode cX12_plan 154 = .ok (.getfield 78, 3) := by decide +kernel
theorem dX12_plan_157 : decode cX12_plan 157 = .ok (.iconst 2, 1) := by decide +kernel
theorem dX12_plan_158 : decode cX12_plan 158 = .ok (.iload 5, 2) := by decide +kernel
theorem dX12_plan_160 : decode cX12_plan 160 = .ok (.iastore, 1) := by decide +kernel
theorem dX12_plan_161 : decode cX12_plan 161 = .ok (.iconst (-1), 1) := by decide +kernel
theorem dX12_plan_162 : decode cX12_plan 162 = .ok (.istore 7, 2) := by decide +kernel
theorem dX12_plan_164 : decode cX12_plan 164 = .ok (.iconst 0, 1) := by decide +kernel
theorem dX12_plan_165 : decode cX12_plan 165 = .ok (.istore 8, 2) := by decide +kernel
theorem dX12_plan_167 : decode cX12_plan 167 = .ok (.iconst 0, 1) := by decide +kernel
theorem dX12_plan_168 : decode cX12_plan 168 = .ok (.istore 9, 2) := by decide +kernel
theorem dX12_plan_170 : decode cX12_plan 170 = .ok (.iload 9, 2) := by decide +kernel
theorem dX12_plan_172 : decode cX12_plan 172 = .ok (.bipush 8, 2) := by decide +kernel
theorem dX12_plan_174 : decode cX12_plan 174 = .ok (.if_icmp .ge 17, 3) := by decide +kernel
theorem dX12_plan_177 : decode cX12_plan 177 = .ok (.aload_n 0, 1) := by decide +kernel
theorem dX12_plan_178 : decode cX12_plan 178 = .ok (.getfield 75, 3) := by decide +kernel
theorem dX12_plan_181 : decode cX12_plan 181 = .ok (.iload 9, 2) := by decide +kernel
theorem dX12_plan_183 : decode cX12_plan 183 = .ok (.iconst 0, 1) := by decide +kernel
theorem dX12_plan_184 : decode cX12_plan 184 = .ok (.iastore, 1) := by decide +kernel
theorem dX12_plan_185 : decode cX12_plan 185 = .ok (.iinc 9 1, 3) := by decide +kernel
theorem dX12_plan_188 : decode cX12_plan 188 = .ok (.goto (-18), 3) := by decide +kernel
theorem dX12_plan_191 : decode cX12_plan 191 = .ok (.iconst 1, 1) := by decide +kernel
theorem dX12_plan_192 : decode cX12_plan 192 = .ok (.istore 9, 2) := by decide +kernel
theorem dX12_plan_194 : decode cX12_plan 194 = .ok (.iload 9, 2) := by decide +kernel
theorem dX12_plan_196 : decode cX12_plan 196 = .ok (.ifCond .eq 344, 3) := by decide +kernel
theorem dX12_plan_199 : decode cX12_plan 199 = .ok (.iconst 0, 1) := by decide +kernel
theorem dX12_plan_200 : decode cX12_plan 200 = .ok (.istore 10, 2) := by decide +kernel
theorem dX12_plan_202 : decode cX12_plan 202 = .ok (.iload 10, 2) := by decide +kernel
theorem dX12_plan_204 : decode cX12_plan 204 = .ok (.iconst 3, 1) := by decide +kernel
theorem dX12_plan_205 : decode cX12_plan 205 = .ok (.if_icmp .ge 17, 3) := by decide +kernel
theorem dX12_plan_208 : decode cX12_plan 208 = .ok (.aload_n 0, 1) := by decide +kernel
theorem dX12_plan_209 : decode cX12_plan 209 = .ok (.getfield 81, 3) := by decide +kernel
theorem dX12_plan_212 : decode cX12_plan 212 = .ok (.iload 10, 2) := by decide +kernel
theorem dX12_plan_214 : decode cX12_plan 214 = .ok (.iconst 0, 1) := by decide +kernel
theorem dX12_plan_215 : decode cX12_plan 215 = .ok (.iastore, 1) := by decide +kernel
theorem dX12_plan_216 : decode cX12_plan 216 = .ok (.iinc 10 1, 3) := by decide +kernel
theorem dX12_plan_219 : decode cX12_plan 219 = .ok (.goto (-17), 3) := by decide +kernel
theorem dX12_plan_222 : decode cX12_plan 222 = .ok (.iconst 0, 1) := by decide +kernel
theorem dX12_plan_223 : decode cX12_plan 223 = .ok (.istore 10, 2) := by decide +kernel
theorem dX12_plan_225 : decode cX12_plan 225 = .ok (.iconst 0, 1) := by decide +kernel
theorem dX12_plan_226 : decode cX12_plan 226 = .ok (.istore 11, 2) := by decide +kernel
theorem dX12_plan_228 : decode cX12_plan 228 = .ok (.iload 11, 2) := by decide +kernel
theorem dX12_plan_230 : decode cX12_plan 230 = .ok (.bipush 8, 2) := by decide +kernel
theorem dX12_plan_232 : decode cX12_plan 232 = .ok (.if_icmp .ge 88, 3) := by decide +kernel
theorem dX12_plan_235 : decode cX12_plan 235 = .ok (.iload_n 1, 1) := by decide +kernel
theorem dX12_plan_236 : decode cX12_plan 236 = .ok (.iload 11, 2) := by decide +kernel
theorem dX12_plan_238 : decode cX12_plan 238 = .ok (.ishr, 1) := by decide +kernel
theorem dX12_plan_239 : decode cX12_plan 239 = .ok (.iconst 1, 1) := by decide +kernel
theorem dX12_plan_240 : decode cX12_plan 240 = .ok (.iand, 1) := by decide +kernel
theorem dX12_plan_241 : decode cX12_plan 241 = .ok (.ifCond .eq 73, 3) := by decide +kernel
theorem dX12_plan_244 : decode cX12_plan 244 = .ok (.aload_n 0, 1) := by decide +kernel
theorem dX12_plan_245 : decode cX12_plan 245 = .ok (.getfield 75, 3) := by decide +kernel
theorem dX12_plan_248 : decode cX12_plan 248 = .ok (.iload 11, 2) := by decide +kernel
theorem dX12_plan_250 : decode cX12_plan 250 = .ok (.iaload, 1) := by decide +kernel
theorem dX12_plan_251 : decode cX12_plan 251 = .ok (.iload_n 2, 1) := by decide +kernel
theorem dX12_plan_252 : decode cX12_plan 252 = .ok (.if_icmp .ne 6, 3) := by decide +kernel
theorem dX12_plan_255 : decode cX12_plan 255 = .ok (.goto 59, 3) := by decide +kernel
theorem dX12_plan_258 : decode cX12_plan 258 = .ok (.iload 10, 2) := by decide +kernel
theorem dX12_plan_260 : decode cX12_plan 260 = .ok (.aload_n 0, 1) := by decide +kernel
theorem dX12_plan_261 : decode cX12_plan 261 = .ok (.iload 11, 2) := by decide +kernel
theorem dX12_plan_263 : decode cX12_plan 263 = .ok (.aload_n 0, 1) := by decide +kernel
theorem dX12_plan_264 : decode cX12_plan 264 = .ok (.getfield 211, 3) := by decide +kernel
theorem dX12_plan_267 : decode cX12_plan 267 = .ok (.aload_n 0, 1) := by decide +kernel
theorem dX12_plan_268 : decode cX12_plan 268 = .ok (.getfield 75, 3) := by decide +kernel
theorem dX12_plan_271 : decode cX12_plan 271 = .ok (.iload 11, 2) := by decide +kernel
theorem dX12_plan_273 : decode cX12_plan 273 = .ok (.iaload, 1) := by decide +kernel
theorem dX12_plan_274 : decode cX12_plan 274 = .ok (.iadd, 1) := by decide +kernel
theorem dX12_plan_275 : decode cX12_plan 275 = .ok (.invokevirtual 217, 3) := by decide +kernel
theorem dX12_plan_278 : decode cX12_plan 278 = .ok (.iadd, 1) := by decide +kernel
theorem dX12_plan_279 : decode cX12_plan 279 = .ok (.istore 10, 2) := by decide +kernel
theorem dX12_plan_281 : decode cX12_plan 281 = .ok (.aload_n 0, 1) := by decide +kernel
theorem dX12_plan_282 : decode cX12_plan 282 = .ok (.getfield 81, 3) := by decide +kernel
theorem dX12_plan_285 : decode cX12_plan 285 = .ok (.aload_n 0, 1) := by decide +kernel
theorem dX12_plan_286 : decode cX12_plan 286 = .ok (.getfield 75, 3) := by decide +kernel
theorem dX12_plan_289 : decode cX12_plan 289 = .ok (.iload 11, 2) := by decide +kernel
theorem dX12_plan_291 : decode cX12_plan 291 = .ok (.iaload, 1) := by decide +kernel
theorem dX12_plan_292 : decode cX12_plan 292 = .ok (.dup2, 1) := by decide +kernel
theorem dX12_plan_293 : decode cX12_plan 293 = .ok (.iaload, 1) := by decide +kernel
theorem dX12_plan_294 : decode cX12_plan 294 = .ok (.aload_n 0, 1) := by decide +kernel
theorem dX12_plan_295 : decode cX12_plan 295 = .ok (.iload 11, 2) := by decide +kernel
theorem dX12_plan_297 : decode cX12_plan 297 = .ok (.aload_n 0, 1) := by decide +kernel
theorem dX12_plan_298 : decode cX12_plan 298 = .ok (.getfield 211, 3) := by decide +kernel
theorem dX12_plan_301 : decode cX12_plan 301 = .ok (.aload_n 0, 1) := by decide +kernel
theorem dX12_plan_302 : decode cX12_plan 302 = .ok (.getfield 75, 3) := by decide +kernel
theorem dX12_plan_305 : decode cX12_plan 305 = .ok (.iload 11, 2) := by decide +kernel
theorem dX12_plan_307 : decode cX12_plan 307 = .ok (.iaload, 1) := by decide +kernel
theorem dX12_plan_308 : decode cX12_plan 308 = .ok (.iadd, 1) := by decide +kernel
theorem dX12_plan_309 : decode cX12_plan 309 = .ok (.invokevirtual 222, 3) := by decide +kernel
theorem dX12_plan_312 : decode cX12_plan 312 = .ok (.iadd, 1) := by decide +kernel
theorem dX12_plan_313 : decode cX12_plan 313 = .ok (.iastore, 1) := by decide +kernel
theorem dX12_plan_314 : decode cX12_plan 314 = .ok (.iinc 11 1, 3) := by decide +kernel
theorem dX12_plan_317 : decode cX12_plan 317 = .ok (.goto (-89), 3) := by decide +kernel
theorem dX12_plan_320 : decode cX12_plan 320 = .ok (.aload_n 0, 1) := by decide +kernel
theorem dX12_plan_321 : decode cX12_plan 321 = .ok (.getfield 81, 3) := by decide +kernel
theorem dX12_plan_324 : decode cX12_plan 324 = .ok (.iconst 0, 1) := by decide +kernel
theorem dX12_plan_325 : decode cX12_plan 325 = .ok (.iaload, 1) := by decide +kernel
theorem dX12_plan_326 : decode cX12_plan 326 = .ok (.aload_n 0, 1) := by decide +kernel
theorem dX12_plan_327 : decode cX12_plan 327 = .ok (.getfield 81, 3) := by decide +kernel
theorem dX12_plan_330 : decode cX12_plan 330 = .ok (.iconst 1, 1) := by decide +kernel
theorem dX12_plan_331 : decode cX12_plan 331 = .ok (.iaload, 1) := by decide +kernel
theorem dX12_plan_332 : decode cX12_plan 332 = .ok (.iadd, 1) := by decide +kernel
theorem dX12_plan_333 : decode cX12_plan 333 = .ok (.aload_n 0, 1) := by decide +kernel
theorem dX12_plan_334 : decode cX12_plan 334 = .ok (.getfield 81, 3) := by decide +kernel
theorem dX12_plan_337 : decode cX12_plan 337 = .ok (.iconst 2, 1) := by decide +kernel
theorem dX12_plan_338 : decode cX12_plan 338 = .ok (.iaload, 1) := by decide +kernel
theorem dX12_plan_339 : decode cX12_plan 339 = .ok (.iadd, 1) := by decide +kernel
theorem dX12_plan_340 : decode cX12_plan 340 = .ok (.istore 11, 2) := by decide +kernel
theorem dX12_plan_342 : decode cX12_plan 342 = .ok (.aload_n 0, 1) := by decide +kernel
theorem dX12_plan_343 : decode cX12_plan 343 = .ok (.getfield 81, 3) := by decide +kernel
theorem dX12_plan_346 : decode cX12_plan 346 = .ok (.iconst 0, 1) := by decide +kernel
theorem dX12_plan_347 : decode cX12_plan 347 = .ok (.iaload, 1) := by decide +kernel
theorem dX12_plan_348 : decode cX12_plan 348 = .ok (.iload_n 3, 1) := by decide +kernel
theorem dX12_plan_349 : decode cX12_plan 349 = .ok (.if_icmp .gt 29, 3) := by decide +kernel
theorem dX12_plan_352 : decode cX12_plan 352 = .ok (.aload_n 0, 1) := by decide +kernel
theorem dX12_plan_353 : decode cX12_plan 353 = .ok (.getfield 81, 3) := by decide +kernel
theorem dX12_plan_356 : decode cX12_plan 356 = .ok (.iconst 1, 1) := by decide +kernel
theorem dX12_plan_357 : decode cX12_plan 357 = .ok (.iaload, 1) := by decide +kernel
theorem dX12_plan_358 : decode cX12_plan 358 = .ok (.iload 4, 2) := by decide +kernel
theorem dX12_plan_360 : decode cX12_plan 360 = .ok (.if_icmp .gt 18, 3) := by decide +kernel
theorem dX12_plan_363 : decode cX12_plan 363 = .ok (.aload_n 0, 1) := by decide +kernel
theorem dX12_plan_364 : decode cX12_plan 364 = .ok (.getfield 81, 3) := by decide +kernel
theorem dX12_plan_367 : decode cX12_plan 367 = .ok (.iconst 2, 1) := by decide +kernel
theorem dX12_plan_368 : decode cX12_plan 368 = .ok (.iaload, 1) := by decide +kernel
theorem dX12_plan_369 : decode cX12_plan 369 = .ok (.iload 5, 2) := by decide +kernel
theorem dX12_plan_371 : decode cX12_plan 371 = .ok (.if_icmp .gt 7, 3) := by decide +kernel
theorem dX12_plan_374 : decode cX12_plan 374 = .ok (.iconst 1, 1) := by decide +kernel
theorem dX12_plan_375 : decode cX12_plan 375 = .ok (.goto 4, 3) := by decide +kernel
theorem dX12_plan_378 : decode cX12_plan 378 = .ok (.iconst 0, 1) := by decide +kernel
theorem dX12_plan_379 : decode cX12_plan 379 = .ok (.istore 12, 2) := by decide +kernel
theorem dX12_plan_381 : decode cX12_plan 381 = .ok (.iload 12, 2) := by decide +kernel
theorem dX12_plan_383 : decode cX12_plan 383 = .ok (.ifCond .eq 83, 3) := by decide +kernel
theorem dX12_plan_386 : decode cX12_plan 386 = .ok (.iload 10, 2) := by decide +kernel
theorem dX12_plan_388 : decode cX12_plan 388 = .ok (.iload 7, 2) := by decide +kernel
theorem dX12_plan_390 : decode cX12_plan 390 = .ok (.if_icmp .gt 17, 3) := by decide +kernel
theorem dX12_plan_393 : decode cX12_plan 393 = .ok (.iload 10, 2) := by decide +kernel
theorem dX12_plan_395 : decode cX12_plan 395 = .ok (.iload 7, 2) := by decide +kernel
theorem dX12_plan_397 : decode cX12_plan 397 = .ok (.if_icmp .ne 69, 3) := by decide +kernel
theorem dX12_plan_400 : decode cX12_plan 400 = .ok (.iload 11, 2) := by decide +kernel
theorem dX12_plan_402 : decode cX12_plan 402 = .ok (.iload 8, 2) := by decide +kernel
theorem dX12_plan_404 : decode cX12_plan 404 = .ok (.if_icmp .ge 62, 3) := by decide +kernel
theorem dX12_plan_407 : decode cX12_plan 407 = .ok (.iload 10, 2) := by decide +kernel
theorem dX12_plan_409 : decode cX12_plan 409 = .ok (.istore 7, 2) := by decide +kernel
theorem dX12_plan_411 : decode cX12_plan 411 = .ok (.iload 11, 2) := by decide +kernel
theorem dX12_plan_413 : decode cX12_plan 413 = .ok (.istore 8, 2) := by decide +kernel
theorem dX12_plan_415 : decode cX12_plan 415 = .ok (.iconst 0, 1) := by decide +kernel
theorem dX12_plan_416 : decode cX12_plan 416 = .ok (.istore 13, 2) := by decide +kernel
theorem dX12_plan_418 : decode cX12_plan 418 = .ok (.iload 13, 2) := by decide +kernel
theorem dX12_plan_420 : decode cX12_plan 420 = .ok (.bipush 8, 2) := by decide +kernel
theorem dX12_plan_422 : decode cX12_plan 422 = .ok (.if_icmp .ge 44, 3) := by decide +kernel
theorem dX12_plan_425 : decode cX12_plan 425 = .ok (.aload_n 0, 1) := by decide +kernel
theorem dX12_plan_426 : decode cX12_plan 426 = .ok (.getfield 72, 3) := by decide +kernel
theorem dX12_plan_429 : decode cX12_plan 429 = .ok (.iload 13, 2) := by decide +kernel
theorem dX12_plan_431 : decode cX12_plan 431 = .ok (.aload_n 0, 1) := by decide +kernel
theorem dX12_plan_432 : decode cX12_plan 432 = .ok (.getfield 75, 3) := by decide +kernel
theorem dX12_plan_435 : decode cX12_plan 435 = .ok (.iload 13, 2) := by decide +kernel
theorem dX12_plan_437 : decode cX12_plan 437 = .ok (.iaload, 1) := by decide +kernel
theorem dX12_plan_438 : decode cX12_plan 438 = .ok (.iload_n 2, 1) := by decide +kernel
theorem dX12_plan_439 : decode cX12_plan 439 = .ok (.if_icmp .ne 8, 3) := by decide +kernel
theorem dX12_plan_442 : decode cX12_plan 442 = .ok (.bipush (-2), 2) := by decide +kernel
theorem dX12_plan_444 : decode cX12_plan 444 = .ok (.goto 15, 3) := by decide +kernel
theorem dX12_plan_447 : decode cX12_plan 447 = .ok (.aload_n 0, 1) := by decide +kernel
theorem dX12_plan_448 : decode cX12_plan 448 = .ok (.getfield 211, 3) := by decide +kernel
theorem dX12_plan_451 : decode cX12_plan 451 = .ok (.aload_n 0, 1) := by decide +kernel
theorem dX12_plan_452 : decode cX12_plan 452 = .ok (.getfield 75, 3) := by decide +kernel
theorem dX12_plan_455 : decode cX12_plan 455 = .ok (.iload 13, 2) := by decide +kernel
theorem dX12_plan_457 : decode cX12_plan 457 = .ok (.iaload, 1) := by decide +kernel
theorem dX12_plan_458 : decode cX12_plan 458 = .ok (.iadd, 1) := by decide +kernel
theorem dX12_plan_459 : decode cX12_plan 459 = .ok (.iastore, 1) := by decide +kernel
theorem dX12_plan_460 : decode cX12_plan 460 = .ok (.iinc 13 1, 3) := by decide +kernel
theorem dX12_plan_463 : decode cX12_plan 463 = .ok (.goto (-45), 3) := by decide +kernel
theorem dX12_plan_466 : decode cX12_plan 466 = .ok (.bipush 7, 2) := by decide +kernel
theorem dX12_plan_468 : decode cX12_plan 468 = .ok (.istore 13, 2) := by decide +kernel
theorem dX12_plan_470 : decode cX12_plan 470 = .ok (.iload 13, 2) := by decide +kernel
theorem dX12_plan_472 : decode cX12_plan 472 = .ok (.ifCond .lt 37, 3) := by decide +kernel
theorem dX12_plan_475 : decode cX12_plan 475 = .ok (.iload_n 1, 1) := by decide +kernel
theorem dX12_plan_476 : decode cX12_plan 476 = .ok (.iload 13, 2) := by decide +kernel
theorem dX12_plan_478 : decode cX12_plan 478 = .ok (.ishr, 1) := by decide +kernel
theorem dX12_plan_479 : decode cX12_plan 479 = .ok (.iconst 1, 1) := by decide +kernel
theorem dX12_plan_480 : decode cX12_plan 480 = .ok (.iand, 1) := by decide +kernel
theorem dX12_plan_481 : decode cX12_plan 481 = .ok (.ifCond .eq 14, 3) := by decide +kernel
theorem dX12_plan_484 : decode cX12_plan 484 = .ok (.aload_n 0, 1) := by decide +kernel
theorem dX12_plan_485 : decode cX12_plan 485 = .ok (.getfield 75, 3) := by decide +kernel
theorem dX12_plan_488 : decode cX12_plan 488 = .ok (.iload 13, 2) := by decide +kernel
theorem dX12_plan_490 : decode cX12_plan 490 = .ok (.iaload, 1) := by decide +kernel
theorem dX12_plan_491 : decode cX12_plan 491 = .ok (.iload_n 2, 1) := by decide +kernel
theorem dX12_plan_492 : decode cX12_plan 492 = .ok (.if_icmp .ne 17, 3) := by decide +kernel
theorem dX12_plan_495 : decode cX12_plan 495 = .ok (.aload_n 0, 1) := by decide +kernel
theorem dX12_plan_496 : decode cX12_plan 496 = .ok (.getfield 75, 3) := by decide +kernel
theorem dX12_plan_499 : decode cX12_plan 499 = .ok (.iload 13, 2) := by decide +kernel
theorem dX12_plan_501 : decode cX12_plan 501 = .ok (.iconst 0, 1) := by decide +kernel
theorem dX12_plan_502 : decode cX12_plan 502 = .ok (.iastore, 1) := by decide +kernel
theorem dX12_plan_503 : decode cX12_plan 503 = .ok (.iinc 13 (-1), 3) := by decide +kernel
theorem dX12_plan_506 : decode cX12_plan 506 = .ok (.goto (-36), 3) := by decide +kernel
theorem dX12_plan_509 : decode cX12_plan 509 = .ok (.iload 13, 2) := by decide +kernel
theorem dX12_plan_511 : decode cX12_plan 511 = .ok (.ifCond .lt 7, 3) := by decide +kernel
theorem dX12_plan_514 : decode cX12_plan 514 = .ok (.iconst 1, 1) := by decide +kernel
theorem dX12_plan_515 : decode cX12_plan 515 = .ok (.goto 4, 3) := by decide +kernel
theorem dX12_plan_518 : decode cX12_plan 518 = .ok (.iconst 0, 1) := by decide +kernel
theorem dX12_plan_519 : decode cX12_plan 519 = .ok (.istore 9, 2) := by decide +kernel
theorem dX12_plan_521 : decode cX12_plan 521 = .ok (.iload 9, 2) := by decide +kernel
theorem dX12_plan_523 : decode cX12_plan 523 = .ok (.ifCond .eq 14, 3) := by decide +kernel
theorem dX12_plan_526 : decode cX12_plan 526 = .ok (.aload_n 0, 1) := by decide +kernel
theorem dX12_plan_527 : decode cX12_plan 527 = .ok (.getfield 75, 3) := by decide +kernel
theorem dX12_plan_530 : decode cX12_plan 530 = .ok (.iload 13, 2) := by decide +kernel
theorem dX12_plan_532 : decode cX12_plan 532 = .ok (.dup2, 1) := by decide +kernel
theorem dX12_plan_533 : decode cX12_plan 533 = .ok (.iaload, 1) := by decide +kernel
theorem dX12_plan_534 : decode cX12_plan 534 = .ok (.iconst 1, 1) := by decide +kernel
theorem dX12_plan_535 : decode cX12_plan 535 = .ok (.iadd, 1) := by decide +kernel
theorem dX12_plan_536 : decode cX12_plan 536 = .ok (.iastore, 1) := by decide +kernel
theorem dX12_plan_537 : decode cX12_plan 537 = .ok (.goto (-343), 3) := by decide +kernel
theorem dX12_plan_540 : decode cX12_plan 540 = .ok (.aload_n 0, 1) := by decide +kernel
theorem dX12_plan_541 : decode cX12_plan 541 = .ok (.iconst 1, 1) := by decide +kernel
theorem dX12_plan_542 : decode cX12_plan 542 = .ok (.putfield 225, 3) := by decide +kernel
theorem dX12_plan_545 : decode cX12_plan 545 = .ok (.aload_n 0, 1) := by decide +kernel
theorem dX12_plan_546 : decode cX12_plan 546 = .ok (.iload_n 1, 1) := by decide +kernel
theorem dX12_plan_547 : decode cX12_plan 547 = .ok (.putfield 228, 3) := by decide +kernel
theorem dX12_plan_550 : decode cX12_plan 550 = .ok (.iload 7, 2) := by decide +kernel
theorem dX12_plan_552 : decode cX12_plan 552 = .ok (.ireturn, 1) := by decide +kernel
theorem dX12_planned_0 : decode cX12_planned 0 = .ok (.aload_n 0, 1) := by decide +kernel
theorem dX12_planned_1 : decode cX12_planned 1 = .ok (.getfield 225, 3) := by decide +kernel
theorem dX12_planned_4 : decode cX12_planned 4 = .ok (.ifCond .eq 34, 3) := by decide +kernel
theorem dX12_planned_7 : decode cX12_planned 7 = .ok (.iload_n 1, 1) := by decide +kernel
theorem dX12_planned_8 : decode cX12_planned 8 = .ok (.iconst 0, 1) := by decide +kernel
theorem dX12_planned_9 : decode cX12_planned 9 = .ok (.bipush 7, 2) := by decide +kernel
theorem dX12_planned_11 : decode cX12_planned 11 = .ok (.invokestatic 164, 3) := by decide +kernel
theorem dX12_planned_14 : decode cX12_planned 14 = .ok (.ifCond .eq 24, 3) := by decide +kernel
theorem dX12_planned_17 : decode cX12_planned 17 = .ok (.aload_n 0, 1) := by decide +kernel
theorem dX12_planned_18 : decode cX12_planned 18 = .ok (.getfield 228, 3) := by decide +kernel
theorem dX12_planned_21 : decode cX12_planned 21 = .ok (.iload_n 1, 1) := by decide +kernel
theorem dX12_planned_22 : decode cX12_planned 22 = .ok (.ishr, 1) := by decide +kernel
theorem dX12_planned_23 : decode cX12_planned 23 = .ok (.iconst 1, 1) := by decide +kernel
theorem dX12_planned_24 : decode cX12_planned 24 = .ok (.iand, 1) := by decide +kernel
theorem dX12_planned_25 : decode cX12_planned 25 = .ok (.iconst 1, 1) := by decide +kernel
theorem dX12_planned_26 : decode cX12_planned 26 = .ok (.if_icmp .ne 12, 3) := by decide +kernel
theorem dX12_planned_29 : decode cX12_planned 29 = .ok (.aload_n 0, 1) := by decide +kernel
theorem dX12_planned_30 : decode cX12_planned 30 = .ok (.getfield 72, 3) := by decide +kernel
theorem dX12_planned_33 : decode cX12_planned 33 = .ok (.iload_n 1, 1) := by decide +kernel
theorem dX12_planned_34 : decode cX12_planned 34 = .ok (.iaload, 1) := by decide +kernel
theorem dX12_planned_35 : decode cX12_planned 35 = .ok (.goto 4, 3) := by decide +kernel
theorem dX12_planned_38 : decode cX12_planned 38 = .ok (.iconst (-1), 1) := by decide +kernel
theorem dX12_planned_39 : decode cX12_planned 39 = .ok (.ireturn, 1) := by decide +kernel
theorem dX12_isPlace_0 : decode cX12_isPlace 0 = .ok (.iload_n 1, 1) := by decide +kernel
theorem dX12_isPlace_1 : decode cX12_isPlace 1 = .ok (.ifCond .lt 25, 3) := by decide +kernel
theorem dX12_isPlace_4 : decode cX12_isPlace 4 = .ok (.aload_n 0, 1) := by decide +kernel
theorem dX12_isPlace_5 : decode cX12_isPlace 5 = .ok (.iload_n 1, 1) := by decide +kernel
theorem dX12_isPlace_6 : decode cX12_isPlace 6 = .ok (.bipush 100, 2) := by decide +kernel
theorem dX12_isPlace_8 : decode cX12_isPlace 8 = .ok (.idiv, 1) := by decide +kernel
theorem dX12_isPlace_9 : decode cX12_isPlace 9 = .ok (.invokevirtual 168, 3) := by decide +kernel
theorem dX12_isPlace_12 : decode cX12_isPlace 12 = .ok (.ifCond .eq 14, 3) := by decide +kernel
theorem dX12_isPlace_15 : decode cX12_isPlace 15 = .ok (.iload_n 1, 1) := by decide +kernel
theorem dX12_isPlace_16 : decode cX12_isPlace 16 = .ok (.bipush 100, 2) := by decide +kernel
theorem dX12_isPlace_18 : decode cX12_isPlace 18 = .ok (.irem, 1) := by decide +kernel
theorem dX12_isPlace_19 : decode cX12_isPlace 19 = .ok (.ifCond .le 7, 3) := by decide +kernel
theorem dX12_isPlace_22 : decode cX12_isPlace 22 = .ok (.iconst 1, 1) := by decide +kernel
theorem dX12_isPlace_23 : decode cX12_isPlace 23 = .ok (.goto 4, 3) := by decide +kernel
theorem dX12_isPlace_26 : decode cX12_isPlace 26 = .ok (.iconst 0, 1) := by decide +kernel
theorem dX12_isPlace_27 : decode cX12_isPlace 27 = .ok (.ireturn, 1) := by decide +kernel
theorem dX12_house_0 : decode cX12_house 0 = .ok (.aload_n 0, 1) := by decide +kernel
theorem dX12_house_1 : decode cX12_house 1 = .ok (.iload_n 1, 1) := by decide +kernel
theorem dX12_house_2 : decode cX12_house 2 = .ok (.invokevirtual 231, 3) := by decide +kernel
theorem dX12_house_5 : decode cX12_house 5 = .ok (.ifCond .eq 38, 3) := by decide +kernel
theorem dX12_house_8 : decode cX12_house 8 = .ok (.iload_n 2, 1) := by decide +kernel
theorem dX12_house_9 : decode cX12_house 9 = .ok (.iconst (-1), 1) := by decide +kernel
theorem dX12_house_10 : decode cX12_house 10 = .ok (.if_icmp .eq 22, 3) := by decide +kernel
theorem dX12_house_13 : decode cX12_house 13 = .ok (.aload_n 0, 1) := by decide +kernel
theorem dX12_house_14 : decode cX12_house 14 = .ok (.iload_n 2, 1) := by decide +kernel
theorem dX12_house_15 : decode cX12_house 15 = .ok (.invokevirtual 231, 3) := by decide +kernel
theorem dX12_house_18 : decode cX12_house 18 = .ok (.ifCond .eq 25, 3) := by decide +kernel
theorem dX12_house_21 : decode cX12_house 21 = .ok (.iload_n 2, 1) := by decide +kernel
theorem dX12_house_22 : decode cX12_house 22 = .ok (.bipush 100, 2) := by decide +kernel
theorem dX12_house_24 : decode cX12_house 24 = .ok (.idiv, 1) := by decide +kernel
theorem dX12_house_25 : decode cX12_house 25 = .ok (.iload_n 1, 1) := by decide +kernel
theorem dX12_house_26 : decode cX12_house 26 = .ok (.bipush 100, 2) := by decide +kernel
theorem dX12_house_28 : decode cX12_house 28 = .ok (.idiv, 1) := by decide +kernel
theorem dX12_house_29 : decode cX12_house 29 = .ok (.if_icmp .eq 14, 3) := by decide +kernel
theorem dX12_house_32 : decode cX12_house 32 = .ok (.iload_n 3, 1) := by decide +kernel
theorem dX12_house_33 : decode cX12_house 33 = .ok (.iconst 0, 1) := by decide +kernel
theorem dX12_house_34 : decode cX12_house 34 = .ok (.sipush 999, 3) := by decide +kernel
theorem dX12_house_37 : decode cX12_house 37 = .ok (.invokestatic 164, 3) := by decide +kernel
theorem dX12_house_40 : decode cX12_house 40 = .ok (.ifCond .ne 5, 3) := by decide +kernel
theorem dX12_house_43 : decode cX12_house 43 = .ok (.iconst (-1), 1) := by decide +kernel
theorem dX12_house_44 : decode cX12_house 44 = .ok (.ireturn, 1) := by decide +kernel
theorem dX12_house_45 : decode cX12_house 45 = .ok (.aload_n 0, 1) := by decide +kernel
theorem dX12_house_46 : decode cX12_house 46 = .ok (.getfield 234, 3) := by decide +kernel
theorem dX12_house_49 : decode cX12_house 49 = .ok (.bipush 60, 2) := by decide +kernel
theorem dX12_house_51 : decode cX12_house 51 = .ok (.if_icmp .ne 6, 3) := by decide +kernel
theorem dX12_house_54 : decode cX12_house 54 = .ok (.bipush (-3), 2) := by decide +kernel
theorem dX12_house_56 : decode cX12_house 56 = .ok (.ireturn, 1) := by decide +kernel
theorem dX12_house_57 : decode cX12_house 57 = .ok (.aload_n 0, 1) := by decide +kernel
theorem dX12_house_58 : decode cX12_house 58 = .ok (.getfield 84, 3) := by decide +kernel
theorem dX12_house_61 : decode cX12_house 61 = .ok (.aload_n 0, 1) := by decide +kernel
theorem dX12_house_62 : decode cX12_house 62 = .ok (.getfield 234, 3) := by decide +kernel
theorem dX12_house_65 : decode cX12_house 65 = .ok (.iload_n 1, 1) := by decide +kernel
theorem dX12_house_66 : decode cX12_house 66 = .ok (.bipush 100, 2) := by decide +kernel
theorem dX12_house_68 : decode cX12_house 68 = .ok (.idiv, 1) := by decide +kernel
theorem dX12_house_69 : decode cX12_house 69 = .ok (.iastore, 1) := by decide +kernel
theorem dX12_house_70 : decode cX12_house 70 = .ok (.aload_n 0, 1) := by decide +kernel
theorem dX12_house_71 : decode cX12_house 71 = .ok (.getfield 87, 3) := by decide +kernel
theorem dX12_house_74 : decode cX12_house 74 = .ok (.aload_n 0, 1) := by decide +kernel
theorem dX12_house_75 : decode cX12_house 75 = .ok (.getfield 234, 3) := by decide +kernel
theorem dX12_house_78 : decode cX12_house 78 = .ok (.iload_n 1, 1) := by decide +kernel
theorem dX12_house_79 : decode cX12_house 79 = .ok (.bipush 100, 2) := by decide +kernel
theorem dX12_house_81 : decode cX12_house 81 = .ok (.irem, 1) := by decide +kernel
theorem dX12_house_82 : decode cX12_house 82 = .ok (.iastore, 1) := by decide +kernel
theorem dX12_house_83 : decode cX12_house 83 = .ok (.aload_n 0, 1) := by decide +kernel
theorem dX12_house_84 : decode cX12_house 84 = .ok (.getfield 90, 3) := by decide +kernel
theorem dX12_house_87 : decode cX12_house 87 = .ok (.aload_n 0, 1) := by decide +kernel
theorem dX12_house_88 : decode cX12_house 88 = .ok (.getfield 234, 3) := by decide +kernel
theorem dX12_house_91 : decode cX12_house 91 = .ok (.iload_n 2, 1) := by decide +kernel
theorem dX12_house_92 : decode cX12_house 92 = .ok (.ifCond .ge 7, 3) := by decide +kernel
theorem dX12_house_95 : decode cX12_house 95 = .ok (.iconst (-1), 1) := by decide +kernel
theorem dX12_house_96 : decode cX12_house 96 = .ok (.goto 7, 3) := by decide +kernel
theorem dX12_house_99 : decode cX12_house 99 = .ok (.iload_n 2, 1) := by decide +kernel
theorem dX12_house_100 : decode cX12_house 100 = .ok (.bipush 100, 2) := by decide +kernel
theorem dX12_house_102 : decode cX12_house 102 = .ok (.idiv, 1) := by decide +kernel
theorem dX12_house_103 : decode cX12_house 103 = .ok (.iastore, 1) := by decide +kernel
theorem dX12_house_104 : decode cX12_house 104 = .ok (.aload_n 0, 1) := by decide +kernel
theorem dX12_house_105 : decode cX12_house 105 = .ok (.getfield 93, 3) := by decide +kernel
theorem dX12_house_108 : decode cX12_house 108 = .ok (.aload_n 0, 1) := by decide +kernel
theorem dX12_house_109 : decode cX12_house 109 = .ok (.getfield 234, 3) := by decide +kernel
theorem dX12_house_112 : decode cX12_house 112 = .ok (.iload_n 2, 1) := by decide +kernel
theorem dX12_house_113 : decode cX12_house 113 = .ok (.ifCond .ge 7, 3) := by decide +kernel
theorem dX12_house_116 : decode cX12_house 116 = .ok (.iconst 0, 1) := by decide +kernel
theorem dX12_house_117 : decode cX12_house 117 = .ok (.goto 7, 3) := by decide +kernel
theorem dX12_house_120 : decode cX12_house 120 = .ok (.iload_n 2, 1) := by decide +kernel
theorem dX12_house_121 : decode cX12_house 121 = .ok (.bipush 100, 2) := by decide +kernel
theorem dX12_house_123 : decode cX12_house 123 = .ok (.irem, 1) := by decide +kernel
theorem dX12_house_124 : decode cX12_house 124 = .ok (.iastore, 1) := by decide +kernel
theorem dX12_house_125 : decode cX12_house 125 = .ok (.aload_n 0, 1) := by decide +kernel
theorem dX12_house_126 : decode cX12_house 126 = .ok (.getfield 96, 3) := by decide +kernel
theorem dX12_house_129 : decode cX12_house 129 = .ok (.aload_n 0, 1) := by decide +kernel
theorem dX12_house_130 : decode cX12_house 130 = .ok (.getfield 234, 3) := by decide +kernel
theorem dX12_house_133 : decode cX12_house 133 = .ok (.iload_n 3, 1) := by decide +kernel
theorem dX12_house_134 : decode cX12_house 134 = .ok (.iastore, 1) := by decide +kernel
theorem dX12_house_135 : decode cX12_house 135 = .ok (.aload_n 0, 1) := by decide +kernel
theorem dX12_house_136 : decode cX12_house 136 = .ok (.dup, 1) := by decide +kernel
theorem dX12_house_137 : decode cX12_house 137 = .ok (.getfield 234, 3) := by decide +kernel
theorem dX12_house_140 : decode cX12_house 140 = .ok (.iconst 1, 1) := by decide +kernel
theorem dX12_house_141 : decode cX12_house 141 = .ok (.iadd, 1) := by decide +kernel
theorem dX12_house_142 : decode cX12_house 142 = .ok (.putfield 234, 3) := by decide +kernel
theorem dX12_house_145 : decode cX12_house 145 = .ok (.aload_n 0, 1) := by decide +kernel
theorem dX12_house_146 : decode cX12_house 146 = .ok (.getfield 234, 3) := by decide +kernel
theorem dX12_house_149 : decode cX12_house 149 = .ok (.iconst 1, 1) := by decide +kernel
theorem dX12_house_150 : decode cX12_house 150 = .ok (.isub, 1) := by decide +kernel
theorem dX12_house_151 : decode cX12_house 151 = .ok (.ireturn, 1) := by decide +kernel
theorem dX12_days_0 : decode cX12_days 0 = .ok (.iload_n 1, 1) := by decide +kernel
theorem dX12_days_1 : decode cX12_days 1 = .ok (.iconst 1, 1) := by decide +kernel
theorem dX12_days_2 : decode cX12_days 2 = .ok (.bipush 100, 2) := by decide +kernel
theorem dX12_days_4 : decode cX12_days 4 = .ok (.invokestatic 164, 3) := by decide +kernel
theorem dX12_days_7 : decode cX12_days 7 = .ok (.ifCond .eq 15, 3) := by decide +kernel
theorem dX12_days_10 : decode cX12_days 10 = .ok (.aload_n 0, 1) := by decide +kernel
theorem dX12_days_11 : decode cX12_days 11 = .ok (.getfield 237, 3) := by decide +kernel
theorem dX12_days_14 : decode cX12_days 14 = .ok (.iload_n 1, 1) := by decide +kernel
theorem dX12_days_15 : decode cX12_days 15 = .ok (.iadd, 1) := by decide +kernel
theorem dX12_days_16 : decode cX12_days 16 = .ok (.sipush 9999, 3) := by decide +kernel
theorem dX12_days_19 : decode cX12_days 19 = .ok (.if_icmp .le 5, 3) := by decide +kernel
theorem dX12_days_22 : decode cX12_days 22 = .ok (.iconst (-1), 1) := by decide +kernel
theorem dX12_days_23 : decode cX12_days 23 = .ok (.ireturn, 1) := by decide +kernel
theorem dX12_days_24 : decode cX12_days 24 = .ok (.aload_n 0, 1) := by decide +kernel
theorem dX12_days_25 : decode cX12_days 25 = .ok (.dup, 1) := by decide +kernel
theorem dX12_days_26 : decode cX12_days 26 = .ok (.getfield 237, 3) := by decide +kernel
theorem dX12_days_29 : decode cX12_days 29 = .ok (.iload_n 1, 1) := by decide +kernel
theorem dX12_days_30 : decode cX12_days 30 = .ok (.iadd, 1) := by decide +kernel
theorem dX12_days_31 : decode cX12_days 31 = .ok (.putfield 237, 3) := by decide +kernel
theorem dX12_days_34 : decode cX12_days 34 = .ok (.aload_n 0, 1) := by decide +kernel
theorem dX12_days_35 : decode cX12_days 35 = .ok (.getfield 237, 3) := by decide +kernel
theorem dX12_days_38 : decode cX12_days 38 = .ok (.ireturn, 1) := by decide +kernel
theorem dX12_feed_0 : decode cX12_feed 0 = .ok (.iload_n 1, 1) := by decide +kernel
theorem dX12_feed_1 : decode cX12_feed 1 = .ok (.iconst 1, 1) := by decide +kernel
theorem dX12_feed_2 : decode cX12_feed 2 = .ok (.iconst 4, 1) := by decide +kernel
theorem dX12_feed_3 : decode cX12_feed 3 = .ok (.invokestatic 164, 3) := by decide +kernel
theorem dX12_feed_6 : decode cX12_feed 6 = .ok (.ifCond .ne 5, 3) := by decide +kernel
theorem dX12_feed_9 : decode cX12_feed 9 = .ok (.iconst (-1), 1) := by decide +kernel
theorem dX12_feed_10 : decode cX12_feed 10 = .ok (.ireturn, 1) := by decide +kernel
theorem dX12_feed_11 : decode cX12_feed 11 = .ok (.aload_n 0, 1) := by decide +kernel
theorem dX12_feed_12 : decode cX12_feed 12 = .ok (.getfield 240, 3) := by decide +kernel
theorem dX12_feed_15 : decode cX12_feed 15 = .ok (.iload_n 1, 1) := by decide +kernel
theorem dX12_feed_16 : decode cX12_feed 16 = .ok (.iadd, 1) := by decide +kernel
theorem dX12_feed_17 : decode cX12_feed 17 = .ok (.sipush 160, 3) := by decide +kernel
theorem dX12_feed_20 : decode cX12_feed 20 = .ok (.if_icmp .le 6, 3) := by decide +kernel
theorem dX12_feed_23 : decode cX12_feed 23 = .ok (.bipush (-3), 2) := by decide +kernel
theorem dX12_feed_25 : decode cX12_feed 25 = .ok (.ireturn, 1) := by decide +kernel
theorem dX12_feed_26 : decode cX12_feed 26 = .ok (.iconst 0, 1) := by decide +kernel
theorem dX12_feed_27 : decode cX12_feed 27 = .ok (.istore_n 3, 1) := by decide +kernel
theorem dX12_feed_28 : decode cX12_feed 28 = .ok (.iload_n 3, 1) := by decide +kernel
theorem dX12_feed_29 : decode cX12_feed 29 = .ok (.iload_n 1, 1) := by decide +kernel
theorem dX12_feed_30 : decode cX12_feed 30 = .ok (.if_icmp .ge 35, 3) := by decide +kernel
theorem dX12_feed_33 : decode cX12_feed 33 = .ok (.aload_n 0, 1) := by decide +kernel
theorem dX12_feed_34 : decode cX12_feed 34 = .ok (.getfield 99, 3) := by decide +kernel
theorem dX12_feed_37 : decode cX12_feed 37 = .ok (.aload_n 0, 1) := by decide +kernel
theorem dX12_feed_38 : decode cX12_feed 38 = .ok (.getfield 240, 3) := by decide +kernel
theorem dX12_feed_41 : decode cX12_feed 41 = .ok (.iload_n 2, 1) := by decide +kernel
theorem dX12_feed_42 : decode cX12_feed 42 = .ok (.bipush 8, 2) := by decide +kernel
theorem dX12_feed_44 : decode cX12_feed 44 = .ok (.iload_n 3, 1) := by decide +kernel
theorem dX12_feed_45 : decode cX12_feed 45 = .ok (.imul, 1) := by decide +kernel
theorem dX12_feed_46 : decode cX12_feed 46 = .ok (.ishr, 1) := by decide +kernel
theorem dX12_feed_47 : decode cX12_feed 47 = .ok (.i2b, 1) := by decide +kernel
theorem dX12_feed_48 : decode cX12_feed 48 = .ok (.bastore, 1) := by decide +kernel
theorem dX12_feed_49 : decode cX12_feed 49 = .ok (.aload_n 0, 1) := by decide +kernel
theorem dX12_feed_50 : decode cX12_feed 50 = .ok (.dup, 1) := by decide +kernel
theorem dX12_feed_51 : decode cX12_feed 51 = .ok (.getfield 240, 3) := by decide +kernel
theorem dX12_feed_54 : decode cX12_feed 54 = .ok (.iconst 1, 1) := by decide +kernel
theorem dX12_feed_55 : decode cX12_feed 55 = .ok (.iadd, 1) := by decide +kernel
theorem dX12_feed_56 : decode cX12_feed 56 = .ok (.putfield 240, 3) := by decide +kernel
theorem dX12_feed_59 : decode cX12_feed 59 = .ok (.iinc 3 1, 3) := by decide +kernel
theorem dX12_feed_62 : decode cX12_feed 62 = .ok (.goto (-34), 3) := by decide +kernel
theorem dX12_feed_65 : decode cX12_feed 65 = .ok (.aload_n 0, 1) := by decide +kernel
theorem dX12_feed_66 : decode cX12_feed 66 = .ok (.getfield 240, 3) := by decide +kernel
theorem dX12_feed_69 : decode cX12_feed 69 = .ok (.ireturn, 1) := by decide +kernel
theorem dX12_isDigit_0 : decode cX12_isDigit 0 = .ok (.iload_n 0, 1) := by decide +kernel
theorem dX12_isDigit_1 : decode cX12_isDigit 1 = .ok (.bipush 48, 2) := by decide +kernel
theorem dX12_isDigit_3 : decode cX12_isDigit 3 = .ok (.if_icmp .lt 13, 3) := by decide +kernel
theorem dX12_isDigit_6 : decode cX12_isDigit 6 = .ok (.iload_n 0, 1) := by decide +kernel
theorem dX12_isDigit_7 : decode cX12_isDigit 7 = .ok (.bipush 57, 2) := by decide +kernel
theorem dX12_isDigit_9 : decode cX12_isDigit 9 = .ok (.if_icmp .gt 7, 3) := by decide +kernel
theorem dX12_isDigit_12 : decode cX12_isDigit 12 = .ok (.iconst 1, 1) := by decide +kernel
theorem dX12_isDigit_13 : decode cX12_isDigit 13 = .ok (.goto 4, 3) := by decide +kernel
theorem dX12_isDigit_16 : decode cX12_isDigit 16 = .ok (.iconst 0, 1) := by decide +kernel
theorem dX12_isDigit_17 : decode cX12_isDigit 17 = .ok (.ireturn, 1) := by decide +kernel
theorem dX12_isName_0 : decode cX12_isName 0 = .ok (.iload_n 0, 1) := by decide +kernel
theorem dX12_isName_1 : decode cX12_isName 1 = .ok (.bipush 115, 2) := by decide +kernel
theorem dX12_isName_3 : decode cX12_isName 3 = .ok (.if_icmp .ne 5, 3) := by decide +kernel
theorem dX12_isName_6 : decode cX12_isName 6 = .ok (.iconst 1, 1) := by decide +kernel
theorem dX12_isName_7 : decode cX12_isName 7 = .ok (.ireturn, 1) := by decide +kernel
theorem dX12_isName_8 : decode cX12_isName 8 = .ok (.iload_n 1, 1) := by decide +kernel
theorem dX12_isName_9 : decode cX12_isName 9 = .ok (.ifCond .ne 41, 3) := by decide +kernel
theorem dX12_isName_12 : decode cX12_isName 12 = .ok (.iload_n 0, 1) := by decide +kernel
theorem dX12_isName_13 : decode cX12_isName 13 = .ok (.bipush 102, 2) := by decide +kernel
theorem dX12_isName_15 : decode cX12_isName 15 = .ok (.if_icmp .eq 27, 3) := by decide +kernel
theorem dX12_isName_18 : decode cX12_isName 18 = .ok (.iload_n 0, 1) := by decide +kernel
theorem dX12_isName_19 : decode cX12_isName 19 = .ok (.bipush 103, 2) := by decide +kernel
theorem dX12_isName_21 : decode cX12_isName 21 = .ok (.if_icmp .eq 21, 3) := by decide +kernel
theorem dX12_isName_24 : decode cX12_isName 24 = .ok (.iload_n 0, 1) := by decide +kernel
theorem dX12_isName_25 : decode cX12_isName 25 = .ok (.bipush 118, 2) := by decide +kernel
theorem dX12_isName_27 : decode cX12_isName 27 = .ok (.if_icmp .eq 15, 3) := by decide +kernel
theorem dX12_isName_30 : decode cX12_isName 30 = .ok (.iload_n 0, 1) := by decide +kernel
theorem dX12_isName_31 : decode cX12_isName 31 = .ok (.bipush 99, 2) := by decide +kernel
theorem dX12_isName_33 : decode cX12_isName 33 = .ok (.if_icmp .eq 9, 3) := by decide +kernel
theorem dX12_isName_36 : decode cX12_isName 36 = .ok (.iload_n 0, 1) := by decide +kernel
theorem dX12_isName_37 : decode cX12_isName 37 = .ok (.bipush 121, 2) := by decide +kernel
theorem dX12_isName_39 : decode cX12_isName 39 = .ok (.if_icmp .ne 7, 3) := by decide +kernel
theorem dX12_isName_42 : decode cX12_isName 42 = .ok (.iconst 1, 1) := by decide +kernel
theorem dX12_isName_43 : decode cX12_isName 43 = .ok (.goto 36, 3) := by decide +kernel
theorem dX12_isName_46 : decode cX12_isName 46 = .ok (.iconst 0, 1) := by decide +kernel
theorem dX12_isName_47 : decode cX12_isName 47 = .ok (.goto 32, 3) := by decide +kernel
theorem dX12_isName_50 : decode cX12_isName 50 = .ok (.iload_n 0, 1) := by decide +kernel
theorem dX12_isName_51 : decode cX12_isName 51 = .ok (.bipush 100, 2) := by decide +kernel
theorem dX12_isName_53 : decode cX12_isName 53 = .ok (.if_icmp .eq 21, 3) := by decide +kernel
theorem dX12_isName_56 : decode cX12_isName 56 = .ok (.iload_n 0, 1) := by decide +kernel
theorem dX12_isName_57 : decode cX12_isName 57 = .ok (.bipush 108, 2) := by decide +kernel
theorem dX12_isName_59 : decode cX12_isName 59 = .ok (.if_icmp .eq 15, 3) := by decide +kernel
theorem dX12_isName_62 : decode cX12_isName 62 = .ok (.iload_n 0, 1) := by decide +kernel
theorem dX12_isName_63 : decode cX12_isName 63 = .ok (.bipush 119, 2) := by decide +kernel
theorem dX12_isName_65 : decode cX12_isName 65 = .ok (.if_icmp .eq 9, 3) := by decide +kernel
theorem dX12_isName_68 : decode cX12_isName 68 = .ok (.iload_n 0, 1) := by decide +kernel
theorem dX12_isName_69 : decode cX12_isName 69 = .ok (.bipush 110, 2) := by decide +kernel
theorem dX12_isName_71 : decode cX12_isName 71 = .ok (.if_icmp .ne 7, 3) := by decide +kernel
theorem dX12_isName_74 : decode cX12_isName 74 = .ok (.iconst 1, 1) := by decide +kernel
theorem dX12_isName_75 : decode cX12_isName 75 = .ok (.goto 4, 3) := by decide +kernel
theorem dX12_isName_78 : decode cX12_isName 78 = .ok (.iconst 0, 1) := by decide +kernel
theorem dX12_isName_79 : decode cX12_isName 79 = .ok (.ireturn, 1) := by decide +kernel
theorem dX12_signOf_0 : decode cX12_signOf 0 = .ok (.iload_n 0, 1) := by decide +kernel
theorem dX12_signOf_1 : decode cX12_signOf 1 = .ok (.tableswitch 143 37 62 #[140, 143, 143, 143, 143, 134, 128, 143, 131, 143, 137, 143, 143, 143, 143, 143, 143, 143, 143, 143, 143, 143, 143, 119, 122, 125], 119) := by decide +kernel
theorem dX12_signOf_120 : decode cX12_signOf 120 = .ok (.bipush 40, 2) := by decide +kernel
theorem dX12_signOf_122 : decode cX12_signOf 122 = .ok (.ireturn, 1) := by decide +kernel
theorem dX12_signOf_123 : decode cX12_signOf 123 = .ok (.bipush 41, 2) := by decide +kernel
theorem dX12_signOf_125 : decode cX12_signOf 125 = .ok (.ireturn, 1) := by decide +kernel
theorem dX12_signOf_126 : decode cX12_signOf 126 = .ok (.bipush 42, 2) := by decide +kernel
theorem dX12_signOf_128 : decode cX12_signOf 128 = .ok (.ireturn, 1) := by decide +kernel
theorem dX12_signOf_129 : decode cX12_signOf 129 = .ok (.bipush 50, 2) := by decide +kernel
theorem dX12_signOf_131 : decode cX12_signOf 131 = .ok (.ireturn, 1) := by decide +kernel
theorem dX12_signOf_132 : decode cX12_signOf 132 = .ok (.bipush 51, 2) := by decide +kernel
theorem dX12_signOf_134 : decode cX12_signOf 134 = .ok (.ireturn, 1) := by decide +kernel
theorem dX12_signOf_135 : decode cX12_signOf 135 = .ok (.bipush 60, 2) := by decide +kernel
theorem dX12_signOf_137 : decode cX12_signOf 137 = .ok (.ireturn, 1) := by decide +kernel
theorem dX12_signOf_138 : decode cX12_signOf 138 = .ok (.bipush 61, 2) := by decide +kernel
theorem dX12_signOf_140 : decode cX12_signOf 140 = .ok (.ireturn, 1) := by decide +kernel
theorem dX12_signOf_141 : decode cX12_signOf 141 = .ok (.bipush 62, 2) := by decide +kernel
theorem dX12_signOf_143 : decode cX12_signOf 143 = .ok (.ireturn, 1) := by decide +kernel
theorem dX12_signOf_144 : decode cX12_signOf 144 = .ok (.iconst 0, 1) := by decide +kernel
theorem dX12_signOf_145 : decode cX12_signOf 145 = .ok (.ireturn, 1) := by decide +kernel
theorem dX12_tight_0 : decode cX12_tight 0 = .ok (.iload_n 0, 1) := by decide +kernel
theorem dX12_tight_1 : decode cX12_tight 1 = .ok (.bipush 10, 2) := by decide +kernel
theorem dX12_tight_3 : decode cX12_tight 3 = .ok (.idiv, 1) := by decide +kernel
theorem dX12_tight_4 : decode cX12_tight 4 = .ok (.ireturn, 1) := by decide +kernel
theorem dX12_adds_0 : decode cX12_adds 0 = .ok (.aload_n 0, 1) := by decide +kernel
theorem dX12_adds_1 : decode cX12_adds 1 = .ok (.getfield 115, 3) := by decide +kernel
theorem dX12_adds_4 : decode cX12_adds 4 = .ok (.sipush 170, 3) := by decide +kernel
theorem dX12_adds_7 : decode cX12_adds 7 = .ok (.iload_n 1, 1) := by decide +kernel
theorem dX12_adds_8 : decode cX12_adds 8 = .ok (.imul, 1) := by decide +kernel
theorem dX12_adds_9 : decode cX12_adds 9 = .ok (.aload_n 0, 1) := by decide +kernel
theorem dX12_adds_10 : decode cX12_adds 10 = .ok (.getfield 243, 3) := by decide +kernel
theorem dX12_adds_13 : decode cX12_adds 13 = .ok (.iadd, 1) := by decide +kernel
theorem dX12_adds_14 : decode cX12_adds 14 = .ok (.iload_n 2, 1) := by decide +kernel
theorem dX12_adds_15 : decode cX12_adds 15 = .ok (.iastore, 1) := by decide +kernel
theorem dX12_adds_16 : decode cX12_adds 16 = .ok (.aload_n 0, 1) := by decide +kernel
theorem dX12_adds_17 : decode cX12_adds 17 = .ok (.getfield 118, 3) := by decide +kernel
theorem dX12_adds_20 : decode cX12_adds 20 = .ok (.sipush 170, 3) := by decide +kernel
theorem dX12_adds_23 : decode cX12_adds 23 = .ok (.iload_n 1, 1) := by decide +kernel
theorem dX12_adds_24 : decode cX12_adds 24 = .ok (.imul, 1) := by decide +kernel
theorem dX12_adds_25 : decode cX12_adds 25 = .ok (.aload_n 0, 1) := by decide +kernel
theorem dX12_adds_26 : decode cX12_adds 26 = .ok (.getfield 243, 3) := by decide +kernel
theorem dX12_adds_29 : decode cX12_adds 29 = .ok (.iadd, 1) := by decide +kernel
theorem dX12_adds_30 : decode cX12_adds 30 = .ok (.iload_n 3, 1) := by decide +kernel
theorem dX12_adds_31 : decode cX12_adds 31 = .ok (.iastore, 1) := by decide +kernel
theorem dX12_adds_32 : decode cX12_adds 32 = .ok (.aload_n 0, 1) := by decide +kernel
theorem dX12_adds_33 : decode cX12_adds 33 = .ok (.dup, 1) := by decide +kernel
theorem dX12_adds_34 : decode cX12_adds 34 = .ok (.getfield 243, 3) := by decide +kernel
theorem dX12_adds_37 : decode cX12_adds 37 = .ok (.iconst 1, 1) := by decide +kernel
theorem dX12_adds_38 : decode cX12_adds 38 = .ok (.iadd, 1) := by decide +kernel
theorem dX12_adds_39 : decode cX12_adds 39 = .ok (.putfield 243, 3) := by decide +kernel
theorem dX12_adds_42 : decode cX12_adds 42 = .ok (.return_, 1) := by decide +kernel
theorem dX12_done_0 : decode cX12_done 0 = .ok (.aload_n 0, 1) := by decide +kernel
theorem dX12_done_1 : decode cX12_done 1 = .ok (.getfield 246, 3) := by decide +kernel
theorem dX12_done_4 : decode cX12_done 4 = .ok (.ifCond .le 64, 3) := by decide +kernel
theorem dX12_done_7 : decode cX12_done 7 = .ok (.aload_n 0, 1) := by decide +kernel
theorem dX12_done_8 : decode cX12_done 8 = .ok (.getfield 121, 3) := by decide +kernel
theorem dX12_done_11 : decode cX12_done 11 = .ok (.aload_n 0, 1) := by decide +kernel
theorem dX12_done_12 : decode cX12_done 12 = .ok (.getfield 246, 3) := by decide +kernel
theorem dX12_done_15 : decode cX12_done 15 = .ok (.iconst 1, 1) := by decide +kernel
theorem dX12_done_16 : decode cX12_done 16 = .ok (.isub, 1) := by decide +kernel
theorem dX12_done_17 : decode cX12_done 17 = .ok (.iaload, 1) := by decide +kernel
theorem dX12_done_18 : decode cX12_done 18 = .ok (.iconst 4, 1) := by decide +kernel
theorem dX12_done_19 : decode cX12_done 19 = .ok (.if_icmp .eq 49, 3) := by decide +kernel
theorem dX12_done_22 : decode cX12_done 22 = .ok (.aload_n 0, 1) := by decide +kernel
theorem dX12_done_23 : decode cX12_done 23 = .ok (.getfield 121, 3) := by decide +kernel
theorem dX12_done_26 : decode cX12_done 26 = .ok (.aload_n 0, 1) := by decide +kernel
theorem dX12_done_27 : decode cX12_done 27 = .ok (.getfield 246, 3) := by decide +kernel
theorem dX12_done_30 : decode cX12_done 30 = .ok (.iconst 1, 1) := by decide +kernel
theorem dX12_done_31 : decode cX12_done 31 = .ok (.isub, 1) := by decide +kernel
theorem dX12_done_32 : decode cX12_done 32 = .ok (.iaload, 1) := by decide +kernel
theorem dX12_done_33 : decode cX12_done 33 = .ok (.invokestatic 249, 3) := by decide +kernel
theorem dX12_done_36 : decode cX12_done 36 = .ok (.iload_n 2, 1) := by decide +kernel
theorem dX12_done_37 : decode cX12_done 37 = .ok (.if_icmp .lt 31, 3) := by decide +kernel
theorem dX12_done_40 : decode cX12_done 40 = .ok (.aload_n 0, 1) := by decide +kernel
theorem dX12_done_41 : decode cX12_done 41 = .ok (.dup, 1) := by decide +kernel
theorem dX12_done_42 : decode cX12_done 42 = .ok (.getfield 246, 3) := by decide +kernel
theorem dX12_done_45 : decode cX12_done 45 = .ok (.iconst 1, 1) := by decide +kernel
theorem dX12_done_46 : decode cX12_done 46 = .ok (.isub, 1) := by decide +kernel
theorem dX12_done_47 : decode cX12_done 47 = .ok (.putfield 246, 3) := by decide +kernel
theorem dX12_done_50 : decode cX12_done 50 = .ok (.aload_n 0, 1) := by decide +kernel
theorem dX12_done_51 : decode cX12_done 51 = .ok (.iload_n 1, 1) := by decide +kernel
theorem dX12_done_52 : decode cX12_done 52 = .ok (.aload_n 0, 1) := by decide +kernel
theorem dX12_done_53 : decode cX12_done 53 = .ok (.getfield 121, 3) := by decide +kernel
theorem dX12_done_56 : decode cX12_done 56 = .ok (.aload_n 0, 1) := by decide +kernel
theorem dX12_done_57 : decode cX12_done 57 = .ok (.getfield 246, 3) := by decide +kernel
theorem dX12_done_60 : decode cX12_done 60 = .ok (.iaload, 1) := by decide +kernel
theorem dX12_done_61 : decode cX12_done 61 = .ok (.iconst 0, 1) := by decide +kernel
theorem dX12_done_62 : decode cX12_done 62 = .ok (.invokevirtual 252, 3) := by decide +kernel
theorem dX12_done_65 : decode cX12_done 65 = .ok (.goto (-65), 3) := by decide +kernel
theorem dX12_done_68 : decode cX12_done 68 = .ok (.return_, 1) := by decide +kernel
theorem dX12_opened_0 : decode cX12_opened 0 = .ok (.iconst 0, 1) := by decide +kernel
theorem dX12_opened_1 : decode cX12_opened 1 = .ok (.istore_n 1, 1) := by decide +kernel
theorem dX12_opened_2 : decode cX12_opened 2 = .ok (.iconst 0, 1) := by decide +kernel
theorem dX12_opened_3 : decode cX12_opened 3 = .ok (.istore_n 2, 1) := by decide +kernel
theorem dX12_opened_4 : decode cX12_opened 4 = .ok (.iload_n 2, 1) := by decide +kernel
theorem dX12_opened_5 : decode cX12_opened 5 = .ok (.aload_n 0, 1) := by decide +kernel
theorem dX12_opened_6 : decode cX12_opened 6 = .ok (.getfield 246, 3) := by decide +kernel
theorem dX12_opened_9 : decode cX12_opened 9 = .ok (.if_icmp .ge 27, 3) := by decide +kernel
theorem dX12_opened_12 : decode cX12_opened 12 = .ok (.iload_n 1, 1) := by decide +kernel
theorem dX12_opened_13 : decode cX12_opened 13 = .ok (.aload_n 0, 1) := by decide +kernel
theorem dX12_opened_14 : decode cX12_opened 14 = .ok (.getfield 121, 3) := by decide +kernel
theorem dX12_opened_17 : decode cX12_opened 17 = .ok (.iload_n 2, 1) := by decide +kernel
theorem dX12_opened_18 : decode cX12_opened 18 = .ok (.iaload, 1) := by decide +kernel
theorem dX12_opened_19 : decode cX12_opened 19 = .ok (.iconst 4, 1) := by decide +kernel
theorem dX12_opened_20 : decode cX12_opened 20 = .ok (.if_icmp .ne 7, 3) := by decide +kernel
theorem dX12_opened_23 : decode cX12_opened 23 = .ok (.iconst 1, 1) := by decide +kernel
theorem dX12_opened_24 : decode cX12_opened 24 = .ok (.goto 4, 3) := by decide +kernel
theorem dX12_opened_27 : decode cX12_opened 27 = .ok (.iconst 0, 1) := by decide +kernel
theorem dX12_opened_28 : decode cX12_opened 28 = .ok (.iadd, 1) := by decide +kernel
theorem dX12_opened_29 : decode cX12_opened 29 = .ok (.istore_n 1, 1) := by decide +kernel
