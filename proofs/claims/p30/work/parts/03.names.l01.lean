theorem dL_told_147 : decode cL_told 147 = .ok (.aload 8, 2) := by decide +kernel
theorem dL_told_149 : decode cL_told 149 = .ok (.bipush 6, 2) := by decide +kernel
theorem dL_told_151 : decode cL_told 151 = .ok (.iaload, 1) := by decide +kernel
theorem dL_told_152 : decode cL_told 152 = .ok (.if_icmp .ne 95, 3) := by decide +kernel
theorem dL_told_155 : decode cL_told 155 = .ok (.aload_n 0, 1) := by decide +kernel
theorem dL_told_156 : decode cL_told 156 = .ok (.iconst 1, 1) := by decide +kernel
theorem dL_told_157 : decode cL_told 157 = .ok (.invokevirtual 63, 3) := by decide +kernel
theorem dL_told_160 : decode cL_told 160 = .ok (.iconst 3, 1) := by decide +kernel
theorem dL_told_161 : decode cL_told 161 = .ok (.aload_n 2, 1) := by decide +kernel
theorem dL_told_162 : decode cL_told 162 = .ok (.aload 8, 2) := by decide +kernel
theorem dL_told_164 : decode cL_told 164 = .ok (.invokestatic 66, 3) := by decide +kernel
theorem dL_told_167 : decode cL_told 167 = .ok (.if_icmp .ne 80, 3) := by decide +kernel
theorem dL_told_170 : decode cL_told 170 = .ok (.aload_n 0, 1) := by decide +kernel
theorem dL_told_171 : decode cL_told 171 = .ok (.iconst 2, 1) := by decide +kernel
theorem dL_told_172 : decode cL_told 172 = .ok (.invokevirtual 63, 3) := by decide +kernel
theorem dL_told_175 : decode cL_told 175 = .ok (.aload 8, 2) := by decide +kernel
theorem dL_told_177 : decode cL_told 177 = .ok (.iconst 5, 1) := by decide +kernel
theorem dL_told_178 : decode cL_told 178 = .ok (.iaload, 1) := by decide +kernel
theorem dL_told_179 : decode cL_told 179 = .ok (.if_icmp .ne 68, 3) := by decide +kernel
theorem dL_told_182 : decode cL_told 182 = .ok (.aload_n 0, 1) := by decide +kernel
theorem dL_told_183 : decode cL_told 183 = .ok (.iconst 3, 1) := by decide +kernel
theorem dL_told_184 : decode cL_told 184 = .ok (.invokevirtual 63, 3) := by decide +kernel
theorem dL_told_187 : decode cL_told 187 = .ok (.aload 8, 2) := by decide +kernel
theorem dL_told_189 : decode cL_told 189 = .ok (.iconst 5, 1) := by decide +kernel
theorem dL_told_190 : decode cL_told 190 = .ok (.iaload, 1) := by decide +kernel
theorem dL_told_191 : decode cL_told 191 = .ok (.aload 5, 2) := by decide +kernel
theorem dL_told_193 : decode cL_told 193 = .ok (.invokestatic 26, 3) := by decide +kernel
theorem dL_told_196 : decode cL_told 196 = .ok (.if_icmp .ne 51, 3) := by decide +kernel
theorem dL_told_199 : decode cL_told 199 = .ok (.aload_n 0, 1) := by decide +kernel
theorem dL_told_200 : decode cL_told 200 = .ok (.iconst 4, 1) := by decide +kernel
theorem dL_told_201 : decode cL_told 201 = .ok (.invokevirtual 63, 3) := by decide +kernel
theorem dL_told_204 : decode cL_told 204 = .ok (.aload 5, 2) := by decide +kernel
theorem dL_told_206 : decode cL_told 206 = .ok (.iconst 0, 1) := by decide +kernel
theorem dL_told_207 : decode cL_told 207 = .ok (.iaload, 1) := by decide +kernel
theorem dL_told_208 : decode cL_told 208 = .ok (.if_icmp .ne 39, 3) := by decide +kernel
theorem dL_told_211 : decode cL_told 211 = .ok (.aload_n 0, 1) := by decide +kernel
theorem dL_told_212 : decode cL_told 212 = .ok (.iconst 5, 1) := by decide +kernel
theorem dL_told_213 : decode cL_told 213 = .ok (.invokevirtual 63, 3) := by decide +kernel
theorem dL_told_216 : decode cL_told 216 = .ok (.aload 4, 2) := by decide +kernel
theorem dL_told_218 : decode cL_told 218 = .ok (.iconst 0, 1) := by decide +kernel
theorem dL_told_219 : decode cL_told 219 = .ok (.iaload, 1) := by decide +kernel
theorem dL_told_220 : decode cL_told 220 = .ok (.if_icmp .ne 27, 3) := by decide +kernel
theorem dL_told_223 : decode cL_told 223 = .ok (.aload_n 0, 1) := by decide +kernel
theorem dL_told_224 : decode cL_told 224 = .ok (.bipush 6, 2) := by decide +kernel
theorem dL_told_226 : decode cL_told 226 = .ok (.invokevirtual 63, 3) := by decide +kernel
theorem dL_told_229 : decode cL_told 229 = .ok (.aload 4, 2) := by decide +kernel
theorem dL_told_231 : decode cL_told 231 = .ok (.iconst 0, 1) := by decide +kernel
theorem dL_told_232 : decode cL_told 232 = .ok (.iaload, 1) := by decide +kernel
theorem dL_told_233 : decode cL_told 233 = .ok (.ifCond .le 10, 3) := by decide +kernel
theorem dL_told_236 : decode cL_told 236 = .ok (.aload 4, 2) := by decide +kernel
theorem dL_told_238 : decode cL_told 238 = .ok (.iconst 1, 1) := by decide +kernel
theorem dL_told_239 : decode cL_told 239 = .ok (.iaload, 1) := by decide +kernel
theorem dL_told_240 : decode cL_told 240 = .ok (.goto 4, 3) := by decide +kernel
theorem dL_told_243 : decode cL_told 243 = .ok (.iconst (-1), 1) := by decide +kernel
theorem dL_told_244 : decode cL_told 244 = .ok (.if_icmp .eq 5, 3) := by decide +kernel
theorem dL_told_247 : decode cL_told 247 = .ok (.iconst 0, 1) := by decide +kernel
theorem dL_told_248 : decode cL_told 248 = .ok (.ireturn, 1) := by decide +kernel
theorem dL_told_249 : decode cL_told 249 = .ok (.aload_n 0, 1) := by decide +kernel
theorem dL_told_250 : decode cL_told 250 = .ok (.bipush 7, 2) := by decide +kernel
theorem dL_told_252 : decode cL_told 252 = .ok (.invokevirtual 63, 3) := by decide +kernel
theorem dL_told_255 : decode cL_told 255 = .ok (.aload 8, 2) := by decide +kernel
theorem dL_told_257 : decode cL_told 257 = .ok (.iconst 0, 1) := by decide +kernel
theorem dL_told_258 : decode cL_told 258 = .ok (.iaload, 1) := by decide +kernel
theorem dL_told_259 : decode cL_told 259 = .ok (.if_icmp .ne 111, 3) := by decide +kernel
theorem dL_told_262 : decode cL_told 262 = .ok (.aload_n 0, 1) := by decide +kernel
theorem dL_told_263 : decode cL_told 263 = .ok (.bipush 8, 2) := by decide +kernel
theorem dL_told_265 : decode cL_told 265 = .ok (.invokevirtual 63, 3) := by decide +kernel
theorem dL_told_268 : decode cL_told 268 = .ok (.aload 8, 2) := by decide +kernel
theorem dL_told_270 : decode cL_told 270 = .ok (.iconst 2, 1) := by decide +kernel
theorem dL_told_271 : decode cL_told 271 = .ok (.iaload, 1) := by decide +kernel
theorem dL_told_272 : decode cL_told 272 = .ok (.if_icmp .ne 98, 3) := by decide +kernel
theorem dL_told_275 : decode cL_told 275 = .ok (.aload_n 0, 1) := by decide +kernel
theorem dL_told_276 : decode cL_told 276 = .ok (.bipush 9, 2) := by decide +kernel
theorem dL_told_278 : decode cL_told 278 = .ok (.invokevirtual 63, 3) := by decide +kernel
theorem dL_told_281 : decode cL_told 281 = .ok (.aload 8, 2) := by decide +kernel
theorem dL_told_283 : decode cL_told 283 = .ok (.iconst 1, 1) := by decide +kernel
theorem dL_told_284 : decode cL_told 284 = .ok (.iaload, 1) := by decide +kernel
theorem dL_told_285 : decode cL_told 285 = .ok (.if_icmp .ne 85, 3) := by decide +kernel
theorem dL_told_288 : decode cL_told 288 = .ok (.aload_n 0, 1) := by decide +kernel
theorem dL_told_289 : decode cL_told 289 = .ok (.bipush 10, 2) := by decide +kernel
theorem dL_told_291 : decode cL_told 291 = .ok (.invokevirtual 63, 3) := by decide +kernel
theorem dL_told_294 : decode cL_told 294 = .ok (.aload 4, 2) := by decide +kernel
theorem dL_told_296 : decode cL_told 296 = .ok (.iconst 0, 1) := by decide +kernel
theorem dL_told_297 : decode cL_told 297 = .ok (.iaload, 1) := by decide +kernel
theorem dL_told_298 : decode cL_told 298 = .ok (.ifCond .le 21, 3) := by decide +kernel
theorem dL_told_301 : decode cL_told 301 = .ok (.aload 4, 2) := by decide +kernel
theorem dL_told_303 : decode cL_told 303 = .ok (.iconst 1, 1) := by decide +kernel
theorem dL_told_304 : decode cL_told 304 = .ok (.iaload, 1) := by decide +kernel
theorem dL_told_305 : decode cL_told 305 = .ok (.aload 8, 2) := by decide +kernel
theorem dL_told_307 : decode cL_told 307 = .ok (.iconst 4, 1) := by decide +kernel
theorem dL_told_308 : decode cL_told 308 = .ok (.iaload, 1) := by decide +kernel
theorem dL_told_309 : decode cL_told 309 = .ok (.if_icmp .ne 10, 3) := by decide +kernel
theorem dL_told_312 : decode cL_told 312 = .ok (.aload 8, 2) := by decide +kernel
theorem dL_told_314 : decode cL_told 314 = .ok (.iconst 3, 1) := by decide +kernel
theorem dL_told_315 : decode cL_told 315 = .ok (.iaload, 1) := by decide +kernel
theorem dL_told_316 : decode cL_told 316 = .ok (.goto 4, 3) := by decide +kernel
theorem dL_told_319 : decode cL_told 319 = .ok (.iconst 0, 1) := by decide +kernel
theorem dL_told_320 : decode cL_told 320 = .ok (.if_icmp .ne 50, 3) := by decide +kernel
theorem dL_told_323 : decode cL_told 323 = .ok (.aload_n 0, 1) := by decide +kernel
theorem dL_told_324 : decode cL_told 324 = .ok (.bipush 11, 2) := by decide +kernel
theorem dL_told_326 : decode cL_told 326 = .ok (.invokevirtual 63, 3) := by decide +kernel
theorem dL_told_329 : decode cL_told 329 = .ok (.iconst 5, 1) := by decide +kernel
theorem dL_told_330 : decode cL_told 330 = .ok (.aload_n 2, 1) := by decide +kernel
theorem dL_told_331 : decode cL_told 331 = .ok (.aload 8, 2) := by decide +kernel
theorem dL_told_333 : decode cL_told 333 = .ok (.invokestatic 66, 3) := by decide +kernel
theorem dL_told_336 : decode cL_told 336 = .ok (.if_icmp .ne 34, 3) := by decide +kernel
theorem dL_told_339 : decode cL_told 339 = .ok (.aload_n 0, 1) := by decide +kernel
theorem dL_told_340 : decode cL_told 340 = .ok (.bipush 12, 2) := by decide +kernel
theorem dL_told_342 : decode cL_told 342 = .ok (.invokevirtual 63, 3) := by decide +kernel
theorem dL_told_345 : decode cL_told 345 = .ok (.bipush 6, 2) := by decide +kernel
theorem dL_told_347 : decode cL_told 347 = .ok (.aload_n 2, 1) := by decide +kernel
theorem dL_told_348 : decode cL_told 348 = .ok (.aload 8, 2) := by decide +kernel
theorem dL_told_350 : decode cL_told 350 = .ok (.invokestatic 66, 3) := by decide +kernel
theorem dL_told_353 : decode cL_told 353 = .ok (.if_icmp .ne 17, 3) := by decide +kernel
theorem dL_told_356 : decode cL_told 356 = .ok (.aload_n 0, 1) := by decide +kernel
theorem dL_told_357 : decode cL_told 357 = .ok (.bipush 13, 2) := by decide +kernel
theorem dL_told_359 : decode cL_told 359 = .ok (.invokevirtual 63, 3) := by decide +kernel
theorem dL_told_362 : decode cL_told 362 = .ok (.aload 8, 2) := by decide +kernel
theorem dL_told_364 : decode cL_told 364 = .ok (.bipush 7, 2) := by decide +kernel
theorem dL_told_366 : decode cL_told 366 = .ok (.iaload, 1) := by decide +kernel
theorem dL_told_367 : decode cL_told 367 = .ok (.if_icmp .eq 5, 3) := by decide +kernel
theorem dL_told_370 : decode cL_told 370 = .ok (.iconst 0, 1) := by decide +kernel
theorem dL_told_371 : decode cL_told 371 = .ok (.ireturn, 1) := by decide +kernel
theorem dL_told_372 : decode cL_told 372 = .ok (.iconst 0, 1) := by decide +kernel
theorem dL_told_373 : decode cL_told 373 = .ok (.istore 9, 2) := by decide +kernel
theorem dL_told_375 : decode cL_told 375 = .ok (.iconst 1, 1) := by decide +kernel
theorem dL_told_376 : decode cL_told 376 = .ok (.istore 10, 2) := by decide +kernel
theorem dL_told_378 : decode cL_told 378 = .ok (.iload 10, 2) := by decide +kernel
theorem dL_told_380 : decode cL_told 380 = .ok (.aload 5, 2) := by decide +kernel
theorem dL_told_382 : decode cL_told 382 = .ok (.iconst 0, 1) := by decide +kernel
theorem dL_told_383 : decode cL_told 383 = .ok (.iaload, 1) := by decide +kernel
theorem dL_told_384 : decode cL_told 384 = .ok (.if_icmp .gt 19, 3) := by decide +kernel
theorem dL_told_387 : decode cL_told 387 = .ok (.iload 9, 2) := by decide +kernel
theorem dL_told_389 : decode cL_told 389 = .ok (.aload 5, 2) := by decide +kernel
theorem dL_told_391 : decode cL_told 391 = .ok (.iload 10, 2) := by decide +kernel
theorem dL_told_393 : decode cL_told 393 = .ok (.iaload, 1) := by decide +kernel
theorem dL_told_394 : decode cL_told 394 = .ok (.iadd, 1) := by decide +kernel
theorem dL_told_395 : decode cL_told 395 = .ok (.istore 9, 2) := by decide +kernel
theorem dL_told_397 : decode cL_told 397 = .ok (.iinc 10 1, 3) := by decide +kernel
theorem dL_told_400 : decode cL_told 400 = .ok (.goto (-22), 3) := by decide +kernel
theorem dL_told_403 : decode cL_told 403 = .ok (.iconst 5, 1) := by decide +kernel
theorem dL_told_404 : decode cL_told 404 = .ok (.aload_n 2, 1) := by decide +kernel
theorem dL_told_405 : decode cL_told 405 = .ok (.aload 8, 2) := by decide +kernel
theorem dL_told_407 : decode cL_told 407 = .ok (.invokestatic 66, 3) := by decide +kernel
theorem dL_told_410 : decode cL_told 410 = .ok (.bipush 6, 2) := by decide +kernel
theorem dL_told_412 : decode cL_told 412 = .ok (.aload_n 2, 1) := by decide +kernel
theorem dL_told_413 : decode cL_told 413 = .ok (.aload 8, 2) := by decide +kernel
theorem dL_told_415 : decode cL_told 415 = .ok (.invokestatic 66, 3) := by decide +kernel
theorem dL_told_418 : decode cL_told 418 = .ok (.iadd, 1) := by decide +kernel
theorem dL_told_419 : decode cL_told 419 = .ok (.istore 10, 2) := by decide +kernel
theorem dL_told_421 : decode cL_told 421 = .ok (.iload_n 1, 1) := by decide +kernel
theorem dL_told_422 : decode cL_told 422 = .ok (.bipush 100, 2) := by decide +kernel
theorem dL_told_424 : decode cL_told 424 = .ok (.invokestatic 69, 3) := by decide +kernel
theorem dL_told_427 : decode cL_told 427 = .ok (.istore 11, 2) := by decide +kernel
theorem dL_told_429 : decode cL_told 429 = .ok (.iload_n 1, 1) := by decide +kernel
theorem dL_told_430 : decode cL_told 430 = .ok (.bipush 7, 2) := by decide +kernel
theorem dL_told_432 : decode cL_told 432 = .ok (.ishr, 1) := by decide +kernel
theorem dL_told_433 : decode cL_told 433 = .ok (.bipush 100, 2) := by decide +kernel
theorem dL_told_435 : decode cL_told 435 = .ok (.invokestatic 69, 3) := by decide +kernel
theorem dL_told_438 : decode cL_told 438 = .ok (.istore 12, 2) := by decide +kernel
theorem dL_told_440 : decode cL_told 440 = .ok (.aload_n 0, 1) := by decide +kernel
theorem dL_told_441 : decode cL_told 441 = .ok (.iload 11, 2) := by decide +kernel
theorem dL_told_443 : decode cL_told 443 = .ok (.iload 12, 2) := by decide +kernel
theorem dL_told_445 : decode cL_told 445 = .ok (.invokevirtual 72, 3) := by decide +kernel
theorem dL_told_448 : decode cL_told 448 = .ok (.iload 11, 2) := by decide +kernel
theorem dL_told_450 : decode cL_told 450 = .ok (.iload 12, 2) := by decide +kernel
theorem dL_told_452 : decode cL_told 452 = .ok (.aload 6, 2) := by decide +kernel
theorem dL_told_454 : decode cL_told 454 = .ok (.aload 7, 2) := by decide +kernel
theorem dL_told_456 : decode cL_told 456 = .ok (.aload 8, 2) := by decide +kernel
theorem dL_told_458 : decode cL_told 458 = .ok (.invokestatic 14, 3) := by decide +kernel
theorem dL_told_461 : decode cL_told 461 = .ok (.if_icmp .ne 69, 3) := by decide +kernel
theorem dL_told_464 : decode cL_told 464 = .ok (.aload_n 0, 1) := by decide +kernel
theorem dL_told_465 : decode cL_told 465 = .ok (.invokevirtual 74, 3) := by decide +kernel
theorem dL_told_468 : decode cL_told 468 = .ok (.aload 5, 2) := by decide +kernel
theorem dL_told_470 : decode cL_told 470 = .ok (.iconst 0, 1) := by decide +kernel
theorem dL_told_471 : decode cL_told 471 = .ok (.iaload, 1) := by decide +kernel
theorem dL_told_472 : decode cL_told 472 = .ok (.ifCond .ne 8, 3) := by decide +kernel
theorem dL_told_475 : decode cL_told 475 = .ok (.ldc 78, 2) := by decide +kernel
theorem dL_told_477 : decode cL_told 477 = .ok (.goto 14, 3) := by decide +kernel
theorem dL_told_480 : decode cL_told 480 = .ok (.fconst 1, 1) := by decide +kernel
theorem dL_told_481 : decode cL_told 481 = .ok (.iload 9, 2) := by decide +kernel
theorem dL_told_483 : decode cL_told 483 = .ok (.i2f, 1) := by decide +kernel
theorem dL_told_484 : decode cL_told 484 = .ok (.fmul, 1) := by decide +kernel
theorem dL_told_485 : decode cL_told 485 = .ok (.aload 5, 2) := by decide +kernel
theorem dL_told_487 : decode cL_told 487 = .ok (.iconst 0, 1) := by decide +kernel
theorem dL_told_488 : decode cL_told 488 = .ok (.iaload, 1) := by decide +kernel
theorem dL_told_489 : decode cL_told 489 = .ok (.i2f, 1) := by decide +kernel
theorem dL_told_490 : decode cL_told 490 = .ok (.fdiv, 1) := by decide +kernel
theorem dL_told_491 : decode cL_told 491 = .ok (.fcmp .l, 1) := by decide +kernel
theorem dL_told_492 : decode cL_told 492 = .ok (.ifCond .ne 38, 3) := by decide +kernel
theorem dL_told_495 : decode cL_told 495 = .ok (.aload_n 0, 1) := by decide +kernel
theorem dL_told_496 : decode cL_told 496 = .ok (.invokevirtual 79, 3) := by decide +kernel
theorem dL_told_499 : decode cL_told 499 = .ok (.iload 10, 2) := by decide +kernel
theorem dL_told_501 : decode cL_told 501 = .ok (.ifCond .ne 7, 3) := by decide +kernel
theorem dL_told_504 : decode cL_told 504 = .ok (.dconst 0, 1) := by decide +kernel
theorem dL_told_505 : decode cL_told 505 = .ok (.goto 17, 3) := by decide +kernel
theorem dL_told_508 : decode cL_told 508 = .ok (.dconst 1, 1) := by decide +kernel
theorem dL_told_509 : decode cL_told 509 = .ok (.iconst 5, 1) := by decide +kernel
theorem dL_told_510 : decode cL_told 510 = .ok (.aload_n 2, 1) := by decide +kernel
theorem dL_told_511 : decode cL_told 511 = .ok (.aload 8, 2) := by decide +kernel
theorem dL_told_513 : decode cL_told 513 = .ok (.invokestatic 66, 3) := by decide +kernel
theorem dL_told_516 : decode cL_told 516 = .ok (.i2d, 1) := by decide +kernel
theorem dL_told_517 : decode cL_told 517 = .ok (.dmul, 1) := by decide +kernel
theorem dL_told_518 : decode cL_told 518 = .ok (.iload 10, 2) := by decide +kernel
theorem dL_told_520 : decode cL_told 520 = .ok (.i2d, 1) := by decide +kernel
theorem dL_told_521 : decode cL_told 521 = .ok (.ddiv, 1) := by decide +kernel
theorem dL_told_522 : decode cL_told 522 = .ok (.dcmp .l, 1) := by decide +kernel
theorem dL_told_523 : decode cL_told 523 = .ok (.ifCond .ne 7, 3) := by decide +kernel
theorem dL_told_526 : decode cL_told 526 = .ok (.iconst 1, 1) := by decide +kernel
theorem dL_told_527 : decode cL_told 527 = .ok (.goto 4, 3) := by decide +kernel
theorem dL_told_530 : decode cL_told 530 = .ok (.iconst 0, 1) := by decide +kernel
theorem dL_told_531 : decode cL_told 531 = .ok (.ireturn, 1) := by decide +kernel
theorem dL_window_0 : decode cL_window 0 = .ok (.iconst 0, 1) := by decide +kernel
theorem dL_window_1 : decode cL_window 1 = .ok (.istore 6, 2) := by decide +kernel
theorem dL_window_3 : decode cL_window 3 = .ok (.iload 6, 2) := by decide +kernel
theorem dL_window_5 : decode cL_window 5 = .ok (.bipush 97, 2) := by decide +kernel
theorem dL_window_7 : decode cL_window 7 = .ok (.if_icmp .ge 66, 3) := by decide +kernel
theorem dL_window_10 : decode cL_window 10 = .ok (.iconst 0, 1) := by decide +kernel
theorem dL_window_11 : decode cL_window 11 = .ok (.istore 7, 2) := by decide +kernel
theorem dL_window_13 : decode cL_window 13 = .ok (.iload 7, 2) := by decide +kernel
theorem dL_window_15 : decode cL_window 15 = .ok (.iload_n 1, 1) := by decide +kernel
theorem dL_window_16 : decode cL_window 16 = .ok (.if_icmp .ge 42, 3) := by decide +kernel
theorem dL_window_19 : decode cL_window 19 = .ok (.aload 5, 2) := by decide +kernel
theorem dL_window_21 : decode cL_window 21 = .ok (.iconst 5, 1) := by decide +kernel
theorem dL_window_22 : decode cL_window 22 = .ok (.iaload, 1) := by decide +kernel
theorem dL_window_23 : decode cL_window 23 = .ok (.iload 6, 2) := by decide +kernel
theorem dL_window_25 : decode cL_window 25 = .ok (.iadd, 1) := by decide +kernel
theorem dL_window_26 : decode cL_window 26 = .ok (.iload 7, 2) := by decide +kernel
theorem dL_window_28 : decode cL_window 28 = .ok (.iadd, 1) := by decide +kernel
theorem dL_window_29 : decode cL_window 29 = .ok (.aload_n 3, 1) := by decide +kernel
theorem dL_window_30 : decode cL_window 30 = .ok (.invokestatic 26, 3) := by decide +kernel
theorem dL_window_33 : decode cL_window 33 = .ok (.aload 4, 2) := by decide +kernel
theorem dL_window_35 : decode cL_window 35 = .ok (.iconst 0, 1) := by decide +kernel
theorem dL_window_36 : decode cL_window 36 = .ok (.iaload, 1) := by decide +kernel
theorem dL_window_37 : decode cL_window 37 = .ok (.aload_n 2, 1) := by decide +kernel
theorem dL_window_38 : decode cL_window 38 = .ok (.bipush 7, 2) := by decide +kernel
theorem dL_window_40 : decode cL_window 40 = .ok (.iload_n 0, 1) := by decide +kernel
theorem dL_window_41 : decode cL_window 41 = .ok (.imul, 1) := by decide +kernel
theorem dL_window_42 : decode cL_window 42 = .ok (.iconst 1, 1) := by decide +kernel
theorem dL_window_43 : decode cL_window 43 = .ok (.iadd, 1) := by decide +kernel
theorem dL_window_44 : decode cL_window 44 = .ok (.iaload, 1) := by decide +kernel
theorem dL_window_45 : decode cL_window 45 = .ok (.bipush 25, 2) := by decide +kernel
theorem dL_window_47 : decode cL_window 47 = .ok (.idiv, 1) := by decide +kernel
theorem dL_window_48 : decode cL_window 48 = .ok (.isub, 1) := by decide +kernel
theorem dL_window_49 : decode cL_window 49 = .ok (.if_icmp .gt 9, 3) := by decide +kernel
theorem dL_window_52 : decode cL_window 52 = .ok (.iinc 7 1, 3) := by decide +kernel
theorem dL_window_55 : decode cL_window 55 = .ok (.goto (-42), 3) := by decide +kernel
theorem dL_window_58 : decode cL_window 58 = .ok (.iload 7, 2) := by decide +kernel
theorem dL_window_60 : decode cL_window 60 = .ok (.iload_n 1, 1) := by decide +kernel
theorem dL_window_61 : decode cL_window 61 = .ok (.if_icmp .ne 6, 3) := by decide +kernel
theorem dL_window_64 : decode cL_window 64 = .ok (.iload 6, 2) := by decide +kernel
theorem dL_window_66 : decode cL_window 66 = .ok (.ireturn, 1) := by decide +kernel
theorem dL_window_67 : decode cL_window 67 = .ok (.iinc 6 1, 3) := by decide +kernel
theorem dL_window_70 : decode cL_window 70 = .ok (.goto (-67), 3) := by decide +kernel
theorem dL_window_73 : decode cL_window 73 = .ok (.iconst (-1), 1) := by decide +kernel
theorem dL_window_74 : decode cL_window 74 = .ok (.ireturn, 1) := by decide +kernel
theorem dL_same_0 : decode cL_same 0 = .ok (.iconst 0, 1) := by decide +kernel
theorem dL_same_1 : decode cL_same 1 = .ok (.istore_n 2, 1) := by decide +kernel
theorem dL_same_2 : decode cL_same 2 = .ok (.iload_n 2, 1) := by decide +kernel
theorem dL_same_3 : decode cL_same 3 = .ok (.aload_n 1, 1) := by decide +kernel
theorem dL_same_4 : decode cL_same 4 = .ok (.arraylength, 1) := by decide +kernel
theorem dL_same_5 : decode cL_same 5 = .ok (.if_icmp .ge 15, 3) := by decide +kernel
theorem dL_same_8 : decode cL_same 8 = .ok (.aload_n 0, 1) := by decide +kernel
theorem dL_same_9 : decode cL_same 9 = .ok (.iload_n 2, 1) := by decide +kernel
theorem dL_same_10 : decode cL_same 10 = .ok (.aload_n 1, 1) := by decide +kernel
theorem dL_same_11 : decode cL_same 11 = .ok (.iload_n 2, 1) := by decide +kernel
theorem dL_same_12 : decode cL_same 12 = .ok (.iaload, 1) := by decide +kernel
theorem dL_same_13 : decode cL_same 13 = .ok (.iastore, 1) := by decide +kernel
theorem dL_same_14 : decode cL_same 14 = .ok (.iinc 2 1, 3) := by decide +kernel
theorem dL_same_17 : decode cL_same 17 = .ok (.goto (-15), 3) := by decide +kernel
theorem dL_same_20 : decode cL_same 20 = .ok (.return_, 1) := by decide +kernel
theorem dL_ahead_0 : decode cL_ahead 0 = .ok (.bipush 42, 2) := by decide +kernel
theorem dL_ahead_2 : decode cL_ahead 2 = .ok (.newarray .int, 2) := by decide +kernel
theorem dL_ahead_4 : decode cL_ahead 4 = .ok (.astore 9, 2) := by decide +kernel
theorem dL_ahead_6 : decode cL_ahead 6 = .ok (.bipush 22, 2) := by decide +kernel
theorem dL_ahead_8 : decode cL_ahead 8 = .ok (.newarray .int, 2) := by decide +kernel
theorem dL_ahead_10 : decode cL_ahead 10 = .ok (.astore 10, 2) := by decide +kernel
theorem dL_ahead_12 : decode cL_ahead 12 = .ok (.bipush 9, 2) := by decide +kernel
theorem dL_ahead_14 : decode cL_ahead 14 = .ok (.newarray .int, 2) := by decide +kernel
theorem dL_ahead_16 : decode cL_ahead 16 = .ok (.astore 11, 2) := by decide +kernel
theorem dL_ahead_18 : decode cL_ahead 18 = .ok (.bipush 14, 2) := by decide +kernel
theorem dL_ahead_20 : decode cL_ahead 20 = .ok (.newarray .int, 2) := by decide +kernel
theorem dL_ahead_22 : decode cL_ahead 22 = .ok (.astore 12, 2) := by decide +kernel
theorem dL_ahead_24 : decode cL_ahead 24 = .ok (.iconst (-1), 1) := by decide +kernel
theorem dL_ahead_25 : decode cL_ahead 25 = .ok (.istore 13, 2) := by decide +kernel
theorem dL_ahead_27 : decode cL_ahead 27 = .ok (.iconst 0, 1) := by decide +kernel
theorem dL_ahead_28 : decode cL_ahead 28 = .ok (.istore 14, 2) := by decide +kernel
theorem dL_ahead_30 : decode cL_ahead 30 = .ok (.iconst 0, 1) := by decide +kernel
theorem dL_ahead_31 : decode cL_ahead 31 = .ok (.istore 15, 2) := by decide +kernel
theorem dL_ahead_33 : decode cL_ahead 33 = .ok (.iload 15, 2) := by decide +kernel
theorem dL_ahead_35 : decode cL_ahead 35 = .ok (.aload 4, 2) := by decide +kernel
theorem dL_ahead_37 : decode cL_ahead 37 = .ok (.iconst 0, 1) := by decide +kernel
theorem dL_ahead_38 : decode cL_ahead 38 = .ok (.iaload, 1) := by decide +kernel
theorem dL_ahead_39 : decode cL_ahead 39 = .ok (.iconst 2, 1) := by decide +kernel
theorem dL_ahead_40 : decode cL_ahead 40 = .ok (.iadd, 1) := by decide +kernel
theorem dL_ahead_41 : decode cL_ahead 41 = .ok (.if_icmp .ge 318, 3) := by decide +kernel
theorem dL_ahead_44 : decode cL_ahead 44 = .ok (.aload 9, 2) := by decide +kernel
theorem dL_ahead_46 : decode cL_ahead 46 = .ok (.aload_n 2, 1) := by decide +kernel
theorem dL_ahead_47 : decode cL_ahead 47 = .ok (.invokestatic 83, 3) := by decide +kernel
theorem dL_ahead_50 : decode cL_ahead 50 = .ok (.aload 10, 2) := by decide +kernel
theorem dL_ahead_52 : decode cL_ahead 52 = .ok (.aload_n 3, 1) := by decide +kernel
theorem dL_ahead_53 : decode cL_ahead 53 = .ok (.invokestatic 83, 3) := by decide +kernel
theorem dL_ahead_56 : decode cL_ahead 56 = .ok (.aload 11, 2) := by decide +kernel
theorem dL_ahead_58 : decode cL_ahead 58 = .ok (.aload 4, 2) := by decide +kernel
theorem dL_ahead_60 : decode cL_ahead 60 = .ok (.invokestatic 83, 3) := by decide +kernel
theorem dL_ahead_63 : decode cL_ahead 63 = .ok (.aload 12, 2) := by decide +kernel
theorem dL_ahead_65 : decode cL_ahead 65 = .ok (.aload 8, 2) := by decide +kernel
theorem dL_ahead_67 : decode cL_ahead 67 = .ok (.invokestatic 83, 3) := by decide +kernel
theorem dL_ahead_70 : decode cL_ahead 70 = .ok (.iload 15, 2) := by decide +kernel
theorem dL_ahead_72 : decode cL_ahead 72 = .ok (.ifCond .ne 14, 3) := by decide +kernel
theorem dL_ahead_75 : decode cL_ahead 75 = .ok (.iconst 1, 1) := by decide +kernel
theorem dL_ahead_76 : decode cL_ahead 76 = .ok (.iload_n 1, 1) := by decide +kernel
theorem dL_ahead_77 : decode cL_ahead 77 = .ok (.bipush 60, 2) := by decide +kernel
theorem dL_ahead_79 : decode cL_ahead 79 = .ok (.invokestatic 69, 3) := by decide +kernel
theorem dL_ahead_82 : decode cL_ahead 82 = .ok (.iadd, 1) := by decide +kernel
theorem dL_ahead_83 : decode cL_ahead 83 = .ok (.goto 17, 3) := by decide +kernel
theorem dL_ahead_86 : decode cL_ahead 86 = .ok (.iload 15, 2) := by decide +kernel
theorem dL_ahead_88 : decode cL_ahead 88 = .ok (.iconst 1, 1) := by decide +kernel
theorem dL_ahead_89 : decode cL_ahead 89 = .ok (.if_icmp .ne 9, 3) := by decide +kernel
theorem dL_ahead_92 : decode cL_ahead 92 = .ok (.sipush 500, 3) := by decide +kernel
theorem dL_ahead_95 : decode cL_ahead 95 = .ok (.goto 5, 3) := by decide +kernel
theorem dL_ahead_98 : decode cL_ahead 98 = .ok (.bipush 48, 2) := by decide +kernel
theorem dL_ahead_100 : decode cL_ahead 100 = .ok (.istore 16, 2) := by decide +kernel
theorem dL_ahead_102 : decode cL_ahead 102 = .ok (.iload 15, 2) := by decide +kernel
theorem dL_ahead_104 : decode cL_ahead 104 = .ok (.iconst 1, 1) := by decide +kernel
theorem dL_ahead_105 : decode cL_ahead 105 = .ok (.if_icmp .le 44, 3) := by decide +kernel
theorem dL_ahead_108 : decode cL_ahead 108 = .ok (.iload 15, 2) := by decide +kernel
theorem dL_ahead_110 : decode cL_ahead 110 = .ok (.iconst 1, 1) := by decide +kernel
theorem dL_ahead_111 : decode cL_ahead 111 = .ok (.isub, 1) := by decide +kernel
theorem dL_ahead_112 : decode cL_ahead 112 = .ok (.istore 17, 2) := by decide +kernel
theorem dL_ahead_114 : decode cL_ahead 114 = .ok (.iload 17, 2) := by decide +kernel
theorem dL_ahead_116 : decode cL_ahead 116 = .ok (.iconst 1, 1) := by decide +kernel
theorem dL_ahead_117 : decode cL_ahead 117 = .ok (.if_icmp .le 21, 3) := by decide +kernel
theorem dL_ahead_120 : decode cL_ahead 120 = .ok (.aload 11, 2) := by decide +kernel
theorem dL_ahead_122 : decode cL_ahead 122 = .ok (.iload 17, 2) := by decide +kernel
theorem dL_ahead_124 : decode cL_ahead 124 = .ok (.aload 11, 2) := by decide +kernel
theorem dL_ahead_126 : decode cL_ahead 126 = .ok (.iload 17, 2) := by decide +kernel
theorem dL_ahead_128 : decode cL_ahead 128 = .ok (.iconst 1, 1) := by decide +kernel
theorem dL_ahead_129 : decode cL_ahead 129 = .ok (.isub, 1) := by decide +kernel
theorem dL_ahead_130 : decode cL_ahead 130 = .ok (.iaload, 1) := by decide +kernel
theorem dL_ahead_131 : decode cL_ahead 131 = .ok (.iastore, 1) := by decide +kernel
theorem dL_ahead_132 : decode cL_ahead 132 = .ok (.iinc 17 (-1), 3) := by decide +kernel
theorem dL_ahead_135 : decode cL_ahead 135 = .ok (.goto (-21), 3) := by decide +kernel
theorem dL_ahead_138 : decode cL_ahead 138 = .ok (.aload 11, 2) := by decide +kernel
theorem dL_ahead_140 : decode cL_ahead 140 = .ok (.iconst 1, 1) := by decide +kernel
theorem dL_ahead_141 : decode cL_ahead 141 = .ok (.aload 4, 2) := by decide +kernel
theorem dL_ahead_143 : decode cL_ahead 143 = .ok (.iload 15, 2) := by decide +kernel
theorem dL_ahead_145 : decode cL_ahead 145 = .ok (.iconst 1, 1) := by decide +kernel
theorem dL_ahead_146 : decode cL_ahead 146 = .ok (.isub, 1) := by decide +kernel
theorem dL_ahead_147 : decode cL_ahead 147 = .ok (.iaload, 1) := by decide +kernel
theorem dL_ahead_148 : decode cL_ahead 148 = .ok (.iastore, 1) := by decide +kernel
theorem dL_ahead_149 : decode cL_ahead 149 = .ok (.iconst 0, 1) := by decide +kernel
theorem dL_ahead_150 : decode cL_ahead 150 = .ok (.istore 17, 2) := by decide +kernel
theorem dL_ahead_152 : decode cL_ahead 152 = .ok (.iconst 0, 1) := by decide +kernel
theorem dL_ahead_153 : decode cL_ahead 153 = .ok (.istore 18, 2) := by decide +kernel
theorem dL_ahead_155 : decode cL_ahead 155 = .ok (.iload 18, 2) := by decide +kernel
theorem dL_ahead_157 : decode cL_ahead 157 = .ok (.iload 16, 2) := by decide +kernel
theorem dL_ahead_159 : decode cL_ahead 159 = .ok (.if_icmp .ge 44, 3) := by decide +kernel
theorem dL_ahead_162 : decode cL_ahead 162 = .ok (.iload 15, 2) := by decide +kernel
theorem dL_ahead_164 : decode cL_ahead 164 = .ok (.iconst 1, 1) := by decide +kernel
theorem dL_ahead_165 : decode cL_ahead 165 = .ok (.if_icmp .ne 10, 3) := by decide +kernel
theorem dL_ahead_168 : decode cL_ahead 168 = .ok (.aload 11, 2) := by decide +kernel
theorem dL_ahead_170 : decode cL_ahead 170 = .ok (.iconst 0, 1) := by decide +kernel
theorem dL_ahead_171 : decode cL_ahead 171 = .ok (.iaload, 1) := by decide +kernel
theorem dL_ahead_172 : decode cL_ahead 172 = .ok (.ifCond .le 31, 3) := by decide +kernel
theorem dL_ahead_175 : decode cL_ahead 175 = .ok (.iload 17, 2) := by decide +kernel
theorem dL_ahead_177 : decode cL_ahead 177 = .ok (.aload 9, 2) := by decide +kernel
theorem dL_ahead_179 : decode cL_ahead 179 = .ok (.aload 10, 2) := by decide +kernel
theorem dL_ahead_181 : decode cL_ahead 181 = .ok (.aload 11, 2) := by decide +kernel
theorem dL_ahead_183 : decode cL_ahead 183 = .ok (.aload 5, 2) := by decide +kernel
theorem dL_ahead_185 : decode cL_ahead 185 = .ok (.aload 6, 2) := by decide +kernel
theorem dL_ahead_187 : decode cL_ahead 187 = .ok (.aload 7, 2) := by decide +kernel
theorem dL_ahead_189 : decode cL_ahead 189 = .ok (.aload 12, 2) := by decide +kernel
theorem dL_ahead_191 : decode cL_ahead 191 = .ok (.invokestatic 87, 3) := by decide +kernel
theorem dL_ahead_194 : decode cL_ahead 194 = .ok (.iadd, 1) := by decide +kernel
theorem dL_ahead_195 : decode cL_ahead 195 = .ok (.istore 17, 2) := by decide +kernel
theorem dL_ahead_197 : decode cL_ahead 197 = .ok (.iinc 18 1, 3) := by decide +kernel
theorem dL_ahead_200 : decode cL_ahead 200 = .ok (.goto (-45), 3) := by decide +kernel
theorem dL_ahead_203 : decode cL_ahead 203 = .ok (.iload 15, 2) := by decide +kernel
theorem dL_ahead_205 : decode cL_ahead 205 = .ok (.iconst 1, 1) := by decide +kernel
theorem dL_ahead_206 : decode cL_ahead 206 = .ok (.if_icmp .ne 25, 3) := by decide +kernel
theorem dL_ahead_209 : decode cL_ahead 209 = .ok (.aload_n 0, 1) := by decide +kernel
theorem dL_ahead_210 : decode cL_ahead 210 = .ok (.invokevirtual 91, 3) := by decide +kernel
theorem dL_ahead_213 : decode cL_ahead 213 = .ok (.aload 11, 2) := by decide +kernel
theorem dL_ahead_215 : decode cL_ahead 215 = .ok (.iconst 0, 1) := by decide +kernel
theorem dL_ahead_216 : decode cL_ahead 216 = .ok (.iaload, 1) := by decide +kernel
theorem dL_ahead_217 : decode cL_ahead 217 = .ok (.ifCond .le 7, 3) := by decide +kernel
theorem dL_ahead_220 : decode cL_ahead 220 = .ok (.iconst (-1), 1) := by decide +kernel
theorem dL_ahead_221 : decode cL_ahead 221 = .ok (.goto 5, 3) := by decide +kernel
theorem dL_ahead_224 : decode cL_ahead 224 = .ok (.iload 18, 2) := by decide +kernel
theorem dL_ahead_226 : decode cL_ahead 226 = .ok (.if_icmp .eq 5, 3) := by decide +kernel
theorem dL_ahead_229 : decode cL_ahead 229 = .ok (.iconst 0, 1) := by decide +kernel
theorem dL_ahead_230 : decode cL_ahead 230 = .ok (.ireturn, 1) := by decide +kernel
theorem dL_ahead_231 : decode cL_ahead 231 = .ok (.iload 15, 2) := by decide +kernel
theorem dL_ahead_233 : decode cL_ahead 233 = .ok (.iconst 1, 1) := by decide +kernel
theorem dL_ahead_234 : decode cL_ahead 234 = .ok (.if_icmp .le 28, 3) := by decide +kernel
theorem dL_ahead_237 : decode cL_ahead 237 = .ok (.iload 13, 2) := by decide +kernel
theorem dL_ahead_239 : decode cL_ahead 239 = .ok (.ifCond .lt 10, 3) := by decide +kernel
theorem dL_ahead_242 : decode cL_ahead 242 = .ok (.iload 17, 2) := by decide +kernel
theorem dL_ahead_244 : decode cL_ahead 244 = .ok (.iload 14, 2) := by decide +kernel
theorem dL_ahead_246 : decode cL_ahead 246 = .ok (.if_icmp .ge 16, 3) := by decide +kernel
theorem dL_ahead_249 : decode cL_ahead 249 = .ok (.aload 4, 2) := by decide +kernel
theorem dL_ahead_251 : decode cL_ahead 251 = .ok (.iload 15, 2) := by decide +kernel
theorem dL_ahead_253 : decode cL_ahead 253 = .ok (.iconst 1, 1) := by decide +kernel
theorem dL_ahead_254 : decode cL_ahead 254 = .ok (.isub, 1) := by decide +kernel
theorem dL_ahead_255 : decode cL_ahead 255 = .ok (.iaload, 1) := by decide +kernel
theorem dL_ahead_256 : decode cL_ahead 256 = .ok (.istore 13, 2) := by decide +kernel
theorem dL_ahead_258 : decode cL_ahead 258 = .ok (.iload 17, 2) := by decide +kernel
theorem dL_ahead_260 : decode cL_ahead 260 = .ok (.istore 14, 2) := by decide +kernel
theorem dL_ahead_262 : decode cL_ahead 262 = .ok (.iload_n 1, 1) := by decide +kernel
theorem dL_ahead_263 : decode cL_ahead 263 = .ok (.bipush 6, 2) := by decide +kernel
theorem dL_ahead_265 : decode cL_ahead 265 = .ok (.ishr, 1) := by decide +kernel
theorem dL_ahead_266 : decode cL_ahead 266 = .ok (.bipush 9, 2) := by decide +kernel
theorem dL_ahead_268 : decode cL_ahead 268 = .ok (.invokestatic 69, 3) := by decide +kernel
theorem dL_ahead_271 : decode cL_ahead 271 = .ok (.istore 19, 2) := by decide +kernel
theorem dL_ahead_273 : decode cL_ahead 273 = .ok (.iload 19, 2) := by decide +kernel
theorem dL_ahead_275 : decode cL_ahead 275 = .ok (.iconst 5, 1) := by decide +kernel
theorem dL_ahead_276 : decode cL_ahead 276 = .ok (.if_icmp .ge 14, 3) := by decide +kernel
theorem dL_ahead_279 : decode cL_ahead 279 = .ok (.aload 12, 2) := by decide +kernel
theorem dL_ahead_281 : decode cL_ahead 281 = .ok (.bipush 9, 2) := by decide +kernel
theorem dL_ahead_283 : decode cL_ahead 283 = .ok (.iload 19, 2) := by decide +kernel
theorem dL_ahead_285 : decode cL_ahead 285 = .ok (.iadd, 1) := by decide +kernel
theorem dL_ahead_286 : decode cL_ahead 286 = .ok (.iaload, 1) := by decide +kernel
theorem dL_ahead_287 : decode cL_ahead 287 = .ok (.goto 44, 3) := by decide +kernel
theorem dL_ahead_290 : decode cL_ahead 290 = .ok (.iload 19, 2) := by decide +kernel
theorem dL_ahead_292 : decode cL_ahead 292 = .ok (.bipush 7, 2) := by decide +kernel
theorem dL_ahead_294 : decode cL_ahead 294 = .ok (.if_icmp .ge 15, 3) := by decide +kernel
theorem dL_ahead_297 : decode cL_ahead 297 = .ok (.iload 19, 2) := by decide +kernel
theorem dL_ahead_299 : decode cL_ahead 299 = .ok (.aload 9, 2) := by decide +kernel
theorem dL_ahead_301 : decode cL_ahead 301 = .ok (.aload 12, 2) := by decide +kernel
theorem dL_ahead_303 : decode cL_ahead 303 = .ok (.invokestatic 66, 3) := by decide +kernel
theorem dL_ahead_306 : decode cL_ahead 306 = .ok (.goto 25, 3) := by decide +kernel
theorem dL_ahead_309 : decode cL_ahead 309 = .ok (.iload 19, 2) := by decide +kernel
theorem dL_ahead_311 : decode cL_ahead 311 = .ok (.bipush 7, 2) := by decide +kernel
theorem dL_ahead_313 : decode cL_ahead 313 = .ok (.if_icmp .ne 14, 3) := by decide +kernel
theorem dL_ahead_316 : decode cL_ahead 316 = .ok (.iconst 3, 1) := by decide +kernel
theorem dL_ahead_317 : decode cL_ahead 317 = .ok (.aload 9, 2) := by decide +kernel
theorem dL_ahead_319 : decode cL_ahead 319 = .ok (.aload 12, 2) := by decide +kernel
theorem dL_ahead_321 : decode cL_ahead 321 = .ok (.invokestatic 66, 3) := by decide +kernel
theorem dL_ahead_324 : decode cL_ahead 324 = .ok (.goto 7, 3) := by decide +kernel
theorem dL_ahead_327 : decode cL_ahead 327 = .ok (.aload 11, 2) := by decide +kernel
theorem dL_ahead_329 : decode cL_ahead 329 = .ok (.iconst 0, 1) := by decide +kernel
theorem dL_ahead_330 : decode cL_ahead 330 = .ok (.iaload, 1) := by decide +kernel
theorem dL_ahead_331 : decode cL_ahead 331 = .ok (.istore 20, 2) := by decide +kernel
theorem dL_ahead_333 : decode cL_ahead 333 = .ok (.iload 15, 2) := by decide +kernel
theorem dL_ahead_335 : decode cL_ahead 335 = .ok (.ifCond .ne 18, 3) := by decide +kernel
theorem dL_ahead_338 : decode cL_ahead 338 = .ok (.aload_n 0, 1) := by decide +kernel
theorem dL_ahead_339 : decode cL_ahead 339 = .ok (.iload 16, 2) := by decide +kernel
theorem dL_ahead_341 : decode cL_ahead 341 = .ok (.iload 19, 2) := by decide +kernel
theorem dL_ahead_343 : decode cL_ahead 343 = .ok (.invokevirtual 95, 3) := by decide +kernel
theorem dL_ahead_346 : decode cL_ahead 346 = .ok (.iload 20, 2) := by decide +kernel
theorem dL_ahead_348 : decode cL_ahead 348 = .ok (.if_icmp .eq 5, 3) := by decide +kernel
theorem dL_ahead_351 : decode cL_ahead 351 = .ok (.iconst 0, 1) := by decide +kernel
theorem dL_ahead_352 : decode cL_ahead 352 = .ok (.ireturn, 1) := by decide +kernel
theorem dL_ahead_353 : decode cL_ahead 353 = .ok (.iinc 15 1, 3) := by decide +kernel
theorem dL_ahead_356 : decode cL_ahead 356 = .ok (.goto (-323), 3) := by decide +kernel
theorem dL_ahead_359 : decode cL_ahead 359 = .ok (.aload 8, 2) := by decide +kernel
theorem dL_ahead_361 : decode cL_ahead 361 = .ok (.bipush 6, 2) := by decide +kernel
theorem dL_ahead_363 : decode cL_ahead 363 = .ok (.iaload, 1) := by decide +kernel
theorem dL_ahead_364 : decode cL_ahead 364 = .ok (.ifCond .ne 7, 3) := by decide +kernel
theorem dL_ahead_367 : decode cL_ahead 367 = .ok (.iconst 0, 1) := by decide +kernel
theorem dL_ahead_368 : decode cL_ahead 368 = .ok (.goto 15, 3) := by decide +kernel
theorem dL_ahead_371 : decode cL_ahead 371 = .ok (.iload_n 1, 1) := by decide +kernel
theorem dL_ahead_372 : decode cL_ahead 372 = .ok (.bipush 9, 2) := by decide +kernel
theorem dL_ahead_374 : decode cL_ahead 374 = .ok (.ishr, 1) := by decide +kernel
theorem dL_ahead_375 : decode cL_ahead 375 = .ok (.aload 8, 2) := by decide +kernel
theorem dL_ahead_377 : decode cL_ahead 377 = .ok (.bipush 6, 2) := by decide +kernel
theorem dL_ahead_379 : decode cL_ahead 379 = .ok (.iaload, 1) := by decide +kernel
theorem dL_ahead_380 : decode cL_ahead 380 = .ok (.invokestatic 69, 3) := by decide +kernel
theorem dL_ahead_383 : decode cL_ahead 383 = .ok (.istore 15, 2) := by decide +kernel
theorem dL_ahead_385 : decode cL_ahead 385 = .ok (.iconst 1, 1) := by decide +kernel
theorem dL_ahead_386 : decode cL_ahead 386 = .ok (.iload_n 1, 1) := by decide +kernel
theorem dL_ahead_387 : decode cL_ahead 387 = .ok (.iconst 4, 1) := by decide +kernel
theorem dL_ahead_388 : decode cL_ahead 388 = .ok (.ishr, 1) := by decide +kernel
theorem dL_ahead_389 : decode cL_ahead 389 = .ok (.bipush 8, 2) := by decide +kernel
theorem dL_ahead_391 : decode cL_ahead 391 = .ok (.invokestatic 69, 3) := by decide +kernel
theorem dL_ahead_394 : decode cL_ahead 394 = .ok (.iadd, 1) := by decide +kernel
theorem dL_ahead_395 : decode cL_ahead 395 = .ok (.istore 16, 2) := by decide +kernel
theorem dL_ahead_397 : decode cL_ahead 397 = .ok (.aload_n 0, 1) := by decide +kernel
theorem dL_ahead_398 : decode cL_ahead 398 = .ok (.invokevirtual 98, 3) := by decide +kernel
theorem dL_ahead_401 : decode cL_ahead 401 = .ok (.iload 13, 2) := by decide +kernel
theorem dL_ahead_403 : decode cL_ahead 403 = .ok (.if_icmp .ne 40, 3) := by decide +kernel
theorem dL_ahead_406 : decode cL_ahead 406 = .ok (.aload 8, 2) := by decide +kernel
theorem dL_ahead_408 : decode cL_ahead 408 = .ok (.bipush 6, 2) := by decide +kernel
theorem dL_ahead_410 : decode cL_ahead 410 = .ok (.iaload, 1) := by decide +kernel
theorem dL_ahead_411 : decode cL_ahead 411 = .ok (.ifCond .eq 28, 3) := by decide +kernel
theorem dL_ahead_414 : decode cL_ahead 414 = .ok (.aload_n 0, 1) := by decide +kernel
theorem dL_ahead_415 : decode cL_ahead 415 = .ok (.iload 15, 2) := by decide +kernel
theorem dL_ahead_417 : decode cL_ahead 417 = .ok (.iload 16, 2) := by decide +kernel
theorem dL_ahead_419 : decode cL_ahead 419 = .ok (.invokevirtual 101, 3) := by decide +kernel
theorem dL_ahead_422 : decode cL_ahead 422 = .ok (.iload 15, 2) := by decide +kernel
theorem dL_ahead_424 : decode cL_ahead 424 = .ok (.iload 16, 2) := by decide +kernel
theorem dL_ahead_426 : decode cL_ahead 426 = .ok (.aload_n 2, 1) := by decide +kernel
theorem dL_ahead_427 : decode cL_ahead 427 = .ok (.aload 5, 2) := by decide +kernel
theorem dL_ahead_429 : decode cL_ahead 429 = .ok (.aload 6, 2) := by decide +kernel
theorem dL_ahead_431 : decode cL_ahead 431 = .ok (.aload 8, 2) := by decide +kernel
theorem dL_ahead_433 : decode cL_ahead 433 = .ok (.invokestatic 104, 3) := by decide +kernel
theorem dL_ahead_436 : decode cL_ahead 436 = .ok (.if_icmp .ne 7, 3) := by decide +kernel
theorem dL_ahead_439 : decode cL_ahead 439 = .ok (.iconst 1, 1) := by decide +kernel
theorem dL_ahead_440 : decode cL_ahead 440 = .ok (.goto 4, 3) := by decide +kernel
theorem dL_ahead_443 : decode cL_ahead 443 = .ok (.iconst 0, 1) := by decide +kernel
theorem dL_ahead_444 : decode cL_ahead 444 = .ok (.ireturn, 1) := by decide +kernel
theorem dL_number_0 : decode cL_number 0 = .ok (.iload_n 1, 1) := by decide +kernel
theorem dL_number_1 : decode cL_number 1 = .ok (.bipush 10, 2) := by decide +kernel
theorem dL_number_3 : decode cL_number 3 = .ok (.if_icmp .lt 17, 3) := by decide +kernel
theorem dL_number_6 : decode cL_number 6 = .ok (.aload_n 0, 1) := by decide +kernel
theorem dL_number_7 : decode cL_number 7 = .ok (.bipush 48, 2) := by decide +kernel
theorem dL_number_9 : decode cL_number 9 = .ok (.iload_n 1, 1) := by decide +kernel
theorem dL_number_10 : decode cL_number 10 = .ok (.bipush 10, 2) := by decide +kernel
theorem dL_number_12 : decode cL_number 12 = .ok (.idiv, 1) := by decide +kernel
theorem dL_number_13 : decode cL_number 13 = .ok (.iadd, 1) := by decide +kernel
theorem dL_number_14 : decode cL_number 14 = .ok (.invokevirtual 107, 3) := by decide +kernel
theorem dL_number_17 : decode cL_number 17 = .ok (.ifCond .le 21, 3) := by decide +kernel
theorem dL_number_20 : decode cL_number 20 = .ok (.aload_n 0, 1) := by decide +kernel
theorem dL_number_21 : decode cL_number 21 = .ok (.bipush 48, 2) := by decide +kernel
theorem dL_number_23 : decode cL_number 23 = .ok (.iload_n 1, 1) := by decide +kernel
theorem dL_number_24 : decode cL_number 24 = .ok (.bipush 10, 2) := by decide +kernel
theorem dL_number_26 : decode cL_number 26 = .ok (.irem, 1) := by decide +kernel
theorem dL_number_27 : decode cL_number 27 = .ok (.iadd, 1) := by decide +kernel
theorem dL_number_28 : decode cL_number 28 = .ok (.invokevirtual 107, 3) := by decide +kernel
theorem dL_number_31 : decode cL_number 31 = .ok (.ifCond .le 7, 3) := by decide +kernel
theorem dL_number_34 : decode cL_number 34 = .ok (.iconst 1, 1) := by decide +kernel
theorem dL_number_35 : decode cL_number 35 = .ok (.goto 4, 3) := by decide +kernel
theorem dL_number_38 : decode cL_number 38 = .ok (.iconst 0, 1) := by decide +kernel
theorem dL_number_39 : decode cL_number 39 = .ok (.ireturn, 1) := by decide +kernel
theorem dL_winds_0 : decode cL_winds 0 = .ok (.aload_n 3, 1) := by decide +kernel
theorem dL_winds_1 : decode cL_winds 1 = .ok (.iconst 0, 1) := by decide +kernel
theorem dL_winds_2 : decode cL_winds 2 = .ok (.iconst 0, 1) := by decide +kernel
theorem dL_winds_3 : decode cL_winds 3 = .ok (.iastore, 1) := by decide +kernel
theorem dL_winds_4 : decode cL_winds 4 = .ok (.iconst 1, 1) := by decide +kernel
theorem dL_winds_5 : decode cL_winds 5 = .ok (.iload_n 1, 1) := by decide +kernel
theorem dL_winds_6 : decode cL_winds 6 = .ok (.iconst 4, 1) := by decide +kernel
theorem dL_winds_7 : decode cL_winds 7 = .ok (.invokestatic 69, 3) := by decide +kernel
theorem dL_winds_10 : decode cL_winds 10 = .ok (.iadd, 1) := by decide +kernel
theorem dL_winds_11 : decode cL_winds 11 = .ok (.istore 4, 2) := by decide +kernel
theorem dL_winds_13 : decode cL_winds 13 = .ok (.iconst 0, 1) := by decide +kernel
theorem dL_winds_14 : decode cL_winds 14 = .ok (.istore 5, 2) := by decide +kernel
theorem dL_winds_16 : decode cL_winds 16 = .ok (.iload 5, 2) := by decide +kernel
theorem dL_winds_18 : decode cL_winds 18 = .ok (.iload 4, 2) := by decide +kernel
theorem dL_winds_20 : decode cL_winds 20 = .ok (.if_icmp .ge 140, 3) := by decide +kernel
theorem dL_winds_23 : decode cL_winds 23 = .ok (.iload_n 2, 1) := by decide +kernel
theorem dL_winds_24 : decode cL_winds 24 = .ok (.iconst 3, 1) := by decide +kernel
theorem dL_winds_25 : decode cL_winds 25 = .ok (.iload 5, 2) := by decide +kernel
theorem dL_winds_27 : decode cL_winds 27 = .ok (.imul, 1) := by decide +kernel
theorem dL_winds_28 : decode cL_winds 28 = .ok (.ishr, 1) := by decide +kernel
theorem dL_winds_29 : decode cL_winds 29 = .ok (.bipush 7, 2) := by decide +kernel
theorem dL_winds_31 : decode cL_winds 31 = .ok (.iload 5, 2) := by decide +kernel
theorem dL_winds_33 : decode cL_winds 33 = .ok (.imul, 1) := by decide +kernel
theorem dL_winds_34 : decode cL_winds 34 = .ok (.iadd, 1) := by decide +kernel
theorem dL_winds_35 : decode cL_winds 35 = .ok (.iload_n 1, 1) := by decide +kernel
theorem dL_winds_36 : decode cL_winds 36 = .ok (.iconst 2, 1) := by decide +kernel
theorem dL_winds_37 : decode cL_winds 37 = .ok (.ishr, 1) := by decide +kernel
theorem dL_winds_38 : decode cL_winds 38 = .ok (.iconst 2, 1) := by decide +kernel
theorem dL_winds_39 : decode cL_winds 39 = .ok (.invokestatic 69, 3) := by decide +kernel
theorem dL_winds_42 : decode cL_winds 42 = .ok (.ifCond .ne 8, 3) := by decide +kernel
theorem dL_winds_45 : decode cL_winds 45 = .ok (.bipush 31, 2) := by decide +kernel
theorem dL_winds_47 : decode cL_winds 47 = .ok (.goto 5, 3) := by decide +kernel
theorem dL_winds_50 : decode cL_winds 50 = .ok (.bipush 18, 2) := by decide +kernel
theorem dL_winds_52 : decode cL_winds 52 = .ok (.invokestatic 69, 3) := by decide +kernel
theorem dL_winds_55 : decode cL_winds 55 = .ok (.istore 6, 2) := by decide +kernel
theorem dL_winds_57 : decode cL_winds 57 = .ok (.iconst 1, 1) := by decide +kernel
theorem dL_winds_58 : decode cL_winds 58 = .ok (.iload_n 1, 1) := by decide +kernel
theorem dL_winds_59 : decode cL_winds 59 = .ok (.iload 5, 2) := by decide +kernel
theorem dL_winds_61 : decode cL_winds 61 = .ok (.ishr, 1) := by decide +kernel
theorem dL_winds_62 : decode cL_winds 62 = .ok (.iload 5, 2) := by decide +kernel
theorem dL_winds_64 : decode cL_winds 64 = .ok (.iadd, 1) := by decide +kernel
theorem dL_winds_65 : decode cL_winds 65 = .ok (.bipush 10, 2) := by decide +kernel
theorem dL_winds_67 : decode cL_winds 67 = .ok (.invokestatic 69, 3) := by decide +kernel
theorem dL_winds_70 : decode cL_winds 70 = .ok (.iadd, 1) := by decide +kernel
theorem dL_winds_71 : decode cL_winds 71 = .ok (.istore 7, 2) := by decide +kernel
theorem dL_winds_73 : decode cL_winds 73 = .ok (.iload 5, 2) := by decide +kernel
theorem dL_winds_75 : decode cL_winds 75 = .ok (.ifCond .le 13, 3) := by decide +kernel
theorem dL_winds_78 : decode cL_winds 78 = .ok (.aload_n 0, 1) := by decide +kernel
theorem dL_winds_79 : decode cL_winds 79 = .ok (.bipush 44, 2) := by decide +kernel
theorem dL_winds_81 : decode cL_winds 81 = .ok (.invokevirtual 107, 3) := by decide +kernel
theorem dL_winds_84 : decode cL_winds 84 = .ok (.iconst 1, 1) := by decide +kernel
theorem dL_winds_85 : decode cL_winds 85 = .ok (.if_icmp .lt 37, 3) := by decide +kernel
theorem dL_winds_88 : decode cL_winds 88 = .ok (.aload_n 0, 1) := by decide +kernel
theorem dL_winds_89 : decode cL_winds 89 = .ok (.iload 6, 2) := by decide +kernel
theorem dL_winds_91 : decode cL_winds 91 = .ok (.invokestatic 110, 3) := by decide +kernel
theorem dL_winds_94 : decode cL_winds 94 = .ok (.ifCond .eq 28, 3) := by decide +kernel
theorem dL_winds_97 : decode cL_winds 97 = .ok (.iload 7, 2) := by decide +kernel
theorem dL_winds_99 : decode cL_winds 99 = .ok (.iconst 1, 1) := by decide +kernel
theorem dL_winds_100 : decode cL_winds 100 = .ok (.if_icmp .le 24, 3) := by decide +kernel
theorem dL_winds_103 : decode cL_winds 103 = .ok (.aload_n 0, 1) := by decide +kernel
theorem dL_winds_104 : decode cL_winds 104 = .ok (.bipush 42, 2) := by decide +kernel
theorem dL_winds_106 : decode cL_winds 106 = .ok (.invokevirtual 107, 3) := by decide +kernel
theorem dL_winds_109 : decode cL_winds 109 = .ok (.iconst 1, 1) := by decide +kernel
theorem dL_winds_110 : decode cL_winds 110 = .ok (.if_icmp .lt 12, 3) := by decide +kernel
theorem dL_winds_113 : decode cL_winds 113 = .ok (.aload_n 0, 1) := by decide +kernel
theorem dL_winds_114 : decode cL_winds 114 = .ok (.iload 7, 2) := by decide +kernel
theorem dL_winds_116 : decode cL_winds 116 = .ok (.invokestatic 110, 3) := by decide +kernel
theorem dL_winds_119 : decode cL_winds 119 = .ok (.ifCond .ne 5, 3) := by decide +kernel
theorem dL_winds_122 : decode cL_winds 122 = .ok (.iconst 0, 1) := by decide +kernel
theorem dL_winds_123 : decode cL_winds 123 = .ok (.ireturn, 1) := by decide +kernel
theorem dL_winds_124 : decode cL_winds 124 = .ok (.iconst 0, 1) := by decide +kernel
theorem dL_winds_125 : decode cL_winds 125 = .ok (.istore 8, 2) := by decide +kernel
theorem dL_winds_127 : decode cL_winds 127 = .ok (.iload 8, 2) := by decide +kernel
theorem dL_winds_129 : decode cL_winds 129 = .ok (.iload 7, 2) := by decide +kernel
theorem dL_winds_131 : decode cL_winds 131 = .ok (.if_icmp .ge 23, 3) := by decide +kernel
theorem dL_winds_134 : decode cL_winds 134 = .ok (.aload_n 3, 1) := by decide +kernel
theorem dL_winds_135 : decode cL_winds 135 = .ok (.iconst 0, 1) := by decide +kernel
theorem dL_winds_136 : decode cL_winds 136 = .ok (.dup2, 1) := by decide +kernel
theorem dL_winds_137 : decode cL_winds 137 = .ok (.iaload, 1) := by decide +kernel
theorem dL_winds_138 : decode cL_winds 138 = .ok (.iconst 1, 1) := by decide +kernel
theorem dL_winds_139 : decode cL_winds 139 = .ok (.iadd, 1) := by decide +kernel
theorem dL_winds_140 : decode cL_winds 140 = .ok (.iastore, 1) := by decide +kernel
theorem dL_winds_141 : decode cL_winds 141 = .ok (.aload_n 3, 1) := by decide +kernel
theorem dL_winds_142 : decode cL_winds 142 = .ok (.aload_n 3, 1) := by decide +kernel
theorem dL_winds_143 : decode cL_winds 143 = .ok (.iconst 0, 1) := by decide +kernel
theorem dL_winds_144 : decode cL_winds 144 = .ok (.iaload, 1) := by decide +kernel
theorem dL_winds_145 : decode cL_winds 145 = .ok (.iload 6, 2) := by decide +kernel
theorem dL_winds_147 : decode cL_winds 147 = .ok (.iastore, 1) := by decide +kernel
theorem dL_winds_148 : decode cL_winds 148 = .ok (.iinc 8 1, 3) := by decide +kernel
theorem dL_winds_151 : decode cL_winds 151 = .ok (.goto (-24), 3) := by decide +kernel
theorem dL_winds_154 : decode cL_winds 154 = .ok (.iinc 5 1, 3) := by decide +kernel
theorem dL_winds_157 : decode cL_winds 157 = .ok (.goto (-141), 3) := by decide +kernel
theorem dL_winds_160 : decode cL_winds 160 = .ok (.aload_n 0, 1) := by decide +kernel
theorem dL_winds_161 : decode cL_winds 161 = .ok (.invokevirtual 114, 3) := by decide +kernel
theorem dL_winds_164 : decode cL_winds 164 = .ok (.aload_n 3, 1) := by decide +kernel
theorem dL_winds_165 : decode cL_winds 165 = .ok (.iconst 0, 1) := by decide +kernel
theorem dL_winds_166 : decode cL_winds 166 = .ok (.iaload, 1) := by decide +kernel
theorem dL_winds_167 : decode cL_winds 167 = .ok (.if_icmp .ne 7, 3) := by decide +kernel
theorem dL_winds_170 : decode cL_winds 170 = .ok (.iconst 1, 1) := by decide +kernel
theorem dL_winds_171 : decode cL_winds 171 = .ok (.goto 4, 3) := by decide +kernel
theorem dL_winds_174 : decode cL_winds 174 = .ok (.iconst 0, 1) := by decide +kernel
theorem dL_winds_175 : decode cL_winds 175 = .ok (.ireturn, 1) := by decide +kernel
theorem dL_bog_0 : decode cL_bog 0 = .ok (.iconst 0, 1) := by decide +kernel
theorem dL_bog_1 : decode cL_bog 1 = .ok (.istore 5, 2) := by decide +kernel
theorem dL_bog_3 : decode cL_bog 3 = .ok (.iload 5, 2) := by decide +kernel
theorem dL_bog_5 : decode cL_bog 5 = .ok (.aload 4, 2) := by decide +kernel
theorem dL_bog_7 : decode cL_bog 7 = .ok (.bipush 8, 2) := by decide +kernel
theorem dL_bog_9 : decode cL_bog 9 = .ok (.iaload, 1) := by decide +kernel
theorem dL_bog_10 : decode cL_bog 10 = .ok (.if_icmp .ge 19, 3) := by decide +kernel
theorem dL_bog_13 : decode cL_bog 13 = .ok (.aload_n 3, 1) := by decide +kernel
theorem dL_bog_14 : decode cL_bog 14 = .ok (.iconst 2, 1) := by decide +kernel
theorem dL_bog_15 : decode cL_bog 15 = .ok (.iload 5, 2) := by decide +kernel
theorem dL_bog_17 : decode cL_bog 17 = .ok (.imul, 1) := by decide +kernel
theorem dL_bog_18 : decode cL_bog 18 = .ok (.iaload, 1) := by decide +kernel
theorem dL_bog_19 : decode cL_bog 19 = .ok (.iload_n 1, 1) := by decide +kernel
theorem dL_bog_20 : decode cL_bog 20 = .ok (.if_icmp .ge 9, 3) := by decide +kernel
theorem dL_bog_23 : decode cL_bog 23 = .ok (.iinc 5 1, 3) := by decide +kernel
theorem dL_bog_26 : decode cL_bog 26 = .ok (.goto (-23), 3) := by decide +kernel
theorem dL_bog_29 : decode cL_bog 29 = .ok (.iload 5, 2) := by decide +kernel
theorem dL_bog_31 : decode cL_bog 31 = .ok (.aload 4, 2) := by decide +kernel
theorem dL_bog_33 : decode cL_bog 33 = .ok (.bipush 8, 2) := by decide +kernel
theorem dL_bog_35 : decode cL_bog 35 = .ok (.iaload, 1) := by decide +kernel
theorem dL_bog_36 : decode cL_bog 36 = .ok (.if_icmp .ge 17, 3) := by decide +kernel
theorem dL_bog_39 : decode cL_bog 39 = .ok (.aload_n 3, 1) := by decide +kernel
theorem dL_bog_40 : decode cL_bog 40 = .ok (.iconst 2, 1) := by decide +kernel
theorem dL_bog_41 : decode cL_bog 41 = .ok (.iload 5, 2) := by decide +kernel
theorem dL_bog_43 : decode cL_bog 43 = .ok (.imul, 1) := by decide +kernel
theorem dL_bog_44 : decode cL_bog 44 = .ok (.iaload, 1) := by decide +kernel
theorem dL_bog_45 : decode cL_bog 45 = .ok (.iload_n 1, 1) := by decide +kernel
theorem dL_bog_46 : decode cL_bog 46 = .ok (.if_icmp .ne 7, 3) := by decide +kernel
theorem dL_bog_49 : decode cL_bog 49 = .ok (.iconst 1, 1) := by decide +kernel
theorem dL_bog_50 : decode cL_bog 50 = .ok (.goto 4, 3) := by decide +kernel
theorem dL_bog_53 : decode cL_bog 53 = .ok (.iconst 0, 1) := by decide +kernel
theorem dL_bog_54 : decode cL_bog 54 = .ok (.istore 6, 2) := by decide +kernel
theorem dL_bog_56 : decode cL_bog 56 = .ok (.iload 6, 2) := by decide +kernel
theorem dL_bog_58 : decode cL_bog 58 = .ok (.ifCond .ne 15, 3) := by decide +kernel
theorem dL_bog_61 : decode cL_bog 61 = .ok (.aload 4, 2) := by decide +kernel
theorem dL_bog_63 : decode cL_bog 63 = .ok (.bipush 8, 2) := by decide +kernel
theorem dL_bog_65 : decode cL_bog 65 = .ok (.iaload, 1) := by decide +kernel
theorem dL_bog_66 : decode cL_bog 66 = .ok (.bipush 6, 2) := by decide +kernel
theorem dL_bog_68 : decode cL_bog 68 = .ok (.if_icmp .ne 5, 3) := by decide +kernel
theorem dL_bog_71 : decode cL_bog 71 = .ok (.iconst 1, 1) := by decide +kernel
theorem dL_bog_72 : decode cL_bog 72 = .ok (.ireturn, 1) := by decide +kernel
theorem dL_bog_73 : decode cL_bog 73 = .ok (.iload 6, 2) := by decide +kernel
theorem dL_bog_75 : decode cL_bog 75 = .ok (.ifCond .eq 50, 3) := by decide +kernel
theorem dL_bog_78 : decode cL_bog 78 = .ok (.iload_n 2, 1) := by decide +kernel
theorem dL_bog_79 : decode cL_bog 79 = .ok (.ifCond .ne 46, 3) := by decide +kernel
theorem dL_bog_82 : decode cL_bog 82 = .ok (.aload 4, 2) := by decide +kernel
theorem dL_bog_84 : decode cL_bog 84 = .ok (.bipush 8, 2) := by decide +kernel
theorem dL_bog_86 : decode cL_bog 86 = .ok (.dup2, 1) := by decide +kernel
theorem dL_bog_87 : decode cL_bog 87 = .ok (.iaload, 1) := by decide +kernel
theorem dL_bog_88 : decode cL_bog 88 = .ok (.iconst 1, 1) := by decide +kernel
theorem dL_bog_89 : decode cL_bog 89 = .ok (.isub, 1) := by decide +kernel
theorem dL_bog_90 : decode cL_bog 90 = .ok (.iastore, 1) := by decide +kernel
theorem dL_bog_91 : decode cL_bog 91 = .ok (.iconst 2, 1) := by decide +kernel
theorem dL_bog_92 : decode cL_bog 92 = .ok (.iload 5, 2) := by decide +kernel
theorem dL_bog_94 : decode cL_bog 94 = .ok (.imul, 1) := by decide +kernel
theorem dL_bog_95 : decode cL_bog 95 = .ok (.istore 7, 2) := by decide +kernel
theorem dL_bog_97 : decode cL_bog 97 = .ok (.iload 7, 2) := by decide +kernel
theorem dL_bog_99 : decode cL_bog 99 = .ok (.iconst 2, 1) := by decide +kernel
theorem dL_bog_100 : decode cL_bog 100 = .ok (.aload 4, 2) := by decide +kernel
theorem dL_bog_102 : decode cL_bog 102 = .ok (.bipush 8, 2) := by decide +kernel
theorem dL_bog_104 : decode cL_bog 104 = .ok (.iaload, 1) := by decide +kernel
theorem dL_bog_105 : decode cL_bog 105 = .ok (.imul, 1) := by decide +kernel
theorem dL_bog_106 : decode cL_bog 106 = .ok (.if_icmp .ge 19, 3) := by decide +kernel
theorem dL_bog_109 : decode cL_bog 109 = .ok (.aload_n 3, 1) := by decide +kernel
theorem dL_bog_110 : decode cL_bog 110 = .ok (.iload 7, 2) := by decide +kernel
theorem dL_bog_112 : decode cL_bog 112 = .ok (.aload_n 3, 1) := by decide +kernel
theorem dL_bog_113 : decode cL_bog 113 = .ok (.iload 7, 2) := by decide +kernel
theorem dL_bog_115 : decode cL_bog 115 = .ok (.iconst 2, 1) := by decide +kernel
theorem dL_bog_116 : decode cL_bog 116 = .ok (.iadd, 1) := by decide +kernel
theorem dL_bog_117 : decode cL_bog 117 = .ok (.iaload, 1) := by decide +kernel
theorem dL_bog_118 : decode cL_bog 118 = .ok (.iastore, 1) := by decide +kernel
theorem dL_bog_119 : decode cL_bog 119 = .ok (.iinc 7 1, 3) := by decide +kernel
theorem dL_bog_122 : decode cL_bog 122 = .ok (.goto (-25), 3) := by decide +kernel
theorem dL_bog_125 : decode cL_bog 125 = .ok (.iload 6, 2) := by decide +kernel
theorem dL_bog_127 : decode cL_bog 127 = .ok (.ifCond .ne 54, 3) := by decide +kernel
theorem dL_bog_130 : decode cL_bog 130 = .ok (.iload_n 2, 1) := by decide +kernel
theorem dL_bog_131 : decode cL_bog 131 = .ok (.ifCond .le 50, 3) := by decide +kernel
theorem dL_bog_134 : decode cL_bog 134 = .ok (.iconst 2, 1) := by decide +kernel
theorem dL_bog_135 : decode cL_bog 135 = .ok (.aload 4, 2) := by decide +kernel
theorem dL_bog_137 : decode cL_bog 137 = .ok (.bipush 8, 2) := by decide +kernel
theorem dL_bog_139 : decode cL_bog 139 = .ok (.iaload, 1) := by decide +kernel
theorem dL_bog_140 : decode cL_bog 140 = .ok (.imul, 1) := by decide +kernel
theorem dL_bog_141 : decode cL_bog 141 = .ok (.iconst 1, 1) := by decide +kernel
theorem dL_bog_142 : decode cL_bog 142 = .ok (.iadd, 1) := by decide +kernel
theorem dL_bog_143 : decode cL_bog 143 = .ok (.istore 7, 2) := by decide +kernel
theorem dL_bog_145 : decode cL_bog 145 = .ok (.iload 7, 2) := by decide +kernel
theorem dL_bog_147 : decode cL_bog 147 = .ok (.iconst 2, 1) := by decide +kernel
theorem dL_bog_148 : decode cL_bog 148 = .ok (.iload 5, 2) := by decide +kernel
theorem dL_bog_150 : decode cL_bog 150 = .ok (.imul, 1) := by decide +kernel
theorem dL_bog_151 : decode cL_bog 151 = .ok (.iconst 1, 1) := by decide +kernel
theorem dL_bog_152 : decode cL_bog 152 = .ok (.iadd, 1) := by decide +kernel
theorem dL_bog_153 : decode cL_bog 153 = .ok (.if_icmp .le 19, 3) := by decide +kernel
theorem dL_bog_156 : decode cL_bog 156 = .ok (.aload_n 3, 1) := by decide +kernel
theorem dL_bog_157 : decode cL_bog 157 = .ok (.iload 7, 2) := by decide +kernel
theorem dL_bog_159 : decode cL_bog 159 = .ok (.aload_n 3, 1) := by decide +kernel
theorem dL_bog_160 : decode cL_bog 160 = .ok (.iload 7, 2) := by decide +kernel
theorem dL_bog_162 : decode cL_bog 162 = .ok (.iconst 2, 1) := by decide +kernel
theorem dL_bog_163 : decode cL_bog 163 = .ok (.isub, 1) := by decide +kernel
theorem dL_bog_164 : decode cL_bog 164 = .ok (.iaload, 1) := by decide +kernel
theorem dL_bog_165 : decode cL_bog 165 = .ok (.iastore, 1) := by decide +kernel
theorem dL_bog_166 : decode cL_bog 166 = .ok (.iinc 7 (-1), 3) := by decide +kernel
theorem dL_bog_169 : decode cL_bog 169 = .ok (.goto (-24), 3) := by decide +kernel
theorem dL_bog_172 : decode cL_bog 172 = .ok (.aload 4, 2) := by decide +kernel
theorem dL_bog_174 : decode cL_bog 174 = .ok (.bipush 8, 2) := by decide +kernel
theorem dL_bog_176 : decode cL_bog 176 = .ok (.dup2, 1) := by decide +kernel
theorem dL_bog_177 : decode cL_bog 177 = .ok (.iaload, 1) := by decide +kernel
theorem dL_bog_178 : decode cL_bog 178 = .ok (.iconst 1, 1) := by decide +kernel
theorem dL_bog_179 : decode cL_bog 179 = .ok (.iadd, 1) := by decide +kernel
theorem dL_bog_180 : decode cL_bog 180 = .ok (.iastore, 1) := by decide +kernel
theorem dL_bog_181 : decode cL_bog 181 = .ok (.iload_n 2, 1) := by decide +kernel
theorem dL_bog_182 : decode cL_bog 182 = .ok (.ifCond .le 19, 3) := by decide +kernel
theorem dL_bog_185 : decode cL_bog 185 = .ok (.aload_n 3, 1) := by decide +kernel
theorem dL_bog_186 : decode cL_bog 186 = .ok (.iconst 2, 1) := by decide +kernel
theorem dL_bog_187 : decode cL_bog 187 = .ok (.iload 5, 2) := by decide +kernel
theorem dL_bog_189 : decode cL_bog 189 = .ok (.imul, 1) := by decide +kernel
theorem dL_bog_190 : decode cL_bog 190 = .ok (.iload_n 1, 1) := by decide +kernel
theorem dL_bog_191 : decode cL_bog 191 = .ok (.iastore, 1) := by decide +kernel
theorem dL_bog_192 : decode cL_bog 192 = .ok (.aload_n 3, 1) := by decide +kernel
theorem dL_bog_193 : decode cL_bog 193 = .ok (.iconst 2, 1) := by decide +kernel
theorem dL_bog_194 : decode cL_bog 194 = .ok (.iload 5, 2) := by decide +kernel
theorem dL_bog_196 : decode cL_bog 196 = .ok (.imul, 1) := by decide +kernel
theorem dL_bog_197 : decode cL_bog 197 = .ok (.iconst 1, 1) := by decide +kernel
theorem dL_bog_198 : decode cL_bog 198 = .ok (.iadd, 1) := by decide +kernel
theorem dL_bog_199 : decode cL_bog 199 = .ok (.iload_n 2, 1) := by decide +kernel
theorem dL_bog_200 : decode cL_bog 200 = .ok (.iastore, 1) := by decide +kernel
theorem dL_bog_201 : decode cL_bog 201 = .ok (.aload_n 0, 1) := by decide +kernel
theorem dL_bog_202 : decode cL_bog 202 = .ok (.iload_n 1, 1) := by decide +kernel
theorem dL_bog_203 : decode cL_bog 203 = .ok (.iload_n 2, 1) := by decide +kernel
theorem dL_bog_204 : decode cL_bog 204 = .ok (.invokevirtual 117, 3) := by decide +kernel
theorem dL_bog_207 : decode cL_bog 207 = .ok (.aload 4, 2) := by decide +kernel
theorem dL_bog_209 : decode cL_bog 209 = .ok (.bipush 8, 2) := by decide +kernel
theorem dL_bog_211 : decode cL_bog 211 = .ok (.iaload, 1) := by decide +kernel
theorem dL_bog_212 : decode cL_bog 212 = .ok (.if_icmp .ne 7, 3) := by decide +kernel
theorem dL_bog_215 : decode cL_bog 215 = .ok (.iconst 1, 1) := by decide +kernel
theorem dL_bog_216 : decode cL_bog 216 = .ok (.goto 4, 3) := by decide +kernel
theorem dL_bog_219 : decode cL_bog 219 = .ok (.iconst 0, 1) := by decide +kernel
theorem dL_bog_220 : decode cL_bog 220 = .ok (.ireturn, 1) := by decide +kernel
theorem dL_act_0 : decode cL_act 0 = .ok (.iload_n 1, 1) := by decide +kernel
theorem dL_act_1 : decode cL_act 1 = .ok (.iconst 2, 1) := by decide +kernel
theorem dL_act_2 : decode cL_act 2 = .ok (.if_icmp .ge 12, 3) := by decide +kernel
theorem dL_act_5 : decode cL_act 5 = .ok (.aload_n 0, 1) := by decide +kernel
theorem dL_act_6 : decode cL_act 6 = .ok (.iload_n 2, 1) := by decide +kernel
theorem dL_act_7 : decode cL_act 7 = .ok (.iload_n 3, 1) := by decide +kernel
theorem dL_act_8 : decode cL_act 8 = .ok (.aload 7, 2) := by decide +kernel
theorem dL_act_10 : decode cL_act 10 = .ok (.invokestatic 120, 3) := by decide +kernel
theorem dL_act_13 : decode cL_act 13 = .ok (.ireturn, 1) := by decide +kernel
theorem dL_act_14 : decode cL_act 14 = .ok (.iload_n 1, 1) := by decide +kernel
theorem dL_act_15 : decode cL_act 15 = .ok (.iconst 2, 1) := by decide +kernel
theorem dL_act_16 : decode cL_act 16 = .ok (.if_icmp .ne 42, 3) := by decide +kernel
theorem dL_act_19 : decode cL_act 19 = .ok (.aload_n 0, 1) := by decide +kernel
theorem dL_act_20 : decode cL_act 20 = .ok (.iconst 1, 1) := by decide +kernel
theorem dL_act_21 : decode cL_act 21 = .ok (.iload_n 2, 1) := by decide +kernel
theorem dL_act_22 : decode cL_act 22 = .ok (.bipush 60, 2) := by decide +kernel
theorem dL_act_24 : decode cL_act 24 = .ok (.invokestatic 69, 3) := by decide +kernel
theorem dL_act_27 : decode cL_act 27 = .ok (.iadd, 1) := by decide +kernel
theorem dL_act_28 : decode cL_act 28 = .ok (.iload_n 3, 1) := by decide +kernel
theorem dL_act_29 : decode cL_act 29 = .ok (.iconst 3, 1) := by decide +kernel
theorem dL_act_30 : decode cL_act 30 = .ok (.invokestatic 69, 3) := by decide +kernel
theorem dL_act_33 : decode cL_act 33 = .ok (.ifCond .ne 7, 3) := by decide +kernel
theorem dL_act_36 : decode cL_act 36 = .ok (.iconst 0, 1) := by decide +kernel
theorem dL_act_37 : decode cL_act 37 = .ok (.goto 13, 3) := by decide +kernel
theorem dL_act_40 : decode cL_act 40 = .ok (.iconst 1, 1) := by decide +kernel
theorem dL_act_41 : decode cL_act 41 = .ok (.iload_n 3, 1) := by decide +kernel
theorem dL_act_42 : decode cL_act 42 = .ok (.iconst 2, 1) := by decide +kernel
theorem dL_act_43 : decode cL_act 43 = .ok (.ishr, 1) := by decide +kernel
theorem dL_act_44 : decode cL_act 44 = .ok (.bipush 20, 2) := by decide +kernel
theorem dL_act_46 : decode cL_act 46 = .ok (.invokestatic 69, 3) := by decide +kernel
theorem dL_act_49 : decode cL_act 49 = .ok (.iadd, 1) := by decide +kernel
theorem dL_act_50 : decode cL_act 50 = .ok (.aload 9, 2) := by decide +kernel
theorem dL_act_52 : decode cL_act 52 = .ok (.aload 10, 2) := by decide +kernel
theorem dL_act_54 : decode cL_act 54 = .ok (.invokestatic 124, 3) := by decide +kernel
theorem dL_act_57 : decode cL_act 57 = .ok (.ireturn, 1) := by decide +kernel
theorem dL_act_58 : decode cL_act 58 = .ok (.iload_n 1, 1) := by decide +kernel
theorem dL_act_59 : decode cL_act 59 = .ok (.iconst 3, 1) := by decide +kernel
theorem dL_act_60 : decode cL_act 60 = .ok (.if_icmp .ne 148, 3) := by decide +kernel
theorem dL_act_63 : decode cL_act 63 = .ok (.iload_n 2, 1) := by decide +kernel
theorem dL_act_64 : decode cL_act 64 = .ok (.bipush 7, 2) := by decide +kernel
theorem dL_act_66 : decode cL_act 66 = .ok (.invokestatic 69, 3) := by decide +kernel
theorem dL_act_69 : decode cL_act 69 = .ok (.istore 11, 2) := by decide +kernel
theorem dL_act_71 : decode cL_act 71 = .ok (.iload 11, 2) := by decide +kernel
theorem dL_act_73 : decode cL_act 73 = .ok (.ifCond .ne 7, 3) := by decide +kernel
theorem dL_act_76 : decode cL_act 76 = .ok (.iconst 5, 1) := by decide +kernel
theorem dL_act_77 : decode cL_act 77 = .ok (.goto 21, 3) := by decide +kernel
theorem dL_act_80 : decode cL_act 80 = .ok (.iload 11, 2) := by decide +kernel
theorem dL_act_82 : decode cL_act 82 = .ok (.iconst 4, 1) := by decide +kernel
theorem dL_act_83 : decode cL_act 83 = .ok (.if_icmp .eq 10, 3) := by decide +kernel
theorem dL_act_86 : decode cL_act 86 = .ok (.iload 11, 2) := by decide +kernel
theorem dL_act_88 : decode cL_act 88 = .ok (.bipush 6, 2) := by decide +kernel
theorem dL_act_90 : decode cL_act 90 = .ok (.if_icmp .ne 7, 3) := by decide +kernel
theorem dL_act_93 : decode cL_act 93 = .ok (.iconst 0, 1) := by decide +kernel
theorem dL_act_94 : decode cL_act 94 = .ok (.goto 4, 3) := by decide +kernel
theorem dL_act_97 : decode cL_act 97 = .ok (.iconst 1, 1) := by decide +kernel
theorem dL_act_98 : decode cL_act 98 = .ok (.istore 12, 2) := by decide +kernel
theorem dL_act_100 : decode cL_act 100 = .ok (.aload 8, 2) := by decide +kernel
theorem dL_act_102 : decode cL_act 102 = .ok (.iload 11, 2) := by decide +kernel
theorem dL_act_104 : decode cL_act 104 = .ok (.iaload, 1) := by decide +kernel
theorem dL_act_105 : decode cL_act 105 = .ok (.istore 13, 2) := by decide +kernel
theorem dL_act_107 : decode cL_act 107 = .ok (.aload 8, 2) := by decide +kernel
theorem dL_act_109 : decode cL_act 109 = .ok (.iload 11, 2) := by decide +kernel
theorem dL_act_111 : decode cL_act 111 = .ok (.iload 12, 2) := by decide +kernel
theorem dL_act_113 : decode cL_act 113 = .ok (.iload_n 3, 1) := by decide +kernel
theorem dL_act_114 : decode cL_act 114 = .ok (.iload 11, 2) := by decide +kernel
theorem dL_act_116 : decode cL_act 116 = .ok (.ifCond .ne 8, 3) := by decide +kernel
theorem dL_act_119 : decode cL_act 119 = .ok (.bipush 21, 2) := by decide +kernel
theorem dL_act_121 : decode cL_act 121 = .ok (.goto 60, 3) := by decide +kernel
theorem dL_act_124 : decode cL_act 124 = .ok (.iload 11, 2) := by decide +kernel
theorem dL_act_126 : decode cL_act 126 = .ok (.iconst 1, 1) := by decide +kernel
theorem dL_act_127 : decode cL_act 127 = .ok (.if_icmp .ne 8, 3) := by decide +kernel
theorem dL_act_130 : decode cL_act 130 = .ok (.bipush 20, 2) := by decide +kernel
theorem dL_act_132 : decode cL_act 132 = .ok (.goto 49, 3) := by decide +kernel
theorem dL_act_135 : decode cL_act 135 = .ok (.iload 11, 2) := by decide +kernel
theorem dL_act_137 : decode cL_act 137 = .ok (.iconst 2, 1) := by decide +kernel
theorem dL_act_138 : decode cL_act 138 = .ok (.if_icmp .ne 8, 3) := by decide +kernel
theorem dL_act_141 : decode cL_act 141 = .ok (.bipush 6, 2) := by decide +kernel
theorem dL_act_143 : decode cL_act 143 = .ok (.goto 38, 3) := by decide +kernel
theorem dL_act_146 : decode cL_act 146 = .ok (.iload 11, 2) := by decide +kernel
theorem dL_act_148 : decode cL_act 148 = .ok (.iconst 3, 1) := by decide +kernel
theorem dL_act_149 : decode cL_act 149 = .ok (.if_icmp .ne 8, 3) := by decide +kernel
theorem dL_act_152 : decode cL_act 152 = .ok (.bipush 40, 2) := by decide +kernel
theorem dL_act_154 : decode cL_act 154 = .ok (.goto 27, 3) := by decide +kernel
theorem dL_act_157 : decode cL_act 157 = .ok (.iload 11, 2) := by decide +kernel
theorem dL_act_159 : decode cL_act 159 = .ok (.iconst 4, 1) := by decide +kernel
theorem dL_act_160 : decode cL_act 160 = .ok (.if_icmp .ne 8, 3) := by decide +kernel
theorem dL_act_163 : decode cL_act 163 = .ok (.bipush 11, 2) := by decide +kernel
theorem dL_act_165 : decode cL_act 165 = .ok (.goto 16, 3) := by decide +kernel
theorem dL_act_168 : decode cL_act 168 = .ok (.iload 11, 2) := by decide +kernel
theorem dL_act_170 : decode cL_act 170 = .ok (.iconst 5, 1) := by decide +kernel
theorem dL_act_171 : decode cL_act 171 = .ok (.if_icmp .ne 8, 3) := by decide +kernel
theorem dL_act_174 : decode cL_act 174 = .ok (.bipush 30, 2) := by decide +kernel
theorem dL_act_176 : decode cL_act 176 = .ok (.goto 5, 3) := by decide +kernel
theorem dL_act_179 : decode cL_act 179 = .ok (.bipush 30, 2) := by decide +kernel
theorem dL_act_181 : decode cL_act 181 = .ok (.invokestatic 69, 3) := by decide +kernel
theorem dL_act_184 : decode cL_act 184 = .ok (.iadd, 1) := by decide +kernel
theorem dL_act_185 : decode cL_act 185 = .ok (.iastore, 1) := by decide +kernel
theorem dL_act_186 : decode cL_act 186 = .ok (.aload_n 0, 1) := by decide +kernel
theorem dL_act_187 : decode cL_act 187 = .ok (.iload 11, 2) := by decide +kernel
theorem dL_act_189 : decode cL_act 189 = .ok (.aload 8, 2) := by decide +kernel
theorem dL_act_191 : decode cL_act 191 = .ok (.iload 11, 2) := by decide +kernel
theorem dL_act_193 : decode cL_act 193 = .ok (.iaload, 1) := by decide +kernel
theorem dL_act_194 : decode cL_act 194 = .ok (.invokevirtual 127, 3) := by decide +kernel
theorem dL_act_197 : decode cL_act 197 = .ok (.iload 13, 2) := by decide +kernel
theorem dL_act_199 : decode cL_act 199 = .ok (.if_icmp .ne 7, 3) := by decide +kernel
theorem dL_act_202 : decode cL_act 202 = .ok (.iconst 1, 1) := by decide +kernel
theorem dL_act_203 : decode cL_act 203 = .ok (.goto 4, 3) := by decide +kernel
theorem dL_act_206 : decode cL_act 206 = .ok (.iconst 0, 1) := by decide +kernel
theorem dL_act_207 : decode cL_act 207 = .ok (.ireturn, 1) := by decide +kernel
theorem dL_act_208 : decode cL_act 208 = .ok (.iload_n 1, 1) := by decide +kernel
theorem dL_act_209 : decode cL_act 209 = .ok (.bipush 6, 2) := by decide +kernel
theorem dL_act_211 : decode cL_act 211 = .ok (.if_icmp .ge 155, 3) := by decide +kernel
theorem dL_act_214 : decode cL_act 214 = .ok (.iconst 1, 1) := by decide +kernel
theorem dL_act_215 : decode cL_act 215 = .ok (.iload_n 2, 1) := by decide +kernel
theorem dL_act_216 : decode cL_act 216 = .ok (.bipush 60, 2) := by decide +kernel
theorem dL_act_218 : decode cL_act 218 = .ok (.invokestatic 69, 3) := by decide +kernel
theorem dL_act_221 : decode cL_act 221 = .ok (.iadd, 1) := by decide +kernel
theorem dL_act_222 : decode cL_act 222 = .ok (.istore 11, 2) := by decide +kernel
theorem dL_act_224 : decode cL_act 224 = .ok (.iconst 0, 1) := by decide +kernel
theorem dL_act_225 : decode cL_act 225 = .ok (.istore 12, 2) := by decide +kernel
theorem dL_act_227 : decode cL_act 227 = .ok (.iload 12, 2) := by decide +kernel
theorem dL_act_229 : decode cL_act 229 = .ok (.aload 10, 2) := by decide +kernel
theorem dL_act_231 : decode cL_act 231 = .ok (.bipush 6, 2) := by decide +kernel
theorem dL_act_233 : decode cL_act 233 = .ok (.iaload, 1) := by decide +kernel
theorem dL_act_234 : decode cL_act 234 = .ok (.if_icmp .ge 24, 3) := by decide +kernel
theorem dL_act_237 : decode cL_act 237 = .ok (.aload 4, 2) := by decide +kernel
theorem dL_act_239 : decode cL_act 239 = .ok (.bipush 7, 2) := by decide +kernel
theorem dL_act_241 : decode cL_act 241 = .ok (.iload 12, 2) := by decide +kernel
theorem dL_act_243 : decode cL_act 243 = .ok (.imul, 1) := by decide +kernel
theorem dL_act_244 : decode cL_act 244 = .ok (.iaload, 1) := by decide +kernel
theorem dL_act_245 : decode cL_act 245 = .ok (.iload 11, 2) := by decide +kernel
theorem dL_act_247 : decode cL_act 247 = .ok (.if_icmp .ne 5, 3) := by decide +kernel
theorem dL_act_250 : decode cL_act 250 = .ok (.iconst 1, 1) := by decide +kernel
theorem dL_act_251 : decode cL_act 251 = .ok (.ireturn, 1) := by decide +kernel
theorem dL_act_252 : decode cL_act 252 = .ok (.iinc 12 1, 3) := by decide +kernel
theorem dL_act_255 : decode cL_act 255 = .ok (.goto (-28), 3) := by decide +kernel
theorem dL_act_258 : decode cL_act 258 = .ok (.aload 10, 2) := by decide +kernel
theorem dL_act_260 : decode cL_act 260 = .ok (.bipush 6, 2) := by decide +kernel
theorem dL_act_262 : decode cL_act 262 = .ok (.iaload, 1) := by decide +kernel
theorem dL_act_263 : decode cL_act 263 = .ok (.bipush 6, 2) := by decide +kernel
theorem dL_act_265 : decode cL_act 265 = .ok (.if_icmp .ne 5, 3) := by decide +kernel
theorem dL_act_268 : decode cL_act 268 = .ok (.iconst 1, 1) := by decide +kernel
theorem dL_act_269 : decode cL_act 269 = .ok (.ireturn, 1) := by decide +kernel
theorem dL_act_270 : decode cL_act 270 = .ok (.bipush 7, 2) := by decide +kernel
theorem dL_act_272 : decode cL_act 272 = .ok (.aload 10, 2) := by decide +kernel
theorem dL_act_274 : decode cL_act 274 = .ok (.bipush 6, 2) := by decide +kernel
theorem dL_act_276 : decode cL_act 276 = .ok (.iaload, 1) := by decide +kernel
theorem dL_act_277 : decode cL_act 277 = .ok (.imul, 1) := by decide +kernel
theorem dL_act_278 : decode cL_act 278 = .ok (.istore 12, 2) := by decide +kernel
theorem dL_act_280 : decode cL_act 280 = .ok (.aload 4, 2) := by decide +kernel
theorem dL_act_282 : decode cL_act 282 = .ok (.iload 12, 2) := by decide +kernel
theorem dL_act_284 : decode cL_act 284 = .ok (.iload 11, 2) := by decide +kernel
theorem dL_act_286 : decode cL_act 286 = .ok (.iastore, 1) := by decide +kernel
theorem dL_act_287 : decode cL_act 287 = .ok (.aload 4, 2) := by decide +kernel
theorem dL_act_289 : decode cL_act 289 = .ok (.iload 12, 2) := by decide +kernel
theorem dL_act_291 : decode cL_act 291 = .ok (.iconst 1, 1) := by decide +kernel
theorem dL_act_292 : decode cL_act 292 = .ok (.iadd, 1) := by decide +kernel
theorem dL_act_293 : decode cL_act 293 = .ok (.bipush 50, 2) := by decide +kernel
theorem dL_act_295 : decode cL_act 295 = .ok (.iload_n 3, 1) := by decide +kernel
theorem dL_act_296 : decode cL_act 296 = .ok (.bipush 111, 2) := by decide +kernel
theorem dL_act_298 : decode cL_act 298 = .ok (.invokestatic 69, 3) := by decide +kernel
theorem dL_act_301 : decode cL_act 301 = .ok (.iadd, 1) := by decide +kernel
theorem dL_act_302 : decode cL_act 302 = .ok (.iastore, 1) := by decide +kernel
theorem dL_act_303 : decode cL_act 303 = .ok (.aload 4, 2) := by decide +kernel
theorem dL_act_305 : decode cL_act 305 = .ok (.iload 12, 2) := by decide +kernel
theorem dL_act_307 : decode cL_act 307 = .ok (.iconst 2, 1) := by decide +kernel
theorem dL_act_308 : decode cL_act 308 = .ok (.iadd, 1) := by decide +kernel
theorem dL_act_309 : decode cL_act 309 = .ok (.iconst 1, 1) := by decide +kernel
theorem dL_act_310 : decode cL_act 310 = .ok (.iload_n 3, 1) := by decide +kernel
theorem dL_act_311 : decode cL_act 311 = .ok (.bipush 7, 2) := by decide +kernel
theorem dL_act_313 : decode cL_act 313 = .ok (.ishr, 1) := by decide +kernel
theorem dL_act_314 : decode cL_act 314 = .ok (.bipush 50, 2) := by decide +kernel
theorem dL_act_316 : decode cL_act 316 = .ok (.invokestatic 69, 3) := by decide +kernel
theorem dL_act_319 : decode cL_act 319 = .ok (.iadd, 1) := by decide +kernel
theorem dL_act_320 : decode cL_act 320 = .ok (.iastore, 1) := by decide +kernel
theorem dL_act_321 : decode cL_act 321 = .ok (.aload 10, 2) := by decide +kernel
theorem dL_act_323 : decode cL_act 323 = .ok (.bipush 6, 2) := by decide +kernel
theorem dL_act_325 : decode cL_act 325 = .ok (.dup2, 1) := by decide +kernel
theorem dL_act_326 : decode cL_act 326 = .ok (.iaload, 1) := by decide +kernel
theorem dL_act_327 : decode cL_act 327 = .ok (.iconst 1, 1) := by decide +kernel
theorem dL_act_328 : decode cL_act 328 = .ok (.iadd, 1) := by decide +kernel
theorem dL_act_329 : decode cL_act 329 = .ok (.iastore, 1) := by decide +kernel
theorem dL_act_330 : decode cL_act 330 = .ok (.aload_n 0, 1) := by decide +kernel
theorem dL_act_331 : decode cL_act 331 = .ok (.iload 11, 2) := by decide +kernel
theorem dL_act_333 : decode cL_act 333 = .ok (.aload 4, 2) := by decide +kernel
theorem dL_act_335 : decode cL_act 335 = .ok (.iload 12, 2) := by decide +kernel
theorem dL_act_337 : decode cL_act 337 = .ok (.iconst 1, 1) := by decide +kernel
theorem dL_act_338 : decode cL_act 338 = .ok (.iadd, 1) := by decide +kernel
theorem dL_act_339 : decode cL_act 339 = .ok (.iaload, 1) := by decide +kernel
theorem dL_act_340 : decode cL_act 340 = .ok (.aload 4, 2) := by decide +kernel
theorem dL_act_342 : decode cL_act 342 = .ok (.iload 12, 2) := by decide +kernel
theorem dL_act_344 : decode cL_act 344 = .ok (.iconst 2, 1) := by decide +kernel
theorem dL_act_345 : decode cL_act 345 = .ok (.iadd, 1) := by decide +kernel
theorem dL_act_346 : decode cL_act 346 = .ok (.iaload, 1) := by decide +kernel
theorem dL_act_347 : decode cL_act 347 = .ok (.invokevirtual 130, 3) := by decide +kernel
theorem dL_act_350 : decode cL_act 350 = .ok (.aload 10, 2) := by decide +kernel
theorem dL_act_352 : decode cL_act 352 = .ok (.bipush 6, 2) := by decide +kernel
theorem dL_act_354 : decode cL_act 354 = .ok (.iaload, 1) := by decide +kernel
