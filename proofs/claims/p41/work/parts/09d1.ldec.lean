theorem dL_law_146 : decode cL_law 146 = .ok (.imul, 1) := by decide +kernel
theorem dL_law_147 : decode cL_law 147 = .ok (.iload 15, 2) := by decide +kernel
theorem dL_law_149 : decode cL_law 149 = .ok (.imul, 1) := by decide +kernel
theorem dL_law_150 : decode cL_law 150 = .ok (.ldc 100, 2) := by decide +kernel
theorem dL_law_152 : decode cL_law 152 = .ok (.iload 15, 2) := by decide +kernel
theorem dL_law_154 : decode cL_law 154 = .ok (.imul, 1) := by decide +kernel
theorem dL_law_155 : decode cL_law 155 = .ok (.iadd, 1) := by decide +kernel
theorem dL_law_156 : decode cL_law 156 = .ok (.sipush 171, 3) := by decide +kernel
theorem dL_law_159 : decode cL_law 159 = .ok (.iadd, 1) := by decide +kernel
theorem dL_law_160 : decode cL_law 160 = .ok (.istore 16, 2) := by decide +kernel
theorem dL_law_162 : decode cL_law 162 = .ok (.iload 16, 2) := by decide +kernel
theorem dL_law_164 : decode cL_law 164 = .ok (.iconst 4, 1) := by decide +kernel
theorem dL_law_165 : decode cL_law 165 = .ok (.ishr, 1) := by decide +kernel
theorem dL_law_166 : decode cL_law 166 = .ok (.ldc 101, 2) := by decide +kernel
theorem dL_law_168 : decode cL_law 168 = .ok (.iand, 1) := by decide +kernel
theorem dL_law_169 : decode cL_law 169 = .ok (.istore 17, 2) := by decide +kernel
theorem dL_law_171 : decode cL_law 171 = .ok (.iload 15, 2) := by decide +kernel
theorem dL_law_173 : decode cL_law 173 = .ok (.bipush 8, 2) := by decide +kernel
theorem dL_law_175 : decode cL_law 175 = .ok (.if_icmp .ge 7, 3) := by decide +kernel
theorem dL_law_178 : decode cL_law 178 = .ok (.iconst 0, 1) := by decide +kernel
theorem dL_law_179 : decode cL_law 179 = .ok (.goto 8, 3) := by decide +kernel
theorem dL_law_182 : decode cL_law 182 = .ok (.iload 16, 2) := by decide +kernel
theorem dL_law_184 : decode cL_law 184 = .ok (.bipush 15, 2) := by decide +kernel
theorem dL_law_186 : decode cL_law 186 = .ok (.iand, 1) := by decide +kernel
theorem dL_law_187 : decode cL_law 187 = .ok (.istore 18, 2) := by decide +kernel
theorem dL_law_189 : decode cL_law 189 = .ok (.iload 15, 2) := by decide +kernel
theorem dL_law_191 : decode cL_law 191 = .ok (.bipush 8, 2) := by decide +kernel
theorem dL_law_193 : decode cL_law 193 = .ok (.if_icmp .ge 10, 3) := by decide +kernel
theorem dL_law_196 : decode cL_law 196 = .ok (.iload 15, 2) := by decide +kernel
theorem dL_law_198 : decode cL_law 198 = .ok (.iconst 4, 1) := by decide +kernel
theorem dL_law_199 : decode cL_law 199 = .ok (.irem, 1) := by decide +kernel
theorem dL_law_200 : decode cL_law 200 = .ok (.goto 7, 3) := by decide +kernel
theorem dL_law_203 : decode cL_law 203 = .ok (.iload 17, 2) := by decide +kernel
theorem dL_law_205 : decode cL_law 205 = .ok (.iconst 4, 1) := by decide +kernel
theorem dL_law_206 : decode cL_law 206 = .ok (.irem, 1) := by decide +kernel
theorem dL_law_207 : decode cL_law 207 = .ok (.istore 19, 2) := by decide +kernel
theorem dL_law_209 : decode cL_law 209 = .ok (.aload_n 1, 1) := by decide +kernel
theorem dL_law_210 : decode cL_law 210 = .ok (.iload 19, 2) := by decide +kernel
theorem dL_law_212 : decode cL_law 212 = .ok (.invokevirtual 49, 3) := by decide +kernel
theorem dL_law_215 : decode cL_law 215 = .ok (.istore 20, 2) := by decide +kernel
theorem dL_law_217 : decode cL_law 217 = .ok (.aload_n 1, 1) := by decide +kernel
theorem dL_law_218 : decode cL_law 218 = .ok (.invokevirtual 96, 3) := by decide +kernel
theorem dL_law_221 : decode cL_law 221 = .ok (.istore 21, 2) := by decide +kernel
theorem dL_law_223 : decode cL_law 223 = .ok (.iload 18, 2) := by decide +kernel
theorem dL_law_225 : decode cL_law 225 = .ok (.iconst 3, 1) := by decide +kernel
theorem dL_law_226 : decode cL_law 226 = .ok (.if_icmp .ge 92, 3) := by decide +kernel
theorem dL_law_229 : decode cL_law 229 = .ok (.iload 20, 2) := by decide +kernel
theorem dL_law_231 : decode cL_law 231 = .ok (.bipush 40, 2) := by decide +kernel
theorem dL_law_233 : decode cL_law 233 = .ok (.if_icmp .ge 85, 3) := by decide +kernel
theorem dL_law_236 : decode cL_law 236 = .ok (.iload 17, 2) := by decide +kernel
theorem dL_law_238 : decode cL_law 238 = .ok (.iconst 2, 1) := by decide +kernel
theorem dL_law_239 : decode cL_law 239 = .ok (.ishr, 1) := by decide +kernel
theorem dL_law_240 : decode cL_law 240 = .ok (.iload 20, 2) := by decide +kernel
theorem dL_law_242 : decode cL_law 242 = .ok (.iconst 1, 1) := by decide +kernel
theorem dL_law_243 : decode cL_law 243 = .ok (.iadd, 1) := by decide +kernel
theorem dL_law_244 : decode cL_law 244 = .ok (.irem, 1) := by decide +kernel
theorem dL_law_245 : decode cL_law 245 = .ok (.istore 22, 2) := by decide +kernel
theorem dL_law_247 : decode cL_law 247 = .ok (.iload 17, 2) := by decide +kernel
theorem dL_law_249 : decode cL_law 249 = .ok (.bipush 7, 2) := by decide +kernel
theorem dL_law_251 : decode cL_law 251 = .ok (.ishr, 1) := by decide +kernel
theorem dL_law_252 : decode cL_law 252 = .ok (.iconst 3, 1) := by decide +kernel
theorem dL_law_253 : decode cL_law 253 = .ok (.iand, 1) := by decide +kernel
theorem dL_law_254 : decode cL_law 254 = .ok (.ifCond .le 13, 3) := by decide +kernel
theorem dL_law_257 : decode cL_law 257 = .ok (.iload 17, 2) := by decide +kernel
theorem dL_law_259 : decode cL_law 259 = .ok (.bipush 9, 2) := by decide +kernel
theorem dL_law_261 : decode cL_law 261 = .ok (.ishr, 1) := by decide +kernel
theorem dL_law_262 : decode cL_law 262 = .ok (.iconst 3, 1) := by decide +kernel
theorem dL_law_263 : decode cL_law 263 = .ok (.iand, 1) := by decide +kernel
theorem dL_law_264 : decode cL_law 264 = .ok (.goto 12, 3) := by decide +kernel
theorem dL_law_267 : decode cL_law 267 = .ok (.iload 17, 2) := by decide +kernel
theorem dL_law_269 : decode cL_law 269 = .ok (.bipush 9, 2) := by decide +kernel
theorem dL_law_271 : decode cL_law 271 = .ok (.ishr, 1) := by decide +kernel
theorem dL_law_272 : decode cL_law 272 = .ok (.sipush 255, 3) := by decide +kernel
theorem dL_law_275 : decode cL_law 275 = .ok (.iand, 1) := by decide +kernel
theorem dL_law_276 : decode cL_law 276 = .ok (.istore 23, 2) := by decide +kernel
theorem dL_law_278 : decode cL_law 278 = .ok (.aload_n 1, 1) := by decide +kernel
theorem dL_law_279 : decode cL_law 279 = .ok (.iload 19, 2) := by decide +kernel
theorem dL_law_281 : decode cL_law 281 = .ok (.iload 22, 2) := by decide +kernel
theorem dL_law_283 : decode cL_law 283 = .ok (.iload 23, 2) := by decide +kernel
theorem dL_law_285 : decode cL_law 285 = .ok (.invokevirtual 102, 3) := by decide +kernel
theorem dL_law_288 : decode cL_law 288 = .ok (.iload 20, 2) := by decide +kernel
theorem dL_law_290 : decode cL_law 290 = .ok (.iconst 1, 1) := by decide +kernel
theorem dL_law_291 : decode cL_law 291 = .ok (.iadd, 1) := by decide +kernel
theorem dL_law_292 : decode cL_law 292 = .ok (.if_icmp .ne 20, 3) := by decide +kernel
theorem dL_law_295 : decode cL_law 295 = .ok (.aload_n 1, 1) := by decide +kernel
theorem dL_law_296 : decode cL_law 296 = .ok (.iload 19, 2) := by decide +kernel
theorem dL_law_298 : decode cL_law 298 = .ok (.iload 22, 2) := by decide +kernel
theorem dL_law_300 : decode cL_law 300 = .ok (.invokevirtual 55, 3) := by decide +kernel
theorem dL_law_303 : decode cL_law 303 = .ok (.iload 23, 2) := by decide +kernel
theorem dL_law_305 : decode cL_law 305 = .ok (.if_icmp .ne 7, 3) := by decide +kernel
theorem dL_law_308 : decode cL_law 308 = .ok (.iconst 1, 1) := by decide +kernel
theorem dL_law_309 : decode cL_law 309 = .ok (.goto 4, 3) := by decide +kernel
theorem dL_law_312 : decode cL_law 312 = .ok (.iconst 0, 1) := by decide +kernel
theorem dL_law_313 : decode cL_law 313 = .ok (.istore 13, 2) := by decide +kernel
theorem dL_law_315 : decode cL_law 315 = .ok (.goto 1130, 3) := by decide +kernel
theorem dL_law_318 : decode cL_law 318 = .ok (.iload 18, 2) := by decide +kernel
theorem dL_law_320 : decode cL_law 320 = .ok (.iconst 4, 1) := by decide +kernel
theorem dL_law_321 : decode cL_law 321 = .ok (.if_icmp .ge 90, 3) := by decide +kernel
theorem dL_law_324 : decode cL_law 324 = .ok (.iload 20, 2) := by decide +kernel
theorem dL_law_326 : decode cL_law 326 = .ok (.ifCond .le 85, 3) := by decide +kernel
theorem dL_law_329 : decode cL_law 329 = .ok (.iload 17, 2) := by decide +kernel
theorem dL_law_331 : decode cL_law 331 = .ok (.iconst 2, 1) := by decide +kernel
theorem dL_law_332 : decode cL_law 332 = .ok (.ishr, 1) := by decide +kernel
theorem dL_law_333 : decode cL_law 333 = .ok (.iload 20, 2) := by decide +kernel
theorem dL_law_335 : decode cL_law 335 = .ok (.irem, 1) := by decide +kernel
theorem dL_law_336 : decode cL_law 336 = .ok (.istore 22, 2) := by decide +kernel
theorem dL_law_338 : decode cL_law 338 = .ok (.aload_n 1, 1) := by decide +kernel
theorem dL_law_339 : decode cL_law 339 = .ok (.iload 19, 2) := by decide +kernel
theorem dL_law_341 : decode cL_law 341 = .ok (.iload 22, 2) := by decide +kernel
theorem dL_law_343 : decode cL_law 343 = .ok (.invokevirtual 55, 3) := by decide +kernel
theorem dL_law_346 : decode cL_law 346 = .ok (.istore 23, 2) := by decide +kernel
theorem dL_law_348 : decode cL_law 348 = .ok (.aload_n 1, 1) := by decide +kernel
theorem dL_law_349 : decode cL_law 349 = .ok (.iload 19, 2) := by decide +kernel
theorem dL_law_351 : decode cL_law 351 = .ok (.iload 22, 2) := by decide +kernel
theorem dL_law_353 : decode cL_law 353 = .ok (.iload 17, 2) := by decide +kernel
theorem dL_law_355 : decode cL_law 355 = .ok (.bipush 9, 2) := by decide +kernel
theorem dL_law_357 : decode cL_law 357 = .ok (.ishr, 1) := by decide +kernel
theorem dL_law_358 : decode cL_law 358 = .ok (.sipush 255, 3) := by decide +kernel
theorem dL_law_361 : decode cL_law 361 = .ok (.iand, 1) := by decide +kernel
theorem dL_law_362 : decode cL_law 362 = .ok (.invokevirtual 106, 3) := by decide +kernel
theorem dL_law_365 : decode cL_law 365 = .ok (.iload 23, 2) := by decide +kernel
theorem dL_law_367 : decode cL_law 367 = .ok (.if_icmp .ne 38, 3) := by decide +kernel
theorem dL_law_370 : decode cL_law 370 = .ok (.aload_n 1, 1) := by decide +kernel
theorem dL_law_371 : decode cL_law 371 = .ok (.iload 19, 2) := by decide +kernel
theorem dL_law_373 : decode cL_law 373 = .ok (.iload 22, 2) := by decide +kernel
theorem dL_law_375 : decode cL_law 375 = .ok (.invokevirtual 55, 3) := by decide +kernel
theorem dL_law_378 : decode cL_law 378 = .ok (.iload 17, 2) := by decide +kernel
theorem dL_law_380 : decode cL_law 380 = .ok (.bipush 9, 2) := by decide +kernel
theorem dL_law_382 : decode cL_law 382 = .ok (.ishr, 1) := by decide +kernel
theorem dL_law_383 : decode cL_law 383 = .ok (.sipush 255, 3) := by decide +kernel
theorem dL_law_386 : decode cL_law 386 = .ok (.iand, 1) := by decide +kernel
theorem dL_law_387 : decode cL_law 387 = .ok (.if_icmp .ne 18, 3) := by decide +kernel
theorem dL_law_390 : decode cL_law 390 = .ok (.aload_n 1, 1) := by decide +kernel
theorem dL_law_391 : decode cL_law 391 = .ok (.iload 19, 2) := by decide +kernel
theorem dL_law_393 : decode cL_law 393 = .ok (.invokevirtual 49, 3) := by decide +kernel
theorem dL_law_396 : decode cL_law 396 = .ok (.iload 20, 2) := by decide +kernel
theorem dL_law_398 : decode cL_law 398 = .ok (.if_icmp .ne 7, 3) := by decide +kernel
theorem dL_law_401 : decode cL_law 401 = .ok (.iconst 1, 1) := by decide +kernel
theorem dL_law_402 : decode cL_law 402 = .ok (.goto 4, 3) := by decide +kernel
theorem dL_law_405 : decode cL_law 405 = .ok (.iconst 0, 1) := by decide +kernel

theorem dL_law_406 : decode cL_law 406 = .ok (.istore 13, 2) := by decide +kernel
theorem dL_law_408 : decode cL_law 408 = .ok (.goto 1037, 3) := by decide +kernel
theorem dL_law_411 : decode cL_law 411 = .ok (.iload 18, 2) := by decide +kernel
theorem dL_law_413 : decode cL_law 413 = .ok (.iconst 4, 1) := by decide +kernel
theorem dL_law_414 : decode cL_law 414 = .ok (.if_icmp .ne 60, 3) := by decide +kernel
theorem dL_law_417 : decode cL_law 417 = .ok (.iload 17, 2) := by decide +kernel
theorem dL_law_419 : decode cL_law 419 = .ok (.iconst 2, 1) := by decide +kernel
theorem dL_law_420 : decode cL_law 420 = .ok (.ishr, 1) := by decide +kernel
theorem dL_law_421 : decode cL_law 421 = .ok (.iload 20, 2) := by decide +kernel
theorem dL_law_423 : decode cL_law 423 = .ok (.iconst 1, 1) := by decide +kernel
theorem dL_law_424 : decode cL_law 424 = .ok (.iadd, 1) := by decide +kernel
theorem dL_law_425 : decode cL_law 425 = .ok (.irem, 1) := by decide +kernel
theorem dL_law_426 : decode cL_law 426 = .ok (.istore 22, 2) := by decide +kernel
theorem dL_law_428 : decode cL_law 428 = .ok (.iload 17, 2) := by decide +kernel
theorem dL_law_430 : decode cL_law 430 = .ok (.bipush 8, 2) := by decide +kernel
theorem dL_law_432 : decode cL_law 432 = .ok (.ishr, 1) := by decide +kernel
theorem dL_law_433 : decode cL_law 433 = .ok (.iload 20, 2) := by decide +kernel
theorem dL_law_435 : decode cL_law 435 = .ok (.iload 22, 2) := by decide +kernel
theorem dL_law_437 : decode cL_law 437 = .ok (.isub, 1) := by decide +kernel
theorem dL_law_438 : decode cL_law 438 = .ok (.iconst 1, 1) := by decide +kernel
theorem dL_law_439 : decode cL_law 439 = .ok (.iadd, 1) := by decide +kernel
theorem dL_law_440 : decode cL_law 440 = .ok (.irem, 1) := by decide +kernel
theorem dL_law_441 : decode cL_law 441 = .ok (.bipush 6, 2) := by decide +kernel
theorem dL_law_443 : decode cL_law 443 = .ok (.irem, 1) := by decide +kernel
theorem dL_law_444 : decode cL_law 444 = .ok (.istore 23, 2) := by decide +kernel
theorem dL_law_446 : decode cL_law 446 = .ok (.aload_n 1, 1) := by decide +kernel
theorem dL_law_447 : decode cL_law 447 = .ok (.iload 19, 2) := by decide +kernel
theorem dL_law_449 : decode cL_law 449 = .ok (.iload 22, 2) := by decide +kernel
theorem dL_law_451 : decode cL_law 451 = .ok (.iload 23, 2) := by decide +kernel
theorem dL_law_453 : decode cL_law 453 = .ok (.invokevirtual 109, 3) := by decide +kernel
theorem dL_law_456 : decode cL_law 456 = .ok (.iload 20, 2) := by decide +kernel
theorem dL_law_458 : decode cL_law 458 = .ok (.iload 23, 2) := by decide +kernel
theorem dL_law_460 : decode cL_law 460 = .ok (.isub, 1) := by decide +kernel
theorem dL_law_461 : decode cL_law 461 = .ok (.if_icmp .ne 7, 3) := by decide +kernel
theorem dL_law_464 : decode cL_law 464 = .ok (.iconst 1, 1) := by decide +kernel
theorem dL_law_465 : decode cL_law 465 = .ok (.goto 4, 3) := by decide +kernel
theorem dL_law_468 : decode cL_law 468 = .ok (.iconst 0, 1) := by decide +kernel
theorem dL_law_469 : decode cL_law 469 = .ok (.istore 13, 2) := by decide +kernel
theorem dL_law_471 : decode cL_law 471 = .ok (.goto 974, 3) := by decide +kernel
theorem dL_law_474 : decode cL_law 474 = .ok (.iload 18, 2) := by decide +kernel
theorem dL_law_476 : decode cL_law 476 = .ok (.iconst 5, 1) := by decide +kernel
theorem dL_law_477 : decode cL_law 477 = .ok (.if_icmp .ne 121, 3) := by decide +kernel
theorem dL_law_480 : decode cL_law 480 = .ok (.iload 17, 2) := by decide +kernel
theorem dL_law_482 : decode cL_law 482 = .ok (.iconst 2, 1) := by decide +kernel
theorem dL_law_483 : decode cL_law 483 = .ok (.ishr, 1) := by decide +kernel
theorem dL_law_484 : decode cL_law 484 = .ok (.iconst 3, 1) := by decide +kernel
theorem dL_law_485 : decode cL_law 485 = .ok (.iand, 1) := by decide +kernel
theorem dL_law_486 : decode cL_law 486 = .ok (.istore 22, 2) := by decide +kernel
theorem dL_law_488 : decode cL_law 488 = .ok (.iload 17, 2) := by decide +kernel
theorem dL_law_490 : decode cL_law 490 = .ok (.iconst 4, 1) := by decide +kernel
theorem dL_law_491 : decode cL_law 491 = .ok (.ishr, 1) := by decide +kernel
theorem dL_law_492 : decode cL_law 492 = .ok (.iload 20, 2) := by decide +kernel
theorem dL_law_494 : decode cL_law 494 = .ok (.iconst 1, 1) := by decide +kernel
theorem dL_law_495 : decode cL_law 495 = .ok (.iadd, 1) := by decide +kernel
theorem dL_law_496 : decode cL_law 496 = .ok (.irem, 1) := by decide +kernel
theorem dL_law_497 : decode cL_law 497 = .ok (.istore 23, 2) := by decide +kernel
theorem dL_law_499 : decode cL_law 499 = .ok (.iload 17, 2) := by decide +kernel
theorem dL_law_501 : decode cL_law 501 = .ok (.bipush 8, 2) := by decide +kernel
theorem dL_law_503 : decode cL_law 503 = .ok (.ishr, 1) := by decide +kernel
theorem dL_law_504 : decode cL_law 504 = .ok (.iload 20, 2) := by decide +kernel
theorem dL_law_506 : decode cL_law 506 = .ok (.iload 23, 2) := by decide +kernel
theorem dL_law_508 : decode cL_law 508 = .ok (.isub, 1) := by decide +kernel
theorem dL_law_509 : decode cL_law 509 = .ok (.iconst 1, 1) := by decide +kernel
theorem dL_law_510 : decode cL_law 510 = .ok (.iadd, 1) := by decide +kernel
theorem dL_law_511 : decode cL_law 511 = .ok (.irem, 1) := by decide +kernel
theorem dL_law_512 : decode cL_law 512 = .ok (.istore 24, 2) := by decide +kernel
theorem dL_law_514 : decode cL_law 514 = .ok (.aload_n 1, 1) := by decide +kernel
theorem dL_law_515 : decode cL_law 515 = .ok (.iload 22, 2) := by decide +kernel
theorem dL_law_517 : decode cL_law 517 = .ok (.invokevirtual 49, 3) := by decide +kernel
theorem dL_law_520 : decode cL_law 520 = .ok (.istore 25, 2) := by decide +kernel
theorem dL_law_522 : decode cL_law 522 = .ok (.iload 25, 2) := by decide +kernel
theorem dL_law_524 : decode cL_law 524 = .ok (.iload 24, 2) := by decide +kernel
theorem dL_law_526 : decode cL_law 526 = .ok (.iadd, 1) := by decide +kernel
theorem dL_law_527 : decode cL_law 527 = .ok (.bipush 48, 2) := by decide +kernel
theorem dL_law_529 : decode cL_law 529 = .ok (.if_icmp .le 11, 3) := by decide +kernel
theorem dL_law_532 : decode cL_law 532 = .ok (.bipush 48, 2) := by decide +kernel
theorem dL_law_534 : decode cL_law 534 = .ok (.iload 25, 2) := by decide +kernel
theorem dL_law_536 : decode cL_law 536 = .ok (.isub, 1) := by decide +kernel
theorem dL_law_537 : decode cL_law 537 = .ok (.goto 5, 3) := by decide +kernel
theorem dL_law_540 : decode cL_law 540 = .ok (.iload 24, 2) := by decide +kernel
theorem dL_law_542 : decode cL_law 542 = .ok (.istore 24, 2) := by decide +kernel
theorem dL_law_544 : decode cL_law 544 = .ok (.aload_n 1, 1) := by decide +kernel
theorem dL_law_545 : decode cL_law 545 = .ok (.iload 19, 2) := by decide +kernel
theorem dL_law_547 : decode cL_law 547 = .ok (.iload 23, 2) := by decide +kernel
theorem dL_law_549 : decode cL_law 549 = .ok (.iload 24, 2) := by decide +kernel
theorem dL_law_551 : decode cL_law 551 = .ok (.iload 22, 2) := by decide +kernel
theorem dL_law_553 : decode cL_law 553 = .ok (.invokevirtual 112, 3) := by decide +kernel
theorem dL_law_556 : decode cL_law 556 = .ok (.iload 25, 2) := by decide +kernel
theorem dL_law_558 : decode cL_law 558 = .ok (.iload 24, 2) := by decide +kernel
theorem dL_law_560 : decode cL_law 560 = .ok (.iadd, 1) := by decide +kernel
theorem dL_law_561 : decode cL_law 561 = .ok (.if_icmp .ne 31, 3) := by decide +kernel
theorem dL_law_564 : decode cL_law 564 = .ok (.iload 24, 2) := by decide +kernel
theorem dL_law_566 : decode cL_law 566 = .ok (.ifCond .eq 22, 3) := by decide +kernel
theorem dL_law_569 : decode cL_law 569 = .ok (.aload_n 1, 1) := by decide +kernel
theorem dL_law_570 : decode cL_law 570 = .ok (.iload 22, 2) := by decide +kernel
theorem dL_law_572 : decode cL_law 572 = .ok (.iload 25, 2) := by decide +kernel
theorem dL_law_574 : decode cL_law 574 = .ok (.invokevirtual 55, 3) := by decide +kernel
theorem dL_law_577 : decode cL_law 577 = .ok (.aload_n 1, 1) := by decide +kernel
theorem dL_law_578 : decode cL_law 578 = .ok (.iload 19, 2) := by decide +kernel
theorem dL_law_580 : decode cL_law 580 = .ok (.iload 23, 2) := by decide +kernel
theorem dL_law_582 : decode cL_law 582 = .ok (.invokevirtual 55, 3) := by decide +kernel
theorem dL_law_585 : decode cL_law 585 = .ok (.if_icmp .ne 7, 3) := by decide +kernel
theorem dL_law_588 : decode cL_law 588 = .ok (.iconst 1, 1) := by decide +kernel
theorem dL_law_589 : decode cL_law 589 = .ok (.goto 4, 3) := by decide +kernel
theorem dL_law_592 : decode cL_law 592 = .ok (.iconst 0, 1) := by decide +kernel
theorem dL_law_593 : decode cL_law 593 = .ok (.istore 13, 2) := by decide +kernel
theorem dL_law_595 : decode cL_law 595 = .ok (.goto 850, 3) := by decide +kernel
theorem dL_law_598 : decode cL_law 598 = .ok (.iload 18, 2) := by decide +kernel
theorem dL_law_600 : decode cL_law 600 = .ok (.bipush 6, 2) := by decide +kernel
theorem dL_law_602 : decode cL_law 602 = .ok (.if_icmp .ne 52, 3) := by decide +kernel
theorem dL_law_605 : decode cL_law 605 = .ok (.iload 17, 2) := by decide +kernel
theorem dL_law_607 : decode cL_law 607 = .ok (.bipush 12, 2) := by decide +kernel
theorem dL_law_609 : decode cL_law 609 = .ok (.iand, 1) := by decide +kernel
theorem dL_law_610 : decode cL_law 610 = .ok (.ifCond .ne 44, 3) := by decide +kernel
theorem dL_law_613 : decode cL_law 613 = .ok (.iconst 1, 1) := by decide +kernel
theorem dL_law_614 : decode cL_law 614 = .ok (.iload 17, 2) := by decide +kernel
theorem dL_law_616 : decode cL_law 616 = .ok (.bipush 6, 2) := by decide +kernel
theorem dL_law_618 : decode cL_law 618 = .ok (.ishr, 1) := by decide +kernel
theorem dL_law_619 : decode cL_law 619 = .ok (.iconst 5, 1) := by decide +kernel
theorem dL_law_620 : decode cL_law 620 = .ok (.irem, 1) := by decide +kernel
theorem dL_law_621 : decode cL_law 621 = .ok (.iadd, 1) := by decide +kernel
theorem dL_law_622 : decode cL_law 622 = .ok (.istore 7, 2) := by decide +kernel
theorem dL_law_624 : decode cL_law 624 = .ok (.iload 7, 2) := by decide +kernel
theorem dL_law_626 : decode cL_law 626 = .ok (.iload 17, 2) := by decide +kernel
theorem dL_law_628 : decode cL_law 628 = .ok (.bipush 9, 2) := by decide +kernel
theorem dL_law_630 : decode cL_law 630 = .ok (.ishr, 1) := by decide +kernel
theorem dL_law_631 : decode cL_law 631 = .ok (.bipush 12, 2) := by decide +kernel
theorem dL_law_633 : decode cL_law 633 = .ok (.irem, 1) := by decide +kernel
theorem dL_law_634 : decode cL_law 634 = .ok (.iadd, 1) := by decide +kernel
theorem dL_law_635 : decode cL_law 635 = .ok (.istore 8, 2) := by decide +kernel
theorem dL_law_637 : decode cL_law 637 = .ok (.aload_n 1, 1) := by decide +kernel
theorem dL_law_638 : decode cL_law 638 = .ok (.iload 17, 2) := by decide +kernel
theorem dL_law_640 : decode cL_law 640 = .ok (.iconst 4, 1) := by decide +kernel
theorem dL_law_641 : decode cL_law 641 = .ok (.ishr, 1) := by decide +kernel
theorem dL_law_642 : decode cL_law 642 = .ok (.iconst 3, 1) := by decide +kernel
theorem dL_law_643 : decode cL_law 643 = .ok (.iand, 1) := by decide +kernel
theorem dL_law_644 : decode cL_law 644 = .ok (.iload 7, 2) := by decide +kernel
theorem dL_law_646 : decode cL_law 646 = .ok (.iload 8, 2) := by decide +kernel
theorem dL_law_648 : decode cL_law 648 = .ok (.invokevirtual 116, 3) := by decide +kernel
theorem dL_law_651 : decode cL_law 651 = .ok (.goto 794, 3) := by decide +kernel
theorem dL_law_654 : decode cL_law 654 = .ok (.iload 18, 2) := by decide +kernel
theorem dL_law_656 : decode cL_law 656 = .ok (.bipush 7, 2) := by decide +kernel
theorem dL_law_658 : decode cL_law 658 = .ok (.if_icmp .ne 55, 3) := by decide +kernel
theorem dL_law_661 : decode cL_law 661 = .ok (.iload 17, 2) := by decide +kernel
theorem dL_law_663 : decode cL_law 663 = .ok (.iconst 4, 1) := by decide +kernel
theorem dL_law_664 : decode cL_law 664 = .ok (.iand, 1) := by decide +kernel
theorem dL_law_665 : decode cL_law 665 = .ok (.ifCond .ne 48, 3) := by decide +kernel
theorem dL_law_668 : decode cL_law 668 = .ok (.iload 17, 2) := by decide +kernel
theorem dL_law_670 : decode cL_law 670 = .ok (.iconst 3, 1) := by decide +kernel
theorem dL_law_671 : decode cL_law 671 = .ok (.ishr, 1) := by decide +kernel
theorem dL_law_672 : decode cL_law 672 = .ok (.iconst 1, 1) := by decide +kernel
theorem dL_law_673 : decode cL_law 673 = .ok (.iand, 1) := by decide +kernel
theorem dL_law_674 : decode cL_law 674 = .ok (.ifCond .ne 13, 3) := by decide +kernel
theorem dL_law_677 : decode cL_law 677 = .ok (.iload 17, 2) := by decide +kernel
theorem dL_law_679 : decode cL_law 679 = .ok (.iconst 4, 1) := by decide +kernel
theorem dL_law_680 : decode cL_law 680 = .ok (.ishr, 1) := by decide +kernel
theorem dL_law_681 : decode cL_law 681 = .ok (.bipush 60, 2) := by decide +kernel
theorem dL_law_683 : decode cL_law 683 = .ok (.irem, 1) := by decide +kernel
theorem dL_law_684 : decode cL_law 684 = .ok (.goto 6, 3) := by decide +kernel
theorem dL_law_687 : decode cL_law 687 = .ok (.sipush 400, 3) := by decide +kernel
theorem dL_law_690 : decode cL_law 690 = .ok (.istore 11, 2) := by decide +kernel
theorem dL_law_692 : decode cL_law 692 = .ok (.iload 17, 2) := by decide +kernel
theorem dL_law_694 : decode cL_law 694 = .ok (.bipush 10, 2) := by decide +kernel
theorem dL_law_696 : decode cL_law 696 = .ok (.ishr, 1) := by decide +kernel
theorem dL_law_697 : decode cL_law 697 = .ok (.bipush 6, 2) := by decide +kernel
theorem dL_law_699 : decode cL_law 699 = .ok (.irem, 1) := by decide +kernel
theorem dL_law_700 : decode cL_law 700 = .ok (.istore 12, 2) := by decide +kernel
theorem dL_law_702 : decode cL_law 702 = .ok (.aload_n 1, 1) := by decide +kernel
theorem dL_law_703 : decode cL_law 703 = .ok (.iload 11, 2) := by decide +kernel
theorem dL_law_705 : decode cL_law 705 = .ok (.iload 12, 2) := by decide +kernel
theorem dL_law_707 : decode cL_law 707 = .ok (.invokevirtual 120, 3) := by decide +kernel
theorem dL_law_710 : decode cL_law 710 = .ok (.goto 735, 3) := by decide +kernel
theorem dL_law_713 : decode cL_law 713 = .ok (.iload 18, 2) := by decide +kernel
theorem dL_law_715 : decode cL_law 715 = .ok (.bipush 10, 2) := by decide +kernel
theorem dL_law_717 : decode cL_law 717 = .ok (.if_icmp .ge 43, 3) := by decide +kernel
theorem dL_law_720 : decode cL_law 720 = .ok (.iload 17, 2) := by decide +kernel
theorem dL_law_722 : decode cL_law 722 = .ok (.iconst 3, 1) := by decide +kernel
theorem dL_law_723 : decode cL_law 723 = .ok (.ishr, 1) := by decide +kernel
theorem dL_law_724 : decode cL_law 724 = .ok (.bipush 9, 2) := by decide +kernel
theorem dL_law_726 : decode cL_law 726 = .ok (.irem, 1) := by decide +kernel
theorem dL_law_727 : decode cL_law 727 = .ok (.istore 22, 2) := by decide +kernel
theorem dL_law_729 : decode cL_law 729 = .ok (.aload_n 1, 1) := by decide +kernel
theorem dL_law_730 : decode cL_law 730 = .ok (.iload 19, 2) := by decide +kernel
theorem dL_law_732 : decode cL_law 732 = .ok (.iload 22, 2) := by decide +kernel
theorem dL_law_734 : decode cL_law 734 = .ok (.invokevirtual 124, 3) := by decide +kernel
theorem dL_law_737 : decode cL_law 737 = .ok (.aload_n 3, 1) := by decide +kernel
theorem dL_law_738 : decode cL_law 738 = .ok (.iload 19, 2) := by decide +kernel
theorem dL_law_740 : decode cL_law 740 = .ok (.iaload, 1) := by decide +kernel
theorem dL_law_741 : decode cL_law 741 = .ok (.if_icmp .ne 7, 3) := by decide +kernel
theorem dL_law_744 : decode cL_law 744 = .ok (.iconst 1, 1) := by decide +kernel
theorem dL_law_745 : decode cL_law 745 = .ok (.goto 4, 3) := by decide +kernel
theorem dL_law_748 : decode cL_law 748 = .ok (.iconst 0, 1) := by decide +kernel
theorem dL_law_749 : decode cL_law 749 = .ok (.istore 13, 2) := by decide +kernel
theorem dL_law_751 : decode cL_law 751 = .ok (.aload_n 3, 1) := by decide +kernel
theorem dL_law_752 : decode cL_law 752 = .ok (.iload 19, 2) := by decide +kernel
theorem dL_law_754 : decode cL_law 754 = .ok (.iload 22, 2) := by decide +kernel
theorem dL_law_756 : decode cL_law 756 = .ok (.iastore, 1) := by decide +kernel
theorem dL_law_757 : decode cL_law 757 = .ok (.goto 688, 3) := by decide +kernel
theorem dL_law_760 : decode cL_law 760 = .ok (.iload 18, 2) := by decide +kernel
theorem dL_law_762 : decode cL_law 762 = .ok (.bipush 10, 2) := by decide +kernel
theorem dL_law_764 : decode cL_law 764 = .ok (.if_icmp .ne 26, 3) := by decide +kernel
theorem dL_law_767 : decode cL_law 767 = .ok (.aload_n 1, 1) := by decide +kernel
theorem dL_law_768 : decode cL_law 768 = .ok (.iload 19, 2) := by decide +kernel
theorem dL_law_770 : decode cL_law 770 = .ok (.iload 17, 2) := by decide +kernel
theorem dL_law_772 : decode cL_law 772 = .ok (.iconst 3, 1) := by decide +kernel
theorem dL_law_773 : decode cL_law 773 = .ok (.ishr, 1) := by decide +kernel
theorem dL_law_774 : decode cL_law 774 = .ok (.iconst 4, 1) := by decide +kernel
theorem dL_law_775 : decode cL_law 775 = .ok (.irem, 1) := by decide +kernel
theorem dL_law_776 : decode cL_law 776 = .ok (.iload 17, 2) := by decide +kernel
theorem dL_law_778 : decode cL_law 778 = .ok (.bipush 6, 2) := by decide +kernel
theorem dL_law_780 : decode cL_law 780 = .ok (.ishr, 1) := by decide +kernel
theorem dL_law_781 : decode cL_law 781 = .ok (.bipush 6, 2) := by decide +kernel
theorem dL_law_783 : decode cL_law 783 = .ok (.irem, 1) := by decide +kernel
theorem dL_law_784 : decode cL_law 784 = .ok (.invokevirtual 127, 3) := by decide +kernel
theorem dL_law_787 : decode cL_law 787 = .ok (.goto 658, 3) := by decide +kernel
theorem dL_law_790 : decode cL_law 790 = .ok (.iload 18, 2) := by decide +kernel
theorem dL_law_792 : decode cL_law 792 = .ok (.bipush 11, 2) := by decide +kernel
theorem dL_law_794 : decode cL_law 794 = .ok (.if_icmp .ne 73, 3) := by decide +kernel
theorem dL_law_797 : decode cL_law 797 = .ok (.iload 17, 2) := by decide +kernel
theorem dL_law_799 : decode cL_law 799 = .ok (.iconst 4, 1) := by decide +kernel
theorem dL_law_800 : decode cL_law 800 = .ok (.iand, 1) := by decide +kernel
theorem dL_law_801 : decode cL_law 801 = .ok (.ifCond .ne 66, 3) := by decide +kernel
theorem dL_law_804 : decode cL_law 804 = .ok (.iload 17, 2) := by decide +kernel
theorem dL_law_806 : decode cL_law 806 = .ok (.iconst 3, 1) := by decide +kernel
theorem dL_law_807 : decode cL_law 807 = .ok (.ishr, 1) := by decide +kernel
theorem dL_law_808 : decode cL_law 808 = .ok (.bipush 31, 2) := by decide +kernel
theorem dL_law_810 : decode cL_law 810 = .ok (.irem, 1) := by decide +kernel
theorem dL_law_811 : decode cL_law 811 = .ok (.istore 9, 2) := by decide +kernel
theorem dL_law_813 : decode cL_law 813 = .ok (.iconst 1, 1) := by decide +kernel
theorem dL_law_814 : decode cL_law 814 = .ok (.iload 17, 2) := by decide +kernel
theorem dL_law_816 : decode cL_law 816 = .ok (.bipush 8, 2) := by decide +kernel
theorem dL_law_818 : decode cL_law 818 = .ok (.ishr, 1) := by decide +kernel
theorem dL_law_819 : decode cL_law 819 = .ok (.bipush 50, 2) := by decide +kernel
theorem dL_law_821 : decode cL_law 821 = .ok (.irem, 1) := by decide +kernel
theorem dL_law_822 : decode cL_law 822 = .ok (.iadd, 1) := by decide +kernel
theorem dL_law_823 : decode cL_law 823 = .ok (.istore 10, 2) := by decide +kernel
theorem dL_law_825 : decode cL_law 825 = .ok (.aload_n 1, 1) := by decide +kernel
theorem dL_law_826 : decode cL_law 826 = .ok (.iload 9, 2) := by decide +kernel
theorem dL_law_828 : decode cL_law 828 = .ok (.iload 10, 2) := by decide +kernel
theorem dL_law_830 : decode cL_law 830 = .ok (.invokevirtual 130, 3) := by decide +kernel
theorem dL_law_833 : decode cL_law 833 = .ok (.aload 4, 2) := by decide +kernel
theorem dL_law_835 : decode cL_law 835 = .ok (.iload 19, 2) := by decide +kernel
theorem dL_law_837 : decode cL_law 837 = .ok (.iload 17, 2) := by decide +kernel
theorem dL_law_839 : decode cL_law 839 = .ok (.bipush 11, 2) := by decide +kernel
theorem dL_law_841 : decode cL_law 841 = .ok (.ishr, 1) := by decide +kernel
theorem dL_law_842 : decode cL_law 842 = .ok (.bipush 101, 2) := by decide +kernel
theorem dL_law_844 : decode cL_law 844 = .ok (.irem, 1) := by decide +kernel
theorem dL_law_845 : decode cL_law 845 = .ok (.iastore, 1) := by decide +kernel
theorem dL_law_846 : decode cL_law 846 = .ok (.aload_n 1, 1) := by decide +kernel
theorem dL_law_847 : decode cL_law 847 = .ok (.iload 19, 2) := by decide +kernel
theorem dL_law_849 : decode cL_law 849 = .ok (.iload 17, 2) := by decide +kernel
theorem dL_law_851 : decode cL_law 851 = .ok (.iconst 4, 1) := by decide +kernel
theorem dL_law_852 : decode cL_law 852 = .ok (.ishr, 1) := by decide +kernel
theorem dL_law_853 : decode cL_law 853 = .ok (.bipush 60, 2) := by decide +kernel
theorem dL_law_855 : decode cL_law 855 = .ok (.irem, 1) := by decide +kernel
theorem dL_law_856 : decode cL_law 856 = .ok (.aload 4, 2) := by decide +kernel
theorem dL_law_858 : decode cL_law 858 = .ok (.iload 19, 2) := by decide +kernel
theorem dL_law_860 : decode cL_law 860 = .ok (.iaload, 1) := by decide +kernel
theorem dL_law_861 : decode cL_law 861 = .ok (.invokevirtual 133, 3) := by decide +kernel
theorem dL_law_864 : decode cL_law 864 = .ok (.goto 581, 3) := by decide +kernel
theorem dL_law_867 : decode cL_law 867 = .ok (.iload 18, 2) := by decide +kernel
theorem dL_law_869 : decode cL_law 869 = .ok (.bipush 11, 2) := by decide +kernel
theorem dL_law_871 : decode cL_law 871 = .ok (.if_icmp .ne 100, 3) := by decide +kernel
theorem dL_law_874 : decode cL_law 874 = .ok (.aload_n 1, 1) := by decide +kernel
theorem dL_law_875 : decode cL_law 875 = .ok (.bipush 6, 2) := by decide +kernel
theorem dL_law_877 : decode cL_law 877 = .ok (.iload 19, 2) := by decide +kernel
theorem dL_law_879 : decode cL_law 879 = .ok (.iconst 0, 1) := by decide +kernel
theorem dL_law_880 : decode cL_law 880 = .ok (.invokestatic 61, 3) := by decide +kernel
theorem dL_law_883 : decode cL_law 883 = .ok (.istore 22, 2) := by decide +kernel
theorem dL_law_885 : decode cL_law 885 = .ok (.iload 22, 2) := by decide +kernel
theorem dL_law_887 : decode cL_law 887 = .ok (.bipush (-13), 2) := by decide +kernel
theorem dL_law_889 : decode cL_law 889 = .ok (.if_icmp .ne 21, 3) := by decide +kernel
theorem dL_law_892 : decode cL_law 892 = .ok (.aload_n 1, 1) := by decide +kernel
theorem dL_law_893 : decode cL_law 893 = .ok (.iload 19, 2) := by decide +kernel
theorem dL_law_895 : decode cL_law 895 = .ok (.invokevirtual 68, 3) := by decide +kernel
theorem dL_law_898 : decode cL_law 898 = .ok (.iconst (-1), 1) := by decide +kernel
theorem dL_law_899 : decode cL_law 899 = .ok (.if_icmp .ne 7, 3) := by decide +kernel
theorem dL_law_902 : decode cL_law 902 = .ok (.iconst 1, 1) := by decide +kernel
theorem dL_law_903 : decode cL_law 903 = .ok (.goto 44, 3) := by decide +kernel
theorem dL_law_906 : decode cL_law 906 = .ok (.iconst 0, 1) := by decide +kernel
theorem dL_law_907 : decode cL_law 907 = .ok (.goto 40, 3) := by decide +kernel
theorem dL_law_910 : decode cL_law 910 = .ok (.iload 22, 2) := by decide +kernel
theorem dL_law_912 : decode cL_law 912 = .ok (.ifCond .lt 34, 3) := by decide +kernel
theorem dL_law_915 : decode cL_law 915 = .ok (.aload 4, 2) := by decide +kernel
theorem dL_law_917 : decode cL_law 917 = .ok (.iload 19, 2) := by decide +kernel
theorem dL_law_919 : decode cL_law 919 = .ok (.iaload, 1) := by decide +kernel
theorem dL_law_920 : decode cL_law 920 = .ok (.ifCond .ne 11, 3) := by decide +kernel
theorem dL_law_923 : decode cL_law 923 = .ok (.iload 22, 2) := by decide +kernel
theorem dL_law_925 : decode cL_law 925 = .ok (.ifCond .ne 21, 3) := by decide +kernel
theorem dL_law_928 : decode cL_law 928 = .ok (.goto 14, 3) := by decide +kernel
theorem dL_law_931 : decode cL_law 931 = .ok (.iload 22, 2) := by decide +kernel
theorem dL_law_933 : decode cL_law 933 = .ok (.aload 4, 2) := by decide +kernel
theorem dL_law_935 : decode cL_law 935 = .ok (.iload 19, 2) := by decide +kernel
theorem dL_law_937 : decode cL_law 937 = .ok (.iaload, 1) := by decide +kernel
theorem dL_law_938 : decode cL_law 938 = .ok (.irem, 1) := by decide +kernel
theorem dL_law_939 : decode cL_law 939 = .ok (.ifCond .ne 7, 3) := by decide +kernel
theorem dL_law_942 : decode cL_law 942 = .ok (.iconst 1, 1) := by decide +kernel
theorem dL_law_943 : decode cL_law 943 = .ok (.goto 4, 3) := by decide +kernel
theorem dL_law_946 : decode cL_law 946 = .ok (.iconst 0, 1) := by decide +kernel
theorem dL_law_947 : decode cL_law 947 = .ok (.istore 13, 2) := by decide +kernel
theorem dL_law_949 : decode cL_law 949 = .ok (.aload 6, 2) := by decide +kernel
theorem dL_law_951 : decode cL_law 951 = .ok (.iload 19, 2) := by decide +kernel
theorem dL_law_953 : decode cL_law 953 = .ok (.dup2, 1) := by decide +kernel
theorem dL_law_954 : decode cL_law 954 = .ok (.iaload, 1) := by decide +kernel
theorem dL_law_955 : decode cL_law 955 = .ok (.iload 22, 2) := by decide +kernel
theorem dL_law_957 : decode cL_law 957 = .ok (.ifCond .ge 7, 3) := by decide +kernel
theorem dL_law_960 : decode cL_law 960 = .ok (.iconst 0, 1) := by decide +kernel
theorem dL_law_961 : decode cL_law 961 = .ok (.goto 5, 3) := by decide +kernel
theorem dL_law_964 : decode cL_law 964 = .ok (.iload 22, 2) := by decide +kernel
theorem dL_law_966 : decode cL_law 966 = .ok (.iadd, 1) := by decide +kernel
