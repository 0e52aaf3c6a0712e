/-! decode rows of the law (printed by program) -/
theorem d_L_law_0 : decode cL_law 0 = .ok (.new 8, 3) := by decide +kernel
theorem d_L_law_3 : decode cL_law 3 = .ok (.dup, 1) := by decide +kernel
theorem d_L_law_4 : decode cL_law 4 = .ok (.invokespecial 135, 3) := by decide +kernel
theorem d_L_law_7 : decode cL_law 7 = .ok (.astore_n 1, 1) := by decide +kernel
theorem d_L_law_8 : decode cL_law 8 = .ok (.new 136, 3) := by decide +kernel
theorem d_L_law_11 : decode cL_law 11 = .ok (.dup, 1) := by decide +kernel
theorem d_L_law_12 : decode cL_law 12 = .ok (.invokespecial 138, 3) := by decide +kernel
theorem d_L_law_15 : decode cL_law 15 = .ok (.astore_n 2, 1) := by decide +kernel
theorem d_L_law_16 : decode cL_law 16 = .ok (.iconst 1, 1) := by decide +kernel
theorem d_L_law_17 : decode cL_law 17 = .ok (.newarray .long, 2) := by decide +kernel
theorem d_L_law_19 : decode cL_law 19 = .ok (.astore_n 3, 1) := by decide +kernel
theorem d_L_law_20 : decode cL_law 20 = .ok (.iconst 1, 1) := by decide +kernel
theorem d_L_law_21 : decode cL_law 21 = .ok (.newarray .double, 2) := by decide +kernel
theorem d_L_law_23 : decode cL_law 23 = .ok (.astore 4, 2) := by decide +kernel
theorem d_L_law_25 : decode cL_law 25 = .ok (.iconst 0, 1) := by decide +kernel
theorem d_L_law_26 : decode cL_law 26 = .ok (.istore 5, 2) := by decide +kernel
theorem d_L_law_28 : decode cL_law 28 = .ok (.iload 5, 2) := by decide +kernel
theorem d_L_law_30 : decode cL_law 30 = .ok (.aload_n 0, 1) := by decide +kernel
theorem d_L_law_31 : decode cL_law 31 = .ok (.arraylength, 1) := by decide +kernel
theorem d_L_law_32 : decode cL_law 32 = .ok (.iconst 5, 1) := by decide +kernel
theorem d_L_law_33 : decode cL_law 33 = .ok (.isub, 1) := by decide +kernel
theorem d_L_law_34 : decode cL_law 34 = .ok (.if_icmp .gt 2371, 3) := by decide +kernel
theorem d_L_law_37 : decode cL_law 37 = .ok (.aload_n 0, 1) := by decide +kernel
theorem d_L_law_38 : decode cL_law 38 = .ok (.iload 5, 2) := by decide +kernel
theorem d_L_law_40 : decode cL_law 40 = .ok (.iaload, 1) := by decide +kernel
theorem d_L_law_41 : decode cL_law 41 = .ok (.bipush 63, 2) := by decide +kernel
theorem d_L_law_43 : decode cL_law 43 = .ok (.iand, 1) := by decide +kernel
theorem d_L_law_44 : decode cL_law 44 = .ok (.tableswitch 2355 0 36 #[164, 222, 266, 279, 347, 403, 495, 563, 619, 675, 731, 799, 867, 923, 979, 1047, 1103, 1171, 1239, 1295, 1351, 1419, 1487, 1555, 1623, 1691, 1759, 1827, 1883, 1939, 1995, 2061, 2126, 2198, 2254, 2298, 2311], 164) := by decide +kernel
theorem d_L_law_208 : decode cL_law 208 = .ok (.aload_n 1, 1) := by decide +kernel
theorem d_L_law_209 : decode cL_law 209 = .ok (.aload_n 0, 1) := by decide +kernel
theorem d_L_law_210 : decode cL_law 210 = .ok (.iload 5, 2) := by decide +kernel
theorem d_L_law_212 : decode cL_law 212 = .ok (.iconst 1, 1) := by decide +kernel
theorem d_L_law_213 : decode cL_law 213 = .ok (.iadd, 1) := by decide +kernel
theorem d_L_law_214 : decode cL_law 214 = .ok (.iaload, 1) := by decide +kernel
theorem d_L_law_215 : decode cL_law 215 = .ok (.i2c, 1) := by decide +kernel
theorem d_L_law_216 : decode cL_law 216 = .ok (.aload_n 3, 1) := by decide +kernel
theorem d_L_law_217 : decode cL_law 217 = .ok (.invokestatic 139, 3) := by decide +kernel
theorem d_L_law_220 : decode cL_law 220 = .ok (.istore 6, 2) := by decide +kernel
theorem d_L_law_222 : decode cL_law 222 = .ok (.aload_n 2, 1) := by decide +kernel
theorem d_L_law_223 : decode cL_law 223 = .ok (.aload_n 0, 1) := by decide +kernel
theorem d_L_law_224 : decode cL_law 224 = .ok (.iload 5, 2) := by decide +kernel
theorem d_L_law_226 : decode cL_law 226 = .ok (.iconst 1, 1) := by decide +kernel
theorem d_L_law_227 : decode cL_law 227 = .ok (.iadd, 1) := by decide +kernel
theorem d_L_law_228 : decode cL_law 228 = .ok (.iaload, 1) := by decide +kernel
theorem d_L_law_229 : decode cL_law 229 = .ok (.i2c, 1) := by decide +kernel
theorem d_L_law_230 : decode cL_law 230 = .ok (.invokevirtual 144, 3) := by decide +kernel
theorem d_L_law_233 : decode cL_law 233 = .ok (.istore 7, 2) := by decide +kernel
theorem d_L_law_235 : decode cL_law 235 = .ok (.aload_n 2, 1) := by decide +kernel
theorem d_L_law_236 : decode cL_law 236 = .ok (.invokevirtual 145, 3) := by decide +kernel
theorem d_L_law_239 : decode cL_law 239 = .ok (.iload 6, 2) := by decide +kernel
theorem d_L_law_241 : decode cL_law 241 = .ok (.if_icmp .eq 5, 3) := by decide +kernel
theorem d_L_law_244 : decode cL_law 244 = .ok (.iconst 0, 1) := by decide +kernel
theorem d_L_law_245 : decode cL_law 245 = .ok (.ireturn, 1) := by decide +kernel
theorem d_L_law_246 : decode cL_law 246 = .ok (.iload 6, 2) := by decide +kernel
theorem d_L_law_248 : decode cL_law 248 = .ok (.ifCond .ne 15, 3) := by decide +kernel
theorem d_L_law_251 : decode cL_law 251 = .ok (.aload_n 3, 1) := by decide +kernel
theorem d_L_law_252 : decode cL_law 252 = .ok (.iconst 0, 1) := by decide +kernel
theorem d_L_law_253 : decode cL_law 253 = .ok (.laload, 1) := by decide +kernel
theorem d_L_law_254 : decode cL_law 254 = .ok (.iload 7, 2) := by decide +kernel
theorem d_L_law_256 : decode cL_law 256 = .ok (.i2l, 1) := by decide +kernel
theorem d_L_law_257 : decode cL_law 257 = .ok (.lcmp, 1) := by decide +kernel
theorem d_L_law_258 : decode cL_law 258 = .ok (.ifCond .eq 5, 3) := by decide +kernel
theorem d_L_law_261 : decode cL_law 261 = .ok (.iconst 0, 1) := by decide +kernel
theorem d_L_law_262 : decode cL_law 262 = .ok (.ireturn, 1) := by decide +kernel
theorem d_L_law_263 : decode cL_law 263 = .ok (.goto 2136, 3) := by decide +kernel
theorem d_L_law_266 : decode cL_law 266 = .ok (.aload_n 1, 1) := by decide +kernel
theorem d_L_law_267 : decode cL_law 267 = .ok (.aload_n 3, 1) := by decide +kernel
theorem d_L_law_268 : decode cL_law 268 = .ok (.invokestatic 148, 3) := by decide +kernel
theorem d_L_law_271 : decode cL_law 271 = .ok (.istore 6, 2) := by decide +kernel
theorem d_L_law_273 : decode cL_law 273 = .ok (.aload_n 2, 1) := by decide +kernel
theorem d_L_law_274 : decode cL_law 274 = .ok (.invokevirtual 151, 3) := by decide +kernel
theorem d_L_law_277 : decode cL_law 277 = .ok (.istore 7, 2) := by decide +kernel
theorem d_L_law_279 : decode cL_law 279 = .ok (.aload_n 2, 1) := by decide +kernel
theorem d_L_law_280 : decode cL_law 280 = .ok (.invokevirtual 145, 3) := by decide +kernel
theorem d_L_law_283 : decode cL_law 283 = .ok (.iload 6, 2) := by decide +kernel
theorem d_L_law_285 : decode cL_law 285 = .ok (.if_icmp .eq 5, 3) := by decide +kernel
theorem d_L_law_288 : decode cL_law 288 = .ok (.iconst 0, 1) := by decide +kernel
theorem d_L_law_289 : decode cL_law 289 = .ok (.ireturn, 1) := by decide +kernel
theorem d_L_law_290 : decode cL_law 290 = .ok (.iload 6, 2) := by decide +kernel
theorem d_L_law_292 : decode cL_law 292 = .ok (.ifCond .ne 15, 3) := by decide +kernel
theorem d_L_law_295 : decode cL_law 295 = .ok (.aload_n 3, 1) := by decide +kernel
theorem d_L_law_296 : decode cL_law 296 = .ok (.iconst 0, 1) := by decide +kernel
theorem d_L_law_297 : decode cL_law 297 = .ok (.laload, 1) := by decide +kernel
theorem d_L_law_298 : decode cL_law 298 = .ok (.iload 7, 2) := by decide +kernel
theorem d_L_law_300 : decode cL_law 300 = .ok (.i2l, 1) := by decide +kernel
theorem d_L_law_301 : decode cL_law 301 = .ok (.lcmp, 1) := by decide +kernel
theorem d_L_law_302 : decode cL_law 302 = .ok (.ifCond .eq 5, 3) := by decide +kernel
theorem d_L_law_305 : decode cL_law 305 = .ok (.iconst 0, 1) := by decide +kernel
theorem d_L_law_306 : decode cL_law 306 = .ok (.ireturn, 1) := by decide +kernel
theorem d_L_law_307 : decode cL_law 307 = .ok (.goto 2092, 3) := by decide +kernel
theorem d_L_law_310 : decode cL_law 310 = .ok (.aload_n 1, 1) := by decide +kernel
theorem d_L_law_311 : decode cL_law 311 = .ok (.invokevirtual 152, 3) := by decide +kernel
theorem d_L_law_314 : decode cL_law 314 = .ok (.aload_n 2, 1) := by decide +kernel
theorem d_L_law_315 : decode cL_law 315 = .ok (.invokevirtual 155, 3) := by decide +kernel
theorem d_L_law_318 : decode cL_law 318 = .ok (.if_icmp .eq 2081, 3) := by decide +kernel
theorem d_L_law_321 : decode cL_law 321 = .ok (.iconst 0, 1) := by decide +kernel
theorem d_L_law_322 : decode cL_law 322 = .ok (.ireturn, 1) := by decide +kernel
theorem d_L_law_323 : decode cL_law 323 = .ok (.aload_n 1, 1) := by decide +kernel
theorem d_L_law_324 : decode cL_law 324 = .ok (.aload_n 0, 1) := by decide +kernel
theorem d_L_law_325 : decode cL_law 325 = .ok (.iload 5, 2) := by decide +kernel
theorem d_L_law_327 : decode cL_law 327 = .ok (.iconst 1, 1) := by decide +kernel
theorem d_L_law_328 : decode cL_law 328 = .ok (.iadd, 1) := by decide +kernel
theorem d_L_law_329 : decode cL_law 329 = .ok (.iaload, 1) := by decide +kernel
theorem d_L_law_330 : decode cL_law 330 = .ok (.aload_n 0, 1) := by decide +kernel
theorem d_L_law_331 : decode cL_law 331 = .ok (.iload 5, 2) := by decide +kernel
theorem d_L_law_333 : decode cL_law 333 = .ok (.iconst 2, 1) := by decide +kernel
theorem d_L_law_334 : decode cL_law 334 = .ok (.iadd, 1) := by decide +kernel
theorem d_L_law_335 : decode cL_law 335 = .ok (.iaload, 1) := by decide +kernel
theorem d_L_law_336 : decode cL_law 336 = .ok (.aload_n 3, 1) := by decide +kernel
theorem d_L_law_337 : decode cL_law 337 = .ok (.invokestatic 156, 3) := by decide +kernel
theorem d_L_law_340 : decode cL_law 340 = .ok (.istore 6, 2) := by decide +kernel
theorem d_L_law_342 : decode cL_law 342 = .ok (.aload_n 2, 1) := by decide +kernel
theorem d_L_law_343 : decode cL_law 343 = .ok (.aload_n 0, 1) := by decide +kernel
theorem d_L_law_344 : decode cL_law 344 = .ok (.iload 5, 2) := by decide +kernel
theorem d_L_law_346 : decode cL_law 346 = .ok (.iconst 1, 1) := by decide +kernel
theorem d_L_law_347 : decode cL_law 347 = .ok (.iadd, 1) := by decide +kernel
theorem d_L_law_348 : decode cL_law 348 = .ok (.iaload, 1) := by decide +kernel
theorem d_L_law_349 : decode cL_law 349 = .ok (.aload_n 0, 1) := by decide +kernel
theorem d_L_law_350 : decode cL_law 350 = .ok (.iload 5, 2) := by decide +kernel
theorem d_L_law_352 : decode cL_law 352 = .ok (.iconst 2, 1) := by decide +kernel
theorem d_L_law_353 : decode cL_law 353 = .ok (.iadd, 1) := by decide +kernel
theorem d_L_law_354 : decode cL_law 354 = .ok (.iaload, 1) := by decide +kernel
theorem d_L_law_355 : decode cL_law 355 = .ok (.invokevirtual 159, 3) := by decide +kernel
theorem d_L_law_358 : decode cL_law 358 = .ok (.istore 7, 2) := by decide +kernel
theorem d_L_law_360 : decode cL_law 360 = .ok (.aload_n 2, 1) := by decide +kernel
theorem d_L_law_361 : decode cL_law 361 = .ok (.invokevirtual 145, 3) := by decide +kernel
theorem d_L_law_364 : decode cL_law 364 = .ok (.iload 6, 2) := by decide +kernel
theorem d_L_law_366 : decode cL_law 366 = .ok (.if_icmp .eq 5, 3) := by decide +kernel
theorem d_L_law_369 : decode cL_law 369 = .ok (.iconst 0, 1) := by decide +kernel
theorem d_L_law_370 : decode cL_law 370 = .ok (.ireturn, 1) := by decide +kernel
theorem d_L_law_371 : decode cL_law 371 = .ok (.iload 6, 2) := by decide +kernel
theorem d_L_law_373 : decode cL_law 373 = .ok (.ifCond .ne 15, 3) := by decide +kernel
theorem d_L_law_376 : decode cL_law 376 = .ok (.aload_n 3, 1) := by decide +kernel
theorem d_L_law_377 : decode cL_law 377 = .ok (.iconst 0, 1) := by decide +kernel
theorem d_L_law_378 : decode cL_law 378 = .ok (.laload, 1) := by decide +kernel
theorem d_L_law_379 : decode cL_law 379 = .ok (.iload 7, 2) := by decide +kernel
theorem d_L_law_381 : decode cL_law 381 = .ok (.i2l, 1) := by decide +kernel
theorem d_L_law_382 : decode cL_law 382 = .ok (.lcmp, 1) := by decide +kernel
theorem d_L_law_383 : decode cL_law 383 = .ok (.ifCond .eq 5, 3) := by decide +kernel
theorem d_L_law_386 : decode cL_law 386 = .ok (.iconst 0, 1) := by decide +kernel
theorem d_L_law_387 : decode cL_law 387 = .ok (.ireturn, 1) := by decide +kernel
theorem d_L_law_388 : decode cL_law 388 = .ok (.goto 2011, 3) := by decide +kernel
theorem d_L_law_391 : decode cL_law 391 = .ok (.aload_n 1, 1) := by decide +kernel
theorem d_L_law_392 : decode cL_law 392 = .ok (.aload_n 0, 1) := by decide +kernel
theorem d_L_law_393 : decode cL_law 393 = .ok (.iload 5, 2) := by decide +kernel
theorem d_L_law_395 : decode cL_law 395 = .ok (.iconst 1, 1) := by decide +kernel
theorem d_L_law_396 : decode cL_law 396 = .ok (.iadd, 1) := by decide +kernel
theorem d_L_law_397 : decode cL_law 397 = .ok (.iaload, 1) := by decide +kernel
theorem d_L_law_398 : decode cL_law 398 = .ok (.aload_n 3, 1) := by decide +kernel
theorem d_L_law_399 : decode cL_law 399 = .ok (.invokestatic 160, 3) := by decide +kernel
theorem d_L_law_402 : decode cL_law 402 = .ok (.istore 6, 2) := by decide +kernel
theorem d_L_law_404 : decode cL_law 404 = .ok (.aload_n 2, 1) := by decide +kernel
theorem d_L_law_405 : decode cL_law 405 = .ok (.aload_n 0, 1) := by decide +kernel
theorem d_L_law_406 : decode cL_law 406 = .ok (.iload 5, 2) := by decide +kernel
theorem d_L_law_408 : decode cL_law 408 = .ok (.iconst 1, 1) := by decide +kernel
theorem d_L_law_409 : decode cL_law 409 = .ok (.iadd, 1) := by decide +kernel
theorem d_L_law_410 : decode cL_law 410 = .ok (.iaload, 1) := by decide +kernel
theorem d_L_law_411 : decode cL_law 411 = .ok (.invokevirtual 163, 3) := by decide +kernel
theorem d_L_law_414 : decode cL_law 414 = .ok (.istore 7, 2) := by decide +kernel
theorem d_L_law_416 : decode cL_law 416 = .ok (.aload_n 2, 1) := by decide +kernel
theorem d_L_law_417 : decode cL_law 417 = .ok (.invokevirtual 145, 3) := by decide +kernel
theorem d_L_law_420 : decode cL_law 420 = .ok (.iload 6, 2) := by decide +kernel
theorem d_L_law_422 : decode cL_law 422 = .ok (.if_icmp .eq 5, 3) := by decide +kernel
theorem d_L_law_425 : decode cL_law 425 = .ok (.iconst 0, 1) := by decide +kernel
theorem d_L_law_426 : decode cL_law 426 = .ok (.ireturn, 1) := by decide +kernel
theorem d_L_law_427 : decode cL_law 427 = .ok (.iload 6, 2) := by decide +kernel
theorem d_L_law_429 : decode cL_law 429 = .ok (.ifCond .ne 15, 3) := by decide +kernel
theorem d_L_law_432 : decode cL_law 432 = .ok (.aload_n 3, 1) := by decide +kernel
theorem d_L_law_433 : decode cL_law 433 = .ok (.iconst 0, 1) := by decide +kernel
theorem d_L_law_434 : decode cL_law 434 = .ok (.laload, 1) := by decide +kernel
theorem d_L_law_435 : decode cL_law 435 = .ok (.iload 7, 2) := by decide +kernel
theorem d_L_law_437 : decode cL_law 437 = .ok (.i2l, 1) := by decide +kernel
theorem d_L_law_438 : decode cL_law 438 = .ok (.lcmp, 1) := by decide +kernel
theorem d_L_law_439 : decode cL_law 439 = .ok (.ifCond .eq 5, 3) := by decide +kernel
theorem d_L_law_442 : decode cL_law 442 = .ok (.iconst 0, 1) := by decide +kernel
theorem d_L_law_443 : decode cL_law 443 = .ok (.ireturn, 1) := by decide +kernel
theorem d_L_law_444 : decode cL_law 444 = .ok (.goto 1955, 3) := by decide +kernel
theorem d_L_law_447 : decode cL_law 447 = .ok (.aload_n 1, 1) := by decide +kernel
theorem d_L_law_448 : decode cL_law 448 = .ok (.aload_n 0, 1) := by decide +kernel
theorem d_L_law_449 : decode cL_law 449 = .ok (.iload 5, 2) := by decide +kernel
theorem d_L_law_451 : decode cL_law 451 = .ok (.iconst 1, 1) := by decide +kernel
theorem d_L_law_452 : decode cL_law 452 = .ok (.iadd, 1) := by decide +kernel
theorem d_L_law_453 : decode cL_law 453 = .ok (.iaload, 1) := by decide +kernel
theorem d_L_law_454 : decode cL_law 454 = .ok (.aload_n 0, 1) := by decide +kernel
theorem d_L_law_455 : decode cL_law 455 = .ok (.iload 5, 2) := by decide +kernel
theorem d_L_law_457 : decode cL_law 457 = .ok (.iconst 2, 1) := by decide +kernel
theorem d_L_law_458 : decode cL_law 458 = .ok (.iadd, 1) := by decide +kernel
theorem d_L_law_459 : decode cL_law 459 = .ok (.iaload, 1) := by decide +kernel
theorem d_L_law_460 : decode cL_law 460 = .ok (.aload_n 0, 1) := by decide +kernel
theorem d_L_law_461 : decode cL_law 461 = .ok (.iload 5, 2) := by decide +kernel
theorem d_L_law_463 : decode cL_law 463 = .ok (.iconst 3, 1) := by decide +kernel
theorem d_L_law_464 : decode cL_law 464 = .ok (.iadd, 1) := by decide +kernel
theorem d_L_law_465 : decode cL_law 465 = .ok (.iaload, 1) := by decide +kernel
theorem d_L_law_466 : decode cL_law 466 = .ok (.aload_n 0, 1) := by decide +kernel
theorem d_L_law_467 : decode cL_law 467 = .ok (.iload 5, 2) := by decide +kernel
theorem d_L_law_469 : decode cL_law 469 = .ok (.iconst 4, 1) := by decide +kernel
theorem d_L_law_470 : decode cL_law 470 = .ok (.iadd, 1) := by decide +kernel
theorem d_L_law_471 : decode cL_law 471 = .ok (.iaload, 1) := by decide +kernel
theorem d_L_law_472 : decode cL_law 472 = .ok (.aload_n 3, 1) := by decide +kernel
theorem d_L_law_473 : decode cL_law 473 = .ok (.invokestatic 164, 3) := by decide +kernel
theorem d_L_law_476 : decode cL_law 476 = .ok (.istore 6, 2) := by decide +kernel
theorem d_L_law_478 : decode cL_law 478 = .ok (.aload_n 2, 1) := by decide +kernel
theorem d_L_law_479 : decode cL_law 479 = .ok (.aload_n 0, 1) := by decide +kernel
theorem d_L_law_480 : decode cL_law 480 = .ok (.iload 5, 2) := by decide +kernel
theorem d_L_law_482 : decode cL_law 482 = .ok (.iconst 1, 1) := by decide +kernel
theorem d_L_law_483 : decode cL_law 483 = .ok (.iadd, 1) := by decide +kernel
theorem d_L_law_484 : decode cL_law 484 = .ok (.iaload, 1) := by decide +kernel
theorem d_L_law_485 : decode cL_law 485 = .ok (.aload_n 0, 1) := by decide +kernel
theorem d_L_law_486 : decode cL_law 486 = .ok (.iload 5, 2) := by decide +kernel
theorem d_L_law_488 : decode cL_law 488 = .ok (.iconst 2, 1) := by decide +kernel
theorem d_L_law_489 : decode cL_law 489 = .ok (.iadd, 1) := by decide +kernel
theorem d_L_law_490 : decode cL_law 490 = .ok (.iaload, 1) := by decide +kernel
theorem d_L_law_491 : decode cL_law 491 = .ok (.aload_n 0, 1) := by decide +kernel
theorem d_L_law_492 : decode cL_law 492 = .ok (.iload 5, 2) := by decide +kernel
theorem d_L_law_494 : decode cL_law 494 = .ok (.iconst 3, 1) := by decide +kernel
theorem d_L_law_495 : decode cL_law 495 = .ok (.iadd, 1) := by decide +kernel
theorem d_L_law_496 : decode cL_law 496 = .ok (.iaload, 1) := by decide +kernel
theorem d_L_law_497 : decode cL_law 497 = .ok (.aload_n 0, 1) := by decide +kernel
theorem d_L_law_498 : decode cL_law 498 = .ok (.iload 5, 2) := by decide +kernel
theorem d_L_law_500 : decode cL_law 500 = .ok (.iconst 4, 1) := by decide +kernel
theorem d_L_law_501 : decode cL_law 501 = .ok (.iadd, 1) := by decide +kernel
theorem d_L_law_502 : decode cL_law 502 = .ok (.iaload, 1) := by decide +kernel
theorem d_L_law_503 : decode cL_law 503 = .ok (.invokevirtual 167, 3) := by decide +kernel
theorem d_L_law_506 : decode cL_law 506 = .ok (.istore 7, 2) := by decide +kernel
theorem d_L_law_508 : decode cL_law 508 = .ok (.aload_n 2, 1) := by decide +kernel
theorem d_L_law_509 : decode cL_law 509 = .ok (.invokevirtual 145, 3) := by decide +kernel
theorem d_L_law_512 : decode cL_law 512 = .ok (.iload 6, 2) := by decide +kernel
theorem d_L_law_514 : decode cL_law 514 = .ok (.if_icmp .eq 5, 3) := by decide +kernel
theorem d_L_law_517 : decode cL_law 517 = .ok (.iconst 0, 1) := by decide +kernel
theorem d_L_law_518 : decode cL_law 518 = .ok (.ireturn, 1) := by decide +kernel
theorem d_L_law_519 : decode cL_law 519 = .ok (.iload 6, 2) := by decide +kernel
theorem d_L_law_521 : decode cL_law 521 = .ok (.ifCond .ne 15, 3) := by decide +kernel
theorem d_L_law_524 : decode cL_law 524 = .ok (.aload_n 3, 1) := by decide +kernel
theorem d_L_law_525 : decode cL_law 525 = .ok (.iconst 0, 1) := by decide +kernel
theorem d_L_law_526 : decode cL_law 526 = .ok (.laload, 1) := by decide +kernel
theorem d_L_law_527 : decode cL_law 527 = .ok (.iload 7, 2) := by decide +kernel
theorem d_L_law_529 : decode cL_law 529 = .ok (.i2l, 1) := by decide +kernel
theorem d_L_law_530 : decode cL_law 530 = .ok (.lcmp, 1) := by decide +kernel
theorem d_L_law_531 : decode cL_law 531 = .ok (.ifCond .eq 5, 3) := by decide +kernel
theorem d_L_law_534 : decode cL_law 534 = .ok (.iconst 0, 1) := by decide +kernel
theorem d_L_law_535 : decode cL_law 535 = .ok (.ireturn, 1) := by decide +kernel
theorem d_L_law_536 : decode cL_law 536 = .ok (.goto 1863, 3) := by decide +kernel
theorem d_L_law_539 : decode cL_law 539 = .ok (.aload_n 1, 1) := by decide +kernel
theorem d_L_law_540 : decode cL_law 540 = .ok (.aload_n 0, 1) := by decide +kernel
theorem d_L_law_541 : decode cL_law 541 = .ok (.iload 5, 2) := by decide +kernel
theorem d_L_law_543 : decode cL_law 543 = .ok (.iconst 1, 1) := by decide +kernel
theorem d_L_law_544 : decode cL_law 544 = .ok (.iadd, 1) := by decide +kernel
theorem d_L_law_545 : decode cL_law 545 = .ok (.iaload, 1) := by decide +kernel
theorem d_L_law_546 : decode cL_law 546 = .ok (.aload_n 0, 1) := by decide +kernel
theorem d_L_law_547 : decode cL_law 547 = .ok (.iload 5, 2) := by decide +kernel
theorem d_L_law_549 : decode cL_law 549 = .ok (.iconst 2, 1) := by decide +kernel
theorem d_L_law_550 : decode cL_law 550 = .ok (.iadd, 1) := by decide +kernel
theorem d_L_law_551 : decode cL_law 551 = .ok (.iaload, 1) := by decide +kernel
theorem d_L_law_552 : decode cL_law 552 = .ok (.aload_n 3, 1) := by decide +kernel
theorem d_L_law_553 : decode cL_law 553 = .ok (.invokestatic 168, 3) := by decide +kernel
theorem d_L_law_556 : decode cL_law 556 = .ok (.istore 6, 2) := by decide +kernel
theorem d_L_law_558 : decode cL_law 558 = .ok (.aload_n 2, 1) := by decide +kernel
theorem d_L_law_559 : decode cL_law 559 = .ok (.aload_n 0, 1) := by decide +kernel
theorem d_L_law_560 : decode cL_law 560 = .ok (.iload 5, 2) := by decide +kernel
theorem d_L_law_562 : decode cL_law 562 = .ok (.iconst 1, 1) := by decide +kernel
theorem d_L_law_563 : decode cL_law 563 = .ok (.iadd, 1) := by decide +kernel
theorem d_L_law_564 : decode cL_law 564 = .ok (.iaload, 1) := by decide +kernel
theorem d_L_law_565 : decode cL_law 565 = .ok (.aload_n 0, 1) := by decide +kernel
theorem d_L_law_566 : decode cL_law 566 = .ok (.iload 5, 2) := by decide +kernel
theorem d_L_law_568 : decode cL_law 568 = .ok (.iconst 2, 1) := by decide +kernel
theorem d_L_law_569 : decode cL_law 569 = .ok (.iadd, 1) := by decide +kernel
theorem d_L_law_570 : decode cL_law 570 = .ok (.iaload, 1) := by decide +kernel
theorem d_L_law_571 : decode cL_law 571 = .ok (.invokevirtual 170, 3) := by decide +kernel
theorem d_L_law_574 : decode cL_law 574 = .ok (.istore 7, 2) := by decide +kernel
theorem d_L_law_576 : decode cL_law 576 = .ok (.aload_n 2, 1) := by decide +kernel
theorem d_L_law_577 : decode cL_law 577 = .ok (.invokevirtual 145, 3) := by decide +kernel
theorem d_L_law_580 : decode cL_law 580 = .ok (.iload 6, 2) := by decide +kernel
theorem d_L_law_582 : decode cL_law 582 = .ok (.if_icmp .eq 5, 3) := by decide +kernel
theorem d_L_law_585 : decode cL_law 585 = .ok (.iconst 0, 1) := by decide +kernel
theorem d_L_law_586 : decode cL_law 586 = .ok (.ireturn, 1) := by decide +kernel
theorem d_L_law_587 : decode cL_law 587 = .ok (.iload 6, 2) := by decide +kernel
theorem d_L_law_589 : decode cL_law 589 = .ok (.ifCond .ne 15, 3) := by decide +kernel
theorem d_L_law_592 : decode cL_law 592 = .ok (.aload_n 3, 1) := by decide +kernel
theorem d_L_law_593 : decode cL_law 593 = .ok (.iconst 0, 1) := by decide +kernel
theorem d_L_law_594 : decode cL_law 594 = .ok (.laload, 1) := by decide +kernel
theorem d_L_law_595 : decode cL_law 595 = .ok (.iload 7, 2) := by decide +kernel
theorem d_L_law_597 : decode cL_law 597 = .ok (.i2l, 1) := by decide +kernel
theorem d_L_law_598 : decode cL_law 598 = .ok (.lcmp, 1) := by decide +kernel
theorem d_L_law_599 : decode cL_law 599 = .ok (.ifCond .eq 5, 3) := by decide +kernel
theorem d_L_law_602 : decode cL_law 602 = .ok (.iconst 0, 1) := by decide +kernel
theorem d_L_law_603 : decode cL_law 603 = .ok (.ireturn, 1) := by decide +kernel
theorem d_L_law_604 : decode cL_law 604 = .ok (.goto 1795, 3) := by decide +kernel
theorem d_L_law_607 : decode cL_law 607 = .ok (.aload_n 1, 1) := by decide +kernel
theorem d_L_law_608 : decode cL_law 608 = .ok (.aload_n 0, 1) := by decide +kernel
theorem d_L_law_609 : decode cL_law 609 = .ok (.iload 5, 2) := by decide +kernel
theorem d_L_law_611 : decode cL_law 611 = .ok (.iconst 1, 1) := by decide +kernel
theorem d_L_law_612 : decode cL_law 612 = .ok (.iadd, 1) := by decide +kernel
theorem d_L_law_613 : decode cL_law 613 = .ok (.iaload, 1) := by decide +kernel
theorem d_L_law_614 : decode cL_law 614 = .ok (.aload_n 3, 1) := by decide +kernel
theorem d_L_law_615 : decode cL_law 615 = .ok (.invokestatic 171, 3) := by decide +kernel
theorem d_L_law_618 : decode cL_law 618 = .ok (.istore 6, 2) := by decide +kernel
theorem d_L_law_620 : decode cL_law 620 = .ok (.aload_n 2, 1) := by decide +kernel
theorem d_L_law_621 : decode cL_law 621 = .ok (.aload_n 0, 1) := by decide +kernel
theorem d_L_law_622 : decode cL_law 622 = .ok (.iload 5, 2) := by decide +kernel
theorem d_L_law_624 : decode cL_law 624 = .ok (.iconst 1, 1) := by decide +kernel
theorem d_L_law_625 : decode cL_law 625 = .ok (.iadd, 1) := by decide +kernel
theorem d_L_law_626 : decode cL_law 626 = .ok (.iaload, 1) := by decide +kernel
theorem d_L_law_627 : decode cL_law 627 = .ok (.invokevirtual 173, 3) := by decide +kernel
theorem d_L_law_630 : decode cL_law 630 = .ok (.istore 7, 2) := by decide +kernel
theorem d_L_law_632 : decode cL_law 632 = .ok (.aload_n 2, 1) := by decide +kernel
theorem d_L_law_633 : decode cL_law 633 = .ok (.invokevirtual 145, 3) := by decide +kernel
theorem d_L_law_636 : decode cL_law 636 = .ok (.iload 6, 2) := by decide +kernel
theorem d_L_law_638 : decode cL_law 638 = .ok (.if_icmp .eq 5, 3) := by decide +kernel
theorem d_L_law_641 : decode cL_law 641 = .ok (.iconst 0, 1) := by decide +kernel
theorem d_L_law_642 : decode cL_law 642 = .ok (.ireturn, 1) := by decide +kernel
theorem d_L_law_643 : decode cL_law 643 = .ok (.iload 6, 2) := by decide +kernel
theorem d_L_law_645 : decode cL_law 645 = .ok (.ifCond .ne 15, 3) := by decide +kernel
theorem d_L_law_648 : decode cL_law 648 = .ok (.aload_n 3, 1) := by decide +kernel
theorem d_L_law_649 : decode cL_law 649 = .ok (.iconst 0, 1) := by decide +kernel
theorem d_L_law_650 : decode cL_law 650 = .ok (.laload, 1) := by decide +kernel
theorem d_L_law_651 : decode cL_law 651 = .ok (.iload 7, 2) := by decide +kernel
theorem d_L_law_653 : decode cL_law 653 = .ok (.i2l, 1) := by decide +kernel
theorem d_L_law_654 : decode cL_law 654 = .ok (.lcmp, 1) := by decide +kernel
theorem d_L_law_655 : decode cL_law 655 = .ok (.ifCond .eq 5, 3) := by decide +kernel
theorem d_L_law_658 : decode cL_law 658 = .ok (.iconst 0, 1) := by decide +kernel
theorem d_L_law_659 : decode cL_law 659 = .ok (.ireturn, 1) := by decide +kernel
theorem d_L_law_660 : decode cL_law 660 = .ok (.goto 1739, 3) := by decide +kernel
theorem d_L_law_663 : decode cL_law 663 = .ok (.aload_n 1, 1) := by decide +kernel
theorem d_L_law_664 : decode cL_law 664 = .ok (.aload_n 0, 1) := by decide +kernel
theorem d_L_law_665 : decode cL_law 665 = .ok (.iload 5, 2) := by decide +kernel
theorem d_L_law_667 : decode cL_law 667 = .ok (.iconst 1, 1) := by decide +kernel
theorem d_L_law_668 : decode cL_law 668 = .ok (.iadd, 1) := by decide +kernel
theorem d_L_law_669 : decode cL_law 669 = .ok (.iaload, 1) := by decide +kernel
theorem d_L_law_670 : decode cL_law 670 = .ok (.aload_n 3, 1) := by decide +kernel
theorem d_L_law_671 : decode cL_law 671 = .ok (.invokestatic 174, 3) := by decide +kernel
theorem d_L_law_674 : decode cL_law 674 = .ok (.istore 6, 2) := by decide +kernel
theorem d_L_law_676 : decode cL_law 676 = .ok (.aload_n 2, 1) := by decide +kernel
theorem d_L_law_677 : decode cL_law 677 = .ok (.aload_n 0, 1) := by decide +kernel
theorem d_L_law_678 : decode cL_law 678 = .ok (.iload 5, 2) := by decide +kernel
theorem d_L_law_680 : decode cL_law 680 = .ok (.iconst 1, 1) := by decide +kernel
theorem d_L_law_681 : decode cL_law 681 = .ok (.iadd, 1) := by decide +kernel
theorem d_L_law_682 : decode cL_law 682 = .ok (.iaload, 1) := by decide +kernel
theorem d_L_law_683 : decode cL_law 683 = .ok (.invokevirtual 176, 3) := by decide +kernel
theorem d_L_law_686 : decode cL_law 686 = .ok (.istore 7, 2) := by decide +kernel
theorem d_L_law_688 : decode cL_law 688 = .ok (.aload_n 2, 1) := by decide +kernel
theorem d_L_law_689 : decode cL_law 689 = .ok (.invokevirtual 145, 3) := by decide +kernel
theorem d_L_law_692 : decode cL_law 692 = .ok (.iload 6, 2) := by decide +kernel
theorem d_L_law_694 : decode cL_law 694 = .ok (.if_icmp .eq 5, 3) := by decide +kernel
theorem d_L_law_697 : decode cL_law 697 = .ok (.iconst 0, 1) := by decide +kernel
theorem d_L_law_698 : decode cL_law 698 = .ok (.ireturn, 1) := by decide +kernel
theorem d_L_law_699 : decode cL_law 699 = .ok (.iload 6, 2) := by decide +kernel
theorem d_L_law_701 : decode cL_law 701 = .ok (.ifCond .ne 15, 3) := by decide +kernel
theorem d_L_law_704 : decode cL_law 704 = .ok (.aload_n 3, 1) := by decide +kernel
theorem d_L_law_705 : decode cL_law 705 = .ok (.iconst 0, 1) := by decide +kernel
theorem d_L_law_706 : decode cL_law 706 = .ok (.laload, 1) := by decide +kernel
theorem d_L_law_707 : decode cL_law 707 = .ok (.iload 7, 2) := by decide +kernel
theorem d_L_law_709 : decode cL_law 709 = .ok (.i2l, 1) := by decide +kernel
theorem d_L_law_710 : decode cL_law 710 = .ok (.lcmp, 1) := by decide +kernel
theorem d_L_law_711 : decode cL_law 711 = .ok (.ifCond .eq 5, 3) := by decide +kernel
theorem d_L_law_714 : decode cL_law 714 = .ok (.iconst 0, 1) := by decide +kernel
theorem d_L_law_715 : decode cL_law 715 = .ok (.ireturn, 1) := by decide +kernel
theorem d_L_law_716 : decode cL_law 716 = .ok (.goto 1683, 3) := by decide +kernel
theorem d_L_law_719 : decode cL_law 719 = .ok (.aload_n 1, 1) := by decide +kernel
theorem d_L_law_720 : decode cL_law 720 = .ok (.aload_n 0, 1) := by decide +kernel
theorem d_L_law_721 : decode cL_law 721 = .ok (.iload 5, 2) := by decide +kernel
theorem d_L_law_723 : decode cL_law 723 = .ok (.iconst 1, 1) := by decide +kernel
theorem d_L_law_724 : decode cL_law 724 = .ok (.iadd, 1) := by decide +kernel
theorem d_L_law_725 : decode cL_law 725 = .ok (.iaload, 1) := by decide +kernel
theorem d_L_law_726 : decode cL_law 726 = .ok (.aload_n 3, 1) := by decide +kernel
theorem d_L_law_727 : decode cL_law 727 = .ok (.invokestatic 177, 3) := by decide +kernel
theorem d_L_law_730 : decode cL_law 730 = .ok (.istore 6, 2) := by decide +kernel
theorem d_L_law_732 : decode cL_law 732 = .ok (.aload_n 2, 1) := by decide +kernel
theorem d_L_law_733 : decode cL_law 733 = .ok (.aload_n 0, 1) := by decide +kernel
theorem d_L_law_734 : decode cL_law 734 = .ok (.iload 5, 2) := by decide +kernel
theorem d_L_law_736 : decode cL_law 736 = .ok (.iconst 1, 1) := by decide +kernel
theorem d_L_law_737 : decode cL_law 737 = .ok (.iadd, 1) := by decide +kernel
theorem d_L_law_738 : decode cL_law 738 = .ok (.iaload, 1) := by decide +kernel
theorem d_L_law_739 : decode cL_law 739 = .ok (.invokevirtual 179, 3) := by decide +kernel
theorem d_L_law_742 : decode cL_law 742 = .ok (.istore 7, 2) := by decide +kernel
theorem d_L_law_744 : decode cL_law 744 = .ok (.aload_n 2, 1) := by decide +kernel
theorem d_L_law_745 : decode cL_law 745 = .ok (.invokevirtual 145, 3) := by decide +kernel
theorem d_L_law_748 : decode cL_law 748 = .ok (.iload 6, 2) := by decide +kernel
theorem d_L_law_750 : decode cL_law 750 = .ok (.if_icmp .eq 5, 3) := by decide +kernel
theorem d_L_law_753 : decode cL_law 753 = .ok (.iconst 0, 1) := by decide +kernel
theorem d_L_law_754 : decode cL_law 754 = .ok (.ireturn, 1) := by decide +kernel
theorem d_L_law_755 : decode cL_law 755 = .ok (.iload 6, 2) := by decide +kernel
theorem d_L_law_757 : decode cL_law 757 = .ok (.ifCond .ne 15, 3) := by decide +kernel
theorem d_L_law_760 : decode cL_law 760 = .ok (.aload_n 3, 1) := by decide +kernel
theorem d_L_law_761 : decode cL_law 761 = .ok (.iconst 0, 1) := by decide +kernel
theorem d_L_law_762 : decode cL_law 762 = .ok (.laload, 1) := by decide +kernel
theorem d_L_law_763 : decode cL_law 763 = .ok (.iload 7, 2) := by decide +kernel
theorem d_L_law_765 : decode cL_law 765 = .ok (.i2l, 1) := by decide +kernel
theorem d_L_law_766 : decode cL_law 766 = .ok (.lcmp, 1) := by decide +kernel
theorem d_L_law_767 : decode cL_law 767 = .ok (.ifCond .eq 5, 3) := by decide +kernel
theorem d_L_law_770 : decode cL_law 770 = .ok (.iconst 0, 1) := by decide +kernel
theorem d_L_law_771 : decode cL_law 771 = .ok (.ireturn, 1) := by decide +kernel
theorem d_L_law_772 : decode cL_law 772 = .ok (.goto 1627, 3) := by decide +kernel
theorem d_L_law_775 : decode cL_law 775 = .ok (.aload_n 1, 1) := by decide +kernel
theorem d_L_law_776 : decode cL_law 776 = .ok (.aload_n 0, 1) := by decide +kernel
theorem d_L_law_777 : decode cL_law 777 = .ok (.iload 5, 2) := by decide +kernel
theorem d_L_law_779 : decode cL_law 779 = .ok (.iconst 1, 1) := by decide +kernel
theorem d_L_law_780 : decode cL_law 780 = .ok (.iadd, 1) := by decide +kernel
theorem d_L_law_781 : decode cL_law 781 = .ok (.iaload, 1) := by decide +kernel
theorem d_L_law_782 : decode cL_law 782 = .ok (.aload_n 0, 1) := by decide +kernel
theorem d_L_law_783 : decode cL_law 783 = .ok (.iload 5, 2) := by decide +kernel
theorem d_L_law_785 : decode cL_law 785 = .ok (.iconst 2, 1) := by decide +kernel
theorem d_L_law_786 : decode cL_law 786 = .ok (.iadd, 1) := by decide +kernel
theorem d_L_law_787 : decode cL_law 787 = .ok (.iaload, 1) := by decide +kernel
theorem d_L_law_788 : decode cL_law 788 = .ok (.aload_n 3, 1) := by decide +kernel
theorem d_L_law_789 : decode cL_law 789 = .ok (.invokestatic 180, 3) := by decide +kernel
theorem d_L_law_792 : decode cL_law 792 = .ok (.istore 6, 2) := by decide +kernel
theorem d_L_law_794 : decode cL_law 794 = .ok (.aload_n 2, 1) := by decide +kernel
theorem d_L_law_795 : decode cL_law 795 = .ok (.aload_n 0, 1) := by decide +kernel
theorem d_L_law_796 : decode cL_law 796 = .ok (.iload 5, 2) := by decide +kernel
theorem d_L_law_798 : decode cL_law 798 = .ok (.iconst 1, 1) := by decide +kernel
theorem d_L_law_799 : decode cL_law 799 = .ok (.iadd, 1) := by decide +kernel
theorem d_L_law_800 : decode cL_law 800 = .ok (.iaload, 1) := by decide +kernel
theorem d_L_law_801 : decode cL_law 801 = .ok (.aload_n 0, 1) := by decide +kernel
theorem d_L_law_802 : decode cL_law 802 = .ok (.iload 5, 2) := by decide +kernel
theorem d_L_law_804 : decode cL_law 804 = .ok (.iconst 2, 1) := by decide +kernel
theorem d_L_law_805 : decode cL_law 805 = .ok (.iadd, 1) := by decide +kernel
theorem d_L_law_806 : decode cL_law 806 = .ok (.iaload, 1) := by decide +kernel
theorem d_L_law_807 : decode cL_law 807 = .ok (.invokevirtual 182, 3) := by decide +kernel
theorem d_L_law_810 : decode cL_law 810 = .ok (.istore 7, 2) := by decide +kernel
theorem d_L_law_812 : decode cL_law 812 = .ok (.aload_n 2, 1) := by decide +kernel
theorem d_L_law_813 : decode cL_law 813 = .ok (.invokevirtual 145, 3) := by decide +kernel
theorem d_L_law_816 : decode cL_law 816 = .ok (.iload 6, 2) := by decide +kernel
theorem d_L_law_818 : decode cL_law 818 = .ok (.if_icmp .eq 5, 3) := by decide +kernel
theorem d_L_law_821 : decode cL_law 821 = .ok (.iconst 0, 1) := by decide +kernel
theorem d_L_law_822 : decode cL_law 822 = .ok (.ireturn, 1) := by decide +kernel
theorem d_L_law_823 : decode cL_law 823 = .ok (.iload 6, 2) := by decide +kernel
theorem d_L_law_825 : decode cL_law 825 = .ok (.ifCond .ne 15, 3) := by decide +kernel
theorem d_L_law_828 : decode cL_law 828 = .ok (.aload_n 3, 1) := by decide +kernel
theorem d_L_law_829 : decode cL_law 829 = .ok (.iconst 0, 1) := by decide +kernel
theorem d_L_law_830 : decode cL_law 830 = .ok (.laload, 1) := by decide +kernel
theorem d_L_law_831 : decode cL_law 831 = .ok (.iload 7, 2) := by decide +kernel
theorem d_L_law_833 : decode cL_law 833 = .ok (.i2l, 1) := by decide +kernel
theorem d_L_law_834 : decode cL_law 834 = .ok (.lcmp, 1) := by decide +kernel
theorem d_L_law_835 : decode cL_law 835 = .ok (.ifCond .eq 5, 3) := by decide +kernel
theorem d_L_law_838 : decode cL_law 838 = .ok (.iconst 0, 1) := by decide +kernel
theorem d_L_law_839 : decode cL_law 839 = .ok (.ireturn, 1) := by decide +kernel
theorem d_L_law_840 : decode cL_law 840 = .ok (.goto 1559, 3) := by decide +kernel
theorem d_L_law_843 : decode cL_law 843 = .ok (.aload_n 1, 1) := by decide +kernel
theorem d_L_law_844 : decode cL_law 844 = .ok (.aload_n 0, 1) := by decide +kernel
theorem d_L_law_845 : decode cL_law 845 = .ok (.iload 5, 2) := by decide +kernel
theorem d_L_law_847 : decode cL_law 847 = .ok (.iconst 1, 1) := by decide +kernel
theorem d_L_law_848 : decode cL_law 848 = .ok (.iadd, 1) := by decide +kernel
theorem d_L_law_849 : decode cL_law 849 = .ok (.iaload, 1) := by decide +kernel
theorem d_L_law_850 : decode cL_law 850 = .ok (.aload_n 0, 1) := by decide +kernel
theorem d_L_law_851 : decode cL_law 851 = .ok (.iload 5, 2) := by decide +kernel
theorem d_L_law_853 : decode cL_law 853 = .ok (.iconst 2, 1) := by decide +kernel
theorem d_L_law_854 : decode cL_law 854 = .ok (.iadd, 1) := by decide +kernel
theorem d_L_law_855 : decode cL_law 855 = .ok (.iaload, 1) := by decide +kernel
theorem d_L_law_856 : decode cL_law 856 = .ok (.aload_n 3, 1) := by decide +kernel
theorem d_L_law_857 : decode cL_law 857 = .ok (.invokestatic 183, 3) := by decide +kernel
theorem d_L_law_860 : decode cL_law 860 = .ok (.istore 6, 2) := by decide +kernel
theorem d_L_law_862 : decode cL_law 862 = .ok (.aload_n 2, 1) := by decide +kernel
theorem d_L_law_863 : decode cL_law 863 = .ok (.aload_n 0, 1) := by decide +kernel
theorem d_L_law_864 : decode cL_law 864 = .ok (.iload 5, 2) := by decide +kernel
theorem d_L_law_866 : decode cL_law 866 = .ok (.iconst 1, 1) := by decide +kernel
theorem d_L_law_867 : decode cL_law 867 = .ok (.iadd, 1) := by decide +kernel
theorem d_L_law_868 : decode cL_law 868 = .ok (.iaload, 1) := by decide +kernel
theorem d_L_law_869 : decode cL_law 869 = .ok (.aload_n 0, 1) := by decide +kernel
theorem d_L_law_870 : decode cL_law 870 = .ok (.iload 5, 2) := by decide +kernel
theorem d_L_law_872 : decode cL_law 872 = .ok (.iconst 2, 1) := by decide +kernel
theorem d_L_law_873 : decode cL_law 873 = .ok (.iadd, 1) := by decide +kernel
theorem d_L_law_874 : decode cL_law 874 = .ok (.iaload, 1) := by decide +kernel
theorem d_L_law_875 : decode cL_law 875 = .ok (.invokevirtual 185, 3) := by decide +kernel
theorem d_L_law_878 : decode cL_law 878 = .ok (.istore 7, 2) := by decide +kernel
theorem d_L_law_880 : decode cL_law 880 = .ok (.aload_n 2, 1) := by decide +kernel
theorem d_L_law_881 : decode cL_law 881 = .ok (.invokevirtual 145, 3) := by decide +kernel
theorem d_L_law_884 : decode cL_law 884 = .ok (.iload 6, 2) := by decide +kernel
theorem d_L_law_886 : decode cL_law 886 = .ok (.if_icmp .eq 5, 3) := by decide +kernel
theorem d_L_law_889 : decode cL_law 889 = .ok (.iconst 0, 1) := by decide +kernel
theorem d_L_law_890 : decode cL_law 890 = .ok (.ireturn, 1) := by decide +kernel
theorem d_L_law_891 : decode cL_law 891 = .ok (.iload 6, 2) := by decide +kernel
theorem d_L_law_893 : decode cL_law 893 = .ok (.ifCond .ne 15, 3) := by decide +kernel
theorem d_L_law_896 : decode cL_law 896 = .ok (.aload_n 3, 1) := by decide +kernel
theorem d_L_law_897 : decode cL_law 897 = .ok (.iconst 0, 1) := by decide +kernel
theorem d_L_law_898 : decode cL_law 898 = .ok (.laload, 1) := by decide +kernel
theorem d_L_law_899 : decode cL_law 899 = .ok (.iload 7, 2) := by decide +kernel
theorem d_L_law_901 : decode cL_law 901 = .ok (.i2l, 1) := by decide +kernel
theorem d_L_law_902 : decode cL_law 902 = .ok (.lcmp, 1) := by decide +kernel
theorem d_L_law_903 : decode cL_law 903 = .ok (.ifCond .eq 5, 3) := by decide +kernel
theorem d_L_law_906 : decode cL_law 906 = .ok (.iconst 0, 1) := by decide +kernel
theorem d_L_law_907 : decode cL_law 907 = .ok (.ireturn, 1) := by decide +kernel
theorem d_L_law_908 : decode cL_law 908 = .ok (.goto 1491, 3) := by decide +kernel
theorem d_L_law_911 : decode cL_law 911 = .ok (.aload_n 1, 1) := by decide +kernel
theorem d_L_law_912 : decode cL_law 912 = .ok (.aload_n 0, 1) := by decide +kernel
theorem d_L_law_913 : decode cL_law 913 = .ok (.iload 5, 2) := by decide +kernel
theorem d_L_law_915 : decode cL_law 915 = .ok (.iconst 1, 1) := by decide +kernel
theorem d_L_law_916 : decode cL_law 916 = .ok (.iadd, 1) := by decide +kernel
theorem d_L_law_917 : decode cL_law 917 = .ok (.iaload, 1) := by decide +kernel
theorem d_L_law_918 : decode cL_law 918 = .ok (.aload_n 3, 1) := by decide +kernel
theorem d_L_law_919 : decode cL_law 919 = .ok (.invokestatic 186, 3) := by decide +kernel
theorem d_L_law_922 : decode cL_law 922 = .ok (.istore 6, 2) := by decide +kernel
theorem d_L_law_924 : decode cL_law 924 = .ok (.aload_n 2, 1) := by decide +kernel
theorem d_L_law_925 : decode cL_law 925 = .ok (.aload_n 0, 1) := by decide +kernel
theorem d_L_law_926 : decode cL_law 926 = .ok (.iload 5, 2) := by decide +kernel
theorem d_L_law_928 : decode cL_law 928 = .ok (.iconst 1, 1) := by decide +kernel
theorem d_L_law_929 : decode cL_law 929 = .ok (.iadd, 1) := by decide +kernel
theorem d_L_law_930 : decode cL_law 930 = .ok (.iaload, 1) := by decide +kernel
theorem d_L_law_931 : decode cL_law 931 = .ok (.invokevirtual 188, 3) := by decide +kernel
theorem d_L_law_934 : decode cL_law 934 = .ok (.istore 7, 2) := by decide +kernel
theorem d_L_law_936 : decode cL_law 936 = .ok (.aload_n 2, 1) := by decide +kernel
theorem d_L_law_937 : decode cL_law 937 = .ok (.invokevirtual 145, 3) := by decide +kernel
theorem d_L_law_940 : decode cL_law 940 = .ok (.iload 6, 2) := by decide +kernel
theorem d_L_law_942 : decode cL_law 942 = .ok (.if_icmp .eq 5, 3) := by decide +kernel
theorem d_L_law_945 : decode cL_law 945 = .ok (.iconst 0, 1) := by decide +kernel
theorem d_L_law_946 : decode cL_law 946 = .ok (.ireturn, 1) := by decide +kernel
theorem d_L_law_947 : decode cL_law 947 = .ok (.iload 6, 2) := by decide +kernel
theorem d_L_law_949 : decode cL_law 949 = .ok (.ifCond .ne 15, 3) := by decide +kernel
theorem d_L_law_952 : decode cL_law 952 = .ok (.aload_n 3, 1) := by decide +kernel
theorem d_L_law_953 : decode cL_law 953 = .ok (.iconst 0, 1) := by decide +kernel
theorem d_L_law_954 : decode cL_law 954 = .ok (.laload, 1) := by decide +kernel
theorem d_L_law_955 : decode cL_law 955 = .ok (.iload 7, 2) := by decide +kernel
theorem d_L_law_957 : decode cL_law 957 = .ok (.i2l, 1) := by decide +kernel
theorem d_L_law_958 : decode cL_law 958 = .ok (.lcmp, 1) := by decide +kernel
theorem d_L_law_959 : decode cL_law 959 = .ok (.ifCond .eq 5, 3) := by decide +kernel
theorem d_L_law_962 : decode cL_law 962 = .ok (.iconst 0, 1) := by decide +kernel
theorem d_L_law_963 : decode cL_law 963 = .ok (.ireturn, 1) := by decide +kernel
theorem d_L_law_964 : decode cL_law 964 = .ok (.goto 1435, 3) := by decide +kernel
theorem d_L_law_967 : decode cL_law 967 = .ok (.aload_n 1, 1) := by decide +kernel
theorem d_L_law_968 : decode cL_law 968 = .ok (.aload_n 0, 1) := by decide +kernel
theorem d_L_law_969 : decode cL_law 969 = .ok (.iload 5, 2) := by decide +kernel
theorem d_L_law_971 : decode cL_law 971 = .ok (.iconst 1, 1) := by decide +kernel
theorem d_L_law_972 : decode cL_law 972 = .ok (.iadd, 1) := by decide +kernel
theorem d_L_law_973 : decode cL_law 973 = .ok (.iaload, 1) := by decide +kernel
theorem d_L_law_974 : decode cL_law 974 = .ok (.aload_n 3, 1) := by decide +kernel
theorem d_L_law_975 : decode cL_law 975 = .ok (.invokestatic 189, 3) := by decide +kernel
theorem d_L_law_978 : decode cL_law 978 = .ok (.istore 6, 2) := by decide +kernel
theorem d_L_law_980 : decode cL_law 980 = .ok (.aload_n 2, 1) := by decide +kernel
theorem d_L_law_981 : decode cL_law 981 = .ok (.aload_n 0, 1) := by decide +kernel
theorem d_L_law_982 : decode cL_law 982 = .ok (.iload 5, 2) := by decide +kernel
theorem d_L_law_984 : decode cL_law 984 = .ok (.iconst 1, 1) := by decide +kernel
theorem d_L_law_985 : decode cL_law 985 = .ok (.iadd, 1) := by decide +kernel
theorem d_L_law_986 : decode cL_law 986 = .ok (.iaload, 1) := by decide +kernel
theorem d_L_law_987 : decode cL_law 987 = .ok (.invokevirtual 191, 3) := by decide +kernel
theorem d_L_law_990 : decode cL_law 990 = .ok (.istore 7, 2) := by decide +kernel
theorem d_L_law_992 : decode cL_law 992 = .ok (.aload_n 2, 1) := by decide +kernel
theorem d_L_law_993 : decode cL_law 993 = .ok (.invokevirtual 145, 3) := by decide +kernel
theorem d_L_law_996 : decode cL_law 996 = .ok (.iload 6, 2) := by decide +kernel
theorem d_L_law_998 : decode cL_law 998 = .ok (.if_icmp .eq 5, 3) := by decide +kernel
theorem d_L_law_1001 : decode cL_law 1001 = .ok (.iconst 0, 1) := by decide +kernel
theorem d_L_law_1002 : decode cL_law 1002 = .ok (.ireturn, 1) := by decide +kernel
theorem d_L_law_1003 : decode cL_law 1003 = .ok (.iload 6, 2) := by decide +kernel
theorem d_L_law_1005 : decode cL_law 1005 = .ok (.ifCond .ne 15, 3) := by decide +kernel
theorem d_L_law_1008 : decode cL_law 1008 = .ok (.aload_n 3, 1) := by decide +kernel
theorem d_L_law_1009 : decode cL_law 1009 = .ok (.iconst 0, 1) := by decide +kernel
theorem d_L_law_1010 : decode cL_law 1010 = .ok (.laload, 1) := by decide +kernel
theorem d_L_law_1011 : decode cL_law 1011 = .ok (.iload 7, 2) := by decide +kernel
theorem d_L_law_1013 : decode cL_law 1013 = .ok (.i2l, 1) := by decide +kernel
theorem d_L_law_1014 : decode cL_law 1014 = .ok (.lcmp, 1) := by decide +kernel
theorem d_L_law_1015 : decode cL_law 1015 = .ok (.ifCond .eq 5, 3) := by decide +kernel
theorem d_L_law_1018 : decode cL_law 1018 = .ok (.iconst 0, 1) := by decide +kernel
theorem d_L_law_1019 : decode cL_law 1019 = .ok (.ireturn, 1) := by decide +kernel
theorem d_L_law_1020 : decode cL_law 1020 = .ok (.goto 1379, 3) := by decide +kernel
theorem d_L_law_1023 : decode cL_law 1023 = .ok (.aload_n 1, 1) := by decide +kernel
theorem d_L_law_1024 : decode cL_law 1024 = .ok (.aload_n 0, 1) := by decide +kernel
theorem d_L_law_1025 : decode cL_law 1025 = .ok (.iload 5, 2) := by decide +kernel
theorem d_L_law_1027 : decode cL_law 1027 = .ok (.iconst 1, 1) := by decide +kernel
theorem d_L_law_1028 : decode cL_law 1028 = .ok (.iadd, 1) := by decide +kernel
theorem d_L_law_1029 : decode cL_law 1029 = .ok (.iaload, 1) := by decide +kernel
theorem d_L_law_1030 : decode cL_law 1030 = .ok (.aload_n 0, 1) := by decide +kernel
theorem d_L_law_1031 : decode cL_law 1031 = .ok (.iload 5, 2) := by decide +kernel
theorem d_L_law_1033 : decode cL_law 1033 = .ok (.iconst 2, 1) := by decide +kernel
theorem d_L_law_1034 : decode cL_law 1034 = .ok (.iadd, 1) := by decide +kernel
theorem d_L_law_1035 : decode cL_law 1035 = .ok (.iaload, 1) := by decide +kernel
theorem d_L_law_1036 : decode cL_law 1036 = .ok (.aload_n 3, 1) := by decide +kernel
theorem d_L_law_1037 : decode cL_law 1037 = .ok (.invokestatic 192, 3) := by decide +kernel
theorem d_L_law_1040 : decode cL_law 1040 = .ok (.istore 6, 2) := by decide +kernel
theorem d_L_law_1042 : decode cL_law 1042 = .ok (.aload_n 2, 1) := by decide +kernel
theorem d_L_law_1043 : decode cL_law 1043 = .ok (.aload_n 0, 1) := by decide +kernel
theorem d_L_law_1044 : decode cL_law 1044 = .ok (.iload 5, 2) := by decide +kernel
theorem d_L_law_1046 : decode cL_law 1046 = .ok (.iconst 1, 1) := by decide +kernel
theorem d_L_law_1047 : decode cL_law 1047 = .ok (.iadd, 1) := by decide +kernel
theorem d_L_law_1048 : decode cL_law 1048 = .ok (.iaload, 1) := by decide +kernel
theorem d_L_law_1049 : decode cL_law 1049 = .ok (.aload_n 0, 1) := by decide +kernel
theorem d_L_law_1050 : decode cL_law 1050 = .ok (.iload 5, 2) := by decide +kernel
theorem d_L_law_1052 : decode cL_law 1052 = .ok (.iconst 2, 1) := by decide +kernel
theorem d_L_law_1053 : decode cL_law 1053 = .ok (.iadd, 1) := by decide +kernel
theorem d_L_law_1054 : decode cL_law 1054 = .ok (.iaload, 1) := by decide +kernel
theorem d_L_law_1055 : decode cL_law 1055 = .ok (.invokevirtual 194, 3) := by decide +kernel
theorem d_L_law_1058 : decode cL_law 1058 = .ok (.istore 7, 2) := by decide +kernel
theorem d_L_law_1060 : decode cL_law 1060 = .ok (.aload_n 2, 1) := by decide +kernel
theorem d_L_law_1061 : decode cL_law 1061 = .ok (.invokevirtual 145, 3) := by decide +kernel
theorem d_L_law_1064 : decode cL_law 1064 = .ok (.iload 6, 2) := by decide +kernel
theorem d_L_law_1066 : decode cL_law 1066 = .ok (.if_icmp .eq 5, 3) := by decide +kernel
theorem d_L_law_1069 : decode cL_law 1069 = .ok (.iconst 0, 1) := by decide +kernel
theorem d_L_law_1070 : decode cL_law 1070 = .ok (.ireturn, 1) := by decide +kernel
theorem d_L_law_1071 : decode cL_law 1071 = .ok (.iload 6, 2) := by decide +kernel
theorem d_L_law_1073 : decode cL_law 1073 = .ok (.ifCond .ne 15, 3) := by decide +kernel
theorem d_L_law_1076 : decode cL_law 1076 = .ok (.aload_n 3, 1) := by decide +kernel
theorem d_L_law_1077 : decode cL_law 1077 = .ok (.iconst 0, 1) := by decide +kernel
theorem d_L_law_1078 : decode cL_law 1078 = .ok (.laload, 1) := by decide +kernel
theorem d_L_law_1079 : decode cL_law 1079 = .ok (.iload 7, 2) := by decide +kernel
theorem d_L_law_1081 : decode cL_law 1081 = .ok (.i2l, 1) := by decide +kernel
theorem d_L_law_1082 : decode cL_law 1082 = .ok (.lcmp, 1) := by decide +kernel
theorem d_L_law_1083 : decode cL_law 1083 = .ok (.ifCond .eq 5, 3) := by decide +kernel
theorem d_L_law_1086 : decode cL_law 1086 = .ok (.iconst 0, 1) := by decide +kernel
theorem d_L_law_1087 : decode cL_law 1087 = .ok (.ireturn, 1) := by decide +kernel
theorem d_L_law_1088 : decode cL_law 1088 = .ok (.goto 1311, 3) := by decide +kernel
theorem d_L_law_1091 : decode cL_law 1091 = .ok (.aload_n 1, 1) := by decide +kernel
theorem d_L_law_1092 : decode cL_law 1092 = .ok (.aload_n 0, 1) := by decide +kernel
theorem d_L_law_1093 : decode cL_law 1093 = .ok (.iload 5, 2) := by decide +kernel
theorem d_L_law_1095 : decode cL_law 1095 = .ok (.iconst 1, 1) := by decide +kernel
theorem d_L_law_1096 : decode cL_law 1096 = .ok (.iadd, 1) := by decide +kernel
theorem d_L_law_1097 : decode cL_law 1097 = .ok (.iaload, 1) := by decide +kernel
theorem d_L_law_1098 : decode cL_law 1098 = .ok (.aload_n 3, 1) := by decide +kernel
theorem d_L_law_1099 : decode cL_law 1099 = .ok (.invokestatic 195, 3) := by decide +kernel
theorem d_L_law_1102 : decode cL_law 1102 = .ok (.istore 6, 2) := by decide +kernel
theorem d_L_law_1104 : decode cL_law 1104 = .ok (.aload_n 2, 1) := by decide +kernel
theorem d_L_law_1105 : decode cL_law 1105 = .ok (.aload_n 0, 1) := by decide +kernel
theorem d_L_law_1106 : decode cL_law 1106 = .ok (.iload 5, 2) := by decide +kernel
theorem d_L_law_1108 : decode cL_law 1108 = .ok (.iconst 1, 1) := by decide +kernel
theorem d_L_law_1109 : decode cL_law 1109 = .ok (.iadd, 1) := by decide +kernel
theorem d_L_law_1110 : decode cL_law 1110 = .ok (.iaload, 1) := by decide +kernel
theorem d_L_law_1111 : decode cL_law 1111 = .ok (.invokevirtual 197, 3) := by decide +kernel
theorem d_L_law_1114 : decode cL_law 1114 = .ok (.istore 7, 2) := by decide +kernel
theorem d_L_law_1116 : decode cL_law 1116 = .ok (.aload_n 2, 1) := by decide +kernel
theorem d_L_law_1117 : decode cL_law 1117 = .ok (.invokevirtual 145, 3) := by decide +kernel
theorem d_L_law_1120 : decode cL_law 1120 = .ok (.iload 6, 2) := by decide +kernel
theorem d_L_law_1122 : decode cL_law 1122 = .ok (.if_icmp .eq 5, 3) := by decide +kernel
theorem d_L_law_1125 : decode cL_law 1125 = .ok (.iconst 0, 1) := by decide +kernel
theorem d_L_law_1126 : decode cL_law 1126 = .ok (.ireturn, 1) := by decide +kernel
theorem d_L_law_1127 : decode cL_law 1127 = .ok (.iload 6, 2) := by decide +kernel
theorem d_L_law_1129 : decode cL_law 1129 = .ok (.ifCond .ne 15, 3) := by decide +kernel
theorem d_L_law_1132 : decode cL_law 1132 = .ok (.aload_n 3, 1) := by decide +kernel
theorem d_L_law_1133 : decode cL_law 1133 = .ok (.iconst 0, 1) := by decide +kernel
theorem d_L_law_1134 : decode cL_law 1134 = .ok (.laload, 1) := by decide +kernel
theorem d_L_law_1135 : decode cL_law 1135 = .ok (.iload 7, 2) := by decide +kernel
theorem d_L_law_1137 : decode cL_law 1137 = .ok (.i2l, 1) := by decide +kernel
theorem d_L_law_1138 : decode cL_law 1138 = .ok (.lcmp, 1) := by decide +kernel
theorem d_L_law_1139 : decode cL_law 1139 = .ok (.ifCond .eq 5, 3) := by decide +kernel
theorem d_L_law_1142 : decode cL_law 1142 = .ok (.iconst 0, 1) := by decide +kernel
theorem d_L_law_1143 : decode cL_law 1143 = .ok (.ireturn, 1) := by decide +kernel
theorem d_L_law_1144 : decode cL_law 1144 = .ok (.goto 1255, 3) := by decide +kernel
theorem d_L_law_1147 : decode cL_law 1147 = .ok (.aload_n 1, 1) := by decide +kernel
theorem d_L_law_1148 : decode cL_law 1148 = .ok (.aload_n 0, 1) := by decide +kernel
theorem d_L_law_1149 : decode cL_law 1149 = .ok (.iload 5, 2) := by decide +kernel
theorem d_L_law_1151 : decode cL_law 1151 = .ok (.iconst 1, 1) := by decide +kernel
theorem d_L_law_1152 : decode cL_law 1152 = .ok (.iadd, 1) := by decide +kernel
theorem d_L_law_1153 : decode cL_law 1153 = .ok (.iaload, 1) := by decide +kernel
theorem d_L_law_1154 : decode cL_law 1154 = .ok (.aload_n 0, 1) := by decide +kernel
theorem d_L_law_1155 : decode cL_law 1155 = .ok (.iload 5, 2) := by decide +kernel
theorem d_L_law_1157 : decode cL_law 1157 = .ok (.iconst 2, 1) := by decide +kernel
theorem d_L_law_1158 : decode cL_law 1158 = .ok (.iadd, 1) := by decide +kernel
theorem d_L_law_1159 : decode cL_law 1159 = .ok (.iaload, 1) := by decide +kernel
theorem d_L_law_1160 : decode cL_law 1160 = .ok (.aload_n 3, 1) := by decide +kernel
theorem d_L_law_1161 : decode cL_law 1161 = .ok (.invokestatic 198, 3) := by decide +kernel
theorem d_L_law_1164 : decode cL_law 1164 = .ok (.istore 6, 2) := by decide +kernel
theorem d_L_law_1166 : decode cL_law 1166 = .ok (.aload_n 2, 1) := by decide +kernel
theorem d_L_law_1167 : decode cL_law 1167 = .ok (.aload_n 0, 1) := by decide +kernel
theorem d_L_law_1168 : decode cL_law 1168 = .ok (.iload 5, 2) := by decide +kernel
theorem d_L_law_1170 : decode cL_law 1170 = .ok (.iconst 1, 1) := by decide +kernel
theorem d_L_law_1171 : decode cL_law 1171 = .ok (.iadd, 1) := by decide +kernel
theorem d_L_law_1172 : decode cL_law 1172 = .ok (.iaload, 1) := by decide +kernel
theorem d_L_law_1173 : decode cL_law 1173 = .ok (.aload_n 0, 1) := by decide +kernel
theorem d_L_law_1174 : decode cL_law 1174 = .ok (.iload 5, 2) := by decide +kernel
theorem d_L_law_1176 : decode cL_law 1176 = .ok (.iconst 2, 1) := by decide +kernel
theorem d_L_law_1177 : decode cL_law 1177 = .ok (.iadd, 1) := by decide +kernel
theorem d_L_law_1178 : decode cL_law 1178 = .ok (.iaload, 1) := by decide +kernel
theorem d_L_law_1179 : decode cL_law 1179 = .ok (.invokevirtual 200, 3) := by decide +kernel
theorem d_L_law_1182 : decode cL_law 1182 = .ok (.istore 7, 2) := by decide +kernel
theorem d_L_law_1184 : decode cL_law 1184 = .ok (.aload_n 2, 1) := by decide +kernel
theorem d_L_law_1185 : decode cL_law 1185 = .ok (.invokevirtual 145, 3) := by decide +kernel
theorem d_L_law_1188 : decode cL_law 1188 = .ok (.iload 6, 2) := by decide +kernel
theorem d_L_law_1190 : decode cL_law 1190 = .ok (.if_icmp .eq 5, 3) := by decide +kernel
theorem d_L_law_1193 : decode cL_law 1193 = .ok (.iconst 0, 1) := by decide +kernel
theorem d_L_law_1194 : decode cL_law 1194 = .ok (.ireturn, 1) := by decide +kernel
theorem d_L_law_1195 : decode cL_law 1195 = .ok (.iload 6, 2) := by decide +kernel
theorem d_L_law_1197 : decode cL_law 1197 = .ok (.ifCond .ne 15, 3) := by decide +kernel
theorem d_L_law_1200 : decode cL_law 1200 = .ok (.aload_n 3, 1) := by decide +kernel
theorem d_L_law_1201 : decode cL_law 1201 = .ok (.iconst 0, 1) := by decide +kernel
theorem d_L_law_1202 : decode cL_law 1202 = .ok (.laload, 1) := by decide +kernel
theorem d_L_law_1203 : decode cL_law 1203 = .ok (.iload 7, 2) := by decide +kernel
theorem d_L_law_1205 : decode cL_law 1205 = .ok (.i2l, 1) := by decide +kernel
theorem d_L_law_1206 : decode cL_law 1206 = .ok (.lcmp, 1) := by decide +kernel
theorem d_L_law_1207 : decode cL_law 1207 = .ok (.ifCond .eq 5, 3) := by decide +kernel
theorem d_L_law_1210 : decode cL_law 1210 = .ok (.iconst 0, 1) := by decide +kernel
theorem d_L_law_1211 : decode cL_law 1211 = .ok (.ireturn, 1) := by decide +kernel
theorem d_L_law_1212 : decode cL_law 1212 = .ok (.goto 1187, 3) := by decide +kernel
theorem d_L_law_1215 : decode cL_law 1215 = .ok (.aload_n 1, 1) := by decide +kernel
theorem d_L_law_1216 : decode cL_law 1216 = .ok (.aload_n 0, 1) := by decide +kernel
theorem d_L_law_1217 : decode cL_law 1217 = .ok (.iload 5, 2) := by decide +kernel
theorem d_L_law_1219 : decode cL_law 1219 = .ok (.iconst 1, 1) := by decide +kernel
theorem d_L_law_1220 : decode cL_law 1220 = .ok (.iadd, 1) := by decide +kernel
theorem d_L_law_1221 : decode cL_law 1221 = .ok (.iaload, 1) := by decide +kernel
theorem d_L_law_1222 : decode cL_law 1222 = .ok (.aload_n 0, 1) := by decide +kernel
theorem d_L_law_1223 : decode cL_law 1223 = .ok (.iload 5, 2) := by decide +kernel
theorem d_L_law_1225 : decode cL_law 1225 = .ok (.iconst 2, 1) := by decide +kernel
theorem d_L_law_1226 : decode cL_law 1226 = .ok (.iadd, 1) := by decide +kernel
theorem d_L_law_1227 : decode cL_law 1227 = .ok (.iaload, 1) := by decide +kernel
theorem d_L_law_1228 : decode cL_law 1228 = .ok (.aload_n 3, 1) := by decide +kernel
theorem d_L_law_1229 : decode cL_law 1229 = .ok (.invokestatic 201, 3) := by decide +kernel
theorem d_L_law_1232 : decode cL_law 1232 = .ok (.istore 6, 2) := by decide +kernel
theorem d_L_law_1234 : decode cL_law 1234 = .ok (.aload_n 2, 1) := by decide +kernel
theorem d_L_law_1235 : decode cL_law 1235 = .ok (.aload_n 0, 1) := by decide +kernel
theorem d_L_law_1236 : decode cL_law 1236 = .ok (.iload 5, 2) := by decide +kernel
theorem d_L_law_1238 : decode cL_law 1238 = .ok (.iconst 1, 1) := by decide +kernel
theorem d_L_law_1239 : decode cL_law 1239 = .ok (.iadd, 1) := by decide +kernel
theorem d_L_law_1240 : decode cL_law 1240 = .ok (.iaload, 1) := by decide +kernel
theorem d_L_law_1241 : decode cL_law 1241 = .ok (.aload_n 0, 1) := by decide +kernel
theorem d_L_law_1242 : decode cL_law 1242 = .ok (.iload 5, 2) := by decide +kernel
theorem d_L_law_1244 : decode cL_law 1244 = .ok (.iconst 2, 1) := by decide +kernel
theorem d_L_law_1245 : decode cL_law 1245 = .ok (.iadd, 1) := by decide +kernel
theorem d_L_law_1246 : decode cL_law 1246 = .ok (.iaload, 1) := by decide +kernel
theorem d_L_law_1247 : decode cL_law 1247 = .ok (.invokevirtual 203, 3) := by decide +kernel
theorem d_L_law_1250 : decode cL_law 1250 = .ok (.istore 7, 2) := by decide +kernel
theorem d_L_law_1252 : decode cL_law 1252 = .ok (.aload_n 2, 1) := by decide +kernel
theorem d_L_law_1253 : decode cL_law 1253 = .ok (.invokevirtual 145, 3) := by decide +kernel
theorem d_L_law_1256 : decode cL_law 1256 = .ok (.iload 6, 2) := by decide +kernel
theorem d_L_law_1258 : decode cL_law 1258 = .ok (.if_icmp .eq 5, 3) := by decide +kernel
theorem d_L_law_1261 : decode cL_law 1261 = .ok (.iconst 0, 1) := by decide +kernel
theorem d_L_law_1262 : decode cL_law 1262 = .ok (.ireturn, 1) := by decide +kernel
theorem d_L_law_1263 : decode cL_law 1263 = .ok (.iload 6, 2) := by decide +kernel
theorem d_L_law_1265 : decode cL_law 1265 = .ok (.ifCond .ne 15, 3) := by decide +kernel
theorem d_L_law_1268 : decode cL_law 1268 = .ok (.aload_n 3, 1) := by decide +kernel
theorem d_L_law_1269 : decode cL_law 1269 = .ok (.iconst 0, 1) := by decide +kernel
theorem d_L_law_1270 : decode cL_law 1270 = .ok (.laload, 1) := by decide +kernel
theorem d_L_law_1271 : decode cL_law 1271 = .ok (.iload 7, 2) := by decide +kernel
theorem d_L_law_1273 : decode cL_law 1273 = .ok (.i2l, 1) := by decide +kernel
theorem d_L_law_1274 : decode cL_law 1274 = .ok (.lcmp, 1) := by decide +kernel
theorem d_L_law_1275 : decode cL_law 1275 = .ok (.ifCond .eq 5, 3) := by decide +kernel
theorem d_L_law_1278 : decode cL_law 1278 = .ok (.iconst 0, 1) := by decide +kernel
theorem d_L_law_1279 : decode cL_law 1279 = .ok (.ireturn, 1) := by decide +kernel
theorem d_L_law_1280 : decode cL_law 1280 = .ok (.goto 1119, 3) := by decide +kernel
theorem d_L_law_1283 : decode cL_law 1283 = .ok (.aload_n 1, 1) := by decide +kernel
theorem d_L_law_1284 : decode cL_law 1284 = .ok (.aload_n 0, 1) := by decide +kernel
theorem d_L_law_1285 : decode cL_law 1285 = .ok (.iload 5, 2) := by decide +kernel
theorem d_L_law_1287 : decode cL_law 1287 = .ok (.iconst 1, 1) := by decide +kernel
theorem d_L_law_1288 : decode cL_law 1288 = .ok (.iadd, 1) := by decide +kernel
theorem d_L_law_1289 : decode cL_law 1289 = .ok (.iaload, 1) := by decide +kernel
theorem d_L_law_1290 : decode cL_law 1290 = .ok (.aload_n 3, 1) := by decide +kernel
theorem d_L_law_1291 : decode cL_law 1291 = .ok (.invokestatic 204, 3) := by decide +kernel
theorem d_L_law_1294 : decode cL_law 1294 = .ok (.istore 6, 2) := by decide +kernel
theorem d_L_law_1296 : decode cL_law 1296 = .ok (.aload_n 2, 1) := by decide +kernel
theorem d_L_law_1297 : decode cL_law 1297 = .ok (.aload_n 0, 1) := by decide +kernel
theorem d_L_law_1298 : decode cL_law 1298 = .ok (.iload 5, 2) := by decide +kernel
theorem d_L_law_1300 : decode cL_law 1300 = .ok (.iconst 1, 1) := by decide +kernel
theorem d_L_law_1301 : decode cL_law 1301 = .ok (.iadd, 1) := by decide +kernel
theorem d_L_law_1302 : decode cL_law 1302 = .ok (.iaload, 1) := by decide +kernel
theorem d_L_law_1303 : decode cL_law 1303 = .ok (.invokevirtual 206, 3) := by decide +kernel
theorem d_L_law_1306 : decode cL_law 1306 = .ok (.istore 7, 2) := by decide +kernel
theorem d_L_law_1308 : decode cL_law 1308 = .ok (.aload_n 2, 1) := by decide +kernel
theorem d_L_law_1309 : decode cL_law 1309 = .ok (.invokevirtual 145, 3) := by decide +kernel
theorem d_L_law_1312 : decode cL_law 1312 = .ok (.iload 6, 2) := by decide +kernel
theorem d_L_law_1314 : decode cL_law 1314 = .ok (.if_icmp .eq 5, 3) := by decide +kernel
theorem d_L_law_1317 : decode cL_law 1317 = .ok (.iconst 0, 1) := by decide +kernel
theorem d_L_law_1318 : decode cL_law 1318 = .ok (.ireturn, 1) := by decide +kernel
theorem d_L_law_1319 : decode cL_law 1319 = .ok (.iload 6, 2) := by decide +kernel
theorem d_L_law_1321 : decode cL_law 1321 = .ok (.ifCond .ne 15, 3) := by decide +kernel
theorem d_L_law_1324 : decode cL_law 1324 = .ok (.aload_n 3, 1) := by decide +kernel
theorem d_L_law_1325 : decode cL_law 1325 = .ok (.iconst 0, 1) := by decide +kernel
theorem d_L_law_1326 : decode cL_law 1326 = .ok (.laload, 1) := by decide +kernel
theorem d_L_law_1327 : decode cL_law 1327 = .ok (.iload 7, 2) := by decide +kernel
theorem d_L_law_1329 : decode cL_law 1329 = .ok (.i2l, 1) := by decide +kernel
theorem d_L_law_1330 : decode cL_law 1330 = .ok (.lcmp, 1) := by decide +kernel
theorem d_L_law_1331 : decode cL_law 1331 = .ok (.ifCond .eq 5, 3) := by decide +kernel
theorem d_L_law_1334 : decode cL_law 1334 = .ok (.iconst 0, 1) := by decide +kernel
theorem d_L_law_1335 : decode cL_law 1335 = .ok (.ireturn, 1) := by decide +kernel
theorem d_L_law_1336 : decode cL_law 1336 = .ok (.goto 1063, 3) := by decide +kernel
theorem d_L_law_1339 : decode cL_law 1339 = .ok (.aload_n 1, 1) := by decide +kernel
theorem d_L_law_1340 : decode cL_law 1340 = .ok (.aload_n 0, 1) := by decide +kernel
theorem d_L_law_1341 : decode cL_law 1341 = .ok (.iload 5, 2) := by decide +kernel
theorem d_L_law_1343 : decode cL_law 1343 = .ok (.iconst 1, 1) := by decide +kernel
theorem d_L_law_1344 : decode cL_law 1344 = .ok (.iadd, 1) := by decide +kernel
theorem d_L_law_1345 : decode cL_law 1345 = .ok (.iaload, 1) := by decide +kernel
theorem d_L_law_1346 : decode cL_law 1346 = .ok (.aload_n 3, 1) := by decide +kernel
theorem d_L_law_1347 : decode cL_law 1347 = .ok (.invokestatic 207, 3) := by decide +kernel
theorem d_L_law_1350 : decode cL_law 1350 = .ok (.istore 6, 2) := by decide +kernel
theorem d_L_law_1352 : decode cL_law 1352 = .ok (.aload_n 2, 1) := by decide +kernel
theorem d_L_law_1353 : decode cL_law 1353 = .ok (.aload_n 0, 1) := by decide +kernel
theorem d_L_law_1354 : decode cL_law 1354 = .ok (.iload 5, 2) := by decide +kernel
theorem d_L_law_1356 : decode cL_law 1356 = .ok (.iconst 1, 1) := by decide +kernel
theorem d_L_law_1357 : decode cL_law 1357 = .ok (.iadd, 1) := by decide +kernel
theorem d_L_law_1358 : decode cL_law 1358 = .ok (.iaload, 1) := by decide +kernel
theorem d_L_law_1359 : decode cL_law 1359 = .ok (.invokevirtual 209, 3) := by decide +kernel
theorem d_L_law_1362 : decode cL_law 1362 = .ok (.istore 7, 2) := by decide +kernel
theorem d_L_law_1364 : decode cL_law 1364 = .ok (.aload_n 2, 1) := by decide +kernel
theorem d_L_law_1365 : decode cL_law 1365 = .ok (.invokevirtual 145, 3) := by decide +kernel
theorem d_L_law_1368 : decode cL_law 1368 = .ok (.iload 6, 2) := by decide +kernel
theorem d_L_law_1370 : decode cL_law 1370 = .ok (.if_icmp .eq 5, 3) := by decide +kernel
theorem d_L_law_1373 : decode cL_law 1373 = .ok (.iconst 0, 1) := by decide +kernel
theorem d_L_law_1374 : decode cL_law 1374 = .ok (.ireturn, 1) := by decide +kernel
theorem d_L_law_1375 : decode cL_law 1375 = .ok (.iload 6, 2) := by decide +kernel
theorem d_L_law_1377 : decode cL_law 1377 = .ok (.ifCond .ne 15, 3) := by decide +kernel
theorem d_L_law_1380 : decode cL_law 1380 = .ok (.aload_n 3, 1) := by decide +kernel
theorem d_L_law_1381 : decode cL_law 1381 = .ok (.iconst 0, 1) := by decide +kernel
theorem d_L_law_1382 : decode cL_law 1382 = .ok (.laload, 1) := by decide +kernel
theorem d_L_law_1383 : decode cL_law 1383 = .ok (.iload 7, 2) := by decide +kernel
theorem d_L_law_1385 : decode cL_law 1385 = .ok (.i2l, 1) := by decide +kernel
theorem d_L_law_1386 : decode cL_law 1386 = .ok (.lcmp, 1) := by decide +kernel
theorem d_L_law_1387 : decode cL_law 1387 = .ok (.ifCond .eq 5, 3) := by decide +kernel
theorem d_L_law_1390 : decode cL_law 1390 = .ok (.iconst 0, 1) := by decide +kernel
theorem d_L_law_1391 : decode cL_law 1391 = .ok (.ireturn, 1) := by decide +kernel
theorem d_L_law_1392 : decode cL_law 1392 = .ok (.goto 1007, 3) := by decide +kernel
theorem d_L_law_1395 : decode cL_law 1395 = .ok (.aload_n 1, 1) := by decide +kernel
theorem d_L_law_1396 : decode cL_law 1396 = .ok (.aload_n 0, 1) := by decide +kernel
theorem d_L_law_1397 : decode cL_law 1397 = .ok (.iload 5, 2) := by decide +kernel
theorem d_L_law_1399 : decode cL_law 1399 = .ok (.iconst 1, 1) := by decide +kernel
theorem d_L_law_1400 : decode cL_law 1400 = .ok (.iadd, 1) := by decide +kernel
theorem d_L_law_1401 : decode cL_law 1401 = .ok (.iaload, 1) := by decide +kernel
theorem d_L_law_1402 : decode cL_law 1402 = .ok (.aload_n 0, 1) := by decide +kernel
theorem d_L_law_1403 : decode cL_law 1403 = .ok (.iload 5, 2) := by decide +kernel
theorem d_L_law_1405 : decode cL_law 1405 = .ok (.iconst 2, 1) := by decide +kernel
theorem d_L_law_1406 : decode cL_law 1406 = .ok (.iadd, 1) := by decide +kernel
theorem d_L_law_1407 : decode cL_law 1407 = .ok (.iaload, 1) := by decide +kernel
theorem d_L_law_1408 : decode cL_law 1408 = .ok (.aload_n 3, 1) := by decide +kernel
theorem d_L_law_1409 : decode cL_law 1409 = .ok (.invokestatic 210, 3) := by decide +kernel
theorem d_L_law_1412 : decode cL_law 1412 = .ok (.istore 6, 2) := by decide +kernel
theorem d_L_law_1414 : decode cL_law 1414 = .ok (.aload_n 2, 1) := by decide +kernel
theorem d_L_law_1415 : decode cL_law 1415 = .ok (.aload_n 0, 1) := by decide +kernel
theorem d_L_law_1416 : decode cL_law 1416 = .ok (.iload 5, 2) := by decide +kernel
theorem d_L_law_1418 : decode cL_law 1418 = .ok (.iconst 1, 1) := by decide +kernel
theorem d_L_law_1419 : decode cL_law 1419 = .ok (.iadd, 1) := by decide +kernel
theorem d_L_law_1420 : decode cL_law 1420 = .ok (.iaload, 1) := by decide +kernel
theorem d_L_law_1421 : decode cL_law 1421 = .ok (.aload_n 0, 1) := by decide +kernel
theorem d_L_law_1422 : decode cL_law 1422 = .ok (.iload 5, 2) := by decide +kernel
theorem d_L_law_1424 : decode cL_law 1424 = .ok (.iconst 2, 1) := by decide +kernel
theorem d_L_law_1425 : decode cL_law 1425 = .ok (.iadd, 1) := by decide +kernel
theorem d_L_law_1426 : decode cL_law 1426 = .ok (.iaload, 1) := by decide +kernel
theorem d_L_law_1427 : decode cL_law 1427 = .ok (.invokevirtual 212, 3) := by decide +kernel
theorem d_L_law_1430 : decode cL_law 1430 = .ok (.istore 7, 2) := by decide +kernel
theorem d_L_law_1432 : decode cL_law 1432 = .ok (.aload_n 2, 1) := by decide +kernel
theorem d_L_law_1433 : decode cL_law 1433 = .ok (.invokevirtual 145, 3) := by decide +kernel
theorem d_L_law_1436 : decode cL_law 1436 = .ok (.iload 6, 2) := by decide +kernel
theorem d_L_law_1438 : decode cL_law 1438 = .ok (.if_icmp .eq 5, 3) := by decide +kernel
theorem d_L_law_1441 : decode cL_law 1441 = .ok (.iconst 0, 1) := by decide +kernel
theorem d_L_law_1442 : decode cL_law 1442 = .ok (.ireturn, 1) := by decide +kernel
theorem d_L_law_1443 : decode cL_law 1443 = .ok (.iload 6, 2) := by decide +kernel
theorem d_L_law_1445 : decode cL_law 1445 = .ok (.ifCond .ne 15, 3) := by decide +kernel
theorem d_L_law_1448 : decode cL_law 1448 = .ok (.aload_n 3, 1) := by decide +kernel
theorem d_L_law_1449 : decode cL_law 1449 = .ok (.iconst 0, 1) := by decide +kernel
theorem d_L_law_1450 : decode cL_law 1450 = .ok (.laload, 1) := by decide +kernel
theorem d_L_law_1451 : decode cL_law 1451 = .ok (.iload 7, 2) := by decide +kernel
theorem d_L_law_1453 : decode cL_law 1453 = .ok (.i2l, 1) := by decide +kernel
theorem d_L_law_1454 : decode cL_law 1454 = .ok (.lcmp, 1) := by decide +kernel
theorem d_L_law_1455 : decode cL_law 1455 = .ok (.ifCond .eq 5, 3) := by decide +kernel
theorem d_L_law_1458 : decode cL_law 1458 = .ok (.iconst 0, 1) := by decide +kernel
theorem d_L_law_1459 : decode cL_law 1459 = .ok (.ireturn, 1) := by decide +kernel
theorem d_L_law_1460 : decode cL_law 1460 = .ok (.goto 939, 3) := by decide +kernel
theorem d_L_law_1463 : decode cL_law 1463 = .ok (.aload_n 1, 1) := by decide +kernel
theorem d_L_law_1464 : decode cL_law 1464 = .ok (.aload_n 0, 1) := by decide +kernel
theorem d_L_law_1465 : decode cL_law 1465 = .ok (.iload 5, 2) := by decide +kernel
theorem d_L_law_1467 : decode cL_law 1467 = .ok (.iconst 1, 1) := by decide +kernel
theorem d_L_law_1468 : decode cL_law 1468 = .ok (.iadd, 1) := by decide +kernel
theorem d_L_law_1469 : decode cL_law 1469 = .ok (.iaload, 1) := by decide +kernel
theorem d_L_law_1470 : decode cL_law 1470 = .ok (.aload_n 0, 1) := by decide +kernel
theorem d_L_law_1471 : decode cL_law 1471 = .ok (.iload 5, 2) := by decide +kernel
theorem d_L_law_1473 : decode cL_law 1473 = .ok (.iconst 2, 1) := by decide +kernel
theorem d_L_law_1474 : decode cL_law 1474 = .ok (.iadd, 1) := by decide +kernel
theorem d_L_law_1475 : decode cL_law 1475 = .ok (.iaload, 1) := by decide +kernel
theorem d_L_law_1476 : decode cL_law 1476 = .ok (.aload_n 3, 1) := by decide +kernel
theorem d_L_law_1477 : decode cL_law 1477 = .ok (.invokestatic 213, 3) := by decide +kernel
theorem d_L_law_1480 : decode cL_law 1480 = .ok (.istore 6, 2) := by decide +kernel
theorem d_L_law_1482 : decode cL_law 1482 = .ok (.aload_n 2, 1) := by decide +kernel
theorem d_L_law_1483 : decode cL_law 1483 = .ok (.aload_n 0, 1) := by decide +kernel
theorem d_L_law_1484 : decode cL_law 1484 = .ok (.iload 5, 2) := by decide +kernel
theorem d_L_law_1486 : decode cL_law 1486 = .ok (.iconst 1, 1) := by decide +kernel
theorem d_L_law_1487 : decode cL_law 1487 = .ok (.iadd, 1) := by decide +kernel
theorem d_L_law_1488 : decode cL_law 1488 = .ok (.iaload, 1) := by decide +kernel
theorem d_L_law_1489 : decode cL_law 1489 = .ok (.aload_n 0, 1) := by decide +kernel
theorem d_L_law_1490 : decode cL_law 1490 = .ok (.iload 5, 2) := by decide +kernel
theorem d_L_law_1492 : decode cL_law 1492 = .ok (.iconst 2, 1) := by decide +kernel
theorem d_L_law_1493 : decode cL_law 1493 = .ok (.iadd, 1) := by decide +kernel
theorem d_L_law_1494 : decode cL_law 1494 = .ok (.iaload, 1) := by decide +kernel
theorem d_L_law_1495 : decode cL_law 1495 = .ok (.invokevirtual 215, 3) := by decide +kernel
theorem d_L_law_1498 : decode cL_law 1498 = .ok (.istore 7, 2) := by decide +kernel
theorem d_L_law_1500 : decode cL_law 1500 = .ok (.aload_n 2, 1) := by decide +kernel
theorem d_L_law_1501 : decode cL_law 1501 = .ok (.invokevirtual 145, 3) := by decide +kernel
theorem d_L_law_1504 : decode cL_law 1504 = .ok (.iload 6, 2) := by decide +kernel
theorem d_L_law_1506 : decode cL_law 1506 = .ok (.if_icmp .eq 5, 3) := by decide +kernel
theorem d_L_law_1509 : decode cL_law 1509 = .ok (.iconst 0, 1) := by decide +kernel
theorem d_L_law_1510 : decode cL_law 1510 = .ok (.ireturn, 1) := by decide +kernel
theorem d_L_law_1511 : decode cL_law 1511 = .ok (.iload 6, 2) := by decide +kernel
theorem d_L_law_1513 : decode cL_law 1513 = .ok (.ifCond .ne 15, 3) := by decide +kernel
theorem d_L_law_1516 : decode cL_law 1516 = .ok (.aload_n 3, 1) := by decide +kernel
theorem d_L_law_1517 : decode cL_law 1517 = .ok (.iconst 0, 1) := by decide +kernel
theorem d_L_law_1518 : decode cL_law 1518 = .ok (.laload, 1) := by decide +kernel
theorem d_L_law_1519 : decode cL_law 1519 = .ok (.iload 7, 2) := by decide +kernel
theorem d_L_law_1521 : decode cL_law 1521 = .ok (.i2l, 1) := by decide +kernel
theorem d_L_law_1522 : decode cL_law 1522 = .ok (.lcmp, 1) := by decide +kernel
theorem d_L_law_1523 : decode cL_law 1523 = .ok (.ifCond .eq 5, 3) := by decide +kernel
theorem d_L_law_1526 : decode cL_law 1526 = .ok (.iconst 0, 1) := by decide +kernel
theorem d_L_law_1527 : decode cL_law 1527 = .ok (.ireturn, 1) := by decide +kernel
theorem d_L_law_1528 : decode cL_law 1528 = .ok (.goto 871, 3) := by decide +kernel
theorem d_L_law_1531 : decode cL_law 1531 = .ok (.aload_n 1, 1) := by decide +kernel
theorem d_L_law_1532 : decode cL_law 1532 = .ok (.aload_n 0, 1) := by decide +kernel
theorem d_L_law_1533 : decode cL_law 1533 = .ok (.iload 5, 2) := by decide +kernel
theorem d_L_law_1535 : decode cL_law 1535 = .ok (.iconst 1, 1) := by decide +kernel
theorem d_L_law_1536 : decode cL_law 1536 = .ok (.iadd, 1) := by decide +kernel
theorem d_L_law_1537 : decode cL_law 1537 = .ok (.iaload, 1) := by decide +kernel
theorem d_L_law_1538 : decode cL_law 1538 = .ok (.aload_n 0, 1) := by decide +kernel
theorem d_L_law_1539 : decode cL_law 1539 = .ok (.iload 5, 2) := by decide +kernel
theorem d_L_law_1541 : decode cL_law 1541 = .ok (.iconst 2, 1) := by decide +kernel
theorem d_L_law_1542 : decode cL_law 1542 = .ok (.iadd, 1) := by decide +kernel
theorem d_L_law_1543 : decode cL_law 1543 = .ok (.iaload, 1) := by decide +kernel
theorem d_L_law_1544 : decode cL_law 1544 = .ok (.aload_n 3, 1) := by decide +kernel
theorem d_L_law_1545 : decode cL_law 1545 = .ok (.invokestatic 216, 3) := by decide +kernel
theorem d_L_law_1548 : decode cL_law 1548 = .ok (.istore 6, 2) := by decide +kernel
theorem d_L_law_1550 : decode cL_law 1550 = .ok (.aload_n 2, 1) := by decide +kernel
theorem d_L_law_1551 : decode cL_law 1551 = .ok (.aload_n 0, 1) := by decide +kernel
theorem d_L_law_1552 : decode cL_law 1552 = .ok (.iload 5, 2) := by decide +kernel
theorem d_L_law_1554 : decode cL_law 1554 = .ok (.iconst 1, 1) := by decide +kernel
theorem d_L_law_1555 : decode cL_law 1555 = .ok (.iadd, 1) := by decide +kernel
theorem d_L_law_1556 : decode cL_law 1556 = .ok (.iaload, 1) := by decide +kernel
theorem d_L_law_1557 : decode cL_law 1557 = .ok (.aload_n 0, 1) := by decide +kernel
theorem d_L_law_1558 : decode cL_law 1558 = .ok (.iload 5, 2) := by decide +kernel
theorem d_L_law_1560 : decode cL_law 1560 = .ok (.iconst 2, 1) := by decide +kernel
theorem d_L_law_1561 : decode cL_law 1561 = .ok (.iadd, 1) := by decide +kernel
theorem d_L_law_1562 : decode cL_law 1562 = .ok (.iaload, 1) := by decide +kernel
theorem d_L_law_1563 : decode cL_law 1563 = .ok (.invokevirtual 218, 3) := by decide +kernel
theorem d_L_law_1566 : decode cL_law 1566 = .ok (.istore 7, 2) := by decide +kernel
theorem d_L_law_1568 : decode cL_law 1568 = .ok (.aload_n 2, 1) := by decide +kernel
theorem d_L_law_1569 : decode cL_law 1569 = .ok (.invokevirtual 145, 3) := by decide +kernel
theorem d_L_law_1572 : decode cL_law 1572 = .ok (.iload 6, 2) := by decide +kernel
theorem d_L_law_1574 : decode cL_law 1574 = .ok (.if_icmp .eq 5, 3) := by decide +kernel
theorem d_L_law_1577 : decode cL_law 1577 = .ok (.iconst 0, 1) := by decide +kernel
theorem d_L_law_1578 : decode cL_law 1578 = .ok (.ireturn, 1) := by decide +kernel
theorem d_L_law_1579 : decode cL_law 1579 = .ok (.iload 6, 2) := by decide +kernel
theorem d_L_law_1581 : decode cL_law 1581 = .ok (.ifCond .ne 15, 3) := by decide +kernel
theorem d_L_law_1584 : decode cL_law 1584 = .ok (.aload_n 3, 1) := by decide +kernel
theorem d_L_law_1585 : decode cL_law 1585 = .ok (.iconst 0, 1) := by decide +kernel
theorem d_L_law_1586 : decode cL_law 1586 = .ok (.laload, 1) := by decide +kernel
theorem d_L_law_1587 : decode cL_law 1587 = .ok (.iload 7, 2) := by decide +kernel
theorem d_L_law_1589 : decode cL_law 1589 = .ok (.i2l, 1) := by decide +kernel
theorem d_L_law_1590 : decode cL_law 1590 = .ok (.lcmp, 1) := by decide +kernel
theorem d_L_law_1591 : decode cL_law 1591 = .ok (.ifCond .eq 5, 3) := by decide +kernel
theorem d_L_law_1594 : decode cL_law 1594 = .ok (.iconst 0, 1) := by decide +kernel
theorem d_L_law_1595 : decode cL_law 1595 = .ok (.ireturn, 1) := by decide +kernel
theorem d_L_law_1596 : decode cL_law 1596 = .ok (.goto 803, 3) := by decide +kernel
theorem d_L_law_1599 : decode cL_law 1599 = .ok (.aload_n 1, 1) := by decide +kernel
theorem d_L_law_1600 : decode cL_law 1600 = .ok (.aload_n 0, 1) := by decide +kernel
theorem d_L_law_1601 : decode cL_law 1601 = .ok (.iload 5, 2) := by decide +kernel
theorem d_L_law_1603 : decode cL_law 1603 = .ok (.iconst 1, 1) := by decide +kernel
theorem d_L_law_1604 : decode cL_law 1604 = .ok (.iadd, 1) := by decide +kernel
theorem d_L_law_1605 : decode cL_law 1605 = .ok (.iaload, 1) := by decide +kernel
theorem d_L_law_1606 : decode cL_law 1606 = .ok (.aload_n 0, 1) := by decide +kernel
theorem d_L_law_1607 : decode cL_law 1607 = .ok (.iload 5, 2) := by decide +kernel
theorem d_L_law_1609 : decode cL_law 1609 = .ok (.iconst 2, 1) := by decide +kernel
theorem d_L_law_1610 : decode cL_law 1610 = .ok (.iadd, 1) := by decide +kernel
theorem d_L_law_1611 : decode cL_law 1611 = .ok (.iaload, 1) := by decide +kernel
theorem d_L_law_1612 : decode cL_law 1612 = .ok (.aload_n 3, 1) := by decide +kernel
theorem d_L_law_1613 : decode cL_law 1613 = .ok (.invokestatic 219, 3) := by decide +kernel
theorem d_L_law_1616 : decode cL_law 1616 = .ok (.istore 6, 2) := by decide +kernel
theorem d_L_law_1618 : decode cL_law 1618 = .ok (.aload_n 2, 1) := by decide +kernel
theorem d_L_law_1619 : decode cL_law 1619 = .ok (.aload_n 0, 1) := by decide +kernel
theorem d_L_law_1620 : decode cL_law 1620 = .ok (.iload 5, 2) := by decide +kernel
theorem d_L_law_1622 : decode cL_law 1622 = .ok (.iconst 1, 1) := by decide +kernel
theorem d_L_law_1623 : decode cL_law 1623 = .ok (.iadd, 1) := by decide +kernel
theorem d_L_law_1624 : decode cL_law 1624 = .ok (.iaload, 1) := by decide +kernel
theorem d_L_law_1625 : decode cL_law 1625 = .ok (.aload_n 0, 1) := by decide +kernel
theorem d_L_law_1626 : decode cL_law 1626 = .ok (.iload 5, 2) := by decide +kernel
theorem d_L_law_1628 : decode cL_law 1628 = .ok (.iconst 2, 1) := by decide +kernel
theorem d_L_law_1629 : decode cL_law 1629 = .ok (.iadd, 1) := by decide +kernel
theorem d_L_law_1630 : decode cL_law 1630 = .ok (.iaload, 1) := by decide +kernel
theorem d_L_law_1631 : decode cL_law 1631 = .ok (.invokevirtual 221, 3) := by decide +kernel
theorem d_L_law_1634 : decode cL_law 1634 = .ok (.istore 7, 2) := by decide +kernel
theorem d_L_law_1636 : decode cL_law 1636 = .ok (.aload_n 2, 1) := by decide +kernel
theorem d_L_law_1637 : decode cL_law 1637 = .ok (.invokevirtual 145, 3) := by decide +kernel
theorem d_L_law_1640 : decode cL_law 1640 = .ok (.iload 6, 2) := by decide +kernel
theorem d_L_law_1642 : decode cL_law 1642 = .ok (.if_icmp .eq 5, 3) := by decide +kernel
theorem d_L_law_1645 : decode cL_law 1645 = .ok (.iconst 0, 1) := by decide +kernel
theorem d_L_law_1646 : decode cL_law 1646 = .ok (.ireturn, 1) := by decide +kernel
theorem d_L_law_1647 : decode cL_law 1647 = .ok (.iload 6, 2) := by decide +kernel
theorem d_L_law_1649 : decode cL_law 1649 = .ok (.ifCond .ne 15, 3) := by decide +kernel
theorem d_L_law_1652 : decode cL_law 1652 = .ok (.aload_n 3, 1) := by decide +kernel
theorem d_L_law_1653 : decode cL_law 1653 = .ok (.iconst 0, 1) := by decide +kernel
theorem d_L_law_1654 : decode cL_law 1654 = .ok (.laload, 1) := by decide +kernel
theorem d_L_law_1655 : decode cL_law 1655 = .ok (.iload 7, 2) := by decide +kernel
theorem d_L_law_1657 : decode cL_law 1657 = .ok (.i2l, 1) := by decide +kernel
theorem d_L_law_1658 : decode cL_law 1658 = .ok (.lcmp, 1) := by decide +kernel
theorem d_L_law_1659 : decode cL_law 1659 = .ok (.ifCond .eq 5, 3) := by decide +kernel
theorem d_L_law_1662 : decode cL_law 1662 = .ok (.iconst 0, 1) := by decide +kernel
theorem d_L_law_1663 : decode cL_law 1663 = .ok (.ireturn, 1) := by decide +kernel
theorem d_L_law_1664 : decode cL_law 1664 = .ok (.goto 735, 3) := by decide +kernel
theorem d_L_law_1667 : decode cL_law 1667 = .ok (.aload_n 1, 1) := by decide +kernel
theorem d_L_law_1668 : decode cL_law 1668 = .ok (.aload_n 0, 1) := by decide +kernel
theorem d_L_law_1669 : decode cL_law 1669 = .ok (.iload 5, 2) := by decide +kernel
theorem d_L_law_1671 : decode cL_law 1671 = .ok (.iconst 1, 1) := by decide +kernel
theorem d_L_law_1672 : decode cL_law 1672 = .ok (.iadd, 1) := by decide +kernel
theorem d_L_law_1673 : decode cL_law 1673 = .ok (.iaload, 1) := by decide +kernel
theorem d_L_law_1674 : decode cL_law 1674 = .ok (.aload_n 0, 1) := by decide +kernel
theorem d_L_law_1675 : decode cL_law 1675 = .ok (.iload 5, 2) := by decide +kernel
theorem d_L_law_1677 : decode cL_law 1677 = .ok (.iconst 2, 1) := by decide +kernel
theorem d_L_law_1678 : decode cL_law 1678 = .ok (.iadd, 1) := by decide +kernel
theorem d_L_law_1679 : decode cL_law 1679 = .ok (.iaload, 1) := by decide +kernel
theorem d_L_law_1680 : decode cL_law 1680 = .ok (.aload_n 3, 1) := by decide +kernel
theorem d_L_law_1681 : decode cL_law 1681 = .ok (.invokestatic 222, 3) := by decide +kernel
theorem d_L_law_1684 : decode cL_law 1684 = .ok (.istore 6, 2) := by decide +kernel
theorem d_L_law_1686 : decode cL_law 1686 = .ok (.aload_n 2, 1) := by decide +kernel
theorem d_L_law_1687 : decode cL_law 1687 = .ok (.aload_n 0, 1) := by decide +kernel
theorem d_L_law_1688 : decode cL_law 1688 = .ok (.iload 5, 2) := by decide +kernel
theorem d_L_law_1690 : decode cL_law 1690 = .ok (.iconst 1, 1) := by decide +kernel
theorem d_L_law_1691 : decode cL_law 1691 = .ok (.iadd, 1) := by decide +kernel
theorem d_L_law_1692 : decode cL_law 1692 = .ok (.iaload, 1) := by decide +kernel
theorem d_L_law_1693 : decode cL_law 1693 = .ok (.aload_n 0, 1) := by decide +kernel
theorem d_L_law_1694 : decode cL_law 1694 = .ok (.iload 5, 2) := by decide +kernel
theorem d_L_law_1696 : decode cL_law 1696 = .ok (.iconst 2, 1) := by decide +kernel
theorem d_L_law_1697 : decode cL_law 1697 = .ok (.iadd, 1) := by decide +kernel
theorem d_L_law_1698 : decode cL_law 1698 = .ok (.iaload, 1) := by decide +kernel
theorem d_L_law_1699 : decode cL_law 1699 = .ok (.invokevirtual 224, 3) := by decide +kernel
theorem d_L_law_1702 : decode cL_law 1702 = .ok (.istore 7, 2) := by decide +kernel
theorem d_L_law_1704 : decode cL_law 1704 = .ok (.aload_n 2, 1) := by decide +kernel
theorem d_L_law_1705 : decode cL_law 1705 = .ok (.invokevirtual 145, 3) := by decide +kernel
theorem d_L_law_1708 : decode cL_law 1708 = .ok (.iload 6, 2) := by decide +kernel
theorem d_L_law_1710 : decode cL_law 1710 = .ok (.if_icmp .eq 5, 3) := by decide +kernel
theorem d_L_law_1713 : decode cL_law 1713 = .ok (.iconst 0, 1) := by decide +kernel
theorem d_L_law_1714 : decode cL_law 1714 = .ok (.ireturn, 1) := by decide +kernel
theorem d_L_law_1715 : decode cL_law 1715 = .ok (.iload 6, 2) := by decide +kernel
theorem d_L_law_1717 : decode cL_law 1717 = .ok (.ifCond .ne 15, 3) := by decide +kernel
theorem d_L_law_1720 : decode cL_law 1720 = .ok (.aload_n 3, 1) := by decide +kernel
theorem d_L_law_1721 : decode cL_law 1721 = .ok (.iconst 0, 1) := by decide +kernel
theorem d_L_law_1722 : decode cL_law 1722 = .ok (.laload, 1) := by decide +kernel
theorem d_L_law_1723 : decode cL_law 1723 = .ok (.iload 7, 2) := by decide +kernel
theorem d_L_law_1725 : decode cL_law 1725 = .ok (.i2l, 1) := by decide +kernel
theorem d_L_law_1726 : decode cL_law 1726 = .ok (.lcmp, 1) := by decide +kernel
theorem d_L_law_1727 : decode cL_law 1727 = .ok (.ifCond .eq 5, 3) := by decide +kernel
theorem d_L_law_1730 : decode cL_law 1730 = .ok (.iconst 0, 1) := by decide +kernel
theorem d_L_law_1731 : decode cL_law 1731 = .ok (.ireturn, 1) := by decide +kernel
theorem d_L_law_1732 : decode cL_law 1732 = .ok (.goto 667, 3) := by decide +kernel
theorem d_L_law_1735 : decode cL_law 1735 = .ok (.aload_n 1, 1) := by decide +kernel
theorem d_L_law_1736 : decode cL_law 1736 = .ok (.aload_n 0, 1) := by decide +kernel
theorem d_L_law_1737 : decode cL_law 1737 = .ok (.iload 5, 2) := by decide +kernel
theorem d_L_law_1739 : decode cL_law 1739 = .ok (.iconst 1, 1) := by decide +kernel
theorem d_L_law_1740 : decode cL_law 1740 = .ok (.iadd, 1) := by decide +kernel
theorem d_L_law_1741 : decode cL_law 1741 = .ok (.iaload, 1) := by decide +kernel
theorem d_L_law_1742 : decode cL_law 1742 = .ok (.aload_n 0, 1) := by decide +kernel
theorem d_L_law_1743 : decode cL_law 1743 = .ok (.iload 5, 2) := by decide +kernel
theorem d_L_law_1745 : decode cL_law 1745 = .ok (.iconst 2, 1) := by decide +kernel
theorem d_L_law_1746 : decode cL_law 1746 = .ok (.iadd, 1) := by decide +kernel
theorem d_L_law_1747 : decode cL_law 1747 = .ok (.iaload, 1) := by decide +kernel
theorem d_L_law_1748 : decode cL_law 1748 = .ok (.aload_n 3, 1) := by decide +kernel
theorem d_L_law_1749 : decode cL_law 1749 = .ok (.invokestatic 225, 3) := by decide +kernel
theorem d_L_law_1752 : decode cL_law 1752 = .ok (.istore 6, 2) := by decide +kernel
theorem d_L_law_1754 : decode cL_law 1754 = .ok (.aload_n 2, 1) := by decide +kernel
theorem d_L_law_1755 : decode cL_law 1755 = .ok (.aload_n 0, 1) := by decide +kernel
theorem d_L_law_1756 : decode cL_law 1756 = .ok (.iload 5, 2) := by decide +kernel
theorem d_L_law_1758 : decode cL_law 1758 = .ok (.iconst 1, 1) := by decide +kernel
theorem d_L_law_1759 : decode cL_law 1759 = .ok (.iadd, 1) := by decide +kernel
theorem d_L_law_1760 : decode cL_law 1760 = .ok (.iaload, 1) := by decide +kernel
theorem d_L_law_1761 : decode cL_law 1761 = .ok (.aload_n 0, 1) := by decide +kernel
theorem d_L_law_1762 : decode cL_law 1762 = .ok (.iload 5, 2) := by decide +kernel
theorem d_L_law_1764 : decode cL_law 1764 = .ok (.iconst 2, 1) := by decide +kernel
theorem d_L_law_1765 : decode cL_law 1765 = .ok (.iadd, 1) := by decide +kernel
theorem d_L_law_1766 : decode cL_law 1766 = .ok (.iaload, 1) := by decide +kernel
theorem d_L_law_1767 : decode cL_law 1767 = .ok (.invokevirtual 227, 3) := by decide +kernel
theorem d_L_law_1770 : decode cL_law 1770 = .ok (.istore 7, 2) := by decide +kernel
theorem d_L_law_1772 : decode cL_law 1772 = .ok (.aload_n 2, 1) := by decide +kernel
theorem d_L_law_1773 : decode cL_law 1773 = .ok (.invokevirtual 145, 3) := by decide +kernel
theorem d_L_law_1776 : decode cL_law 1776 = .ok (.iload 6, 2) := by decide +kernel
theorem d_L_law_1778 : decode cL_law 1778 = .ok (.if_icmp .eq 5, 3) := by decide +kernel
theorem d_L_law_1781 : decode cL_law 1781 = .ok (.iconst 0, 1) := by decide +kernel
theorem d_L_law_1782 : decode cL_law 1782 = .ok (.ireturn, 1) := by decide +kernel
theorem d_L_law_1783 : decode cL_law 1783 = .ok (.iload 6, 2) := by decide +kernel
theorem d_L_law_1785 : decode cL_law 1785 = .ok (.ifCond .ne 15, 3) := by decide +kernel
theorem d_L_law_1788 : decode cL_law 1788 = .ok (.aload_n 3, 1) := by decide +kernel
theorem d_L_law_1789 : decode cL_law 1789 = .ok (.iconst 0, 1) := by decide +kernel
theorem d_L_law_1790 : decode cL_law 1790 = .ok (.laload, 1) := by decide +kernel
theorem d_L_law_1791 : decode cL_law 1791 = .ok (.iload 7, 2) := by decide +kernel
theorem d_L_law_1793 : decode cL_law 1793 = .ok (.i2l, 1) := by decide +kernel
theorem d_L_law_1794 : decode cL_law 1794 = .ok (.lcmp, 1) := by decide +kernel
theorem d_L_law_1795 : decode cL_law 1795 = .ok (.ifCond .eq 5, 3) := by decide +kernel
theorem d_L_law_1798 : decode cL_law 1798 = .ok (.iconst 0, 1) := by decide +kernel
theorem d_L_law_1799 : decode cL_law 1799 = .ok (.ireturn, 1) := by decide +kernel
theorem d_L_law_1800 : decode cL_law 1800 = .ok (.goto 599, 3) := by decide +kernel
theorem d_L_law_1803 : decode cL_law 1803 = .ok (.aload_n 1, 1) := by decide +kernel
theorem d_L_law_1804 : decode cL_law 1804 = .ok (.aload_n 0, 1) := by decide +kernel
theorem d_L_law_1805 : decode cL_law 1805 = .ok (.iload 5, 2) := by decide +kernel
theorem d_L_law_1807 : decode cL_law 1807 = .ok (.iconst 1, 1) := by decide +kernel
theorem d_L_law_1808 : decode cL_law 1808 = .ok (.iadd, 1) := by decide +kernel
theorem d_L_law_1809 : decode cL_law 1809 = .ok (.iaload, 1) := by decide +kernel
theorem d_L_law_1810 : decode cL_law 1810 = .ok (.aload_n 0, 1) := by decide +kernel
theorem d_L_law_1811 : decode cL_law 1811 = .ok (.iload 5, 2) := by decide +kernel
theorem d_L_law_1813 : decode cL_law 1813 = .ok (.iconst 2, 1) := by decide +kernel
theorem d_L_law_1814 : decode cL_law 1814 = .ok (.iadd, 1) := by decide +kernel
theorem d_L_law_1815 : decode cL_law 1815 = .ok (.iaload, 1) := by decide +kernel
theorem d_L_law_1816 : decode cL_law 1816 = .ok (.aload_n 3, 1) := by decide +kernel
theorem d_L_law_1817 : decode cL_law 1817 = .ok (.invokestatic 228, 3) := by decide +kernel
theorem d_L_law_1820 : decode cL_law 1820 = .ok (.istore 6, 2) := by decide +kernel
theorem d_L_law_1822 : decode cL_law 1822 = .ok (.aload_n 2, 1) := by decide +kernel
theorem d_L_law_1823 : decode cL_law 1823 = .ok (.aload_n 0, 1) := by decide +kernel
theorem d_L_law_1824 : decode cL_law 1824 = .ok (.iload 5, 2) := by decide +kernel
theorem d_L_law_1826 : decode cL_law 1826 = .ok (.iconst 1, 1) := by decide +kernel
theorem d_L_law_1827 : decode cL_law 1827 = .ok (.iadd, 1) := by decide +kernel
theorem d_L_law_1828 : decode cL_law 1828 = .ok (.iaload, 1) := by decide +kernel
theorem d_L_law_1829 : decode cL_law 1829 = .ok (.aload_n 0, 1) := by decide +kernel
theorem d_L_law_1830 : decode cL_law 1830 = .ok (.iload 5, 2) := by decide +kernel
theorem d_L_law_1832 : decode cL_law 1832 = .ok (.iconst 2, 1) := by decide +kernel
theorem d_L_law_1833 : decode cL_law 1833 = .ok (.iadd, 1) := by decide +kernel
theorem d_L_law_1834 : decode cL_law 1834 = .ok (.iaload, 1) := by decide +kernel
theorem d_L_law_1835 : decode cL_law 1835 = .ok (.invokevirtual 230, 3) := by decide +kernel
theorem d_L_law_1838 : decode cL_law 1838 = .ok (.istore 7, 2) := by decide +kernel
theorem d_L_law_1840 : decode cL_law 1840 = .ok (.aload_n 2, 1) := by decide +kernel
theorem d_L_law_1841 : decode cL_law 1841 = .ok (.invokevirtual 145, 3) := by decide +kernel
theorem d_L_law_1844 : decode cL_law 1844 = .ok (.iload 6, 2) := by decide +kernel
theorem d_L_law_1846 : decode cL_law 1846 = .ok (.if_icmp .eq 5, 3) := by decide +kernel
theorem d_L_law_1849 : decode cL_law 1849 = .ok (.iconst 0, 1) := by decide +kernel
theorem d_L_law_1850 : decode cL_law 1850 = .ok (.ireturn, 1) := by decide +kernel
theorem d_L_law_1851 : decode cL_law 1851 = .ok (.iload 6, 2) := by decide +kernel
theorem d_L_law_1853 : decode cL_law 1853 = .ok (.ifCond .ne 15, 3) := by decide +kernel
theorem d_L_law_1856 : decode cL_law 1856 = .ok (.aload_n 3, 1) := by decide +kernel
theorem d_L_law_1857 : decode cL_law 1857 = .ok (.iconst 0, 1) := by decide +kernel
theorem d_L_law_1858 : decode cL_law 1858 = .ok (.laload, 1) := by decide +kernel
theorem d_L_law_1859 : decode cL_law 1859 = .ok (.iload 7, 2) := by decide +kernel
theorem d_L_law_1861 : decode cL_law 1861 = .ok (.i2l, 1) := by decide +kernel
theorem d_L_law_1862 : decode cL_law 1862 = .ok (.lcmp, 1) := by decide +kernel
theorem d_L_law_1863 : decode cL_law 1863 = .ok (.ifCond .eq 5, 3) := by decide +kernel
theorem d_L_law_1866 : decode cL_law 1866 = .ok (.iconst 0, 1) := by decide +kernel
theorem d_L_law_1867 : decode cL_law 1867 = .ok (.ireturn, 1) := by decide +kernel
theorem d_L_law_1868 : decode cL_law 1868 = .ok (.goto 531, 3) := by decide +kernel
theorem d_L_law_1871 : decode cL_law 1871 = .ok (.aload_n 1, 1) := by decide +kernel
theorem d_L_law_1872 : decode cL_law 1872 = .ok (.aload_n 0, 1) := by decide +kernel
theorem d_L_law_1873 : decode cL_law 1873 = .ok (.iload 5, 2) := by decide +kernel
theorem d_L_law_1875 : decode cL_law 1875 = .ok (.iconst 1, 1) := by decide +kernel
theorem d_L_law_1876 : decode cL_law 1876 = .ok (.iadd, 1) := by decide +kernel
theorem d_L_law_1877 : decode cL_law 1877 = .ok (.iaload, 1) := by decide +kernel
theorem d_L_law_1878 : decode cL_law 1878 = .ok (.aload_n 3, 1) := by decide +kernel
theorem d_L_law_1879 : decode cL_law 1879 = .ok (.invokestatic 231, 3) := by decide +kernel
theorem d_L_law_1882 : decode cL_law 1882 = .ok (.istore 6, 2) := by decide +kernel
theorem d_L_law_1884 : decode cL_law 1884 = .ok (.aload_n 2, 1) := by decide +kernel
theorem d_L_law_1885 : decode cL_law 1885 = .ok (.aload_n 0, 1) := by decide +kernel
theorem d_L_law_1886 : decode cL_law 1886 = .ok (.iload 5, 2) := by decide +kernel
theorem d_L_law_1888 : decode cL_law 1888 = .ok (.iconst 1, 1) := by decide +kernel
theorem d_L_law_1889 : decode cL_law 1889 = .ok (.iadd, 1) := by decide +kernel
theorem d_L_law_1890 : decode cL_law 1890 = .ok (.iaload, 1) := by decide +kernel
theorem d_L_law_1891 : decode cL_law 1891 = .ok (.invokevirtual 233, 3) := by decide +kernel
theorem d_L_law_1894 : decode cL_law 1894 = .ok (.istore 7, 2) := by decide +kernel
theorem d_L_law_1896 : decode cL_law 1896 = .ok (.aload_n 2, 1) := by decide +kernel
theorem d_L_law_1897 : decode cL_law 1897 = .ok (.invokevirtual 145, 3) := by decide +kernel
theorem d_L_law_1900 : decode cL_law 1900 = .ok (.iload 6, 2) := by decide +kernel
theorem d_L_law_1902 : decode cL_law 1902 = .ok (.if_icmp .eq 5, 3) := by decide +kernel
theorem d_L_law_1905 : decode cL_law 1905 = .ok (.iconst 0, 1) := by decide +kernel
theorem d_L_law_1906 : decode cL_law 1906 = .ok (.ireturn, 1) := by decide +kernel
theorem d_L_law_1907 : decode cL_law 1907 = .ok (.iload 6, 2) := by decide +kernel
theorem d_L_law_1909 : decode cL_law 1909 = .ok (.ifCond .ne 15, 3) := by decide +kernel
theorem d_L_law_1912 : decode cL_law 1912 = .ok (.aload_n 3, 1) := by decide +kernel
theorem d_L_law_1913 : decode cL_law 1913 = .ok (.iconst 0, 1) := by decide +kernel
theorem d_L_law_1914 : decode cL_law 1914 = .ok (.laload, 1) := by decide +kernel
theorem d_L_law_1915 : decode cL_law 1915 = .ok (.iload 7, 2) := by decide +kernel
theorem d_L_law_1917 : decode cL_law 1917 = .ok (.i2l, 1) := by decide +kernel
theorem d_L_law_1918 : decode cL_law 1918 = .ok (.lcmp, 1) := by decide +kernel
theorem d_L_law_1919 : decode cL_law 1919 = .ok (.ifCond .eq 5, 3) := by decide +kernel
theorem d_L_law_1922 : decode cL_law 1922 = .ok (.iconst 0, 1) := by decide +kernel
theorem d_L_law_1923 : decode cL_law 1923 = .ok (.ireturn, 1) := by decide +kernel
theorem d_L_law_1924 : decode cL_law 1924 = .ok (.goto 475, 3) := by decide +kernel
theorem d_L_law_1927 : decode cL_law 1927 = .ok (.aload_n 1, 1) := by decide +kernel
theorem d_L_law_1928 : decode cL_law 1928 = .ok (.aload_n 0, 1) := by decide +kernel
theorem d_L_law_1929 : decode cL_law 1929 = .ok (.iload 5, 2) := by decide +kernel
theorem d_L_law_1931 : decode cL_law 1931 = .ok (.iconst 1, 1) := by decide +kernel
theorem d_L_law_1932 : decode cL_law 1932 = .ok (.iadd, 1) := by decide +kernel
theorem d_L_law_1933 : decode cL_law 1933 = .ok (.iaload, 1) := by decide +kernel
theorem d_L_law_1934 : decode cL_law 1934 = .ok (.aload_n 3, 1) := by decide +kernel
theorem d_L_law_1935 : decode cL_law 1935 = .ok (.invokestatic 234, 3) := by decide +kernel
theorem d_L_law_1938 : decode cL_law 1938 = .ok (.istore 6, 2) := by decide +kernel
theorem d_L_law_1940 : decode cL_law 1940 = .ok (.aload_n 2, 1) := by decide +kernel
theorem d_L_law_1941 : decode cL_law 1941 = .ok (.aload_n 0, 1) := by decide +kernel
theorem d_L_law_1942 : decode cL_law 1942 = .ok (.iload 5, 2) := by decide +kernel
theorem d_L_law_1944 : decode cL_law 1944 = .ok (.iconst 1, 1) := by decide +kernel
theorem d_L_law_1945 : decode cL_law 1945 = .ok (.iadd, 1) := by decide +kernel
theorem d_L_law_1946 : decode cL_law 1946 = .ok (.iaload, 1) := by decide +kernel
theorem d_L_law_1947 : decode cL_law 1947 = .ok (.invokevirtual 236, 3) := by decide +kernel
theorem d_L_law_1950 : decode cL_law 1950 = .ok (.istore 7, 2) := by decide +kernel
theorem d_L_law_1952 : decode cL_law 1952 = .ok (.aload_n 2, 1) := by decide +kernel
theorem d_L_law_1953 : decode cL_law 1953 = .ok (.invokevirtual 145, 3) := by decide +kernel
theorem d_L_law_1956 : decode cL_law 1956 = .ok (.iload 6, 2) := by decide +kernel
theorem d_L_law_1958 : decode cL_law 1958 = .ok (.if_icmp .eq 5, 3) := by decide +kernel
theorem d_L_law_1961 : decode cL_law 1961 = .ok (.iconst 0, 1) := by decide +kernel
theorem d_L_law_1962 : decode cL_law 1962 = .ok (.ireturn, 1) := by decide +kernel
theorem d_L_law_1963 : decode cL_law 1963 = .ok (.iload 6, 2) := by decide +kernel
theorem d_L_law_1965 : decode cL_law 1965 = .ok (.ifCond .ne 15, 3) := by decide +kernel
theorem d_L_law_1968 : decode cL_law 1968 = .ok (.aload_n 3, 1) := by decide +kernel
theorem d_L_law_1969 : decode cL_law 1969 = .ok (.iconst 0, 1) := by decide +kernel
theorem d_L_law_1970 : decode cL_law 1970 = .ok (.laload, 1) := by decide +kernel
theorem d_L_law_1971 : decode cL_law 1971 = .ok (.iload 7, 2) := by decide +kernel
theorem d_L_law_1973 : decode cL_law 1973 = .ok (.i2l, 1) := by decide +kernel
theorem d_L_law_1974 : decode cL_law 1974 = .ok (.lcmp, 1) := by decide +kernel
theorem d_L_law_1975 : decode cL_law 1975 = .ok (.ifCond .eq 5, 3) := by decide +kernel
theorem d_L_law_1978 : decode cL_law 1978 = .ok (.iconst 0, 1) := by decide +kernel
theorem d_L_law_1979 : decode cL_law 1979 = .ok (.ireturn, 1) := by decide +kernel
theorem d_L_law_1980 : decode cL_law 1980 = .ok (.goto 419, 3) := by decide +kernel
theorem d_L_law_1983 : decode cL_law 1983 = .ok (.aload_n 1, 1) := by decide +kernel
theorem d_L_law_1984 : decode cL_law 1984 = .ok (.aload_n 0, 1) := by decide +kernel
theorem d_L_law_1985 : decode cL_law 1985 = .ok (.iload 5, 2) := by decide +kernel
theorem d_L_law_1987 : decode cL_law 1987 = .ok (.iconst 1, 1) := by decide +kernel
theorem d_L_law_1988 : decode cL_law 1988 = .ok (.iadd, 1) := by decide +kernel
theorem d_L_law_1989 : decode cL_law 1989 = .ok (.iaload, 1) := by decide +kernel
theorem d_L_law_1990 : decode cL_law 1990 = .ok (.aload_n 3, 1) := by decide +kernel
theorem d_L_law_1991 : decode cL_law 1991 = .ok (.invokestatic 237, 3) := by decide +kernel
theorem d_L_law_1994 : decode cL_law 1994 = .ok (.istore 6, 2) := by decide +kernel
theorem d_L_law_1996 : decode cL_law 1996 = .ok (.aload_n 2, 1) := by decide +kernel
theorem d_L_law_1997 : decode cL_law 1997 = .ok (.aload_n 0, 1) := by decide +kernel
theorem d_L_law_1998 : decode cL_law 1998 = .ok (.iload 5, 2) := by decide +kernel
theorem d_L_law_2000 : decode cL_law 2000 = .ok (.iconst 1, 1) := by decide +kernel
theorem d_L_law_2001 : decode cL_law 2001 = .ok (.iadd, 1) := by decide +kernel
theorem d_L_law_2002 : decode cL_law 2002 = .ok (.iaload, 1) := by decide +kernel
theorem d_L_law_2003 : decode cL_law 2003 = .ok (.invokevirtual 239, 3) := by decide +kernel
theorem d_L_law_2006 : decode cL_law 2006 = .ok (.istore 7, 2) := by decide +kernel
theorem d_L_law_2008 : decode cL_law 2008 = .ok (.aload_n 2, 1) := by decide +kernel
theorem d_L_law_2009 : decode cL_law 2009 = .ok (.invokevirtual 145, 3) := by decide +kernel
theorem d_L_law_2012 : decode cL_law 2012 = .ok (.iload 6, 2) := by decide +kernel
theorem d_L_law_2014 : decode cL_law 2014 = .ok (.if_icmp .eq 5, 3) := by decide +kernel
theorem d_L_law_2017 : decode cL_law 2017 = .ok (.iconst 0, 1) := by decide +kernel
theorem d_L_law_2018 : decode cL_law 2018 = .ok (.ireturn, 1) := by decide +kernel
theorem d_L_law_2019 : decode cL_law 2019 = .ok (.iload 6, 2) := by decide +kernel
theorem d_L_law_2021 : decode cL_law 2021 = .ok (.ifCond .ne 15, 3) := by decide +kernel
theorem d_L_law_2024 : decode cL_law 2024 = .ok (.aload_n 3, 1) := by decide +kernel
theorem d_L_law_2025 : decode cL_law 2025 = .ok (.iconst 0, 1) := by decide +kernel
theorem d_L_law_2026 : decode cL_law 2026 = .ok (.laload, 1) := by decide +kernel
theorem d_L_law_2027 : decode cL_law 2027 = .ok (.iload 7, 2) := by decide +kernel
theorem d_L_law_2029 : decode cL_law 2029 = .ok (.i2l, 1) := by decide +kernel
theorem d_L_law_2030 : decode cL_law 2030 = .ok (.lcmp, 1) := by decide +kernel
theorem d_L_law_2031 : decode cL_law 2031 = .ok (.ifCond .eq 5, 3) := by decide +kernel
theorem d_L_law_2034 : decode cL_law 2034 = .ok (.iconst 0, 1) := by decide +kernel
theorem d_L_law_2035 : decode cL_law 2035 = .ok (.ireturn, 1) := by decide +kernel
theorem d_L_law_2036 : decode cL_law 2036 = .ok (.goto 363, 3) := by decide +kernel
theorem d_L_law_2039 : decode cL_law 2039 = .ok (.aload_n 1, 1) := by decide +kernel
theorem d_L_law_2040 : decode cL_law 2040 = .ok (.aload 4, 2) := by decide +kernel
theorem d_L_law_2042 : decode cL_law 2042 = .ok (.invokestatic 240, 3) := by decide +kernel
theorem d_L_law_2045 : decode cL_law 2045 = .ok (.istore 6, 2) := by decide +kernel
theorem d_L_law_2047 : decode cL_law 2047 = .ok (.aload_n 2, 1) := by decide +kernel
theorem d_L_law_2048 : decode cL_law 2048 = .ok (.invokevirtual 243, 3) := by decide +kernel
theorem d_L_law_2051 : decode cL_law 2051 = .ok (.fstore 7, 2) := by decide +kernel
theorem d_L_law_2053 : decode cL_law 2053 = .ok (.aload_n 2, 1) := by decide +kernel
theorem d_L_law_2054 : decode cL_law 2054 = .ok (.invokevirtual 145, 3) := by decide +kernel
theorem d_L_law_2057 : decode cL_law 2057 = .ok (.iload 6, 2) := by decide +kernel
theorem d_L_law_2059 : decode cL_law 2059 = .ok (.if_icmp .eq 5, 3) := by decide +kernel
theorem d_L_law_2062 : decode cL_law 2062 = .ok (.iconst 0, 1) := by decide +kernel
theorem d_L_law_2063 : decode cL_law 2063 = .ok (.ireturn, 1) := by decide +kernel
theorem d_L_law_2064 : decode cL_law 2064 = .ok (.iload 6, 2) := by decide +kernel
theorem d_L_law_2066 : decode cL_law 2066 = .ok (.ifCond .ne 36, 3) := by decide +kernel
theorem d_L_law_2069 : decode cL_law 2069 = .ok (.aload 4, 2) := by decide +kernel
theorem d_L_law_2071 : decode cL_law 2071 = .ok (.iconst 0, 1) := by decide +kernel
theorem d_L_law_2072 : decode cL_law 2072 = .ok (.daload, 1) := by decide +kernel
theorem d_L_law_2073 : decode cL_law 2073 = .ok (.fload 7, 2) := by decide +kernel
theorem d_L_law_2075 : decode cL_law 2075 = .ok (.f2d, 1) := by decide +kernel
theorem d_L_law_2076 : decode cL_law 2076 = .ok (.dcmp .l, 1) := by decide +kernel
theorem d_L_law_2077 : decode cL_law 2077 = .ok (.ifCond .eq 25, 3) := by decide +kernel
theorem d_L_law_2080 : decode cL_law 2080 = .ok (.aload 4, 2) := by decide +kernel
theorem d_L_law_2082 : decode cL_law 2082 = .ok (.iconst 0, 1) := by decide +kernel
theorem d_L_law_2083 : decode cL_law 2083 = .ok (.daload, 1) := by decide +kernel
theorem d_L_law_2084 : decode cL_law 2084 = .ok (.aload 4, 2) := by decide +kernel
theorem d_L_law_2086 : decode cL_law 2086 = .ok (.iconst 0, 1) := by decide +kernel
theorem d_L_law_2087 : decode cL_law 2087 = .ok (.daload, 1) := by decide +kernel
theorem d_L_law_2088 : decode cL_law 2088 = .ok (.dcmp .l, 1) := by decide +kernel
theorem d_L_law_2089 : decode cL_law 2089 = .ok (.ifCond .eq 11, 3) := by decide +kernel
theorem d_L_law_2092 : decode cL_law 2092 = .ok (.fload 7, 2) := by decide +kernel
theorem d_L_law_2094 : decode cL_law 2094 = .ok (.fload 7, 2) := by decide +kernel
theorem d_L_law_2096 : decode cL_law 2096 = .ok (.fcmp .l, 1) := by decide +kernel
theorem d_L_law_2097 : decode cL_law 2097 = .ok (.ifCond .ne 5, 3) := by decide +kernel
theorem d_L_law_2100 : decode cL_law 2100 = .ok (.iconst 0, 1) := by decide +kernel
theorem d_L_law_2101 : decode cL_law 2101 = .ok (.ireturn, 1) := by decide +kernel
theorem d_L_law_2102 : decode cL_law 2102 = .ok (.goto 297, 3) := by decide +kernel
theorem d_L_law_2105 : decode cL_law 2105 = .ok (.aload_n 1, 1) := by decide +kernel
theorem d_L_law_2106 : decode cL_law 2106 = .ok (.aload 4, 2) := by decide +kernel
theorem d_L_law_2108 : decode cL_law 2108 = .ok (.invokestatic 244, 3) := by decide +kernel
theorem d_L_law_2111 : decode cL_law 2111 = .ok (.istore 6, 2) := by decide +kernel
theorem d_L_law_2113 : decode cL_law 2113 = .ok (.aload_n 2, 1) := by decide +kernel
theorem d_L_law_2114 : decode cL_law 2114 = .ok (.invokevirtual 246, 3) := by decide +kernel
theorem d_L_law_2117 : decode cL_law 2117 = .ok (.dstore 7, 2) := by decide +kernel
theorem d_L_law_2119 : decode cL_law 2119 = .ok (.aload_n 2, 1) := by decide +kernel
theorem d_L_law_2120 : decode cL_law 2120 = .ok (.invokevirtual 145, 3) := by decide +kernel
theorem d_L_law_2123 : decode cL_law 2123 = .ok (.iload 6, 2) := by decide +kernel
theorem d_L_law_2125 : decode cL_law 2125 = .ok (.if_icmp .eq 5, 3) := by decide +kernel
theorem d_L_law_2128 : decode cL_law 2128 = .ok (.iconst 0, 1) := by decide +kernel
theorem d_L_law_2129 : decode cL_law 2129 = .ok (.ireturn, 1) := by decide +kernel
theorem d_L_law_2130 : decode cL_law 2130 = .ok (.iload 6, 2) := by decide +kernel
theorem d_L_law_2132 : decode cL_law 2132 = .ok (.ifCond .ne 35, 3) := by decide +kernel
theorem d_L_law_2135 : decode cL_law 2135 = .ok (.aload 4, 2) := by decide +kernel
theorem d_L_law_2137 : decode cL_law 2137 = .ok (.iconst 0, 1) := by decide +kernel
theorem d_L_law_2138 : decode cL_law 2138 = .ok (.daload, 1) := by decide +kernel
theorem d_L_law_2139 : decode cL_law 2139 = .ok (.dload 7, 2) := by decide +kernel
theorem d_L_law_2141 : decode cL_law 2141 = .ok (.dcmp .l, 1) := by decide +kernel
theorem d_L_law_2142 : decode cL_law 2142 = .ok (.ifCond .eq 25, 3) := by decide +kernel
theorem d_L_law_2145 : decode cL_law 2145 = .ok (.aload 4, 2) := by decide +kernel
theorem d_L_law_2147 : decode cL_law 2147 = .ok (.iconst 0, 1) := by decide +kernel
theorem d_L_law_2148 : decode cL_law 2148 = .ok (.daload, 1) := by decide +kernel
theorem d_L_law_2149 : decode cL_law 2149 = .ok (.aload 4, 2) := by decide +kernel
theorem d_L_law_2151 : decode cL_law 2151 = .ok (.iconst 0, 1) := by decide +kernel
theorem d_L_law_2152 : decode cL_law 2152 = .ok (.daload, 1) := by decide +kernel
theorem d_L_law_2153 : decode cL_law 2153 = .ok (.dcmp .l, 1) := by decide +kernel
theorem d_L_law_2154 : decode cL_law 2154 = .ok (.ifCond .eq 11, 3) := by decide +kernel
theorem d_L_law_2157 : decode cL_law 2157 = .ok (.dload 7, 2) := by decide +kernel
theorem d_L_law_2159 : decode cL_law 2159 = .ok (.dload 7, 2) := by decide +kernel
theorem d_L_law_2161 : decode cL_law 2161 = .ok (.dcmp .l, 1) := by decide +kernel
theorem d_L_law_2162 : decode cL_law 2162 = .ok (.ifCond .ne 5, 3) := by decide +kernel
theorem d_L_law_2165 : decode cL_law 2165 = .ok (.iconst 0, 1) := by decide +kernel
theorem d_L_law_2166 : decode cL_law 2166 = .ok (.ireturn, 1) := by decide +kernel
theorem d_L_law_2167 : decode cL_law 2167 = .ok (.goto 232, 3) := by decide +kernel
theorem d_L_law_2170 : decode cL_law 2170 = .ok (.aload_n 1, 1) := by decide +kernel
theorem d_L_law_2171 : decode cL_law 2171 = .ok (.aload_n 0, 1) := by decide +kernel
theorem d_L_law_2172 : decode cL_law 2172 = .ok (.iload 5, 2) := by decide +kernel
theorem d_L_law_2174 : decode cL_law 2174 = .ok (.iconst 1, 1) := by decide +kernel
theorem d_L_law_2175 : decode cL_law 2175 = .ok (.iadd, 1) := by decide +kernel
theorem d_L_law_2176 : decode cL_law 2176 = .ok (.iaload, 1) := by decide +kernel
theorem d_L_law_2177 : decode cL_law 2177 = .ok (.ifCond .eq 7, 3) := by decide +kernel
theorem d_L_law_2180 : decode cL_law 2180 = .ok (.iconst 1, 1) := by decide +kernel
theorem d_L_law_2181 : decode cL_law 2181 = .ok (.goto 4, 3) := by decide +kernel
theorem d_L_law_2184 : decode cL_law 2184 = .ok (.iconst 0, 1) := by decide +kernel
theorem d_L_law_2185 : decode cL_law 2185 = .ok (.aload_n 3, 1) := by decide +kernel
theorem d_L_law_2186 : decode cL_law 2186 = .ok (.invokestatic 247, 3) := by decide +kernel
theorem d_L_law_2189 : decode cL_law 2189 = .ok (.istore 6, 2) := by decide +kernel
theorem d_L_law_2191 : decode cL_law 2191 = .ok (.aload_n 2, 1) := by decide +kernel
theorem d_L_law_2192 : decode cL_law 2192 = .ok (.aload_n 0, 1) := by decide +kernel
theorem d_L_law_2193 : decode cL_law 2193 = .ok (.iload 5, 2) := by decide +kernel
theorem d_L_law_2195 : decode cL_law 2195 = .ok (.iconst 1, 1) := by decide +kernel
theorem d_L_law_2196 : decode cL_law 2196 = .ok (.iadd, 1) := by decide +kernel
theorem d_L_law_2197 : decode cL_law 2197 = .ok (.iaload, 1) := by decide +kernel
theorem d_L_law_2198 : decode cL_law 2198 = .ok (.ifCond .eq 7, 3) := by decide +kernel
theorem d_L_law_2201 : decode cL_law 2201 = .ok (.iconst 1, 1) := by decide +kernel
theorem d_L_law_2202 : decode cL_law 2202 = .ok (.goto 4, 3) := by decide +kernel
theorem d_L_law_2205 : decode cL_law 2205 = .ok (.iconst 0, 1) := by decide +kernel
theorem d_L_law_2206 : decode cL_law 2206 = .ok (.invokevirtual 250, 3) := by decide +kernel
theorem d_L_law_2209 : decode cL_law 2209 = .ok (.istore 7, 2) := by decide +kernel
theorem d_L_law_2211 : decode cL_law 2211 = .ok (.aload_n 2, 1) := by decide +kernel
theorem d_L_law_2212 : decode cL_law 2212 = .ok (.invokevirtual 145, 3) := by decide +kernel
theorem d_L_law_2215 : decode cL_law 2215 = .ok (.iload 6, 2) := by decide +kernel
theorem d_L_law_2217 : decode cL_law 2217 = .ok (.if_icmp .eq 5, 3) := by decide +kernel
theorem d_L_law_2220 : decode cL_law 2220 = .ok (.iconst 0, 1) := by decide +kernel
theorem d_L_law_2221 : decode cL_law 2221 = .ok (.ireturn, 1) := by decide +kernel
theorem d_L_law_2222 : decode cL_law 2222 = .ok (.iload 6, 2) := by decide +kernel
theorem d_L_law_2224 : decode cL_law 2224 = .ok (.ifCond .ne 15, 3) := by decide +kernel
theorem d_L_law_2227 : decode cL_law 2227 = .ok (.aload_n 3, 1) := by decide +kernel
theorem d_L_law_2228 : decode cL_law 2228 = .ok (.iconst 0, 1) := by decide +kernel
theorem d_L_law_2229 : decode cL_law 2229 = .ok (.laload, 1) := by decide +kernel
theorem d_L_law_2230 : decode cL_law 2230 = .ok (.iload 7, 2) := by decide +kernel
theorem d_L_law_2232 : decode cL_law 2232 = .ok (.i2l, 1) := by decide +kernel
theorem d_L_law_2233 : decode cL_law 2233 = .ok (.lcmp, 1) := by decide +kernel
theorem d_L_law_2234 : decode cL_law 2234 = .ok (.ifCond .eq 5, 3) := by decide +kernel
theorem d_L_law_2237 : decode cL_law 2237 = .ok (.iconst 0, 1) := by decide +kernel
theorem d_L_law_2238 : decode cL_law 2238 = .ok (.ireturn, 1) := by decide +kernel
theorem d_L_law_2239 : decode cL_law 2239 = .ok (.goto 160, 3) := by decide +kernel
theorem d_L_law_2242 : decode cL_law 2242 = .ok (.aload_n 1, 1) := by decide +kernel
theorem d_L_law_2243 : decode cL_law 2243 = .ok (.aload_n 0, 1) := by decide +kernel
theorem d_L_law_2244 : decode cL_law 2244 = .ok (.iload 5, 2) := by decide +kernel
theorem d_L_law_2246 : decode cL_law 2246 = .ok (.iconst 1, 1) := by decide +kernel
theorem d_L_law_2247 : decode cL_law 2247 = .ok (.iadd, 1) := by decide +kernel
theorem d_L_law_2248 : decode cL_law 2248 = .ok (.iaload, 1) := by decide +kernel
theorem d_L_law_2249 : decode cL_law 2249 = .ok (.aload_n 3, 1) := by decide +kernel
theorem d_L_law_2250 : decode cL_law 2250 = .ok (.invokestatic 251, 3) := by decide +kernel
theorem d_L_law_2253 : decode cL_law 2253 = .ok (.istore 6, 2) := by decide +kernel
theorem d_L_law_2255 : decode cL_law 2255 = .ok (.aload_n 2, 1) := by decide +kernel
theorem d_L_law_2256 : decode cL_law 2256 = .ok (.aload_n 0, 1) := by decide +kernel
theorem d_L_law_2257 : decode cL_law 2257 = .ok (.iload 5, 2) := by decide +kernel
theorem d_L_law_2259 : decode cL_law 2259 = .ok (.iconst 1, 1) := by decide +kernel
theorem d_L_law_2260 : decode cL_law 2260 = .ok (.iadd, 1) := by decide +kernel
theorem d_L_law_2261 : decode cL_law 2261 = .ok (.iaload, 1) := by decide +kernel
theorem d_L_law_2262 : decode cL_law 2262 = .ok (.invokevirtual 253, 3) := by decide +kernel
theorem d_L_law_2265 : decode cL_law 2265 = .ok (.istore 7, 2) := by decide +kernel
theorem d_L_law_2267 : decode cL_law 2267 = .ok (.aload_n 2, 1) := by decide +kernel
theorem d_L_law_2268 : decode cL_law 2268 = .ok (.invokevirtual 145, 3) := by decide +kernel
theorem d_L_law_2271 : decode cL_law 2271 = .ok (.iload 6, 2) := by decide +kernel
theorem d_L_law_2273 : decode cL_law 2273 = .ok (.if_icmp .eq 5, 3) := by decide +kernel
theorem d_L_law_2276 : decode cL_law 2276 = .ok (.iconst 0, 1) := by decide +kernel
theorem d_L_law_2277 : decode cL_law 2277 = .ok (.ireturn, 1) := by decide +kernel
theorem d_L_law_2278 : decode cL_law 2278 = .ok (.iload 6, 2) := by decide +kernel
theorem d_L_law_2280 : decode cL_law 2280 = .ok (.ifCond .ne 15, 3) := by decide +kernel
theorem d_L_law_2283 : decode cL_law 2283 = .ok (.aload_n 3, 1) := by decide +kernel
theorem d_L_law_2284 : decode cL_law 2284 = .ok (.iconst 0, 1) := by decide +kernel
theorem d_L_law_2285 : decode cL_law 2285 = .ok (.laload, 1) := by decide +kernel
theorem d_L_law_2286 : decode cL_law 2286 = .ok (.iload 7, 2) := by decide +kernel
theorem d_L_law_2288 : decode cL_law 2288 = .ok (.i2l, 1) := by decide +kernel
theorem d_L_law_2289 : decode cL_law 2289 = .ok (.lcmp, 1) := by decide +kernel
theorem d_L_law_2290 : decode cL_law 2290 = .ok (.ifCond .eq 5, 3) := by decide +kernel
theorem d_L_law_2293 : decode cL_law 2293 = .ok (.iconst 0, 1) := by decide +kernel
theorem d_L_law_2294 : decode cL_law 2294 = .ok (.ireturn, 1) := by decide +kernel
theorem d_L_law_2295 : decode cL_law 2295 = .ok (.goto 104, 3) := by decide +kernel
theorem d_L_law_2298 : decode cL_law 2298 = .ok (.aload_n 1, 1) := by decide +kernel
theorem d_L_law_2299 : decode cL_law 2299 = .ok (.aload_n 3, 1) := by decide +kernel
theorem d_L_law_2300 : decode cL_law 2300 = .ok (.invokestatic 254, 3) := by decide +kernel
theorem d_L_law_2303 : decode cL_law 2303 = .ok (.istore 6, 2) := by decide +kernel
theorem d_L_law_2305 : decode cL_law 2305 = .ok (.aload_n 2, 1) := by decide +kernel
theorem d_L_law_2306 : decode cL_law 2306 = .ok (.invokevirtual 256, 3) := by decide +kernel
theorem d_L_law_2309 : decode cL_law 2309 = .ok (.istore 7, 2) := by decide +kernel
theorem d_L_law_2311 : decode cL_law 2311 = .ok (.aload_n 2, 1) := by decide +kernel
theorem d_L_law_2312 : decode cL_law 2312 = .ok (.invokevirtual 145, 3) := by decide +kernel
theorem d_L_law_2315 : decode cL_law 2315 = .ok (.iload 6, 2) := by decide +kernel
theorem d_L_law_2317 : decode cL_law 2317 = .ok (.if_icmp .eq 5, 3) := by decide +kernel
theorem d_L_law_2320 : decode cL_law 2320 = .ok (.iconst 0, 1) := by decide +kernel
theorem d_L_law_2321 : decode cL_law 2321 = .ok (.ireturn, 1) := by decide +kernel
theorem d_L_law_2322 : decode cL_law 2322 = .ok (.iload 6, 2) := by decide +kernel
theorem d_L_law_2324 : decode cL_law 2324 = .ok (.ifCond .ne 15, 3) := by decide +kernel
theorem d_L_law_2327 : decode cL_law 2327 = .ok (.aload_n 3, 1) := by decide +kernel
theorem d_L_law_2328 : decode cL_law 2328 = .ok (.iconst 0, 1) := by decide +kernel
theorem d_L_law_2329 : decode cL_law 2329 = .ok (.laload, 1) := by decide +kernel
theorem d_L_law_2330 : decode cL_law 2330 = .ok (.iload 7, 2) := by decide +kernel
theorem d_L_law_2332 : decode cL_law 2332 = .ok (.i2l, 1) := by decide +kernel
theorem d_L_law_2333 : decode cL_law 2333 = .ok (.lcmp, 1) := by decide +kernel
theorem d_L_law_2334 : decode cL_law 2334 = .ok (.ifCond .eq 5, 3) := by decide +kernel
theorem d_L_law_2337 : decode cL_law 2337 = .ok (.iconst 0, 1) := by decide +kernel
theorem d_L_law_2338 : decode cL_law 2338 = .ok (.ireturn, 1) := by decide +kernel
theorem d_L_law_2339 : decode cL_law 2339 = .ok (.goto 60, 3) := by decide +kernel
theorem d_L_law_2342 : decode cL_law 2342 = .ok (.aload_n 1, 1) := by decide +kernel
theorem d_L_law_2343 : decode cL_law 2343 = .ok (.invokevirtual 257, 3) := by decide +kernel
theorem d_L_law_2346 : decode cL_law 2346 = .ok (.aload_n 2, 1) := by decide +kernel
theorem d_L_law_2347 : decode cL_law 2347 = .ok (.invokevirtual 260, 3) := by decide +kernel
theorem d_L_law_2350 : decode cL_law 2350 = .ok (.if_icmp .eq 49, 3) := by decide +kernel
theorem d_L_law_2353 : decode cL_law 2353 = .ok (.iconst 0, 1) := by decide +kernel
theorem d_L_law_2354 : decode cL_law 2354 = .ok (.ireturn, 1) := by decide +kernel
theorem d_L_law_2355 : decode cL_law 2355 = .ok (.aload_n 1, 1) := by decide +kernel
theorem d_L_law_2356 : decode cL_law 2356 = .ok (.aload_n 3, 1) := by decide +kernel
theorem d_L_law_2357 : decode cL_law 2357 = .ok (.invokestatic 261, 3) := by decide +kernel
theorem d_L_law_2360 : decode cL_law 2360 = .ok (.istore 6, 2) := by decide +kernel
theorem d_L_law_2362 : decode cL_law 2362 = .ok (.aload_n 2, 1) := by decide +kernel
theorem d_L_law_2363 : decode cL_law 2363 = .ok (.invokevirtual 263, 3) := by decide +kernel
theorem d_L_law_2366 : decode cL_law 2366 = .ok (.istore 7, 2) := by decide +kernel
theorem d_L_law_2368 : decode cL_law 2368 = .ok (.aload_n 2, 1) := by decide +kernel
theorem d_L_law_2369 : decode cL_law 2369 = .ok (.invokevirtual 145, 3) := by decide +kernel
theorem d_L_law_2372 : decode cL_law 2372 = .ok (.iload 6, 2) := by decide +kernel
theorem d_L_law_2374 : decode cL_law 2374 = .ok (.if_icmp .eq 5, 3) := by decide +kernel
theorem d_L_law_2377 : decode cL_law 2377 = .ok (.iconst 0, 1) := by decide +kernel
theorem d_L_law_2378 : decode cL_law 2378 = .ok (.ireturn, 1) := by decide +kernel
theorem d_L_law_2379 : decode cL_law 2379 = .ok (.iload 6, 2) := by decide +kernel
theorem d_L_law_2381 : decode cL_law 2381 = .ok (.ifCond .ne 15, 3) := by decide +kernel
theorem d_L_law_2384 : decode cL_law 2384 = .ok (.aload_n 3, 1) := by decide +kernel
theorem d_L_law_2385 : decode cL_law 2385 = .ok (.iconst 0, 1) := by decide +kernel
theorem d_L_law_2386 : decode cL_law 2386 = .ok (.laload, 1) := by decide +kernel
theorem d_L_law_2387 : decode cL_law 2387 = .ok (.iload 7, 2) := by decide +kernel
theorem d_L_law_2389 : decode cL_law 2389 = .ok (.i2l, 1) := by decide +kernel
theorem d_L_law_2390 : decode cL_law 2390 = .ok (.lcmp, 1) := by decide +kernel
theorem d_L_law_2391 : decode cL_law 2391 = .ok (.ifCond .eq 5, 3) := by decide +kernel
theorem d_L_law_2394 : decode cL_law 2394 = .ok (.iconst 0, 1) := by decide +kernel
theorem d_L_law_2395 : decode cL_law 2395 = .ok (.ireturn, 1) := by decide +kernel
theorem d_L_law_2396 : decode cL_law 2396 = .ok (.goto 3, 3) := by decide +kernel
theorem d_L_law_2399 : decode cL_law 2399 = .ok (.iinc 5 5, 3) := by decide +kernel
theorem d_L_law_2402 : decode cL_law 2402 = .ok (.goto (-2374), 3) := by decide +kernel
theorem d_L_law_2405 : decode cL_law 2405 = .ok (.iconst 1, 1) := by decide +kernel
theorem d_L_law_2406 : decode cL_law 2406 = .ok (.ireturn, 1) := by decide +kernel
