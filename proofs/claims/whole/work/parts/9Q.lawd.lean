/-! The instructions of the law -/
theorem dl_0 : decode code 0 = .ok (.new 8, 3) := by decide +kernel
theorem dl_3 : decode code 3 = .ok (.dup, 1) := by decide +kernel
theorem dl_4 : decode code 4 = .ok (.invokespecial 15, 3) := by decide +kernel
theorem dl_7 : decode code 7 = .ok (.astore_n 1, 1) := by decide +kernel
theorem dl_8 : decode code 8 = .ok (.new 16, 3) := by decide +kernel
theorem dl_11 : decode code 11 = .ok (.dup, 1) := by decide +kernel
theorem dl_12 : decode code 12 = .ok (.invokespecial 18, 3) := by decide +kernel
theorem dl_15 : decode code 15 = .ok (.astore_n 2, 1) := by decide +kernel
theorem dl_16 : decode code 16 = .ok (.iconst 1, 1) := by decide +kernel
theorem dl_17 : decode code 17 = .ok (.newarray .long, 2) := by decide +kernel
theorem dl_19 : decode code 19 = .ok (.astore_n 3, 1) := by decide +kernel
theorem dl_20 : decode code 20 = .ok (.iconst 0, 1) := by decide +kernel
theorem dl_21 : decode code 21 = .ok (.istore 4, 2) := by decide +kernel
theorem dl_23 : decode code 23 = .ok (.iload 4, 2) := by decide +kernel
theorem dl_25 : decode code 25 = .ok (.aload_n 0, 1) := by decide +kernel
theorem dl_26 : decode code 26 = .ok (.arraylength, 1) := by decide +kernel
theorem dl_27 : decode code 27 = .ok (.bipush 6, 2) := by decide +kernel
theorem dl_29 : decode code 29 = .ok (.isub, 1) := by decide +kernel
theorem dl_30 : decode code 30 = .ok (.if_icmp .gt 1252, 3) := by decide +kernel
theorem dl_33 : decode code 33 = .ok (.aload_n 0, 1) := by decide +kernel
theorem dl_34 : decode code 34 = .ok (.iload 4, 2) := by decide +kernel
theorem dl_36 : decode code 36 = .ok (.iaload, 1) := by decide +kernel
theorem dl_37 : decode code 37 = .ok (.bipush 63, 2) := by decide +kernel
theorem dl_39 : decode code 39 = .ok (.iand, 1) := by decide +kernel
theorem dl_40 : decode code 40 = .ok (.tableswitch 1236 0 40 #[180, 253, 278, 291, 304, 372, 409, 434, 459, 472, 485, 498, 523, 548, 573, 598, 611, 648, 685, 710, 747, 760, 773, 786, 799, 836, 861, 886, 911, 924, 937, 962, 987, 1024, 1073, 1098, 1123, 1136, 1161, 1186, 1211], 180) := by decide +kernel
theorem dl_220 : decode code 220 = .ok (.aload_n 1, 1) := by decide +kernel
theorem dl_221 : decode code 221 = .ok (.aload_n 0, 1) := by decide +kernel
theorem dl_222 : decode code 222 = .ok (.iload 4, 2) := by decide +kernel
theorem dl_224 : decode code 224 = .ok (.iconst 1, 1) := by decide +kernel
theorem dl_225 : decode code 225 = .ok (.iadd, 1) := by decide +kernel
theorem dl_226 : decode code 226 = .ok (.iaload, 1) := by decide +kernel
theorem dl_227 : decode code 227 = .ok (.aload_n 0, 1) := by decide +kernel
theorem dl_228 : decode code 228 = .ok (.iload 4, 2) := by decide +kernel
theorem dl_230 : decode code 230 = .ok (.iconst 2, 1) := by decide +kernel
theorem dl_231 : decode code 231 = .ok (.iadd, 1) := by decide +kernel
theorem dl_232 : decode code 232 = .ok (.iaload, 1) := by decide +kernel
theorem dl_233 : decode code 233 = .ok (.aload_n 0, 1) := by decide +kernel
theorem dl_234 : decode code 234 = .ok (.iload 4, 2) := by decide +kernel
theorem dl_236 : decode code 236 = .ok (.iconst 3, 1) := by decide +kernel
theorem dl_237 : decode code 237 = .ok (.iadd, 1) := by decide +kernel
theorem dl_238 : decode code 238 = .ok (.iaload, 1) := by decide +kernel
theorem dl_239 : decode code 239 = .ok (.aload_n 0, 1) := by decide +kernel
theorem dl_240 : decode code 240 = .ok (.iload 4, 2) := by decide +kernel
theorem dl_242 : decode code 242 = .ok (.iconst 4, 1) := by decide +kernel
theorem dl_243 : decode code 243 = .ok (.iadd, 1) := by decide +kernel
theorem dl_244 : decode code 244 = .ok (.iaload, 1) := by decide +kernel
theorem dl_245 : decode code 245 = .ok (.aload_n 0, 1) := by decide +kernel
theorem dl_246 : decode code 246 = .ok (.iload 4, 2) := by decide +kernel
theorem dl_248 : decode code 248 = .ok (.iconst 5, 1) := by decide +kernel
theorem dl_249 : decode code 249 = .ok (.iadd, 1) := by decide +kernel
theorem dl_250 : decode code 250 = .ok (.iaload, 1) := by decide +kernel
theorem dl_251 : decode code 251 = .ok (.invokevirtual 19, 3) := by decide +kernel
theorem dl_254 : decode code 254 = .ok (.aload_n 2, 1) := by decide +kernel
theorem dl_255 : decode code 255 = .ok (.aload_n 0, 1) := by decide +kernel
theorem dl_256 : decode code 256 = .ok (.iload 4, 2) := by decide +kernel
theorem dl_258 : decode code 258 = .ok (.iconst 1, 1) := by decide +kernel
theorem dl_259 : decode code 259 = .ok (.iadd, 1) := by decide +kernel
theorem dl_260 : decode code 260 = .ok (.iaload, 1) := by decide +kernel
theorem dl_261 : decode code 261 = .ok (.aload_n 0, 1) := by decide +kernel
theorem dl_262 : decode code 262 = .ok (.iload 4, 2) := by decide +kernel
theorem dl_264 : decode code 264 = .ok (.iconst 2, 1) := by decide +kernel
theorem dl_265 : decode code 265 = .ok (.iadd, 1) := by decide +kernel
theorem dl_266 : decode code 266 = .ok (.iaload, 1) := by decide +kernel
theorem dl_267 : decode code 267 = .ok (.aload_n 0, 1) := by decide +kernel
theorem dl_268 : decode code 268 = .ok (.iload 4, 2) := by decide +kernel
theorem dl_270 : decode code 270 = .ok (.iconst 3, 1) := by decide +kernel
theorem dl_271 : decode code 271 = .ok (.iadd, 1) := by decide +kernel
theorem dl_272 : decode code 272 = .ok (.iaload, 1) := by decide +kernel
theorem dl_273 : decode code 273 = .ok (.aload_n 0, 1) := by decide +kernel
theorem dl_274 : decode code 274 = .ok (.iload 4, 2) := by decide +kernel
theorem dl_276 : decode code 276 = .ok (.iconst 4, 1) := by decide +kernel
theorem dl_277 : decode code 277 = .ok (.iadd, 1) := by decide +kernel
theorem dl_278 : decode code 278 = .ok (.iaload, 1) := by decide +kernel
theorem dl_279 : decode code 279 = .ok (.aload_n 0, 1) := by decide +kernel
theorem dl_280 : decode code 280 = .ok (.iload 4, 2) := by decide +kernel
theorem dl_282 : decode code 282 = .ok (.iconst 5, 1) := by decide +kernel
theorem dl_283 : decode code 283 = .ok (.iadd, 1) := by decide +kernel
theorem dl_284 : decode code 284 = .ok (.iaload, 1) := by decide +kernel
theorem dl_285 : decode code 285 = .ok (.invokevirtual 23, 3) := by decide +kernel
theorem dl_288 : decode code 288 = .ok (.if_icmp .eq 988, 3) := by decide +kernel
theorem dl_291 : decode code 291 = .ok (.iconst 0, 1) := by decide +kernel
theorem dl_292 : decode code 292 = .ok (.ireturn, 1) := by decide +kernel
theorem dl_293 : decode code 293 = .ok (.aload_n 1, 1) := by decide +kernel
theorem dl_294 : decode code 294 = .ok (.aload_n 0, 1) := by decide +kernel
theorem dl_295 : decode code 295 = .ok (.iload 4, 2) := by decide +kernel
theorem dl_297 : decode code 297 = .ok (.iconst 1, 1) := by decide +kernel
theorem dl_298 : decode code 298 = .ok (.iadd, 1) := by decide +kernel
theorem dl_299 : decode code 299 = .ok (.iaload, 1) := by decide +kernel
theorem dl_300 : decode code 300 = .ok (.invokevirtual 24, 3) := by decide +kernel
theorem dl_303 : decode code 303 = .ok (.aload_n 2, 1) := by decide +kernel
theorem dl_304 : decode code 304 = .ok (.aload_n 0, 1) := by decide +kernel
theorem dl_305 : decode code 305 = .ok (.iload 4, 2) := by decide +kernel
theorem dl_307 : decode code 307 = .ok (.iconst 1, 1) := by decide +kernel
theorem dl_308 : decode code 308 = .ok (.iadd, 1) := by decide +kernel
theorem dl_309 : decode code 309 = .ok (.iaload, 1) := by decide +kernel
theorem dl_310 : decode code 310 = .ok (.invokevirtual 28, 3) := by decide +kernel
theorem dl_313 : decode code 313 = .ok (.if_icmp .eq 963, 3) := by decide +kernel
theorem dl_316 : decode code 316 = .ok (.iconst 0, 1) := by decide +kernel
theorem dl_317 : decode code 317 = .ok (.ireturn, 1) := by decide +kernel
theorem dl_318 : decode code 318 = .ok (.aload_n 1, 1) := by decide +kernel
theorem dl_319 : decode code 319 = .ok (.invokevirtual 29, 3) := by decide +kernel
theorem dl_322 : decode code 322 = .ok (.aload_n 2, 1) := by decide +kernel
theorem dl_323 : decode code 323 = .ok (.invokevirtual 33, 3) := by decide +kernel
theorem dl_326 : decode code 326 = .ok (.if_icmp .eq 950, 3) := by decide +kernel
theorem dl_329 : decode code 329 = .ok (.iconst 0, 1) := by decide +kernel
theorem dl_330 : decode code 330 = .ok (.ireturn, 1) := by decide +kernel
theorem dl_331 : decode code 331 = .ok (.aload_n 1, 1) := by decide +kernel
theorem dl_332 : decode code 332 = .ok (.invokevirtual 34, 3) := by decide +kernel
theorem dl_335 : decode code 335 = .ok (.aload_n 2, 1) := by decide +kernel
theorem dl_336 : decode code 336 = .ok (.invokevirtual 37, 3) := by decide +kernel
theorem dl_339 : decode code 339 = .ok (.if_icmp .eq 937, 3) := by decide +kernel
theorem dl_342 : decode code 342 = .ok (.iconst 0, 1) := by decide +kernel
theorem dl_343 : decode code 343 = .ok (.ireturn, 1) := by decide +kernel
theorem dl_344 : decode code 344 = .ok (.aload_n 1, 1) := by decide +kernel
theorem dl_345 : decode code 345 = .ok (.aload_n 0, 1) := by decide +kernel
theorem dl_346 : decode code 346 = .ok (.iload 4, 2) := by decide +kernel
theorem dl_348 : decode code 348 = .ok (.iconst 1, 1) := by decide +kernel
theorem dl_349 : decode code 349 = .ok (.iadd, 1) := by decide +kernel
theorem dl_350 : decode code 350 = .ok (.iaload, 1) := by decide +kernel
theorem dl_351 : decode code 351 = .ok (.aload_n 0, 1) := by decide +kernel
theorem dl_352 : decode code 352 = .ok (.iload 4, 2) := by decide +kernel
theorem dl_354 : decode code 354 = .ok (.iconst 2, 1) := by decide +kernel
theorem dl_355 : decode code 355 = .ok (.iadd, 1) := by decide +kernel
theorem dl_356 : decode code 356 = .ok (.iaload, 1) := by decide +kernel
theorem dl_357 : decode code 357 = .ok (.aload_n 3, 1) := by decide +kernel
theorem dl_358 : decode code 358 = .ok (.invokestatic 38, 3) := by decide +kernel
theorem dl_361 : decode code 361 = .ok (.istore 5, 2) := by decide +kernel
theorem dl_363 : decode code 363 = .ok (.aload_n 2, 1) := by decide +kernel
theorem dl_364 : decode code 364 = .ok (.aload_n 0, 1) := by decide +kernel
theorem dl_365 : decode code 365 = .ok (.iload 4, 2) := by decide +kernel
theorem dl_367 : decode code 367 = .ok (.iconst 1, 1) := by decide +kernel
theorem dl_368 : decode code 368 = .ok (.iadd, 1) := by decide +kernel
theorem dl_369 : decode code 369 = .ok (.iaload, 1) := by decide +kernel
theorem dl_370 : decode code 370 = .ok (.aload_n 0, 1) := by decide +kernel
theorem dl_371 : decode code 371 = .ok (.iload 4, 2) := by decide +kernel
theorem dl_373 : decode code 373 = .ok (.iconst 2, 1) := by decide +kernel
theorem dl_374 : decode code 374 = .ok (.iadd, 1) := by decide +kernel
theorem dl_375 : decode code 375 = .ok (.iaload, 1) := by decide +kernel
theorem dl_376 : decode code 376 = .ok (.invokevirtual 43, 3) := by decide +kernel
theorem dl_379 : decode code 379 = .ok (.istore 6, 2) := by decide +kernel
theorem dl_381 : decode code 381 = .ok (.aload_n 2, 1) := by decide +kernel
theorem dl_382 : decode code 382 = .ok (.invokevirtual 44, 3) := by decide +kernel
theorem dl_385 : decode code 385 = .ok (.iload 5, 2) := by decide +kernel
theorem dl_387 : decode code 387 = .ok (.if_icmp .eq 5, 3) := by decide +kernel
theorem dl_390 : decode code 390 = .ok (.iconst 0, 1) := by decide +kernel
theorem dl_391 : decode code 391 = .ok (.ireturn, 1) := by decide +kernel
theorem dl_392 : decode code 392 = .ok (.iload 5, 2) := by decide +kernel
theorem dl_394 : decode code 394 = .ok (.ifCond .ne 15, 3) := by decide +kernel
theorem dl_397 : decode code 397 = .ok (.aload_n 3, 1) := by decide +kernel
theorem dl_398 : decode code 398 = .ok (.iconst 0, 1) := by decide +kernel
theorem dl_399 : decode code 399 = .ok (.laload, 1) := by decide +kernel
theorem dl_400 : decode code 400 = .ok (.iload 6, 2) := by decide +kernel
theorem dl_402 : decode code 402 = .ok (.i2l, 1) := by decide +kernel
theorem dl_403 : decode code 403 = .ok (.lcmp, 1) := by decide +kernel
theorem dl_404 : decode code 404 = .ok (.ifCond .eq 5, 3) := by decide +kernel
theorem dl_407 : decode code 407 = .ok (.iconst 0, 1) := by decide +kernel
theorem dl_408 : decode code 408 = .ok (.ireturn, 1) := by decide +kernel
theorem dl_409 : decode code 409 = .ok (.goto 867, 3) := by decide +kernel
theorem dl_412 : decode code 412 = .ok (.aload_n 1, 1) := by decide +kernel
theorem dl_413 : decode code 413 = .ok (.aload_n 0, 1) := by decide +kernel
theorem dl_414 : decode code 414 = .ok (.iload 4, 2) := by decide +kernel
theorem dl_416 : decode code 416 = .ok (.iconst 1, 1) := by decide +kernel
theorem dl_417 : decode code 417 = .ok (.iadd, 1) := by decide +kernel
theorem dl_418 : decode code 418 = .ok (.iaload, 1) := by decide +kernel
theorem dl_419 : decode code 419 = .ok (.aload_n 0, 1) := by decide +kernel
theorem dl_420 : decode code 420 = .ok (.iload 4, 2) := by decide +kernel
theorem dl_422 : decode code 422 = .ok (.iconst 2, 1) := by decide +kernel
theorem dl_423 : decode code 423 = .ok (.iadd, 1) := by decide +kernel
theorem dl_424 : decode code 424 = .ok (.iaload, 1) := by decide +kernel
theorem dl_425 : decode code 425 = .ok (.invokevirtual 47, 3) := by decide +kernel
theorem dl_428 : decode code 428 = .ok (.aload_n 2, 1) := by decide +kernel
theorem dl_429 : decode code 429 = .ok (.aload_n 0, 1) := by decide +kernel
theorem dl_430 : decode code 430 = .ok (.iload 4, 2) := by decide +kernel
theorem dl_432 : decode code 432 = .ok (.iconst 1, 1) := by decide +kernel
theorem dl_433 : decode code 433 = .ok (.iadd, 1) := by decide +kernel
theorem dl_434 : decode code 434 = .ok (.iaload, 1) := by decide +kernel
theorem dl_435 : decode code 435 = .ok (.aload_n 0, 1) := by decide +kernel
theorem dl_436 : decode code 436 = .ok (.iload 4, 2) := by decide +kernel
theorem dl_438 : decode code 438 = .ok (.iconst 2, 1) := by decide +kernel
theorem dl_439 : decode code 439 = .ok (.iadd, 1) := by decide +kernel
theorem dl_440 : decode code 440 = .ok (.iaload, 1) := by decide +kernel
theorem dl_441 : decode code 441 = .ok (.invokevirtual 50, 3) := by decide +kernel
theorem dl_444 : decode code 444 = .ok (.if_icmp .eq 832, 3) := by decide +kernel
theorem dl_447 : decode code 447 = .ok (.iconst 0, 1) := by decide +kernel
theorem dl_448 : decode code 448 = .ok (.ireturn, 1) := by decide +kernel
theorem dl_449 : decode code 449 = .ok (.aload_n 1, 1) := by decide +kernel
theorem dl_450 : decode code 450 = .ok (.aload_n 0, 1) := by decide +kernel
theorem dl_451 : decode code 451 = .ok (.iload 4, 2) := by decide +kernel
theorem dl_453 : decode code 453 = .ok (.iconst 1, 1) := by decide +kernel
theorem dl_454 : decode code 454 = .ok (.iadd, 1) := by decide +kernel
theorem dl_455 : decode code 455 = .ok (.iaload, 1) := by decide +kernel
theorem dl_456 : decode code 456 = .ok (.invokevirtual 51, 3) := by decide +kernel
theorem dl_459 : decode code 459 = .ok (.aload_n 2, 1) := by decide +kernel
theorem dl_460 : decode code 460 = .ok (.aload_n 0, 1) := by decide +kernel
theorem dl_461 : decode code 461 = .ok (.iload 4, 2) := by decide +kernel
theorem dl_463 : decode code 463 = .ok (.iconst 1, 1) := by decide +kernel
theorem dl_464 : decode code 464 = .ok (.iadd, 1) := by decide +kernel
theorem dl_465 : decode code 465 = .ok (.iaload, 1) := by decide +kernel
theorem dl_466 : decode code 466 = .ok (.invokevirtual 55, 3) := by decide +kernel
theorem dl_469 : decode code 469 = .ok (.if_icmp .eq 807, 3) := by decide +kernel
theorem dl_472 : decode code 472 = .ok (.iconst 0, 1) := by decide +kernel
theorem dl_473 : decode code 473 = .ok (.ireturn, 1) := by decide +kernel
theorem dl_474 : decode code 474 = .ok (.aload_n 1, 1) := by decide +kernel
theorem dl_475 : decode code 475 = .ok (.aload_n 0, 1) := by decide +kernel
theorem dl_476 : decode code 476 = .ok (.iload 4, 2) := by decide +kernel
theorem dl_478 : decode code 478 = .ok (.iconst 1, 1) := by decide +kernel
theorem dl_479 : decode code 479 = .ok (.iadd, 1) := by decide +kernel
theorem dl_480 : decode code 480 = .ok (.iaload, 1) := by decide +kernel
theorem dl_481 : decode code 481 = .ok (.invokevirtual 56, 3) := by decide +kernel
theorem dl_484 : decode code 484 = .ok (.aload_n 2, 1) := by decide +kernel
theorem dl_485 : decode code 485 = .ok (.aload_n 0, 1) := by decide +kernel
theorem dl_486 : decode code 486 = .ok (.iload 4, 2) := by decide +kernel
theorem dl_488 : decode code 488 = .ok (.iconst 1, 1) := by decide +kernel
theorem dl_489 : decode code 489 = .ok (.iadd, 1) := by decide +kernel
theorem dl_490 : decode code 490 = .ok (.iaload, 1) := by decide +kernel
theorem dl_491 : decode code 491 = .ok (.invokevirtual 59, 3) := by decide +kernel
theorem dl_494 : decode code 494 = .ok (.if_icmp .eq 782, 3) := by decide +kernel
theorem dl_497 : decode code 497 = .ok (.iconst 0, 1) := by decide +kernel
theorem dl_498 : decode code 498 = .ok (.ireturn, 1) := by decide +kernel
theorem dl_499 : decode code 499 = .ok (.aload_n 1, 1) := by decide +kernel
theorem dl_500 : decode code 500 = .ok (.invokevirtual 60, 3) := by decide +kernel
theorem dl_503 : decode code 503 = .ok (.aload_n 2, 1) := by decide +kernel
theorem dl_504 : decode code 504 = .ok (.invokevirtual 63, 3) := by decide +kernel
theorem dl_507 : decode code 507 = .ok (.if_icmp .eq 769, 3) := by decide +kernel
theorem dl_510 : decode code 510 = .ok (.iconst 0, 1) := by decide +kernel
theorem dl_511 : decode code 511 = .ok (.ireturn, 1) := by decide +kernel
theorem dl_512 : decode code 512 = .ok (.aload_n 1, 1) := by decide +kernel
theorem dl_513 : decode code 513 = .ok (.invokevirtual 64, 3) := by decide +kernel
theorem dl_516 : decode code 516 = .ok (.aload_n 2, 1) := by decide +kernel
theorem dl_517 : decode code 517 = .ok (.invokevirtual 67, 3) := by decide +kernel
theorem dl_520 : decode code 520 = .ok (.if_icmp .eq 756, 3) := by decide +kernel
theorem dl_523 : decode code 523 = .ok (.iconst 0, 1) := by decide +kernel
theorem dl_524 : decode code 524 = .ok (.ireturn, 1) := by decide +kernel
theorem dl_525 : decode code 525 = .ok (.aload_n 1, 1) := by decide +kernel
theorem dl_526 : decode code 526 = .ok (.invokevirtual 68, 3) := by decide +kernel
theorem dl_529 : decode code 529 = .ok (.aload_n 2, 1) := by decide +kernel
theorem dl_530 : decode code 530 = .ok (.invokevirtual 71, 3) := by decide +kernel
theorem dl_533 : decode code 533 = .ok (.if_icmp .eq 743, 3) := by decide +kernel
theorem dl_536 : decode code 536 = .ok (.iconst 0, 1) := by decide +kernel
theorem dl_537 : decode code 537 = .ok (.ireturn, 1) := by decide +kernel
theorem dl_538 : decode code 538 = .ok (.aload_n 1, 1) := by decide +kernel
theorem dl_539 : decode code 539 = .ok (.aload_n 0, 1) := by decide +kernel
theorem dl_540 : decode code 540 = .ok (.iload 4, 2) := by decide +kernel
theorem dl_542 : decode code 542 = .ok (.iconst 1, 1) := by decide +kernel
theorem dl_543 : decode code 543 = .ok (.iadd, 1) := by decide +kernel
theorem dl_544 : decode code 544 = .ok (.iaload, 1) := by decide +kernel
theorem dl_545 : decode code 545 = .ok (.invokevirtual 72, 3) := by decide +kernel
theorem dl_548 : decode code 548 = .ok (.aload_n 2, 1) := by decide +kernel
theorem dl_549 : decode code 549 = .ok (.aload_n 0, 1) := by decide +kernel
theorem dl_550 : decode code 550 = .ok (.iload 4, 2) := by decide +kernel
theorem dl_552 : decode code 552 = .ok (.iconst 1, 1) := by decide +kernel
theorem dl_553 : decode code 553 = .ok (.iadd, 1) := by decide +kernel
theorem dl_554 : decode code 554 = .ok (.iaload, 1) := by decide +kernel
theorem dl_555 : decode code 555 = .ok (.invokevirtual 75, 3) := by decide +kernel
theorem dl_558 : decode code 558 = .ok (.if_icmp .eq 718, 3) := by decide +kernel
theorem dl_561 : decode code 561 = .ok (.iconst 0, 1) := by decide +kernel
theorem dl_562 : decode code 562 = .ok (.ireturn, 1) := by decide +kernel
theorem dl_563 : decode code 563 = .ok (.aload_n 1, 1) := by decide +kernel
theorem dl_564 : decode code 564 = .ok (.aload_n 0, 1) := by decide +kernel
theorem dl_565 : decode code 565 = .ok (.iload 4, 2) := by decide +kernel
theorem dl_567 : decode code 567 = .ok (.iconst 1, 1) := by decide +kernel
theorem dl_568 : decode code 568 = .ok (.iadd, 1) := by decide +kernel
theorem dl_569 : decode code 569 = .ok (.iaload, 1) := by decide +kernel
theorem dl_570 : decode code 570 = .ok (.invokevirtual 76, 3) := by decide +kernel
theorem dl_573 : decode code 573 = .ok (.aload_n 2, 1) := by decide +kernel
theorem dl_574 : decode code 574 = .ok (.aload_n 0, 1) := by decide +kernel
theorem dl_575 : decode code 575 = .ok (.iload 4, 2) := by decide +kernel
theorem dl_577 : decode code 577 = .ok (.iconst 1, 1) := by decide +kernel
theorem dl_578 : decode code 578 = .ok (.iadd, 1) := by decide +kernel
theorem dl_579 : decode code 579 = .ok (.iaload, 1) := by decide +kernel
theorem dl_580 : decode code 580 = .ok (.invokevirtual 79, 3) := by decide +kernel
theorem dl_583 : decode code 583 = .ok (.if_icmp .eq 693, 3) := by decide +kernel
theorem dl_586 : decode code 586 = .ok (.iconst 0, 1) := by decide +kernel
theorem dl_587 : decode code 587 = .ok (.ireturn, 1) := by decide +kernel
theorem dl_588 : decode code 588 = .ok (.aload_n 1, 1) := by decide +kernel
theorem dl_589 : decode code 589 = .ok (.aload_n 0, 1) := by decide +kernel
theorem dl_590 : decode code 590 = .ok (.iload 4, 2) := by decide +kernel
theorem dl_592 : decode code 592 = .ok (.iconst 1, 1) := by decide +kernel
theorem dl_593 : decode code 593 = .ok (.iadd, 1) := by decide +kernel
theorem dl_594 : decode code 594 = .ok (.iaload, 1) := by decide +kernel
theorem dl_595 : decode code 595 = .ok (.invokevirtual 80, 3) := by decide +kernel
theorem dl_598 : decode code 598 = .ok (.aload_n 2, 1) := by decide +kernel
theorem dl_599 : decode code 599 = .ok (.aload_n 0, 1) := by decide +kernel
theorem dl_600 : decode code 600 = .ok (.iload 4, 2) := by decide +kernel
theorem dl_602 : decode code 602 = .ok (.iconst 1, 1) := by decide +kernel
theorem dl_603 : decode code 603 = .ok (.iadd, 1) := by decide +kernel
theorem dl_604 : decode code 604 = .ok (.iaload, 1) := by decide +kernel
theorem dl_605 : decode code 605 = .ok (.invokevirtual 83, 3) := by decide +kernel
theorem dl_608 : decode code 608 = .ok (.if_icmp .eq 668, 3) := by decide +kernel
theorem dl_611 : decode code 611 = .ok (.iconst 0, 1) := by decide +kernel
theorem dl_612 : decode code 612 = .ok (.ireturn, 1) := by decide +kernel
theorem dl_613 : decode code 613 = .ok (.aload_n 1, 1) := by decide +kernel
theorem dl_614 : decode code 614 = .ok (.aload_n 0, 1) := by decide +kernel
theorem dl_615 : decode code 615 = .ok (.iload 4, 2) := by decide +kernel
theorem dl_617 : decode code 617 = .ok (.iconst 1, 1) := by decide +kernel
theorem dl_618 : decode code 618 = .ok (.iadd, 1) := by decide +kernel
theorem dl_619 : decode code 619 = .ok (.iaload, 1) := by decide +kernel
theorem dl_620 : decode code 620 = .ok (.invokevirtual 84, 3) := by decide +kernel
theorem dl_623 : decode code 623 = .ok (.aload_n 2, 1) := by decide +kernel
theorem dl_624 : decode code 624 = .ok (.aload_n 0, 1) := by decide +kernel
theorem dl_625 : decode code 625 = .ok (.iload 4, 2) := by decide +kernel
theorem dl_627 : decode code 627 = .ok (.iconst 1, 1) := by decide +kernel
theorem dl_628 : decode code 628 = .ok (.iadd, 1) := by decide +kernel
theorem dl_629 : decode code 629 = .ok (.iaload, 1) := by decide +kernel
theorem dl_630 : decode code 630 = .ok (.invokevirtual 87, 3) := by decide +kernel
theorem dl_633 : decode code 633 = .ok (.if_icmp .eq 643, 3) := by decide +kernel
theorem dl_636 : decode code 636 = .ok (.iconst 0, 1) := by decide +kernel
theorem dl_637 : decode code 637 = .ok (.ireturn, 1) := by decide +kernel
theorem dl_638 : decode code 638 = .ok (.aload_n 1, 1) := by decide +kernel
theorem dl_639 : decode code 639 = .ok (.invokevirtual 88, 3) := by decide +kernel
theorem dl_642 : decode code 642 = .ok (.aload_n 2, 1) := by decide +kernel
theorem dl_643 : decode code 643 = .ok (.invokevirtual 91, 3) := by decide +kernel
theorem dl_646 : decode code 646 = .ok (.if_icmp .eq 630, 3) := by decide +kernel
theorem dl_649 : decode code 649 = .ok (.iconst 0, 1) := by decide +kernel
theorem dl_650 : decode code 650 = .ok (.ireturn, 1) := by decide +kernel
theorem dl_651 : decode code 651 = .ok (.aload_n 1, 1) := by decide +kernel
theorem dl_652 : decode code 652 = .ok (.aload_n 0, 1) := by decide +kernel
theorem dl_653 : decode code 653 = .ok (.iload 4, 2) := by decide +kernel
theorem dl_655 : decode code 655 = .ok (.iconst 1, 1) := by decide +kernel
theorem dl_656 : decode code 656 = .ok (.iadd, 1) := by decide +kernel
theorem dl_657 : decode code 657 = .ok (.iaload, 1) := by decide +kernel
theorem dl_658 : decode code 658 = .ok (.aload_n 0, 1) := by decide +kernel
theorem dl_659 : decode code 659 = .ok (.iload 4, 2) := by decide +kernel
theorem dl_661 : decode code 661 = .ok (.iconst 2, 1) := by decide +kernel
theorem dl_662 : decode code 662 = .ok (.iadd, 1) := by decide +kernel
theorem dl_663 : decode code 663 = .ok (.iaload, 1) := by decide +kernel
theorem dl_664 : decode code 664 = .ok (.invokevirtual 92, 3) := by decide +kernel
theorem dl_667 : decode code 667 = .ok (.aload_n 2, 1) := by decide +kernel
theorem dl_668 : decode code 668 = .ok (.aload_n 0, 1) := by decide +kernel
theorem dl_669 : decode code 669 = .ok (.iload 4, 2) := by decide +kernel
theorem dl_671 : decode code 671 = .ok (.iconst 1, 1) := by decide +kernel
theorem dl_672 : decode code 672 = .ok (.iadd, 1) := by decide +kernel
theorem dl_673 : decode code 673 = .ok (.iaload, 1) := by decide +kernel
theorem dl_674 : decode code 674 = .ok (.aload_n 0, 1) := by decide +kernel
theorem dl_675 : decode code 675 = .ok (.iload 4, 2) := by decide +kernel
theorem dl_677 : decode code 677 = .ok (.iconst 2, 1) := by decide +kernel
theorem dl_678 : decode code 678 = .ok (.iadd, 1) := by decide +kernel
theorem dl_679 : decode code 679 = .ok (.iaload, 1) := by decide +kernel
theorem dl_680 : decode code 680 = .ok (.invokevirtual 95, 3) := by decide +kernel
theorem dl_683 : decode code 683 = .ok (.if_icmp .eq 593, 3) := by decide +kernel
theorem dl_686 : decode code 686 = .ok (.iconst 0, 1) := by decide +kernel
theorem dl_687 : decode code 687 = .ok (.ireturn, 1) := by decide +kernel
theorem dl_688 : decode code 688 = .ok (.aload_n 1, 1) := by decide +kernel
theorem dl_689 : decode code 689 = .ok (.aload_n 0, 1) := by decide +kernel
theorem dl_690 : decode code 690 = .ok (.iload 4, 2) := by decide +kernel
theorem dl_692 : decode code 692 = .ok (.iconst 1, 1) := by decide +kernel
theorem dl_693 : decode code 693 = .ok (.iadd, 1) := by decide +kernel
theorem dl_694 : decode code 694 = .ok (.iaload, 1) := by decide +kernel
theorem dl_695 : decode code 695 = .ok (.aload_n 0, 1) := by decide +kernel
theorem dl_696 : decode code 696 = .ok (.iload 4, 2) := by decide +kernel
theorem dl_698 : decode code 698 = .ok (.iconst 2, 1) := by decide +kernel
theorem dl_699 : decode code 699 = .ok (.iadd, 1) := by decide +kernel
theorem dl_700 : decode code 700 = .ok (.iaload, 1) := by decide +kernel
theorem dl_701 : decode code 701 = .ok (.invokevirtual 96, 3) := by decide +kernel
theorem dl_704 : decode code 704 = .ok (.aload_n 2, 1) := by decide +kernel
theorem dl_705 : decode code 705 = .ok (.aload_n 0, 1) := by decide +kernel
theorem dl_706 : decode code 706 = .ok (.iload 4, 2) := by decide +kernel
theorem dl_708 : decode code 708 = .ok (.iconst 1, 1) := by decide +kernel
theorem dl_709 : decode code 709 = .ok (.iadd, 1) := by decide +kernel
theorem dl_710 : decode code 710 = .ok (.iaload, 1) := by decide +kernel
theorem dl_711 : decode code 711 = .ok (.aload_n 0, 1) := by decide +kernel
theorem dl_712 : decode code 712 = .ok (.iload 4, 2) := by decide +kernel
theorem dl_714 : decode code 714 = .ok (.iconst 2, 1) := by decide +kernel
theorem dl_715 : decode code 715 = .ok (.iadd, 1) := by decide +kernel
theorem dl_716 : decode code 716 = .ok (.iaload, 1) := by decide +kernel
theorem dl_717 : decode code 717 = .ok (.invokevirtual 99, 3) := by decide +kernel
theorem dl_720 : decode code 720 = .ok (.if_icmp .eq 556, 3) := by decide +kernel
theorem dl_723 : decode code 723 = .ok (.iconst 0, 1) := by decide +kernel
theorem dl_724 : decode code 724 = .ok (.ireturn, 1) := by decide +kernel
theorem dl_725 : decode code 725 = .ok (.aload_n 1, 1) := by decide +kernel
theorem dl_726 : decode code 726 = .ok (.aload_n 0, 1) := by decide +kernel
theorem dl_727 : decode code 727 = .ok (.iload 4, 2) := by decide +kernel
theorem dl_729 : decode code 729 = .ok (.iconst 1, 1) := by decide +kernel
theorem dl_730 : decode code 730 = .ok (.iadd, 1) := by decide +kernel
theorem dl_731 : decode code 731 = .ok (.iaload, 1) := by decide +kernel
theorem dl_732 : decode code 732 = .ok (.invokevirtual 100, 3) := by decide +kernel
theorem dl_735 : decode code 735 = .ok (.aload_n 2, 1) := by decide +kernel
theorem dl_736 : decode code 736 = .ok (.aload_n 0, 1) := by decide +kernel
theorem dl_737 : decode code 737 = .ok (.iload 4, 2) := by decide +kernel
theorem dl_739 : decode code 739 = .ok (.iconst 1, 1) := by decide +kernel
theorem dl_740 : decode code 740 = .ok (.iadd, 1) := by decide +kernel
theorem dl_741 : decode code 741 = .ok (.iaload, 1) := by decide +kernel
theorem dl_742 : decode code 742 = .ok (.invokevirtual 103, 3) := by decide +kernel
theorem dl_745 : decode code 745 = .ok (.if_icmp .eq 531, 3) := by decide +kernel
theorem dl_748 : decode code 748 = .ok (.iconst 0, 1) := by decide +kernel
theorem dl_749 : decode code 749 = .ok (.ireturn, 1) := by decide +kernel
theorem dl_750 : decode code 750 = .ok (.aload_n 1, 1) := by decide +kernel
theorem dl_751 : decode code 751 = .ok (.aload_n 0, 1) := by decide +kernel
theorem dl_752 : decode code 752 = .ok (.iload 4, 2) := by decide +kernel
theorem dl_754 : decode code 754 = .ok (.iconst 1, 1) := by decide +kernel
theorem dl_755 : decode code 755 = .ok (.iadd, 1) := by decide +kernel
theorem dl_756 : decode code 756 = .ok (.iaload, 1) := by decide +kernel
theorem dl_757 : decode code 757 = .ok (.aload_n 0, 1) := by decide +kernel
theorem dl_758 : decode code 758 = .ok (.iload 4, 2) := by decide +kernel
theorem dl_760 : decode code 760 = .ok (.iconst 2, 1) := by decide +kernel
theorem dl_761 : decode code 761 = .ok (.iadd, 1) := by decide +kernel
theorem dl_762 : decode code 762 = .ok (.iaload, 1) := by decide +kernel
theorem dl_763 : decode code 763 = .ok (.invokevirtual 104, 3) := by decide +kernel
theorem dl_766 : decode code 766 = .ok (.aload_n 2, 1) := by decide +kernel
theorem dl_767 : decode code 767 = .ok (.aload_n 0, 1) := by decide +kernel
theorem dl_768 : decode code 768 = .ok (.iload 4, 2) := by decide +kernel
theorem dl_770 : decode code 770 = .ok (.iconst 1, 1) := by decide +kernel
theorem dl_771 : decode code 771 = .ok (.iadd, 1) := by decide +kernel
theorem dl_772 : decode code 772 = .ok (.iaload, 1) := by decide +kernel
theorem dl_773 : decode code 773 = .ok (.aload_n 0, 1) := by decide +kernel
theorem dl_774 : decode code 774 = .ok (.iload 4, 2) := by decide +kernel
theorem dl_776 : decode code 776 = .ok (.iconst 2, 1) := by decide +kernel
theorem dl_777 : decode code 777 = .ok (.iadd, 1) := by decide +kernel
theorem dl_778 : decode code 778 = .ok (.iaload, 1) := by decide +kernel
theorem dl_779 : decode code 779 = .ok (.invokevirtual 107, 3) := by decide +kernel
theorem dl_782 : decode code 782 = .ok (.if_icmp .eq 494, 3) := by decide +kernel
theorem dl_785 : decode code 785 = .ok (.iconst 0, 1) := by decide +kernel
theorem dl_786 : decode code 786 = .ok (.ireturn, 1) := by decide +kernel
theorem dl_787 : decode code 787 = .ok (.aload_n 1, 1) := by decide +kernel
theorem dl_788 : decode code 788 = .ok (.invokevirtual 108, 3) := by decide +kernel
theorem dl_791 : decode code 791 = .ok (.aload_n 2, 1) := by decide +kernel
theorem dl_792 : decode code 792 = .ok (.invokevirtual 111, 3) := by decide +kernel
theorem dl_795 : decode code 795 = .ok (.if_icmp .eq 481, 3) := by decide +kernel
theorem dl_798 : decode code 798 = .ok (.iconst 0, 1) := by decide +kernel
theorem dl_799 : decode code 799 = .ok (.ireturn, 1) := by decide +kernel
theorem dl_800 : decode code 800 = .ok (.aload_n 1, 1) := by decide +kernel
theorem dl_801 : decode code 801 = .ok (.invokevirtual 112, 3) := by decide +kernel
theorem dl_804 : decode code 804 = .ok (.aload_n 2, 1) := by decide +kernel
theorem dl_805 : decode code 805 = .ok (.invokevirtual 115, 3) := by decide +kernel
theorem dl_808 : decode code 808 = .ok (.if_icmp .eq 468, 3) := by decide +kernel
theorem dl_811 : decode code 811 = .ok (.iconst 0, 1) := by decide +kernel
theorem dl_812 : decode code 812 = .ok (.ireturn, 1) := by decide +kernel
theorem dl_813 : decode code 813 = .ok (.aload_n 1, 1) := by decide +kernel
theorem dl_814 : decode code 814 = .ok (.invokevirtual 116, 3) := by decide +kernel
theorem dl_817 : decode code 817 = .ok (.aload_n 2, 1) := by decide +kernel
theorem dl_818 : decode code 818 = .ok (.invokevirtual 119, 3) := by decide +kernel
theorem dl_821 : decode code 821 = .ok (.if_icmp .eq 455, 3) := by decide +kernel
theorem dl_824 : decode code 824 = .ok (.iconst 0, 1) := by decide +kernel
theorem dl_825 : decode code 825 = .ok (.ireturn, 1) := by decide +kernel
theorem dl_826 : decode code 826 = .ok (.aload_n 1, 1) := by decide +kernel
theorem dl_827 : decode code 827 = .ok (.invokevirtual 120, 3) := by decide +kernel
theorem dl_830 : decode code 830 = .ok (.aload_n 2, 1) := by decide +kernel
theorem dl_831 : decode code 831 = .ok (.invokevirtual 123, 3) := by decide +kernel
theorem dl_834 : decode code 834 = .ok (.if_icmp .eq 442, 3) := by decide +kernel
theorem dl_837 : decode code 837 = .ok (.iconst 0, 1) := by decide +kernel
theorem dl_838 : decode code 838 = .ok (.ireturn, 1) := by decide +kernel
theorem dl_839 : decode code 839 = .ok (.aload_n 1, 1) := by decide +kernel
theorem dl_840 : decode code 840 = .ok (.aload_n 0, 1) := by decide +kernel
theorem dl_841 : decode code 841 = .ok (.iload 4, 2) := by decide +kernel
theorem dl_843 : decode code 843 = .ok (.iconst 1, 1) := by decide +kernel
theorem dl_844 : decode code 844 = .ok (.iadd, 1) := by decide +kernel
theorem dl_845 : decode code 845 = .ok (.iaload, 1) := by decide +kernel
theorem dl_846 : decode code 846 = .ok (.aload_n 0, 1) := by decide +kernel
theorem dl_847 : decode code 847 = .ok (.iload 4, 2) := by decide +kernel
theorem dl_849 : decode code 849 = .ok (.iconst 2, 1) := by decide +kernel
theorem dl_850 : decode code 850 = .ok (.iadd, 1) := by decide +kernel
theorem dl_851 : decode code 851 = .ok (.iaload, 1) := by decide +kernel
theorem dl_852 : decode code 852 = .ok (.invokevirtual 124, 3) := by decide +kernel
theorem dl_855 : decode code 855 = .ok (.aload_n 2, 1) := by decide +kernel
theorem dl_856 : decode code 856 = .ok (.aload_n 0, 1) := by decide +kernel
theorem dl_857 : decode code 857 = .ok (.iload 4, 2) := by decide +kernel
theorem dl_859 : decode code 859 = .ok (.iconst 1, 1) := by decide +kernel
theorem dl_860 : decode code 860 = .ok (.iadd, 1) := by decide +kernel
theorem dl_861 : decode code 861 = .ok (.iaload, 1) := by decide +kernel
theorem dl_862 : decode code 862 = .ok (.aload_n 0, 1) := by decide +kernel
theorem dl_863 : decode code 863 = .ok (.iload 4, 2) := by decide +kernel
theorem dl_865 : decode code 865 = .ok (.iconst 2, 1) := by decide +kernel
theorem dl_866 : decode code 866 = .ok (.iadd, 1) := by decide +kernel
theorem dl_867 : decode code 867 = .ok (.iaload, 1) := by decide +kernel
theorem dl_868 : decode code 868 = .ok (.invokevirtual 127, 3) := by decide +kernel
theorem dl_871 : decode code 871 = .ok (.if_icmp .eq 405, 3) := by decide +kernel
theorem dl_874 : decode code 874 = .ok (.iconst 0, 1) := by decide +kernel
theorem dl_875 : decode code 875 = .ok (.ireturn, 1) := by decide +kernel
theorem dl_876 : decode code 876 = .ok (.aload_n 1, 1) := by decide +kernel
theorem dl_877 : decode code 877 = .ok (.aload_n 0, 1) := by decide +kernel
theorem dl_878 : decode code 878 = .ok (.iload 4, 2) := by decide +kernel
theorem dl_880 : decode code 880 = .ok (.iconst 1, 1) := by decide +kernel
theorem dl_881 : decode code 881 = .ok (.iadd, 1) := by decide +kernel
theorem dl_882 : decode code 882 = .ok (.iaload, 1) := by decide +kernel
theorem dl_883 : decode code 883 = .ok (.invokevirtual 128, 3) := by decide +kernel
theorem dl_886 : decode code 886 = .ok (.aload_n 2, 1) := by decide +kernel
theorem dl_887 : decode code 887 = .ok (.aload_n 0, 1) := by decide +kernel
theorem dl_888 : decode code 888 = .ok (.iload 4, 2) := by decide +kernel
theorem dl_890 : decode code 890 = .ok (.iconst 1, 1) := by decide +kernel
theorem dl_891 : decode code 891 = .ok (.iadd, 1) := by decide +kernel
theorem dl_892 : decode code 892 = .ok (.iaload, 1) := by decide +kernel
theorem dl_893 : decode code 893 = .ok (.invokevirtual 131, 3) := by decide +kernel
theorem dl_896 : decode code 896 = .ok (.if_icmp .eq 380, 3) := by decide +kernel
theorem dl_899 : decode code 899 = .ok (.iconst 0, 1) := by decide +kernel
theorem dl_900 : decode code 900 = .ok (.ireturn, 1) := by decide +kernel
theorem dl_901 : decode code 901 = .ok (.aload_n 1, 1) := by decide +kernel
theorem dl_902 : decode code 902 = .ok (.aload_n 0, 1) := by decide +kernel
theorem dl_903 : decode code 903 = .ok (.iload 4, 2) := by decide +kernel
theorem dl_905 : decode code 905 = .ok (.iconst 1, 1) := by decide +kernel
theorem dl_906 : decode code 906 = .ok (.iadd, 1) := by decide +kernel
theorem dl_907 : decode code 907 = .ok (.iaload, 1) := by decide +kernel
theorem dl_908 : decode code 908 = .ok (.invokevirtual 132, 3) := by decide +kernel
theorem dl_911 : decode code 911 = .ok (.aload_n 2, 1) := by decide +kernel
theorem dl_912 : decode code 912 = .ok (.aload_n 0, 1) := by decide +kernel
theorem dl_913 : decode code 913 = .ok (.iload 4, 2) := by decide +kernel
theorem dl_915 : decode code 915 = .ok (.iconst 1, 1) := by decide +kernel
theorem dl_916 : decode code 916 = .ok (.iadd, 1) := by decide +kernel
theorem dl_917 : decode code 917 = .ok (.iaload, 1) := by decide +kernel
theorem dl_918 : decode code 918 = .ok (.invokevirtual 135, 3) := by decide +kernel
theorem dl_921 : decode code 921 = .ok (.if_icmp .eq 355, 3) := by decide +kernel
theorem dl_924 : decode code 924 = .ok (.iconst 0, 1) := by decide +kernel
theorem dl_925 : decode code 925 = .ok (.ireturn, 1) := by decide +kernel
theorem dl_926 : decode code 926 = .ok (.aload_n 1, 1) := by decide +kernel
theorem dl_927 : decode code 927 = .ok (.aload_n 0, 1) := by decide +kernel
theorem dl_928 : decode code 928 = .ok (.iload 4, 2) := by decide +kernel
theorem dl_930 : decode code 930 = .ok (.iconst 1, 1) := by decide +kernel
theorem dl_931 : decode code 931 = .ok (.iadd, 1) := by decide +kernel
theorem dl_932 : decode code 932 = .ok (.iaload, 1) := by decide +kernel
theorem dl_933 : decode code 933 = .ok (.invokevirtual 136, 3) := by decide +kernel
theorem dl_936 : decode code 936 = .ok (.aload_n 2, 1) := by decide +kernel
theorem dl_937 : decode code 937 = .ok (.aload_n 0, 1) := by decide +kernel
theorem dl_938 : decode code 938 = .ok (.iload 4, 2) := by decide +kernel
theorem dl_940 : decode code 940 = .ok (.iconst 1, 1) := by decide +kernel
theorem dl_941 : decode code 941 = .ok (.iadd, 1) := by decide +kernel
theorem dl_942 : decode code 942 = .ok (.iaload, 1) := by decide +kernel
theorem dl_943 : decode code 943 = .ok (.invokevirtual 139, 3) := by decide +kernel
theorem dl_946 : decode code 946 = .ok (.if_icmp .eq 330, 3) := by decide +kernel
theorem dl_949 : decode code 949 = .ok (.iconst 0, 1) := by decide +kernel
theorem dl_950 : decode code 950 = .ok (.ireturn, 1) := by decide +kernel
theorem dl_951 : decode code 951 = .ok (.aload_n 1, 1) := by decide +kernel
theorem dl_952 : decode code 952 = .ok (.invokevirtual 140, 3) := by decide +kernel
theorem dl_955 : decode code 955 = .ok (.aload_n 2, 1) := by decide +kernel
theorem dl_956 : decode code 956 = .ok (.invokevirtual 143, 3) := by decide +kernel
theorem dl_959 : decode code 959 = .ok (.if_icmp .eq 317, 3) := by decide +kernel
theorem dl_962 : decode code 962 = .ok (.iconst 0, 1) := by decide +kernel
theorem dl_963 : decode code 963 = .ok (.ireturn, 1) := by decide +kernel
theorem dl_964 : decode code 964 = .ok (.aload_n 1, 1) := by decide +kernel
theorem dl_965 : decode code 965 = .ok (.invokevirtual 144, 3) := by decide +kernel
theorem dl_968 : decode code 968 = .ok (.aload_n 2, 1) := by decide +kernel
theorem dl_969 : decode code 969 = .ok (.invokevirtual 147, 3) := by decide +kernel
theorem dl_972 : decode code 972 = .ok (.if_icmp .eq 304, 3) := by decide +kernel
theorem dl_975 : decode code 975 = .ok (.iconst 0, 1) := by decide +kernel
theorem dl_976 : decode code 976 = .ok (.ireturn, 1) := by decide +kernel
theorem dl_977 : decode code 977 = .ok (.aload_n 1, 1) := by decide +kernel
theorem dl_978 : decode code 978 = .ok (.aload_n 0, 1) := by decide +kernel
theorem dl_979 : decode code 979 = .ok (.iload 4, 2) := by decide +kernel
theorem dl_981 : decode code 981 = .ok (.iconst 1, 1) := by decide +kernel
theorem dl_982 : decode code 982 = .ok (.iadd, 1) := by decide +kernel
theorem dl_983 : decode code 983 = .ok (.iaload, 1) := by decide +kernel
theorem dl_984 : decode code 984 = .ok (.invokevirtual 148, 3) := by decide +kernel
theorem dl_987 : decode code 987 = .ok (.aload_n 2, 1) := by decide +kernel
theorem dl_988 : decode code 988 = .ok (.aload_n 0, 1) := by decide +kernel
theorem dl_989 : decode code 989 = .ok (.iload 4, 2) := by decide +kernel
theorem dl_991 : decode code 991 = .ok (.iconst 1, 1) := by decide +kernel
theorem dl_992 : decode code 992 = .ok (.iadd, 1) := by decide +kernel
theorem dl_993 : decode code 993 = .ok (.iaload, 1) := by decide +kernel
theorem dl_994 : decode code 994 = .ok (.invokevirtual 151, 3) := by decide +kernel
theorem dl_997 : decode code 997 = .ok (.if_icmp .eq 279, 3) := by decide +kernel
theorem dl_1000 : decode code 1000 = .ok (.iconst 0, 1) := by decide +kernel
theorem dl_1001 : decode code 1001 = .ok (.ireturn, 1) := by decide +kernel
theorem dl_1002 : decode code 1002 = .ok (.aload_n 1, 1) := by decide +kernel
theorem dl_1003 : decode code 1003 = .ok (.aload_n 0, 1) := by decide +kernel
theorem dl_1004 : decode code 1004 = .ok (.iload 4, 2) := by decide +kernel
theorem dl_1006 : decode code 1006 = .ok (.iconst 1, 1) := by decide +kernel
theorem dl_1007 : decode code 1007 = .ok (.iadd, 1) := by decide +kernel
theorem dl_1008 : decode code 1008 = .ok (.iaload, 1) := by decide +kernel
theorem dl_1009 : decode code 1009 = .ok (.invokevirtual 152, 3) := by decide +kernel
theorem dl_1012 : decode code 1012 = .ok (.aload_n 2, 1) := by decide +kernel
theorem dl_1013 : decode code 1013 = .ok (.aload_n 0, 1) := by decide +kernel
theorem dl_1014 : decode code 1014 = .ok (.iload 4, 2) := by decide +kernel
theorem dl_1016 : decode code 1016 = .ok (.iconst 1, 1) := by decide +kernel
theorem dl_1017 : decode code 1017 = .ok (.iadd, 1) := by decide +kernel
theorem dl_1018 : decode code 1018 = .ok (.iaload, 1) := by decide +kernel
theorem dl_1019 : decode code 1019 = .ok (.invokevirtual 155, 3) := by decide +kernel
theorem dl_1022 : decode code 1022 = .ok (.if_icmp .eq 254, 3) := by decide +kernel
theorem dl_1025 : decode code 1025 = .ok (.iconst 0, 1) := by decide +kernel
theorem dl_1026 : decode code 1026 = .ok (.ireturn, 1) := by decide +kernel
theorem dl_1027 : decode code 1027 = .ok (.aload_n 1, 1) := by decide +kernel
theorem dl_1028 : decode code 1028 = .ok (.aload_n 0, 1) := by decide +kernel
theorem dl_1029 : decode code 1029 = .ok (.iload 4, 2) := by decide +kernel
theorem dl_1031 : decode code 1031 = .ok (.iconst 1, 1) := by decide +kernel
theorem dl_1032 : decode code 1032 = .ok (.iadd, 1) := by decide +kernel
theorem dl_1033 : decode code 1033 = .ok (.iaload, 1) := by decide +kernel
theorem dl_1034 : decode code 1034 = .ok (.aload_n 0, 1) := by decide +kernel
theorem dl_1035 : decode code 1035 = .ok (.iload 4, 2) := by decide +kernel
theorem dl_1037 : decode code 1037 = .ok (.iconst 2, 1) := by decide +kernel
theorem dl_1038 : decode code 1038 = .ok (.iadd, 1) := by decide +kernel
theorem dl_1039 : decode code 1039 = .ok (.iaload, 1) := by decide +kernel
theorem dl_1040 : decode code 1040 = .ok (.invokevirtual 156, 3) := by decide +kernel
theorem dl_1043 : decode code 1043 = .ok (.aload_n 2, 1) := by decide +kernel
theorem dl_1044 : decode code 1044 = .ok (.aload_n 0, 1) := by decide +kernel
theorem dl_1045 : decode code 1045 = .ok (.iload 4, 2) := by decide +kernel
theorem dl_1047 : decode code 1047 = .ok (.iconst 1, 1) := by decide +kernel
theorem dl_1048 : decode code 1048 = .ok (.iadd, 1) := by decide +kernel
theorem dl_1049 : decode code 1049 = .ok (.iaload, 1) := by decide +kernel
theorem dl_1050 : decode code 1050 = .ok (.aload_n 0, 1) := by decide +kernel
theorem dl_1051 : decode code 1051 = .ok (.iload 4, 2) := by decide +kernel
theorem dl_1053 : decode code 1053 = .ok (.iconst 2, 1) := by decide +kernel
theorem dl_1054 : decode code 1054 = .ok (.iadd, 1) := by decide +kernel
theorem dl_1055 : decode code 1055 = .ok (.iaload, 1) := by decide +kernel
theorem dl_1056 : decode code 1056 = .ok (.invokevirtual 159, 3) := by decide +kernel
theorem dl_1059 : decode code 1059 = .ok (.if_icmp .eq 217, 3) := by decide +kernel
theorem dl_1062 : decode code 1062 = .ok (.iconst 0, 1) := by decide +kernel
theorem dl_1063 : decode code 1063 = .ok (.ireturn, 1) := by decide +kernel
theorem dl_1064 : decode code 1064 = .ok (.aload_n 1, 1) := by decide +kernel
theorem dl_1065 : decode code 1065 = .ok (.aload_n 0, 1) := by decide +kernel
theorem dl_1066 : decode code 1066 = .ok (.iload 4, 2) := by decide +kernel
theorem dl_1068 : decode code 1068 = .ok (.iconst 1, 1) := by decide +kernel
theorem dl_1069 : decode code 1069 = .ok (.iadd, 1) := by decide +kernel
theorem dl_1070 : decode code 1070 = .ok (.iaload, 1) := by decide +kernel
theorem dl_1071 : decode code 1071 = .ok (.aload_n 0, 1) := by decide +kernel
theorem dl_1072 : decode code 1072 = .ok (.iload 4, 2) := by decide +kernel
theorem dl_1074 : decode code 1074 = .ok (.iconst 2, 1) := by decide +kernel
theorem dl_1075 : decode code 1075 = .ok (.iadd, 1) := by decide +kernel
theorem dl_1076 : decode code 1076 = .ok (.iaload, 1) := by decide +kernel
theorem dl_1077 : decode code 1077 = .ok (.aload_n 0, 1) := by decide +kernel
theorem dl_1078 : decode code 1078 = .ok (.iload 4, 2) := by decide +kernel
theorem dl_1080 : decode code 1080 = .ok (.iconst 3, 1) := by decide +kernel
theorem dl_1081 : decode code 1081 = .ok (.iadd, 1) := by decide +kernel
theorem dl_1082 : decode code 1082 = .ok (.iaload, 1) := by decide +kernel
theorem dl_1083 : decode code 1083 = .ok (.invokevirtual 160, 3) := by decide +kernel
theorem dl_1086 : decode code 1086 = .ok (.aload_n 2, 1) := by decide +kernel
theorem dl_1087 : decode code 1087 = .ok (.aload_n 0, 1) := by decide +kernel
theorem dl_1088 : decode code 1088 = .ok (.iload 4, 2) := by decide +kernel
theorem dl_1090 : decode code 1090 = .ok (.iconst 1, 1) := by decide +kernel
theorem dl_1091 : decode code 1091 = .ok (.iadd, 1) := by decide +kernel
theorem dl_1092 : decode code 1092 = .ok (.iaload, 1) := by decide +kernel
theorem dl_1093 : decode code 1093 = .ok (.aload_n 0, 1) := by decide +kernel
theorem dl_1094 : decode code 1094 = .ok (.iload 4, 2) := by decide +kernel
theorem dl_1096 : decode code 1096 = .ok (.iconst 2, 1) := by decide +kernel
theorem dl_1097 : decode code 1097 = .ok (.iadd, 1) := by decide +kernel
theorem dl_1098 : decode code 1098 = .ok (.iaload, 1) := by decide +kernel
theorem dl_1099 : decode code 1099 = .ok (.aload_n 0, 1) := by decide +kernel
theorem dl_1100 : decode code 1100 = .ok (.iload 4, 2) := by decide +kernel
theorem dl_1102 : decode code 1102 = .ok (.iconst 3, 1) := by decide +kernel
theorem dl_1103 : decode code 1103 = .ok (.iadd, 1) := by decide +kernel
theorem dl_1104 : decode code 1104 = .ok (.iaload, 1) := by decide +kernel
theorem dl_1105 : decode code 1105 = .ok (.invokevirtual 164, 3) := by decide +kernel
theorem dl_1108 : decode code 1108 = .ok (.if_icmp .eq 168, 3) := by decide +kernel
theorem dl_1111 : decode code 1111 = .ok (.iconst 0, 1) := by decide +kernel
theorem dl_1112 : decode code 1112 = .ok (.ireturn, 1) := by decide +kernel
theorem dl_1113 : decode code 1113 = .ok (.aload_n 1, 1) := by decide +kernel
theorem dl_1114 : decode code 1114 = .ok (.aload_n 0, 1) := by decide +kernel
theorem dl_1115 : decode code 1115 = .ok (.iload 4, 2) := by decide +kernel
theorem dl_1117 : decode code 1117 = .ok (.iconst 1, 1) := by decide +kernel
theorem dl_1118 : decode code 1118 = .ok (.iadd, 1) := by decide +kernel
theorem dl_1119 : decode code 1119 = .ok (.iaload, 1) := by decide +kernel
theorem dl_1120 : decode code 1120 = .ok (.invokevirtual 165, 3) := by decide +kernel
theorem dl_1123 : decode code 1123 = .ok (.aload_n 2, 1) := by decide +kernel
theorem dl_1124 : decode code 1124 = .ok (.aload_n 0, 1) := by decide +kernel
theorem dl_1125 : decode code 1125 = .ok (.iload 4, 2) := by decide +kernel
theorem dl_1127 : decode code 1127 = .ok (.iconst 1, 1) := by decide +kernel
theorem dl_1128 : decode code 1128 = .ok (.iadd, 1) := by decide +kernel
theorem dl_1129 : decode code 1129 = .ok (.iaload, 1) := by decide +kernel
theorem dl_1130 : decode code 1130 = .ok (.invokevirtual 168, 3) := by decide +kernel
theorem dl_1133 : decode code 1133 = .ok (.if_icmp .eq 143, 3) := by decide +kernel
theorem dl_1136 : decode code 1136 = .ok (.iconst 0, 1) := by decide +kernel
theorem dl_1137 : decode code 1137 = .ok (.ireturn, 1) := by decide +kernel
theorem dl_1138 : decode code 1138 = .ok (.aload_n 1, 1) := by decide +kernel
theorem dl_1139 : decode code 1139 = .ok (.aload_n 0, 1) := by decide +kernel
theorem dl_1140 : decode code 1140 = .ok (.iload 4, 2) := by decide +kernel
theorem dl_1142 : decode code 1142 = .ok (.iconst 1, 1) := by decide +kernel
theorem dl_1143 : decode code 1143 = .ok (.iadd, 1) := by decide +kernel
theorem dl_1144 : decode code 1144 = .ok (.iaload, 1) := by decide +kernel
theorem dl_1145 : decode code 1145 = .ok (.invokevirtual 169, 3) := by decide +kernel
theorem dl_1148 : decode code 1148 = .ok (.aload_n 2, 1) := by decide +kernel
theorem dl_1149 : decode code 1149 = .ok (.aload_n 0, 1) := by decide +kernel
theorem dl_1150 : decode code 1150 = .ok (.iload 4, 2) := by decide +kernel
theorem dl_1152 : decode code 1152 = .ok (.iconst 1, 1) := by decide +kernel
theorem dl_1153 : decode code 1153 = .ok (.iadd, 1) := by decide +kernel
theorem dl_1154 : decode code 1154 = .ok (.iaload, 1) := by decide +kernel
theorem dl_1155 : decode code 1155 = .ok (.invokevirtual 172, 3) := by decide +kernel
theorem dl_1158 : decode code 1158 = .ok (.if_icmp .eq 118, 3) := by decide +kernel
theorem dl_1161 : decode code 1161 = .ok (.iconst 0, 1) := by decide +kernel
theorem dl_1162 : decode code 1162 = .ok (.ireturn, 1) := by decide +kernel
theorem dl_1163 : decode code 1163 = .ok (.aload_n 1, 1) := by decide +kernel
theorem dl_1164 : decode code 1164 = .ok (.invokevirtual 173, 3) := by decide +kernel
theorem dl_1167 : decode code 1167 = .ok (.aload_n 2, 1) := by decide +kernel
theorem dl_1168 : decode code 1168 = .ok (.invokevirtual 176, 3) := by decide +kernel
theorem dl_1171 : decode code 1171 = .ok (.if_icmp .eq 105, 3) := by decide +kernel
theorem dl_1174 : decode code 1174 = .ok (.iconst 0, 1) := by decide +kernel
theorem dl_1175 : decode code 1175 = .ok (.ireturn, 1) := by decide +kernel
theorem dl_1176 : decode code 1176 = .ok (.aload_n 1, 1) := by decide +kernel
theorem dl_1177 : decode code 1177 = .ok (.aload_n 0, 1) := by decide +kernel
theorem dl_1178 : decode code 1178 = .ok (.iload 4, 2) := by decide +kernel
theorem dl_1180 : decode code 1180 = .ok (.iconst 1, 1) := by decide +kernel
theorem dl_1181 : decode code 1181 = .ok (.iadd, 1) := by decide +kernel
theorem dl_1182 : decode code 1182 = .ok (.iaload, 1) := by decide +kernel
theorem dl_1183 : decode code 1183 = .ok (.invokevirtual 177, 3) := by decide +kernel
theorem dl_1186 : decode code 1186 = .ok (.aload_n 2, 1) := by decide +kernel
theorem dl_1187 : decode code 1187 = .ok (.aload_n 0, 1) := by decide +kernel
theorem dl_1188 : decode code 1188 = .ok (.iload 4, 2) := by decide +kernel
theorem dl_1190 : decode code 1190 = .ok (.iconst 1, 1) := by decide +kernel
theorem dl_1191 : decode code 1191 = .ok (.iadd, 1) := by decide +kernel
theorem dl_1192 : decode code 1192 = .ok (.iaload, 1) := by decide +kernel
theorem dl_1193 : decode code 1193 = .ok (.invokevirtual 180, 3) := by decide +kernel
theorem dl_1196 : decode code 1196 = .ok (.if_icmp .eq 80, 3) := by decide +kernel
theorem dl_1199 : decode code 1199 = .ok (.iconst 0, 1) := by decide +kernel
theorem dl_1200 : decode code 1200 = .ok (.ireturn, 1) := by decide +kernel
theorem dl_1201 : decode code 1201 = .ok (.aload_n 1, 1) := by decide +kernel
theorem dl_1202 : decode code 1202 = .ok (.aload_n 0, 1) := by decide +kernel
theorem dl_1203 : decode code 1203 = .ok (.iload 4, 2) := by decide +kernel
theorem dl_1205 : decode code 1205 = .ok (.iconst 1, 1) := by decide +kernel
theorem dl_1206 : decode code 1206 = .ok (.iadd, 1) := by decide +kernel
theorem dl_1207 : decode code 1207 = .ok (.iaload, 1) := by decide +kernel
theorem dl_1208 : decode code 1208 = .ok (.invokevirtual 181, 3) := by decide +kernel
theorem dl_1211 : decode code 1211 = .ok (.aload_n 2, 1) := by decide +kernel
theorem dl_1212 : decode code 1212 = .ok (.aload_n 0, 1) := by decide +kernel
theorem dl_1213 : decode code 1213 = .ok (.iload 4, 2) := by decide +kernel
theorem dl_1215 : decode code 1215 = .ok (.iconst 1, 1) := by decide +kernel
theorem dl_1216 : decode code 1216 = .ok (.iadd, 1) := by decide +kernel
theorem dl_1217 : decode code 1217 = .ok (.iaload, 1) := by decide +kernel
theorem dl_1218 : decode code 1218 = .ok (.invokevirtual 184, 3) := by decide +kernel
theorem dl_1221 : decode code 1221 = .ok (.if_icmp .eq 55, 3) := by decide +kernel
theorem dl_1224 : decode code 1224 = .ok (.iconst 0, 1) := by decide +kernel
theorem dl_1225 : decode code 1225 = .ok (.ireturn, 1) := by decide +kernel
theorem dl_1226 : decode code 1226 = .ok (.aload_n 1, 1) := by decide +kernel
theorem dl_1227 : decode code 1227 = .ok (.aload_n 0, 1) := by decide +kernel
theorem dl_1228 : decode code 1228 = .ok (.iload 4, 2) := by decide +kernel
theorem dl_1230 : decode code 1230 = .ok (.iconst 1, 1) := by decide +kernel
theorem dl_1231 : decode code 1231 = .ok (.iadd, 1) := by decide +kernel
theorem dl_1232 : decode code 1232 = .ok (.iaload, 1) := by decide +kernel
theorem dl_1233 : decode code 1233 = .ok (.invokevirtual 185, 3) := by decide +kernel
theorem dl_1236 : decode code 1236 = .ok (.aload_n 2, 1) := by decide +kernel
theorem dl_1237 : decode code 1237 = .ok (.aload_n 0, 1) := by decide +kernel
theorem dl_1238 : decode code 1238 = .ok (.iload 4, 2) := by decide +kernel
theorem dl_1240 : decode code 1240 = .ok (.iconst 1, 1) := by decide +kernel
theorem dl_1241 : decode code 1241 = .ok (.iadd, 1) := by decide +kernel
theorem dl_1242 : decode code 1242 = .ok (.iaload, 1) := by decide +kernel
theorem dl_1243 : decode code 1243 = .ok (.invokevirtual 188, 3) := by decide +kernel
theorem dl_1246 : decode code 1246 = .ok (.if_icmp .eq 30, 3) := by decide +kernel
theorem dl_1249 : decode code 1249 = .ok (.iconst 0, 1) := by decide +kernel
theorem dl_1250 : decode code 1250 = .ok (.ireturn, 1) := by decide +kernel
theorem dl_1251 : decode code 1251 = .ok (.aload_n 1, 1) := by decide +kernel
theorem dl_1252 : decode code 1252 = .ok (.aload_n 0, 1) := by decide +kernel
theorem dl_1253 : decode code 1253 = .ok (.iload 4, 2) := by decide +kernel
theorem dl_1255 : decode code 1255 = .ok (.iconst 1, 1) := by decide +kernel
theorem dl_1256 : decode code 1256 = .ok (.iadd, 1) := by decide +kernel
theorem dl_1257 : decode code 1257 = .ok (.iaload, 1) := by decide +kernel
theorem dl_1258 : decode code 1258 = .ok (.invokevirtual 189, 3) := by decide +kernel
theorem dl_1261 : decode code 1261 = .ok (.aload_n 2, 1) := by decide +kernel
theorem dl_1262 : decode code 1262 = .ok (.aload_n 0, 1) := by decide +kernel
theorem dl_1263 : decode code 1263 = .ok (.iload 4, 2) := by decide +kernel
theorem dl_1265 : decode code 1265 = .ok (.iconst 1, 1) := by decide +kernel
theorem dl_1266 : decode code 1266 = .ok (.iadd, 1) := by decide +kernel
theorem dl_1267 : decode code 1267 = .ok (.iaload, 1) := by decide +kernel
theorem dl_1268 : decode code 1268 = .ok (.invokevirtual 192, 3) := by decide +kernel
theorem dl_1271 : decode code 1271 = .ok (.if_icmp .eq 5, 3) := by decide +kernel
theorem dl_1274 : decode code 1274 = .ok (.iconst 0, 1) := by decide +kernel
theorem dl_1275 : decode code 1275 = .ok (.ireturn, 1) := by decide +kernel
theorem dl_1276 : decode code 1276 = .ok (.iinc 4 6, 3) := by decide +kernel
theorem dl_1279 : decode code 1279 = .ok (.goto (-1256), 3) := by decide +kernel
theorem dl_1282 : decode code 1282 = .ok (.iconst 1, 1) := by decide +kernel
theorem dl_1283 : decode code 1283 = .ok (.ireturn, 1) := by decide +kernel
