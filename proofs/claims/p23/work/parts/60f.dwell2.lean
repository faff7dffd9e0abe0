theorem dL_isWell_311 : decode cL_isWell 311 = .ok (.aload_n 0, 1) := by decide +kernel
theorem dL_isWell_312 : decode cL_isWell 312 = .ok (.iconst 4, 1) := by decide +kernel
theorem dL_isWell_313 : decode cL_isWell 313 = .ok (.invokevirtual 15, 3) := by decide +kernel
theorem dL_isWell_316 : decode cL_isWell 316 = .ok (.if_icmp .ge 48, 3) := by decide +kernel
theorem dL_isWell_319 : decode cL_isWell 319 = .ok (.aload_n 0, 1) := by decide +kernel
theorem dL_isWell_320 : decode cL_isWell 320 = .ok (.iload 13, 2) := by decide +kernel
theorem dL_isWell_322 : decode cL_isWell 322 = .ok (.iconst 1, 1) := by decide +kernel
theorem dL_isWell_323 : decode cL_isWell 323 = .ok (.invokevirtual 36, 3) := by decide +kernel
theorem dL_isWell_326 : decode cL_isWell 326 = .ok (.iload 10, 2) := by decide +kernel
theorem dL_isWell_328 : decode cL_isWell 328 = .ok (.if_icmp .ne 30, 3) := by decide +kernel
theorem dL_isWell_331 : decode cL_isWell 331 = .ok (.aload_n 0, 1) := by decide +kernel
theorem dL_isWell_332 : decode cL_isWell 332 = .ok (.iload 13, 2) := by decide +kernel
theorem dL_isWell_334 : decode cL_isWell 334 = .ok (.iconst 0, 1) := by decide +kernel
theorem dL_isWell_335 : decode cL_isWell 335 = .ok (.invokevirtual 36, 3) := by decide +kernel
theorem dL_isWell_338 : decode cL_isWell 338 = .ok (.ifCond .ne 20, 3) := by decide +kernel
theorem dL_isWell_341 : decode cL_isWell 341 = .ok (.iload 11, 2) := by decide +kernel
theorem dL_isWell_343 : decode cL_isWell 343 = .ok (.iconst 1, 1) := by decide +kernel
theorem dL_isWell_344 : decode cL_isWell 344 = .ok (.aload_n 0, 1) := by decide +kernel
theorem dL_isWell_345 : decode cL_isWell 345 = .ok (.iload 13, 2) := by decide +kernel
theorem dL_isWell_347 : decode cL_isWell 347 = .ok (.iconst 2, 1) := by decide +kernel
theorem dL_isWell_348 : decode cL_isWell 348 = .ok (.invokevirtual 36, 3) := by decide +kernel
theorem dL_isWell_351 : decode cL_isWell 351 = .ok (.ishl, 1) := by decide +kernel
theorem dL_isWell_352 : decode cL_isWell 352 = .ok (.ior, 1) := by decide +kernel
theorem dL_isWell_353 : decode cL_isWell 353 = .ok (.istore 11, 2) := by decide +kernel
theorem dL_isWell_355 : decode cL_isWell 355 = .ok (.iinc 12 1, 3) := by decide +kernel
theorem dL_isWell_358 : decode cL_isWell 358 = .ok (.iinc 13 1, 3) := by decide +kernel
theorem dL_isWell_361 : decode cL_isWell 361 = .ok (.goto (-52), 3) := by decide +kernel
theorem dL_isWell_364 : decode cL_isWell 364 = .ok (.iload_n 2, 1) := by decide +kernel
theorem dL_isWell_365 : decode cL_isWell 365 = .ok (.aload_n 0, 1) := by decide +kernel
theorem dL_isWell_366 : decode cL_isWell 366 = .ok (.iload 10, 2) := by decide +kernel
theorem dL_isWell_368 : decode cL_isWell 368 = .ok (.iconst 2, 1) := by decide +kernel
theorem dL_isWell_369 : decode cL_isWell 369 = .ok (.invokevirtual 42, 3) := by decide +kernel
theorem dL_isWell_372 : decode cL_isWell 372 = .ok (.iadd, 1) := by decide +kernel
theorem dL_isWell_373 : decode cL_isWell 373 = .ok (.istore_n 2, 1) := by decide +kernel
theorem dL_isWell_374 : decode cL_isWell 374 = .ok (.iload 6, 2) := by decide +kernel
theorem dL_isWell_376 : decode cL_isWell 376 = .ok (.aload_n 0, 1) := by decide +kernel
theorem dL_isWell_377 : decode cL_isWell 377 = .ok (.iload 10, 2) := by decide +kernel
theorem dL_isWell_379 : decode cL_isWell 379 = .ok (.iconst 5, 1) := by decide +kernel
theorem dL_isWell_380 : decode cL_isWell 380 = .ok (.invokevirtual 42, 3) := by decide +kernel
theorem dL_isWell_383 : decode cL_isWell 383 = .ok (.iadd, 1) := by decide +kernel
theorem dL_isWell_384 : decode cL_isWell 384 = .ok (.istore 6, 2) := by decide +kernel
theorem dL_isWell_386 : decode cL_isWell 386 = .ok (.iload 5, 2) := by decide +kernel
theorem dL_isWell_388 : decode cL_isWell 388 = .ok (.aload_n 0, 1) := by decide +kernel
theorem dL_isWell_389 : decode cL_isWell 389 = .ok (.iload 10, 2) := by decide +kernel
theorem dL_isWell_391 : decode cL_isWell 391 = .ok (.bipush 6, 2) := by decide +kernel
theorem dL_isWell_393 : decode cL_isWell 393 = .ok (.invokevirtual 42, 3) := by decide +kernel
theorem dL_isWell_396 : decode cL_isWell 396 = .ok (.iadd, 1) := by decide +kernel
theorem dL_isWell_397 : decode cL_isWell 397 = .ok (.istore 5, 2) := by decide +kernel
theorem dL_isWell_399 : decode cL_isWell 399 = .ok (.iload 9, 2) := by decide +kernel
theorem dL_isWell_401 : decode cL_isWell 401 = .ok (.ifCond .eq 58, 3) := by decide +kernel
theorem dL_isWell_404 : decode cL_isWell 404 = .ok (.iload 11, 2) := by decide +kernel
theorem dL_isWell_406 : decode cL_isWell 406 = .ok (.iconst 1, 1) := by decide +kernel
theorem dL_isWell_407 : decode cL_isWell 407 = .ok (.iload 12, 2) := by decide +kernel
theorem dL_isWell_409 : decode cL_isWell 409 = .ok (.ishl, 1) := by decide +kernel
theorem dL_isWell_410 : decode cL_isWell 410 = .ok (.iconst 1, 1) := by decide +kernel
theorem dL_isWell_411 : decode cL_isWell 411 = .ok (.isub, 1) := by decide +kernel
theorem dL_isWell_412 : decode cL_isWell 412 = .ok (.if_icmp .ne 47, 3) := by decide +kernel
theorem dL_isWell_415 : decode cL_isWell 415 = .ok (.iload 12, 2) := by decide +kernel
theorem dL_isWell_417 : decode cL_isWell 417 = .ok (.aload_n 0, 1) := by decide +kernel
theorem dL_isWell_418 : decode cL_isWell 418 = .ok (.iload 10, 2) := by decide +kernel
theorem dL_isWell_420 : decode cL_isWell 420 = .ok (.iconst 3, 1) := by decide +kernel
theorem dL_isWell_421 : decode cL_isWell 421 = .ok (.invokevirtual 42, 3) := by decide +kernel
theorem dL_isWell_424 : decode cL_isWell 424 = .ok (.if_icmp .ne 35, 3) := by decide +kernel
theorem dL_isWell_427 : decode cL_isWell 427 = .ok (.aload_n 0, 1) := by decide +kernel
theorem dL_isWell_428 : decode cL_isWell 428 = .ok (.iload 10, 2) := by decide +kernel
theorem dL_isWell_430 : decode cL_isWell 430 = .ok (.iconst 2, 1) := by decide +kernel
theorem dL_isWell_431 : decode cL_isWell 431 = .ok (.invokevirtual 42, 3) := by decide +kernel
theorem dL_isWell_434 : decode cL_isWell 434 = .ok (.ifCond .lt 25, 3) := by decide +kernel
theorem dL_isWell_437 : decode cL_isWell 437 = .ok (.aload_n 0, 1) := by decide +kernel
theorem dL_isWell_438 : decode cL_isWell 438 = .ok (.iload 10, 2) := by decide +kernel
theorem dL_isWell_440 : decode cL_isWell 440 = .ok (.bipush 6, 2) := by decide +kernel
theorem dL_isWell_442 : decode cL_isWell 442 = .ok (.invokevirtual 42, 3) := by decide +kernel
theorem dL_isWell_445 : decode cL_isWell 445 = .ok (.aload_n 0, 1) := by decide +kernel
theorem dL_isWell_446 : decode cL_isWell 446 = .ok (.iload 10, 2) := by decide +kernel
theorem dL_isWell_448 : decode cL_isWell 448 = .ok (.iconst 5, 1) := by decide +kernel
theorem dL_isWell_449 : decode cL_isWell 449 = .ok (.invokevirtual 42, 3) := by decide +kernel
theorem dL_isWell_452 : decode cL_isWell 452 = .ok (.if_icmp .gt 7, 3) := by decide +kernel
theorem dL_isWell_455 : decode cL_isWell 455 = .ok (.iconst 1, 1) := by decide +kernel
theorem dL_isWell_456 : decode cL_isWell 456 = .ok (.goto 4, 3) := by decide +kernel
theorem dL_isWell_459 : decode cL_isWell 459 = .ok (.iconst 0, 1) := by decide +kernel
theorem dL_isWell_460 : decode cL_isWell 460 = .ok (.istore 9, 2) := by decide +kernel
theorem dL_isWell_462 : decode cL_isWell 462 = .ok (.iinc 10 1, 3) := by decide +kernel
theorem dL_isWell_465 : decode cL_isWell 465 = .ok (.goto (-172), 3) := by decide +kernel
theorem dL_isWell_468 : decode cL_isWell 468 = .ok (.iconst 0, 1) := by decide +kernel
theorem dL_isWell_469 : decode cL_isWell 469 = .ok (.istore 10, 2) := by decide +kernel
theorem dL_isWell_471 : decode cL_isWell 471 = .ok (.iload 10, 2) := by decide +kernel
theorem dL_isWell_473 : decode cL_isWell 473 = .ok (.iconst 4, 1) := by decide +kernel
theorem dL_isWell_474 : decode cL_isWell 474 = .ok (.if_icmp .ge 37, 3) := by decide +kernel
theorem dL_isWell_477 : decode cL_isWell 477 = .ok (.iload 9, 2) := by decide +kernel
theorem dL_isWell_479 : decode cL_isWell 479 = .ok (.ifCond .eq 23, 3) := by decide +kernel
theorem dL_isWell_482 : decode cL_isWell 482 = .ok (.aload 8, 2) := by decide +kernel
theorem dL_isWell_484 : decode cL_isWell 484 = .ok (.iload 10, 2) := by decide +kernel
theorem dL_isWell_486 : decode cL_isWell 486 = .ok (.iaload, 1) := by decide +kernel
theorem dL_isWell_487 : decode cL_isWell 487 = .ok (.aload_n 0, 1) := by decide +kernel
theorem dL_isWell_488 : decode cL_isWell 488 = .ok (.iconst 5, 1) := by decide +kernel
theorem dL_isWell_489 : decode cL_isWell 489 = .ok (.iload 10, 2) := by decide +kernel
theorem dL_isWell_491 : decode cL_isWell 491 = .ok (.iadd, 1) := by decide +kernel
theorem dL_isWell_492 : decode cL_isWell 492 = .ok (.invokevirtual 15, 3) := by decide +kernel
theorem dL_isWell_495 : decode cL_isWell 495 = .ok (.if_icmp .ne 7, 3) := by decide +kernel
theorem dL_isWell_498 : decode cL_isWell 498 = .ok (.iconst 1, 1) := by decide +kernel
theorem dL_isWell_499 : decode cL_isWell 499 = .ok (.goto 4, 3) := by decide +kernel
theorem dL_isWell_502 : decode cL_isWell 502 = .ok (.iconst 0, 1) := by decide +kernel
theorem dL_isWell_503 : decode cL_isWell 503 = .ok (.istore 9, 2) := by decide +kernel
theorem dL_isWell_505 : decode cL_isWell 505 = .ok (.iinc 10 1, 3) := by decide +kernel
theorem dL_isWell_508 : decode cL_isWell 508 = .ok (.goto (-37), 3) := by decide +kernel
theorem dL_isWell_511 : decode cL_isWell 511 = .ok (.iload 9, 2) := by decide +kernel
theorem dL_isWell_513 : decode cL_isWell 513 = .ok (.ifCond .eq 87, 3) := by decide +kernel
theorem dL_isWell_516 : decode cL_isWell 516 = .ok (.iload_n 1, 1) := by decide +kernel
theorem dL_isWell_517 : decode cL_isWell 517 = .ok (.aload_n 0, 1) := by decide +kernel
theorem dL_isWell_518 : decode cL_isWell 518 = .ok (.bipush 10, 2) := by decide +kernel
theorem dL_isWell_520 : decode cL_isWell 520 = .ok (.invokevirtual 15, 3) := by decide +kernel
theorem dL_isWell_523 : decode cL_isWell 523 = .ok (.if_icmp .ne 77, 3) := by decide +kernel
theorem dL_isWell_526 : decode cL_isWell 526 = .ok (.iload_n 2, 1) := by decide +kernel
theorem dL_isWell_527 : decode cL_isWell 527 = .ok (.aload_n 0, 1) := by decide +kernel
theorem dL_isWell_528 : decode cL_isWell 528 = .ok (.bipush 9, 2) := by decide +kernel
theorem dL_isWell_530 : decode cL_isWell 530 = .ok (.invokevirtual 15, 3) := by decide +kernel
theorem dL_isWell_533 : decode cL_isWell 533 = .ok (.if_icmp .ne 67, 3) := by decide +kernel
theorem dL_isWell_536 : decode cL_isWell 536 = .ok (.iload_n 2, 1) := by decide +kernel
theorem dL_isWell_537 : decode cL_isWell 537 = .ok (.iload_n 1, 1) := by decide +kernel
theorem dL_isWell_538 : decode cL_isWell 538 = .ok (.iadd, 1) := by decide +kernel
theorem dL_isWell_539 : decode cL_isWell 539 = .ok (.aload_n 0, 1) := by decide +kernel
theorem dL_isWell_540 : decode cL_isWell 540 = .ok (.bipush 11, 2) := by decide +kernel
theorem dL_isWell_542 : decode cL_isWell 542 = .ok (.invokevirtual 15, 3) := by decide +kernel
theorem dL_isWell_545 : decode cL_isWell 545 = .ok (.iadd, 1) := by decide +kernel
theorem dL_isWell_546 : decode cL_isWell 546 = .ok (.bipush 48, 2) := by decide +kernel
theorem dL_isWell_548 : decode cL_isWell 548 = .ok (.aload_n 0, 1) := by decide +kernel
theorem dL_isWell_549 : decode cL_isWell 549 = .ok (.bipush 12, 2) := by decide +kernel
theorem dL_isWell_551 : decode cL_isWell 551 = .ok (.invokevirtual 15, 3) := by decide +kernel
theorem dL_isWell_554 : decode cL_isWell 554 = .ok (.iadd, 1) := by decide +kernel
theorem dL_isWell_555 : decode cL_isWell 555 = .ok (.if_icmp .ne 45, 3) := by decide +kernel
theorem dL_isWell_558 : decode cL_isWell 558 = .ok (.iload_n 3, 1) := by decide +kernel
theorem dL_isWell_559 : decode cL_isWell 559 = .ok (.aload_n 0, 1) := by decide +kernel
theorem dL_isWell_560 : decode cL_isWell 560 = .ok (.bipush 13, 2) := by decide +kernel
theorem dL_isWell_562 : decode cL_isWell 562 = .ok (.invokevirtual 15, 3) := by decide +kernel
theorem dL_isWell_565 : decode cL_isWell 565 = .ok (.if_icmp .ne 35, 3) := by decide +kernel
theorem dL_isWell_568 : decode cL_isWell 568 = .ok (.iload 4, 2) := by decide +kernel
theorem dL_isWell_570 : decode cL_isWell 570 = .ok (.aload_n 0, 1) := by decide +kernel
theorem dL_isWell_571 : decode cL_isWell 571 = .ok (.bipush 14, 2) := by decide +kernel
theorem dL_isWell_573 : decode cL_isWell 573 = .ok (.invokevirtual 15, 3) := by decide +kernel
theorem dL_isWell_576 : decode cL_isWell 576 = .ok (.if_icmp .ne 24, 3) := by decide +kernel
theorem dL_isWell_579 : decode cL_isWell 579 = .ok (.iload 5, 2) := by decide +kernel
theorem dL_isWell_581 : decode cL_isWell 581 = .ok (.iload 4, 2) := by decide +kernel
theorem dL_isWell_583 : decode cL_isWell 583 = .ok (.if_icmp .ne 17, 3) := by decide +kernel
theorem dL_isWell_586 : decode cL_isWell 586 = .ok (.iload 6, 2) := by decide +kernel
theorem dL_isWell_588 : decode cL_isWell 588 = .ok (.iload 7, 2) := by decide +kernel
theorem dL_isWell_590 : decode cL_isWell 590 = .ok (.iload 4, 2) := by decide +kernel
theorem dL_isWell_592 : decode cL_isWell 592 = .ok (.iadd, 1) := by decide +kernel
theorem dL_isWell_593 : decode cL_isWell 593 = .ok (.if_icmp .ne 7, 3) := by decide +kernel
theorem dL_isWell_596 : decode cL_isWell 596 = .ok (.iconst 1, 1) := by decide +kernel
theorem dL_isWell_597 : decode cL_isWell 597 = .ok (.goto 4, 3) := by decide +kernel
theorem dL_isWell_600 : decode cL_isWell 600 = .ok (.iconst 0, 1) := by decide +kernel
theorem dL_isWell_601 : decode cL_isWell 601 = .ok (.ireturn, 1) := by decide +kernel
theorem ggL_isWell_X6_count : GoodIn wsL_isWell wsX6_count := goodIn_r _ [6, 7, 8, 9, 10, 11, 12, 13, 14, 15, 16, 17, 18, 19, 20, 21, 22, 23, 24, 25, 26, 27, 28, 29, 30, 31, 32, 33, 34, 35, 36, 37, 38, 39, 40, 41, 42, 43, 44, 45, 46, 47, 48, 49, 50, 51, 52, 53, 54, 114, 115, 116, 117, 118, 119, 120, 121, 122, 123, 124, 125, 126, 127, 128, 129, 130, 131, 132, 133, 134, 135, 136, 137, 138, 139, 140, 141, 142, 143, 144, 145, 146, 147, 148, 149, 150] (by decide +kernel) (by decide +kernel)
theorem gL_isWell_X6_count : GoodIn wsL_isWell (wsV RL 15 RX6 yX6_count wsX6_count) := goodIn_app (goodIn_of _ (by decide +kernel)) ggL_isWell_X6_count
theorem ggL_isWell_X6_person : GoodIn wsL_isWell wsX6_person := goodIn_r _ [58, 7, 59, 60, 61, 62, 63, 64, 65, 66, 67, 68, 18, 69, 70, 20, 71, 72, 73, 74, 75, 76, 77, 78, 79, 80, 81, 82, 83, 84, 85, 86, 87, 88, 89, 90, 26, 91, 92, 93, 94, 95, 96, 97, 114, 115, 116, 117, 118, 119, 127, 128, 129, 130, 131, 132, 133, 134, 135, 136, 137, 138, 120, 121, 122, 123, 124, 125, 126, 139, 140, 141, 142, 143, 144, 145, 151, 152] (by decide +kernel) (by decide +kernel)
theorem gL_isWell_X6_person : GoodIn wsL_isWell (wsV RL 36 RX6 yX6_person wsX6_person) := goodIn_app (goodIn_of _ (by decide +kernel)) ggL_isWell_X6_person
theorem ggL_isWell_X6_windowOf : GoodIn wsL_isWell wsX6_windowOf := goodIn_r _ [101, 7, 102, 103, 104, 105, 106, 107, 108, 109, 88, 89, 18, 90, 26, 110, 111, 112, 94, 113, 96, 114, 115, 116, 117, 118, 119, 139, 140, 141, 142, 143, 144, 145, 120, 121, 122, 123, 124, 125, 126, 151, 152] (by decide +kernel) (by decide +kernel)
theorem gL_isWell_X6_windowOf : GoodIn wsL_isWell (wsV RL 42 RX6 yX6_windowOf wsX6_windowOf) := goodIn_app (goodIn_of _ (by decide +kernel)) ggL_isWell_X6_windowOf
