theorem dL_law_0 : decode cL_law 0 = .ok (.new 8, 3) := by decide +kernel
theorem dL_law_3 : decode cL_law 3 = .ok (.dup, 1) := by decide +kernel
theorem dL_law_4 : decode cL_law 4 = .ok (.invokespecial 200, 3) := by decide +kernel
theorem dL_law_7 : decode cL_law 7 = .ok (.astore_n 1, 1) := by decide +kernel
theorem dL_law_8 : decode cL_law 8 = .ok (.new 201, 3) := by decide +kernel
theorem dL_law_11 : decode cL_law 11 = .ok (.dup, 1) := by decide +kernel
theorem dL_law_12 : decode cL_law 12 = .ok (.invokespecial 203, 3) := by decide +kernel
theorem dL_law_15 : decode cL_law 15 = .ok (.astore_n 2, 1) := by decide +kernel
theorem dL_law_16 : decode cL_law 16 = .ok (.iconst 1, 1) := by decide +kernel
theorem dL_law_17 : decode cL_law 17 = .ok (.newarray .long, 2) := by decide +kernel
theorem dL_law_19 : decode cL_law 19 = .ok (.astore_n 3, 1) := by decide +kernel
theorem dL_law_20 : decode cL_law 20 = .ok (.iconst 1, 1) := by decide +kernel
theorem dL_law_21 : decode cL_law 21 = .ok (.newarray .double, 2) := by decide +kernel
theorem dL_law_23 : decode cL_law 23 = .ok (.astore 4, 2) := by decide +kernel
theorem dL_law_25 : decode cL_law 25 = .ok (.iconst 0, 1) := by decide +kernel
theorem dL_law_26 : decode cL_law 26 = .ok (.istore 5, 2) := by decide +kernel
theorem dL_law_28 : decode cL_law 28 = .ok (.iload 5, 2) := by decide +kernel
theorem dL_law_30 : decode cL_law 30 = .ok (.aload_n 0, 1) := by decide +kernel
theorem dL_law_31 : decode cL_law 31 = .ok (.arraylength, 1) := by decide +kernel
theorem dL_law_32 : decode cL_law 32 = .ok (.bipush 6, 2) := by decide +kernel
theorem dL_law_34 : decode cL_law 34 = .ok (.isub, 1) := by decide +kernel
theorem dL_law_35 : decode cL_law 35 = .ok (.if_icmp .gt 3635, 3) := by decide +kernel
theorem dL_law_38 : decode cL_law 38 = .ok (.aload_n 0, 1) := by decide +kernel
theorem dL_law_39 : decode cL_law 39 = .ok (.iload 5, 2) := by decide +kernel
theorem dL_law_41 : decode cL_law 41 = .ok (.iaload, 1) := by decide +kernel
theorem dL_law_42 : decode cL_law 42 = .ok (.bipush 63, 2) := by decide +kernel
theorem dL_law_44 : decode cL_law 44 = .ok (.iand, 1) := by decide +kernel
theorem dL_law_45 : decode cL_law 45 = .ok (.tableswitch 3619 0 63 #[271, 344, 400, 413, 426, 439, 483, 527, 583, 639, 695, 758, 802, 865, 921, 984, 1028, 1103, 1159, 1215, 1283, 1339, 1383, 1439, 1495, 1539, 1583, 1634, 1678, 1746, 1821, 1877, 1933, 1989, 2033, 2099, 2164, 2227, 2271, 2315, 2359, 2403, 2459, 2515, 2559, 2603, 2647, 2691, 2735, 2791, 2847, 2891, 2947, 3003, 3059, 3127, 3202, 3270, 3338, 3394, 3450, 3494, 3507, 3563], 271) := by decide +kernel
theorem dL_law_316 : decode cL_law 316 = .ok (.aload_n 1, 1) := by decide +kernel
theorem dL_law_317 : decode cL_law 317 = .ok (.aload_n 0, 1) := by decide +kernel
theorem dL_law_318 : decode cL_law 318 = .ok (.iload 5, 2) := by decide +kernel
theorem dL_law_320 : decode cL_law 320 = .ok (.iconst 1, 1) := by decide +kernel
theorem dL_law_321 : decode cL_law 321 = .ok (.iadd, 1) := by decide +kernel
theorem dL_law_322 : decode cL_law 322 = .ok (.iaload, 1) := by decide +kernel
theorem dL_law_323 : decode cL_law 323 = .ok (.aload_n 0, 1) := by decide +kernel
theorem dL_law_324 : decode cL_law 324 = .ok (.iload 5, 2) := by decide +kernel
theorem dL_law_326 : decode cL_law 326 = .ok (.iconst 2, 1) := by decide +kernel
theorem dL_law_327 : decode cL_law 327 = .ok (.iadd, 1) := by decide +kernel
theorem dL_law_328 : decode cL_law 328 = .ok (.iaload, 1) := by decide +kernel
theorem dL_law_329 : decode cL_law 329 = .ok (.aload_n 0, 1) := by decide +kernel
theorem dL_law_330 : decode cL_law 330 = .ok (.iload 5, 2) := by decide +kernel
theorem dL_law_332 : decode cL_law 332 = .ok (.iconst 3, 1) := by decide +kernel
theorem dL_law_333 : decode cL_law 333 = .ok (.iadd, 1) := by decide +kernel
theorem dL_law_334 : decode cL_law 334 = .ok (.iaload, 1) := by decide +kernel
theorem dL_law_335 : decode cL_law 335 = .ok (.aload_n 0, 1) := by decide +kernel
theorem dL_law_336 : decode cL_law 336 = .ok (.iload 5, 2) := by decide +kernel
theorem dL_law_338 : decode cL_law 338 = .ok (.iconst 4, 1) := by decide +kernel
theorem dL_law_339 : decode cL_law 339 = .ok (.iadd, 1) := by decide +kernel
theorem dL_law_340 : decode cL_law 340 = .ok (.iaload, 1) := by decide +kernel
theorem dL_law_341 : decode cL_law 341 = .ok (.aload_n 0, 1) := by decide +kernel
theorem dL_law_342 : decode cL_law 342 = .ok (.iload 5, 2) := by decide +kernel
theorem dL_law_344 : decode cL_law 344 = .ok (.iconst 5, 1) := by decide +kernel
theorem dL_law_345 : decode cL_law 345 = .ok (.iadd, 1) := by decide +kernel
theorem dL_law_346 : decode cL_law 346 = .ok (.iaload, 1) := by decide +kernel
theorem dL_law_347 : decode cL_law 347 = .ok (.invokevirtual 204, 3) := by decide +kernel
theorem dL_law_350 : decode cL_law 350 = .ok (.aload_n 2, 1) := by decide +kernel
theorem dL_law_351 : decode cL_law 351 = .ok (.aload_n 0, 1) := by decide +kernel
theorem dL_law_352 : decode cL_law 352 = .ok (.iload 5, 2) := by decide +kernel
theorem dL_law_354 : decode cL_law 354 = .ok (.iconst 1, 1) := by decide +kernel
theorem dL_law_355 : decode cL_law 355 = .ok (.iadd, 1) := by decide +kernel
theorem dL_law_356 : decode cL_law 356 = .ok (.iaload, 1) := by decide +kernel
theorem dL_law_357 : decode cL_law 357 = .ok (.aload_n 0, 1) := by decide +kernel
theorem dL_law_358 : decode cL_law 358 = .ok (.iload 5, 2) := by decide +kernel
theorem dL_law_360 : decode cL_law 360 = .ok (.iconst 2, 1) := by decide +kernel
theorem dL_law_361 : decode cL_law 361 = .ok (.iadd, 1) := by decide +kernel
theorem dL_law_362 : decode cL_law 362 = .ok (.iaload, 1) := by decide +kernel
theorem dL_law_363 : decode cL_law 363 = .ok (.aload_n 0, 1) := by decide +kernel
theorem dL_law_364 : decode cL_law 364 = .ok (.iload 5, 2) := by decide +kernel
theorem dL_law_366 : decode cL_law 366 = .ok (.iconst 3, 1) := by decide +kernel
theorem dL_law_367 : decode cL_law 367 = .ok (.iadd, 1) := by decide +kernel
theorem dL_law_368 : decode cL_law 368 = .ok (.iaload, 1) := by decide +kernel
theorem dL_law_369 : decode cL_law 369 = .ok (.aload_n 0, 1) := by decide +kernel
theorem dL_law_370 : decode cL_law 370 = .ok (.iload 5, 2) := by decide +kernel
theorem dL_law_372 : decode cL_law 372 = .ok (.iconst 4, 1) := by decide +kernel
theorem dL_law_373 : decode cL_law 373 = .ok (.iadd, 1) := by decide +kernel
theorem dL_law_374 : decode cL_law 374 = .ok (.iaload, 1) := by decide +kernel
theorem dL_law_375 : decode cL_law 375 = .ok (.aload_n 0, 1) := by decide +kernel
theorem dL_law_376 : decode cL_law 376 = .ok (.iload 5, 2) := by decide +kernel
theorem dL_law_378 : decode cL_law 378 = .ok (.iconst 5, 1) := by decide +kernel
theorem dL_law_379 : decode cL_law 379 = .ok (.iadd, 1) := by decide +kernel
theorem dL_law_380 : decode cL_law 380 = .ok (.iaload, 1) := by decide +kernel
theorem dL_law_381 : decode cL_law 381 = .ok (.invokevirtual 208, 3) := by decide +kernel
theorem dL_law_384 : decode cL_law 384 = .ok (.if_icmp .eq 3280, 3) := by decide +kernel
theorem dL_law_387 : decode cL_law 387 = .ok (.iconst 0, 1) := by decide +kernel
theorem dL_law_388 : decode cL_law 388 = .ok (.ireturn, 1) := by decide +kernel
theorem dL_law_389 : decode cL_law 389 = .ok (.aload_n 1, 1) := by decide +kernel
theorem dL_law_390 : decode cL_law 390 = .ok (.aload_n 0, 1) := by decide +kernel
theorem dL_law_391 : decode cL_law 391 = .ok (.iload 5, 2) := by decide +kernel
theorem dL_law_393 : decode cL_law 393 = .ok (.iconst 1, 1) := by decide +kernel
theorem dL_law_394 : decode cL_law 394 = .ok (.iadd, 1) := by decide +kernel
theorem dL_law_395 : decode cL_law 395 = .ok (.iaload, 1) := by decide +kernel
theorem dL_law_396 : decode cL_law 396 = .ok (.aload_n 3, 1) := by decide +kernel
theorem dL_law_397 : decode cL_law 397 = .ok (.invokestatic 209, 3) := by decide +kernel
theorem dL_law_400 : decode cL_law 400 = .ok (.istore 6, 2) := by decide +kernel
theorem dL_law_402 : decode cL_law 402 = .ok (.aload_n 2, 1) := by decide +kernel
theorem dL_law_403 : decode cL_law 403 = .ok (.aload_n 0, 1) := by decide +kernel
theorem dL_law_404 : decode cL_law 404 = .ok (.iload 5, 2) := by decide +kernel
theorem dL_law_406 : decode cL_law 406 = .ok (.iconst 1, 1) := by decide +kernel
theorem dL_law_407 : decode cL_law 407 = .ok (.iadd, 1) := by decide +kernel
theorem dL_law_408 : decode cL_law 408 = .ok (.iaload, 1) := by decide +kernel
theorem dL_law_409 : decode cL_law 409 = .ok (.invokevirtual 214, 3) := by decide +kernel
theorem dL_law_412 : decode cL_law 412 = .ok (.istore 7, 2) := by decide +kernel
theorem dL_law_414 : decode cL_law 414 = .ok (.aload_n 2, 1) := by decide +kernel
theorem dL_law_415 : decode cL_law 415 = .ok (.invokevirtual 215, 3) := by decide +kernel
theorem dL_law_418 : decode cL_law 418 = .ok (.iload 6, 2) := by decide +kernel
theorem dL_law_420 : decode cL_law 420 = .ok (.if_icmp .eq 5, 3) := by decide +kernel
theorem dL_law_423 : decode cL_law 423 = .ok (.iconst 0, 1) := by decide +kernel
theorem dL_law_424 : decode cL_law 424 = .ok (.ireturn, 1) := by decide +kernel
theorem dL_law_425 : decode cL_law 425 = .ok (.iload 6, 2) := by decide +kernel
theorem dL_law_427 : decode cL_law 427 = .ok (.ifCond .ne 15, 3) := by decide +kernel
theorem dL_law_430 : decode cL_law 430 = .ok (.aload_n 3, 1) := by decide +kernel
theorem dL_law_431 : decode cL_law 431 = .ok (.iconst 0, 1) := by decide +kernel
theorem dL_law_432 : decode cL_law 432 = .ok (.laload, 1) := by decide +kernel
theorem dL_law_433 : decode cL_law 433 = .ok (.iload 7, 2) := by decide +kernel
theorem dL_law_435 : decode cL_law 435 = .ok (.i2l, 1) := by decide +kernel
theorem dL_law_436 : decode cL_law 436 = .ok (.lcmp, 1) := by decide +kernel
theorem dL_law_437 : decode cL_law 437 = .ok (.ifCond .eq 5, 3) := by decide +kernel
theorem dL_law_440 : decode cL_law 440 = .ok (.iconst 0, 1) := by decide +kernel
theorem dL_law_441 : decode cL_law 441 = .ok (.ireturn, 1) := by decide +kernel
theorem dL_law_442 : decode cL_law 442 = .ok (.goto 3222, 3) := by decide +kernel
theorem dL_law_445 : decode cL_law 445 = .ok (.aload_n 1, 1) := by decide +kernel
theorem dL_law_446 : decode cL_law 446 = .ok (.invokevirtual 218, 3) := by decide +kernel
theorem dL_law_449 : decode cL_law 449 = .ok (.aload_n 2, 1) := by decide +kernel
theorem dL_law_450 : decode cL_law 450 = .ok (.invokevirtual 221, 3) := by decide +kernel
theorem dL_law_453 : decode cL_law 453 = .ok (.if_icmp .eq 3211, 3) := by decide +kernel
theorem dL_law_456 : decode cL_law 456 = .ok (.iconst 0, 1) := by decide +kernel
theorem dL_law_457 : decode cL_law 457 = .ok (.ireturn, 1) := by decide +kernel
theorem dL_law_458 : decode cL_law 458 = .ok (.aload_n 1, 1) := by decide +kernel
theorem dL_law_459 : decode cL_law 459 = .ok (.invokevirtual 222, 3) := by decide +kernel
theorem dL_law_462 : decode cL_law 462 = .ok (.aload_n 2, 1) := by decide +kernel
theorem dL_law_463 : decode cL_law 463 = .ok (.invokevirtual 225, 3) := by decide +kernel
theorem dL_law_466 : decode cL_law 466 = .ok (.if_icmp .eq 3198, 3) := by decide +kernel
theorem dL_law_469 : decode cL_law 469 = .ok (.iconst 0, 1) := by decide +kernel
theorem dL_law_470 : decode cL_law 470 = .ok (.ireturn, 1) := by decide +kernel
theorem dL_law_471 : decode cL_law 471 = .ok (.aload_n 1, 1) := by decide +kernel
theorem dL_law_472 : decode cL_law 472 = .ok (.invokevirtual 226, 3) := by decide +kernel
theorem dL_law_475 : decode cL_law 475 = .ok (.aload_n 2, 1) := by decide +kernel
theorem dL_law_476 : decode cL_law 476 = .ok (.invokevirtual 229, 3) := by decide +kernel
theorem dL_law_479 : decode cL_law 479 = .ok (.if_icmp .eq 3185, 3) := by decide +kernel
theorem dL_law_482 : decode cL_law 482 = .ok (.iconst 0, 1) := by decide +kernel
theorem dL_law_483 : decode cL_law 483 = .ok (.ireturn, 1) := by decide +kernel
theorem dL_law_484 : decode cL_law 484 = .ok (.aload_n 1, 1) := by decide +kernel
theorem dL_law_485 : decode cL_law 485 = .ok (.aload_n 3, 1) := by decide +kernel
theorem dL_law_486 : decode cL_law 486 = .ok (.invokestatic 230, 3) := by decide +kernel
theorem dL_law_489 : decode cL_law 489 = .ok (.istore 6, 2) := by decide +kernel
theorem dL_law_491 : decode cL_law 491 = .ok (.aload_n 2, 1) := by decide +kernel
theorem dL_law_492 : decode cL_law 492 = .ok (.invokevirtual 233, 3) := by decide +kernel
theorem dL_law_495 : decode cL_law 495 = .ok (.istore 7, 2) := by decide +kernel
theorem dL_law_497 : decode cL_law 497 = .ok (.aload_n 2, 1) := by decide +kernel
theorem dL_law_498 : decode cL_law 498 = .ok (.invokevirtual 215, 3) := by decide +kernel
theorem dL_law_501 : decode cL_law 501 = .ok (.iload 6, 2) := by decide +kernel
theorem dL_law_503 : decode cL_law 503 = .ok (.if_icmp .eq 5, 3) := by decide +kernel
theorem dL_law_506 : decode cL_law 506 = .ok (.iconst 0, 1) := by decide +kernel
theorem dL_law_507 : decode cL_law 507 = .ok (.ireturn, 1) := by decide +kernel
theorem dL_law_508 : decode cL_law 508 = .ok (.iload 6, 2) := by decide +kernel
theorem dL_law_510 : decode cL_law 510 = .ok (.ifCond .ne 15, 3) := by decide +kernel
theorem dL_law_513 : decode cL_law 513 = .ok (.aload_n 3, 1) := by decide +kernel
theorem dL_law_514 : decode cL_law 514 = .ok (.iconst 0, 1) := by decide +kernel
theorem dL_law_515 : decode cL_law 515 = .ok (.laload, 1) := by decide +kernel
theorem dL_law_516 : decode cL_law 516 = .ok (.iload 7, 2) := by decide +kernel
theorem dL_law_518 : decode cL_law 518 = .ok (.i2l, 1) := by decide +kernel
theorem dL_law_519 : decode cL_law 519 = .ok (.lcmp, 1) := by decide +kernel
theorem dL_law_520 : decode cL_law 520 = .ok (.ifCond .eq 5, 3) := by decide +kernel
theorem dL_law_523 : decode cL_law 523 = .ok (.iconst 0, 1) := by decide +kernel
theorem dL_law_524 : decode cL_law 524 = .ok (.ireturn, 1) := by decide +kernel
theorem dL_law_525 : decode cL_law 525 = .ok (.goto 3139, 3) := by decide +kernel
theorem dL_law_528 : decode cL_law 528 = .ok (.aload_n 1, 1) := by decide +kernel
theorem dL_law_529 : decode cL_law 529 = .ok (.aload_n 3, 1) := by decide +kernel
theorem dL_law_530 : decode cL_law 530 = .ok (.invokestatic 234, 3) := by decide +kernel
theorem dL_law_533 : decode cL_law 533 = .ok (.istore 6, 2) := by decide +kernel
theorem dL_law_535 : decode cL_law 535 = .ok (.aload_n 2, 1) := by decide +kernel
theorem dL_law_536 : decode cL_law 536 = .ok (.invokevirtual 236, 3) := by decide +kernel
theorem dL_law_539 : decode cL_law 539 = .ok (.istore 7, 2) := by decide +kernel
theorem dL_law_541 : decode cL_law 541 = .ok (.aload_n 2, 1) := by decide +kernel
theorem dL_law_542 : decode cL_law 542 = .ok (.invokevirtual 215, 3) := by decide +kernel
theorem dL_law_545 : decode cL_law 545 = .ok (.iload 6, 2) := by decide +kernel
theorem dL_law_547 : decode cL_law 547 = .ok (.if_icmp .eq 5, 3) := by decide +kernel
theorem dL_law_550 : decode cL_law 550 = .ok (.iconst 0, 1) := by decide +kernel
theorem dL_law_551 : decode cL_law 551 = .ok (.ireturn, 1) := by decide +kernel
theorem dL_law_552 : decode cL_law 552 = .ok (.iload 6, 2) := by decide +kernel
theorem dL_law_554 : decode cL_law 554 = .ok (.ifCond .ne 15, 3) := by decide +kernel
theorem dL_law_557 : decode cL_law 557 = .ok (.aload_n 3, 1) := by decide +kernel
theorem dL_law_558 : decode cL_law 558 = .ok (.iconst 0, 1) := by decide +kernel
theorem dL_law_559 : decode cL_law 559 = .ok (.laload, 1) := by decide +kernel
theorem dL_law_560 : decode cL_law 560 = .ok (.iload 7, 2) := by decide +kernel
theorem dL_law_562 : decode cL_law 562 = .ok (.i2l, 1) := by decide +kernel
theorem dL_law_563 : decode cL_law 563 = .ok (.lcmp, 1) := by decide +kernel
theorem dL_law_564 : decode cL_law 564 = .ok (.ifCond .eq 5, 3) := by decide +kernel
theorem dL_law_567 : decode cL_law 567 = .ok (.iconst 0, 1) := by decide +kernel
theorem dL_law_568 : decode cL_law 568 = .ok (.ireturn, 1) := by decide +kernel
theorem dL_law_569 : decode cL_law 569 = .ok (.goto 3095, 3) := by decide +kernel
theorem dL_law_572 : decode cL_law 572 = .ok (.aload_n 1, 1) := by decide +kernel
theorem dL_law_573 : decode cL_law 573 = .ok (.aload_n 0, 1) := by decide +kernel
theorem dL_law_574 : decode cL_law 574 = .ok (.iload 5, 2) := by decide +kernel
theorem dL_law_576 : decode cL_law 576 = .ok (.iconst 1, 1) := by decide +kernel
theorem dL_law_577 : decode cL_law 577 = .ok (.iadd, 1) := by decide +kernel
theorem dL_law_578 : decode cL_law 578 = .ok (.iaload, 1) := by decide +kernel
theorem dL_law_579 : decode cL_law 579 = .ok (.aload_n 3, 1) := by decide +kernel
theorem dL_law_580 : decode cL_law 580 = .ok (.invokestatic 237, 3) := by decide +kernel
theorem dL_law_583 : decode cL_law 583 = .ok (.istore 6, 2) := by decide +kernel
theorem dL_law_585 : decode cL_law 585 = .ok (.aload_n 2, 1) := by decide +kernel
theorem dL_law_586 : decode cL_law 586 = .ok (.aload_n 0, 1) := by decide +kernel
theorem dL_law_587 : decode cL_law 587 = .ok (.iload 5, 2) := by decide +kernel
theorem dL_law_589 : decode cL_law 589 = .ok (.iconst 1, 1) := by decide +kernel
theorem dL_law_590 : decode cL_law 590 = .ok (.iadd, 1) := by decide +kernel
theorem dL_law_591 : decode cL_law 591 = .ok (.iaload, 1) := by decide +kernel
theorem dL_law_592 : decode cL_law 592 = .ok (.invokevirtual 239, 3) := by decide +kernel
theorem dL_law_595 : decode cL_law 595 = .ok (.istore 7, 2) := by decide +kernel
theorem dL_law_597 : decode cL_law 597 = .ok (.aload_n 2, 1) := by decide +kernel
theorem dL_law_598 : decode cL_law 598 = .ok (.invokevirtual 215, 3) := by decide +kernel
theorem dL_law_601 : decode cL_law 601 = .ok (.iload 6, 2) := by decide +kernel
theorem dL_law_603 : decode cL_law 603 = .ok (.if_icmp .eq 5, 3) := by decide +kernel
theorem dL_law_606 : decode cL_law 606 = .ok (.iconst 0, 1) := by decide +kernel
theorem dL_law_607 : decode cL_law 607 = .ok (.ireturn, 1) := by decide +kernel
theorem dL_law_608 : decode cL_law 608 = .ok (.iload 6, 2) := by decide +kernel
theorem dL_law_610 : decode cL_law 610 = .ok (.ifCond .ne 15, 3) := by decide +kernel
theorem dL_law_613 : decode cL_law 613 = .ok (.aload_n 3, 1) := by decide +kernel
theorem dL_law_614 : decode cL_law 614 = .ok (.iconst 0, 1) := by decide +kernel
theorem dL_law_615 : decode cL_law 615 = .ok (.laload, 1) := by decide +kernel
theorem dL_law_616 : decode cL_law 616 = .ok (.iload 7, 2) := by decide +kernel
theorem dL_law_618 : decode cL_law 618 = .ok (.i2l, 1) := by decide +kernel
theorem dL_law_619 : decode cL_law 619 = .ok (.lcmp, 1) := by decide +kernel
theorem dL_law_620 : decode cL_law 620 = .ok (.ifCond .eq 5, 3) := by decide +kernel
theorem dL_law_623 : decode cL_law 623 = .ok (.iconst 0, 1) := by decide +kernel
theorem dL_law_624 : decode cL_law 624 = .ok (.ireturn, 1) := by decide +kernel
theorem dL_law_625 : decode cL_law 625 = .ok (.goto 3039, 3) := by decide +kernel
theorem dL_law_628 : decode cL_law 628 = .ok (.aload_n 1, 1) := by decide +kernel
theorem dL_law_629 : decode cL_law 629 = .ok (.aload_n 0, 1) := by decide +kernel
theorem dL_law_630 : decode cL_law 630 = .ok (.iload 5, 2) := by decide +kernel
theorem dL_law_632 : decode cL_law 632 = .ok (.iconst 1, 1) := by decide +kernel
theorem dL_law_633 : decode cL_law 633 = .ok (.iadd, 1) := by decide +kernel
theorem dL_law_634 : decode cL_law 634 = .ok (.iaload, 1) := by decide +kernel
theorem dL_law_635 : decode cL_law 635 = .ok (.aload_n 3, 1) := by decide +kernel
theorem dL_law_636 : decode cL_law 636 = .ok (.invokestatic 240, 3) := by decide +kernel
theorem dL_law_639 : decode cL_law 639 = .ok (.istore 6, 2) := by decide +kernel
theorem dL_law_641 : decode cL_law 641 = .ok (.aload_n 2, 1) := by decide +kernel
theorem dL_law_642 : decode cL_law 642 = .ok (.aload_n 0, 1) := by decide +kernel
theorem dL_law_643 : decode cL_law 643 = .ok (.iload 5, 2) := by decide +kernel
theorem dL_law_645 : decode cL_law 645 = .ok (.iconst 1, 1) := by decide +kernel
theorem dL_law_646 : decode cL_law 646 = .ok (.iadd, 1) := by decide +kernel
theorem dL_law_647 : decode cL_law 647 = .ok (.iaload, 1) := by decide +kernel
theorem dL_law_648 : decode cL_law 648 = .ok (.invokevirtual 242, 3) := by decide +kernel
theorem dL_law_651 : decode cL_law 651 = .ok (.istore 7, 2) := by decide +kernel
theorem dL_law_653 : decode cL_law 653 = .ok (.aload_n 2, 1) := by decide +kernel
theorem dL_law_654 : decode cL_law 654 = .ok (.invokevirtual 215, 3) := by decide +kernel
theorem dL_law_657 : decode cL_law 657 = .ok (.iload 6, 2) := by decide +kernel
theorem dL_law_659 : decode cL_law 659 = .ok (.if_icmp .eq 5, 3) := by decide +kernel
theorem dL_law_662 : decode cL_law 662 = .ok (.iconst 0, 1) := by decide +kernel
theorem dL_law_663 : decode cL_law 663 = .ok (.ireturn, 1) := by decide +kernel
theorem dL_law_664 : decode cL_law 664 = .ok (.iload 6, 2) := by decide +kernel
theorem dL_law_666 : decode cL_law 666 = .ok (.ifCond .ne 15, 3) := by decide +kernel
theorem dL_law_669 : decode cL_law 669 = .ok (.aload_n 3, 1) := by decide +kernel
theorem dL_law_670 : decode cL_law 670 = .ok (.iconst 0, 1) := by decide +kernel
theorem dL_law_671 : decode cL_law 671 = .ok (.laload, 1) := by decide +kernel
theorem dL_law_672 : decode cL_law 672 = .ok (.iload 7, 2) := by decide +kernel
theorem dL_law_674 : decode cL_law 674 = .ok (.i2l, 1) := by decide +kernel
theorem dL_law_675 : decode cL_law 675 = .ok (.lcmp, 1) := by decide +kernel
theorem dL_law_676 : decode cL_law 676 = .ok (.ifCond .eq 5, 3) := by decide +kernel
theorem dL_law_679 : decode cL_law 679 = .ok (.iconst 0, 1) := by decide +kernel
theorem dL_law_680 : decode cL_law 680 = .ok (.ireturn, 1) := by decide +kernel
theorem dL_law_681 : decode cL_law 681 = .ok (.goto 2983, 3) := by decide +kernel
theorem dL_law_684 : decode cL_law 684 = .ok (.aload_n 1, 1) := by decide +kernel
theorem dL_law_685 : decode cL_law 685 = .ok (.aload_n 0, 1) := by decide +kernel
theorem dL_law_686 : decode cL_law 686 = .ok (.iload 5, 2) := by decide +kernel
theorem dL_law_688 : decode cL_law 688 = .ok (.iconst 1, 1) := by decide +kernel
theorem dL_law_689 : decode cL_law 689 = .ok (.iadd, 1) := by decide +kernel
theorem dL_law_690 : decode cL_law 690 = .ok (.iaload, 1) := by decide +kernel
theorem dL_law_691 : decode cL_law 691 = .ok (.aload_n 3, 1) := by decide +kernel
theorem dL_law_692 : decode cL_law 692 = .ok (.invokestatic 243, 3) := by decide +kernel
theorem dL_law_695 : decode cL_law 695 = .ok (.istore 6, 2) := by decide +kernel
theorem dL_law_697 : decode cL_law 697 = .ok (.aload_n 2, 1) := by decide +kernel
theorem dL_law_698 : decode cL_law 698 = .ok (.aload_n 0, 1) := by decide +kernel
theorem dL_law_699 : decode cL_law 699 = .ok (.iload 5, 2) := by decide +kernel
theorem dL_law_701 : decode cL_law 701 = .ok (.iconst 1, 1) := by decide +kernel
theorem dL_law_702 : decode cL_law 702 = .ok (.iadd, 1) := by decide +kernel
theorem dL_law_703 : decode cL_law 703 = .ok (.iaload, 1) := by decide +kernel
theorem dL_law_704 : decode cL_law 704 = .ok (.invokevirtual 245, 3) := by decide +kernel
theorem dL_law_707 : decode cL_law 707 = .ok (.istore 7, 2) := by decide +kernel
theorem dL_law_709 : decode cL_law 709 = .ok (.aload_n 2, 1) := by decide +kernel
theorem dL_law_710 : decode cL_law 710 = .ok (.invokevirtual 215, 3) := by decide +kernel
theorem dL_law_713 : decode cL_law 713 = .ok (.iload 6, 2) := by decide +kernel
theorem dL_law_715 : decode cL_law 715 = .ok (.if_icmp .eq 5, 3) := by decide +kernel
theorem dL_law_718 : decode cL_law 718 = .ok (.iconst 0, 1) := by decide +kernel
theorem dL_law_719 : decode cL_law 719 = .ok (.ireturn, 1) := by decide +kernel
theorem dL_law_720 : decode cL_law 720 = .ok (.iload 6, 2) := by decide +kernel
theorem dL_law_722 : decode cL_law 722 = .ok (.ifCond .ne 15, 3) := by decide +kernel
theorem dL_law_725 : decode cL_law 725 = .ok (.aload_n 3, 1) := by decide +kernel
theorem dL_law_726 : decode cL_law 726 = .ok (.iconst 0, 1) := by decide +kernel
theorem dL_law_727 : decode cL_law 727 = .ok (.laload, 1) := by decide +kernel
theorem dL_law_728 : decode cL_law 728 = .ok (.iload 7, 2) := by decide +kernel
theorem dL_law_730 : decode cL_law 730 = .ok (.i2l, 1) := by decide +kernel
theorem dL_law_731 : decode cL_law 731 = .ok (.lcmp, 1) := by decide +kernel
theorem dL_law_732 : decode cL_law 732 = .ok (.ifCond .eq 5, 3) := by decide +kernel
theorem dL_law_735 : decode cL_law 735 = .ok (.iconst 0, 1) := by decide +kernel
theorem dL_law_736 : decode cL_law 736 = .ok (.ireturn, 1) := by decide +kernel
theorem dL_law_737 : decode cL_law 737 = .ok (.goto 2927, 3) := by decide +kernel
theorem dL_law_740 : decode cL_law 740 = .ok (.aload_n 1, 1) := by decide +kernel
theorem dL_law_741 : decode cL_law 741 = .ok (.aload_n 0, 1) := by decide +kernel
theorem dL_law_742 : decode cL_law 742 = .ok (.iload 5, 2) := by decide +kernel
theorem dL_law_744 : decode cL_law 744 = .ok (.iconst 1, 1) := by decide +kernel
theorem dL_law_745 : decode cL_law 745 = .ok (.iadd, 1) := by decide +kernel
theorem dL_law_746 : decode cL_law 746 = .ok (.iaload, 1) := by decide +kernel
theorem dL_law_747 : decode cL_law 747 = .ok (.aload_n 3, 1) := by decide +kernel
theorem dL_law_748 : decode cL_law 748 = .ok (.invokestatic 246, 3) := by decide +kernel
theorem dL_law_751 : decode cL_law 751 = .ok (.istore 6, 2) := by decide +kernel
theorem dL_law_753 : decode cL_law 753 = .ok (.aload_n 2, 1) := by decide +kernel
theorem dL_law_754 : decode cL_law 754 = .ok (.aload_n 0, 1) := by decide +kernel
theorem dL_law_755 : decode cL_law 755 = .ok (.iload 5, 2) := by decide +kernel
theorem dL_law_757 : decode cL_law 757 = .ok (.iconst 1, 1) := by decide +kernel
theorem dL_law_758 : decode cL_law 758 = .ok (.iadd, 1) := by decide +kernel
theorem dL_law_759 : decode cL_law 759 = .ok (.iaload, 1) := by decide +kernel
theorem dL_law_760 : decode cL_law 760 = .ok (.invokevirtual 248, 3) := by decide +kernel
theorem dL_law_763 : decode cL_law 763 = .ok (.istore 7, 2) := by decide +kernel
theorem dL_law_765 : decode cL_law 765 = .ok (.aload_n 2, 1) := by decide +kernel
theorem dL_law_766 : decode cL_law 766 = .ok (.invokevirtual 215, 3) := by decide +kernel
theorem dL_law_769 : decode cL_law 769 = .ok (.iload 6, 2) := by decide +kernel
theorem dL_law_771 : decode cL_law 771 = .ok (.if_icmp .eq 5, 3) := by decide +kernel
theorem dL_law_774 : decode cL_law 774 = .ok (.iconst 0, 1) := by decide +kernel
theorem dL_law_775 : decode cL_law 775 = .ok (.ireturn, 1) := by decide +kernel
theorem dL_law_776 : decode cL_law 776 = .ok (.iload 6, 2) := by decide +kernel
theorem dL_law_778 : decode cL_law 778 = .ok (.ifCond .ne 22, 3) := by decide +kernel
theorem dL_law_781 : decode cL_law 781 = .ok (.aload_n 3, 1) := by decide +kernel
theorem dL_law_782 : decode cL_law 782 = .ok (.iconst 0, 1) := by decide +kernel
theorem dL_law_783 : decode cL_law 783 = .ok (.laload, 1) := by decide +kernel
theorem dL_law_784 : decode cL_law 784 = .ok (.iload 7, 2) := by decide +kernel
theorem dL_law_786 : decode cL_law 786 = .ok (.ifCond .eq 7, 3) := by decide +kernel
theorem dL_law_789 : decode cL_law 789 = .ok (.lconst 1, 1) := by decide +kernel
theorem dL_law_790 : decode cL_law 790 = .ok (.goto 4, 3) := by decide +kernel
theorem dL_law_793 : decode cL_law 793 = .ok (.lconst 0, 1) := by decide +kernel
theorem dL_law_794 : decode cL_law 794 = .ok (.lcmp, 1) := by decide +kernel
theorem dL_law_795 : decode cL_law 795 = .ok (.ifCond .eq 5, 3) := by decide +kernel
theorem dL_law_798 : decode cL_law 798 = .ok (.iconst 0, 1) := by decide +kernel
theorem dL_law_799 : decode cL_law 799 = .ok (.ireturn, 1) := by decide +kernel
theorem dL_law_800 : decode cL_law 800 = .ok (.goto 2864, 3) := by decide +kernel
theorem dL_law_803 : decode cL_law 803 = .ok (.aload_n 1, 1) := by decide +kernel
theorem dL_law_804 : decode cL_law 804 = .ok (.aload_n 3, 1) := by decide +kernel
theorem dL_law_805 : decode cL_law 805 = .ok (.invokestatic 249, 3) := by decide +kernel
theorem dL_law_808 : decode cL_law 808 = .ok (.istore 6, 2) := by decide +kernel
theorem dL_law_810 : decode cL_law 810 = .ok (.aload_n 2, 1) := by decide +kernel
theorem dL_law_811 : decode cL_law 811 = .ok (.invokevirtual 251, 3) := by decide +kernel
theorem dL_law_814 : decode cL_law 814 = .ok (.istore 7, 2) := by decide +kernel
theorem dL_law_816 : decode cL_law 816 = .ok (.aload_n 2, 1) := by decide +kernel
theorem dL_law_817 : decode cL_law 817 = .ok (.invokevirtual 215, 3) := by decide +kernel
theorem dL_law_820 : decode cL_law 820 = .ok (.iload 6, 2) := by decide +kernel
theorem dL_law_822 : decode cL_law 822 = .ok (.if_icmp .eq 5, 3) := by decide +kernel
theorem dL_law_825 : decode cL_law 825 = .ok (.iconst 0, 1) := by decide +kernel
theorem dL_law_826 : decode cL_law 826 = .ok (.ireturn, 1) := by decide +kernel
theorem dL_law_827 : decode cL_law 827 = .ok (.iload 6, 2) := by decide +kernel
theorem dL_law_829 : decode cL_law 829 = .ok (.ifCond .ne 15, 3) := by decide +kernel
theorem dL_law_832 : decode cL_law 832 = .ok (.aload_n 3, 1) := by decide +kernel
theorem dL_law_833 : decode cL_law 833 = .ok (.iconst 0, 1) := by decide +kernel
theorem dL_law_834 : decode cL_law 834 = .ok (.laload, 1) := by decide +kernel
theorem dL_law_835 : decode cL_law 835 = .ok (.iload 7, 2) := by decide +kernel
theorem dL_law_837 : decode cL_law 837 = .ok (.i2l, 1) := by decide +kernel
theorem dL_law_838 : decode cL_law 838 = .ok (.lcmp, 1) := by decide +kernel
theorem dL_law_839 : decode cL_law 839 = .ok (.ifCond .eq 5, 3) := by decide +kernel
theorem dL_law_842 : decode cL_law 842 = .ok (.iconst 0, 1) := by decide +kernel
theorem dL_law_843 : decode cL_law 843 = .ok (.ireturn, 1) := by decide +kernel
theorem dL_law_844 : decode cL_law 844 = .ok (.goto 2820, 3) := by decide +kernel
theorem dL_law_847 : decode cL_law 847 = .ok (.aload_n 1, 1) := by decide +kernel
theorem dL_law_848 : decode cL_law 848 = .ok (.aload_n 0, 1) := by decide +kernel
theorem dL_law_849 : decode cL_law 849 = .ok (.iload 5, 2) := by decide +kernel
theorem dL_law_851 : decode cL_law 851 = .ok (.iconst 1, 1) := by decide +kernel
theorem dL_law_852 : decode cL_law 852 = .ok (.iadd, 1) := by decide +kernel
theorem dL_law_853 : decode cL_law 853 = .ok (.iaload, 1) := by decide +kernel
theorem dL_law_854 : decode cL_law 854 = .ok (.aload_n 3, 1) := by decide +kernel
theorem dL_law_855 : decode cL_law 855 = .ok (.invokestatic 252, 3) := by decide +kernel
theorem dL_law_858 : decode cL_law 858 = .ok (.istore 6, 2) := by decide +kernel
theorem dL_law_860 : decode cL_law 860 = .ok (.aload_n 2, 1) := by decide +kernel
theorem dL_law_861 : decode cL_law 861 = .ok (.aload_n 0, 1) := by decide +kernel
theorem dL_law_862 : decode cL_law 862 = .ok (.iload 5, 2) := by decide +kernel
theorem dL_law_864 : decode cL_law 864 = .ok (.iconst 1, 1) := by decide +kernel
theorem dL_law_865 : decode cL_law 865 = .ok (.iadd, 1) := by decide +kernel
theorem dL_law_866 : decode cL_law 866 = .ok (.iaload, 1) := by decide +kernel
theorem dL_law_867 : decode cL_law 867 = .ok (.invokevirtual 254, 3) := by decide +kernel
theorem dL_law_870 : decode cL_law 870 = .ok (.istore 7, 2) := by decide +kernel
theorem dL_law_872 : decode cL_law 872 = .ok (.aload_n 2, 1) := by decide +kernel
theorem dL_law_873 : decode cL_law 873 = .ok (.invokevirtual 215, 3) := by decide +kernel
theorem dL_law_876 : decode cL_law 876 = .ok (.iload 6, 2) := by decide +kernel
theorem dL_law_878 : decode cL_law 878 = .ok (.if_icmp .eq 5, 3) := by decide +kernel
theorem dL_law_881 : decode cL_law 881 = .ok (.iconst 0, 1) := by decide +kernel
theorem dL_law_882 : decode cL_law 882 = .ok (.ireturn, 1) := by decide +kernel
theorem dL_law_883 : decode cL_law 883 = .ok (.iload 6, 2) := by decide +kernel
theorem dL_law_885 : decode cL_law 885 = .ok (.ifCond .ne 22, 3) := by decide +kernel
theorem dL_law_888 : decode cL_law 888 = .ok (.aload_n 3, 1) := by decide +kernel
theorem dL_law_889 : decode cL_law 889 = .ok (.iconst 0, 1) := by decide +kernel
theorem dL_law_890 : decode cL_law 890 = .ok (.laload, 1) := by decide +kernel
theorem dL_law_891 : decode cL_law 891 = .ok (.iload 7, 2) := by decide +kernel
theorem dL_law_893 : decode cL_law 893 = .ok (.ifCond .eq 7, 3) := by decide +kernel
theorem dL_law_896 : decode cL_law 896 = .ok (.lconst 1, 1) := by decide +kernel
theorem dL_law_897 : decode cL_law 897 = .ok (.goto 4, 3) := by decide +kernel
theorem dL_law_900 : decode cL_law 900 = .ok (.lconst 0, 1) := by decide +kernel
theorem dL_law_901 : decode cL_law 901 = .ok (.lcmp, 1) := by decide +kernel
theorem dL_law_902 : decode cL_law 902 = .ok (.ifCond .eq 5, 3) := by decide +kernel
theorem dL_law_905 : decode cL_law 905 = .ok (.iconst 0, 1) := by decide +kernel
theorem dL_law_906 : decode cL_law 906 = .ok (.ireturn, 1) := by decide +kernel
theorem dL_law_907 : decode cL_law 907 = .ok (.goto 2757, 3) := by decide +kernel
theorem dL_law_910 : decode cL_law 910 = .ok (.aload_n 1, 1) := by decide +kernel
theorem dL_law_911 : decode cL_law 911 = .ok (.aload_n 0, 1) := by decide +kernel
theorem dL_law_912 : decode cL_law 912 = .ok (.iload 5, 2) := by decide +kernel
theorem dL_law_914 : decode cL_law 914 = .ok (.iconst 1, 1) := by decide +kernel
theorem dL_law_915 : decode cL_law 915 = .ok (.iadd, 1) := by decide +kernel
theorem dL_law_916 : decode cL_law 916 = .ok (.iaload, 1) := by decide +kernel
theorem dL_law_917 : decode cL_law 917 = .ok (.aload_n 3, 1) := by decide +kernel
theorem dL_law_918 : decode cL_law 918 = .ok (.invokestatic 255, 3) := by decide +kernel
theorem dL_law_921 : decode cL_law 921 = .ok (.istore 6, 2) := by decide +kernel
theorem dL_law_923 : decode cL_law 923 = .ok (.aload_n 2, 1) := by decide +kernel
theorem dL_law_924 : decode cL_law 924 = .ok (.aload_n 0, 1) := by decide +kernel
theorem dL_law_925 : decode cL_law 925 = .ok (.iload 5, 2) := by decide +kernel
theorem dL_law_927 : decode cL_law 927 = .ok (.iconst 1, 1) := by decide +kernel
theorem dL_law_928 : decode cL_law 928 = .ok (.iadd, 1) := by decide +kernel
theorem dL_law_929 : decode cL_law 929 = .ok (.iaload, 1) := by decide +kernel
theorem dL_law_930 : decode cL_law 930 = .ok (.invokevirtual 257, 3) := by decide +kernel
theorem dL_law_933 : decode cL_law 933 = .ok (.istore 7, 2) := by decide +kernel
theorem dL_law_935 : decode cL_law 935 = .ok (.aload_n 2, 1) := by decide +kernel
theorem dL_law_936 : decode cL_law 936 = .ok (.invokevirtual 215, 3) := by decide +kernel
theorem dL_law_939 : decode cL_law 939 = .ok (.iload 6, 2) := by decide +kernel
theorem dL_law_941 : decode cL_law 941 = .ok (.if_icmp .eq 5, 3) := by decide +kernel
theorem dL_law_944 : decode cL_law 944 = .ok (.iconst 0, 1) := by decide +kernel
theorem dL_law_945 : decode cL_law 945 = .ok (.ireturn, 1) := by decide +kernel
theorem dL_law_946 : decode cL_law 946 = .ok (.iload 6, 2) := by decide +kernel
theorem dL_law_948 : decode cL_law 948 = .ok (.ifCond .ne 15, 3) := by decide +kernel
theorem dL_law_951 : decode cL_law 951 = .ok (.aload_n 3, 1) := by decide +kernel
theorem dL_law_952 : decode cL_law 952 = .ok (.iconst 0, 1) := by decide +kernel
theorem dL_law_953 : decode cL_law 953 = .ok (.laload, 1) := by decide +kernel
theorem dL_law_954 : decode cL_law 954 = .ok (.iload 7, 2) := by decide +kernel
theorem dL_law_956 : decode cL_law 956 = .ok (.i2l, 1) := by decide +kernel
theorem dL_law_957 : decode cL_law 957 = .ok (.lcmp, 1) := by decide +kernel
theorem dL_law_958 : decode cL_law 958 = .ok (.ifCond .eq 5, 3) := by decide +kernel
theorem dL_law_961 : decode cL_law 961 = .ok (.iconst 0, 1) := by decide +kernel
theorem dL_law_962 : decode cL_law 962 = .ok (.ireturn, 1) := by decide +kernel
theorem dL_law_963 : decode cL_law 963 = .ok (.goto 2701, 3) := by decide +kernel
theorem dL_law_966 : decode cL_law 966 = .ok (.aload_n 1, 1) := by decide +kernel
theorem dL_law_967 : decode cL_law 967 = .ok (.aload_n 0, 1) := by decide +kernel
theorem dL_law_968 : decode cL_law 968 = .ok (.iload 5, 2) := by decide +kernel
theorem dL_law_970 : decode cL_law 970 = .ok (.iconst 1, 1) := by decide +kernel
theorem dL_law_971 : decode cL_law 971 = .ok (.iadd, 1) := by decide +kernel
theorem dL_law_972 : decode cL_law 972 = .ok (.iaload, 1) := by decide +kernel
theorem dL_law_973 : decode cL_law 973 = .ok (.aload_n 3, 1) := by decide +kernel
theorem dL_law_974 : decode cL_law 974 = .ok (.invokestatic 258, 3) := by decide +kernel
theorem dL_law_977 : decode cL_law 977 = .ok (.istore 6, 2) := by decide +kernel
theorem dL_law_979 : decode cL_law 979 = .ok (.aload_n 2, 1) := by decide +kernel
theorem dL_law_980 : decode cL_law 980 = .ok (.aload_n 0, 1) := by decide +kernel
theorem dL_law_981 : decode cL_law 981 = .ok (.iload 5, 2) := by decide +kernel
theorem dL_law_983 : decode cL_law 983 = .ok (.iconst 1, 1) := by decide +kernel
theorem dL_law_984 : decode cL_law 984 = .ok (.iadd, 1) := by decide +kernel
theorem dL_law_985 : decode cL_law 985 = .ok (.iaload, 1) := by decide +kernel
theorem dL_law_986 : decode cL_law 986 = .ok (.invokevirtual 260, 3) := by decide +kernel
theorem dL_law_989 : decode cL_law 989 = .ok (.istore 7, 2) := by decide +kernel
theorem dL_law_991 : decode cL_law 991 = .ok (.aload_n 2, 1) := by decide +kernel
theorem dL_law_992 : decode cL_law 992 = .ok (.invokevirtual 215, 3) := by decide +kernel
theorem dL_law_995 : decode cL_law 995 = .ok (.iload 6, 2) := by decide +kernel
theorem dL_law_997 : decode cL_law 997 = .ok (.if_icmp .eq 5, 3) := by decide +kernel
theorem dL_law_1000 : decode cL_law 1000 = .ok (.iconst 0, 1) := by decide +kernel
theorem dL_law_1001 : decode cL_law 1001 = .ok (.ireturn, 1) := by decide +kernel
theorem dL_law_1002 : decode cL_law 1002 = .ok (.iload 6, 2) := by decide +kernel
theorem dL_law_1004 : decode cL_law 1004 = .ok (.ifCond .ne 22, 3) := by decide +kernel
theorem dL_law_1007 : decode cL_law 1007 = .ok (.aload_n 3, 1) := by decide +kernel
theorem dL_law_1008 : decode cL_law 1008 = .ok (.iconst 0, 1) := by decide +kernel
theorem dL_law_1009 : decode cL_law 1009 = .ok (.laload, 1) := by decide +kernel
theorem dL_law_1010 : decode cL_law 1010 = .ok (.iload 7, 2) := by decide +kernel
theorem dL_law_1012 : decode cL_law 1012 = .ok (.ifCond .eq 7, 3) := by decide +kernel
theorem dL_law_1015 : decode cL_law 1015 = .ok (.lconst 1, 1) := by decide +kernel
theorem dL_law_1016 : decode cL_law 1016 = .ok (.goto 4, 3) := by decide +kernel
theorem dL_law_1019 : decode cL_law 1019 = .ok (.lconst 0, 1) := by decide +kernel
theorem dL_law_1020 : decode cL_law 1020 = .ok (.lcmp, 1) := by decide +kernel
theorem dL_law_1021 : decode cL_law 1021 = .ok (.ifCond .eq 5, 3) := by decide +kernel
theorem dL_law_1024 : decode cL_law 1024 = .ok (.iconst 0, 1) := by decide +kernel
theorem dL_law_1025 : decode cL_law 1025 = .ok (.ireturn, 1) := by decide +kernel
theorem dL_law_1026 : decode cL_law 1026 = .ok (.goto 2638, 3) := by decide +kernel
theorem dL_law_1029 : decode cL_law 1029 = .ok (.aload_n 1, 1) := by decide +kernel
theorem dL_law_1030 : decode cL_law 1030 = .ok (.aload_n 3, 1) := by decide +kernel
theorem dL_law_1031 : decode cL_law 1031 = .ok (.invokestatic 261, 3) := by decide +kernel
theorem dL_law_1034 : decode cL_law 1034 = .ok (.istore 6, 2) := by decide +kernel
theorem dL_law_1036 : decode cL_law 1036 = .ok (.aload_n 2, 1) := by decide +kernel
theorem dL_law_1037 : decode cL_law 1037 = .ok (.invokevirtual 263, 3) := by decide +kernel
theorem dL_law_1040 : decode cL_law 1040 = .ok (.istore 7, 2) := by decide +kernel
theorem dL_law_1042 : decode cL_law 1042 = .ok (.aload_n 2, 1) := by decide +kernel
theorem dL_law_1043 : decode cL_law 1043 = .ok (.invokevirtual 215, 3) := by decide +kernel
theorem dL_law_1046 : decode cL_law 1046 = .ok (.iload 6, 2) := by decide +kernel
theorem dL_law_1048 : decode cL_law 1048 = .ok (.if_icmp .eq 5, 3) := by decide +kernel
theorem dL_law_1051 : decode cL_law 1051 = .ok (.iconst 0, 1) := by decide +kernel
theorem dL_law_1052 : decode cL_law 1052 = .ok (.ireturn, 1) := by decide +kernel
theorem dL_law_1053 : decode cL_law 1053 = .ok (.iload 6, 2) := by decide +kernel
theorem dL_law_1055 : decode cL_law 1055 = .ok (.ifCond .ne 15, 3) := by decide +kernel
theorem dL_law_1058 : decode cL_law 1058 = .ok (.aload_n 3, 1) := by decide +kernel
theorem dL_law_1059 : decode cL_law 1059 = .ok (.iconst 0, 1) := by decide +kernel
theorem dL_law_1060 : decode cL_law 1060 = .ok (.laload, 1) := by decide +kernel
theorem dL_law_1061 : decode cL_law 1061 = .ok (.iload 7, 2) := by decide +kernel
theorem dL_law_1063 : decode cL_law 1063 = .ok (.i2l, 1) := by decide +kernel
theorem dL_law_1064 : decode cL_law 1064 = .ok (.lcmp, 1) := by decide +kernel
theorem dL_law_1065 : decode cL_law 1065 = .ok (.ifCond .eq 5, 3) := by decide +kernel
theorem dL_law_1068 : decode cL_law 1068 = .ok (.iconst 0, 1) := by decide +kernel
theorem dL_law_1069 : decode cL_law 1069 = .ok (.ireturn, 1) := by decide +kernel
theorem dL_law_1070 : decode cL_law 1070 = .ok (.goto 2594, 3) := by decide +kernel
theorem dL_law_1073 : decode cL_law 1073 = .ok (.aload_n 1, 1) := by decide +kernel
theorem dL_law_1074 : decode cL_law 1074 = .ok (.aload_n 0, 1) := by decide +kernel
theorem dL_law_1075 : decode cL_law 1075 = .ok (.iload 5, 2) := by decide +kernel
theorem dL_law_1077 : decode cL_law 1077 = .ok (.iconst 1, 1) := by decide +kernel
theorem dL_law_1078 : decode cL_law 1078 = .ok (.iadd, 1) := by decide +kernel
theorem dL_law_1079 : decode cL_law 1079 = .ok (.iaload, 1) := by decide +kernel
theorem dL_law_1080 : decode cL_law 1080 = .ok (.aload_n 0, 1) := by decide +kernel
theorem dL_law_1081 : decode cL_law 1081 = .ok (.iload 5, 2) := by decide +kernel
theorem dL_law_1083 : decode cL_law 1083 = .ok (.iconst 2, 1) := by decide +kernel
theorem dL_law_1084 : decode cL_law 1084 = .ok (.iadd, 1) := by decide +kernel
theorem dL_law_1085 : decode cL_law 1085 = .ok (.iaload, 1) := by decide +kernel
theorem dL_law_1086 : decode cL_law 1086 = .ok (.aload_n 3, 1) := by decide +kernel
theorem dL_law_1087 : decode cL_law 1087 = .ok (.invokestatic 264, 3) := by decide +kernel
theorem dL_law_1090 : decode cL_law 1090 = .ok (.istore 6, 2) := by decide +kernel
theorem dL_law_1092 : decode cL_law 1092 = .ok (.aload_n 2, 1) := by decide +kernel
theorem dL_law_1093 : decode cL_law 1093 = .ok (.aload_n 0, 1) := by decide +kernel
theorem dL_law_1094 : decode cL_law 1094 = .ok (.iload 5, 2) := by decide +kernel
theorem dL_law_1096 : decode cL_law 1096 = .ok (.iconst 1, 1) := by decide +kernel
theorem dL_law_1097 : decode cL_law 1097 = .ok (.iadd, 1) := by decide +kernel
theorem dL_law_1098 : decode cL_law 1098 = .ok (.iaload, 1) := by decide +kernel
theorem dL_law_1099 : decode cL_law 1099 = .ok (.aload_n 0, 1) := by decide +kernel
theorem dL_law_1100 : decode cL_law 1100 = .ok (.iload 5, 2) := by decide +kernel
theorem dL_law_1102 : decode cL_law 1102 = .ok (.iconst 2, 1) := by decide +kernel
theorem dL_law_1103 : decode cL_law 1103 = .ok (.iadd, 1) := by decide +kernel
theorem dL_law_1104 : decode cL_law 1104 = .ok (.iaload, 1) := by decide +kernel
theorem dL_law_1105 : decode cL_law 1105 = .ok (.invokevirtual 267, 3) := by decide +kernel
theorem dL_law_1108 : decode cL_law 1108 = .ok (.istore 7, 2) := by decide +kernel
theorem dL_law_1110 : decode cL_law 1110 = .ok (.aload_n 2, 1) := by decide +kernel
theorem dL_law_1111 : decode cL_law 1111 = .ok (.invokevirtual 215, 3) := by decide +kernel
theorem dL_law_1114 : decode cL_law 1114 = .ok (.iload 6, 2) := by decide +kernel
theorem dL_law_1116 : decode cL_law 1116 = .ok (.if_icmp .eq 5, 3) := by decide +kernel
theorem dL_law_1119 : decode cL_law 1119 = .ok (.iconst 0, 1) := by decide +kernel
theorem dL_law_1120 : decode cL_law 1120 = .ok (.ireturn, 1) := by decide +kernel
theorem dL_law_1121 : decode cL_law 1121 = .ok (.iload 6, 2) := by decide +kernel
theorem dL_law_1123 : decode cL_law 1123 = .ok (.ifCond .ne 22, 3) := by decide +kernel
theorem dL_law_1126 : decode cL_law 1126 = .ok (.aload_n 3, 1) := by decide +kernel
theorem dL_law_1127 : decode cL_law 1127 = .ok (.iconst 0, 1) := by decide +kernel
theorem dL_law_1128 : decode cL_law 1128 = .ok (.laload, 1) := by decide +kernel
theorem dL_law_1129 : decode cL_law 1129 = .ok (.iload 7, 2) := by decide +kernel
theorem dL_law_1131 : decode cL_law 1131 = .ok (.ifCond .eq 7, 3) := by decide +kernel
theorem dL_law_1134 : decode cL_law 1134 = .ok (.lconst 1, 1) := by decide +kernel
theorem dL_law_1135 : decode cL_law 1135 = .ok (.goto 4, 3) := by decide +kernel
theorem dL_law_1138 : decode cL_law 1138 = .ok (.lconst 0, 1) := by decide +kernel
theorem dL_law_1139 : decode cL_law 1139 = .ok (.lcmp, 1) := by decide +kernel
theorem dL_law_1140 : decode cL_law 1140 = .ok (.ifCond .eq 5, 3) := by decide +kernel
theorem dL_law_1143 : decode cL_law 1143 = .ok (.iconst 0, 1) := by decide +kernel
theorem dL_law_1144 : decode cL_law 1144 = .ok (.ireturn, 1) := by decide +kernel
theorem dL_law_1145 : decode cL_law 1145 = .ok (.goto 2519, 3) := by decide +kernel
theorem dL_law_1148 : decode cL_law 1148 = .ok (.aload_n 1, 1) := by decide +kernel
theorem dL_law_1149 : decode cL_law 1149 = .ok (.aload_n 0, 1) := by decide +kernel
theorem dL_law_1150 : decode cL_law 1150 = .ok (.iload 5, 2) := by decide +kernel
theorem dL_law_1152 : decode cL_law 1152 = .ok (.iconst 1, 1) := by decide +kernel
theorem dL_law_1153 : decode cL_law 1153 = .ok (.iadd, 1) := by decide +kernel
theorem dL_law_1154 : decode cL_law 1154 = .ok (.iaload, 1) := by decide +kernel
theorem dL_law_1155 : decode cL_law 1155 = .ok (.aload_n 3, 1) := by decide +kernel
theorem dL_law_1156 : decode cL_law 1156 = .ok (.invokestatic 268, 3) := by decide +kernel
theorem dL_law_1159 : decode cL_law 1159 = .ok (.istore 6, 2) := by decide +kernel
theorem dL_law_1161 : decode cL_law 1161 = .ok (.aload_n 2, 1) := by decide +kernel
theorem dL_law_1162 : decode cL_law 1162 = .ok (.aload_n 0, 1) := by decide +kernel
theorem dL_law_1163 : decode cL_law 1163 = .ok (.iload 5, 2) := by decide +kernel
theorem dL_law_1165 : decode cL_law 1165 = .ok (.iconst 1, 1) := by decide +kernel
theorem dL_law_1166 : decode cL_law 1166 = .ok (.iadd, 1) := by decide +kernel
theorem dL_law_1167 : decode cL_law 1167 = .ok (.iaload, 1) := by decide +kernel
theorem dL_law_1168 : decode cL_law 1168 = .ok (.invokevirtual 270, 3) := by decide +kernel
theorem dL_law_1171 : decode cL_law 1171 = .ok (.istore 7, 2) := by decide +kernel
theorem dL_law_1173 : decode cL_law 1173 = .ok (.aload_n 2, 1) := by decide +kernel
theorem dL_law_1174 : decode cL_law 1174 = .ok (.invokevirtual 215, 3) := by decide +kernel
theorem dL_law_1177 : decode cL_law 1177 = .ok (.iload 6, 2) := by decide +kernel
theorem dL_law_1179 : decode cL_law 1179 = .ok (.if_icmp .eq 5, 3) := by decide +kernel
theorem dL_law_1182 : decode cL_law 1182 = .ok (.iconst 0, 1) := by decide +kernel
theorem dL_law_1183 : decode cL_law 1183 = .ok (.ireturn, 1) := by decide +kernel
theorem dL_law_1184 : decode cL_law 1184 = .ok (.iload 6, 2) := by decide +kernel
theorem dL_law_1186 : decode cL_law 1186 = .ok (.ifCond .ne 15, 3) := by decide +kernel
theorem dL_law_1189 : decode cL_law 1189 = .ok (.aload_n 3, 1) := by decide +kernel
theorem dL_law_1190 : decode cL_law 1190 = .ok (.iconst 0, 1) := by decide +kernel
theorem dL_law_1191 : decode cL_law 1191 = .ok (.laload, 1) := by decide +kernel
theorem dL_law_1192 : decode cL_law 1192 = .ok (.iload 7, 2) := by decide +kernel
theorem dL_law_1194 : decode cL_law 1194 = .ok (.i2l, 1) := by decide +kernel
theorem dL_law_1195 : decode cL_law 1195 = .ok (.lcmp, 1) := by decide +kernel
theorem dL_law_1196 : decode cL_law 1196 = .ok (.ifCond .eq 5, 3) := by decide +kernel
theorem dL_law_1199 : decode cL_law 1199 = .ok (.iconst 0, 1) := by decide +kernel
theorem dL_law_1200 : decode cL_law 1200 = .ok (.ireturn, 1) := by decide +kernel
theorem dL_law_1201 : decode cL_law 1201 = .ok (.goto 2463, 3) := by decide +kernel
theorem dL_law_1204 : decode cL_law 1204 = .ok (.aload_n 1, 1) := by decide +kernel
theorem dL_law_1205 : decode cL_law 1205 = .ok (.aload_n 0, 1) := by decide +kernel
theorem dL_law_1206 : decode cL_law 1206 = .ok (.iload 5, 2) := by decide +kernel
theorem dL_law_1208 : decode cL_law 1208 = .ok (.iconst 1, 1) := by decide +kernel
theorem dL_law_1209 : decode cL_law 1209 = .ok (.iadd, 1) := by decide +kernel
theorem dL_law_1210 : decode cL_law 1210 = .ok (.iaload, 1) := by decide +kernel
theorem dL_law_1211 : decode cL_law 1211 = .ok (.aload_n 3, 1) := by decide +kernel
theorem dL_law_1212 : decode cL_law 1212 = .ok (.invokestatic 271, 3) := by decide +kernel
theorem dL_law_1215 : decode cL_law 1215 = .ok (.istore 6, 2) := by decide +kernel
theorem dL_law_1217 : decode cL_law 1217 = .ok (.aload_n 2, 1) := by decide +kernel
theorem dL_law_1218 : decode cL_law 1218 = .ok (.aload_n 0, 1) := by decide +kernel
theorem dL_law_1219 : decode cL_law 1219 = .ok (.iload 5, 2) := by decide +kernel
theorem dL_law_1221 : decode cL_law 1221 = .ok (.iconst 1, 1) := by decide +kernel
theorem dL_law_1222 : decode cL_law 1222 = .ok (.iadd, 1) := by decide +kernel
theorem dL_law_1223 : decode cL_law 1223 = .ok (.iaload, 1) := by decide +kernel
theorem dL_law_1224 : decode cL_law 1224 = .ok (.invokevirtual 273, 3) := by decide +kernel
theorem dL_law_1227 : decode cL_law 1227 = .ok (.istore 7, 2) := by decide +kernel
theorem dL_law_1229 : decode cL_law 1229 = .ok (.aload_n 2, 1) := by decide +kernel
theorem dL_law_1230 : decode cL_law 1230 = .ok (.invokevirtual 215, 3) := by decide +kernel
theorem dL_law_1233 : decode cL_law 1233 = .ok (.iload 6, 2) := by decide +kernel
theorem dL_law_1235 : decode cL_law 1235 = .ok (.if_icmp .eq 5, 3) := by decide +kernel
theorem dL_law_1238 : decode cL_law 1238 = .ok (.iconst 0, 1) := by decide +kernel
theorem dL_law_1239 : decode cL_law 1239 = .ok (.ireturn, 1) := by decide +kernel
theorem dL_law_1240 : decode cL_law 1240 = .ok (.iload 6, 2) := by decide +kernel
theorem dL_law_1242 : decode cL_law 1242 = .ok (.ifCond .ne 15, 3) := by decide +kernel
theorem dL_law_1245 : decode cL_law 1245 = .ok (.aload_n 3, 1) := by decide +kernel
theorem dL_law_1246 : decode cL_law 1246 = .ok (.iconst 0, 1) := by decide +kernel
theorem dL_law_1247 : decode cL_law 1247 = .ok (.laload, 1) := by decide +kernel
theorem dL_law_1248 : decode cL_law 1248 = .ok (.iload 7, 2) := by decide +kernel
theorem dL_law_1250 : decode cL_law 1250 = .ok (.i2l, 1) := by decide +kernel
theorem dL_law_1251 : decode cL_law 1251 = .ok (.lcmp, 1) := by decide +kernel
theorem dL_law_1252 : decode cL_law 1252 = .ok (.ifCond .eq 5, 3) := by decide +kernel
theorem dL_law_1255 : decode cL_law 1255 = .ok (.iconst 0, 1) := by decide +kernel
theorem dL_law_1256 : decode cL_law 1256 = .ok (.ireturn, 1) := by decide +kernel
theorem dL_law_1257 : decode cL_law 1257 = .ok (.goto 2407, 3) := by decide +kernel
theorem dL_law_1260 : decode cL_law 1260 = .ok (.aload_n 1, 1) := by decide +kernel
theorem dL_law_1261 : decode cL_law 1261 = .ok (.aload_n 0, 1) := by decide +kernel
theorem dL_law_1262 : decode cL_law 1262 = .ok (.iload 5, 2) := by decide +kernel
theorem dL_law_1264 : decode cL_law 1264 = .ok (.iconst 1, 1) := by decide +kernel
theorem dL_law_1265 : decode cL_law 1265 = .ok (.iadd, 1) := by decide +kernel
theorem dL_law_1266 : decode cL_law 1266 = .ok (.iaload, 1) := by decide +kernel
theorem dL_law_1267 : decode cL_law 1267 = .ok (.aload_n 0, 1) := by decide +kernel
theorem dL_law_1268 : decode cL_law 1268 = .ok (.iload 5, 2) := by decide +kernel
theorem dL_law_1270 : decode cL_law 1270 = .ok (.iconst 2, 1) := by decide +kernel
theorem dL_law_1271 : decode cL_law 1271 = .ok (.iadd, 1) := by decide +kernel
theorem dL_law_1272 : decode cL_law 1272 = .ok (.iaload, 1) := by decide +kernel
theorem dL_law_1273 : decode cL_law 1273 = .ok (.aload_n 3, 1) := by decide +kernel
theorem dL_law_1274 : decode cL_law 1274 = .ok (.invokestatic 274, 3) := by decide +kernel
theorem dL_law_1277 : decode cL_law 1277 = .ok (.istore 6, 2) := by decide +kernel
theorem dL_law_1279 : decode cL_law 1279 = .ok (.aload_n 2, 1) := by decide +kernel
theorem dL_law_1280 : decode cL_law 1280 = .ok (.aload_n 0, 1) := by decide +kernel
theorem dL_law_1281 : decode cL_law 1281 = .ok (.iload 5, 2) := by decide +kernel
theorem dL_law_1283 : decode cL_law 1283 = .ok (.iconst 1, 1) := by decide +kernel
theorem dL_law_1284 : decode cL_law 1284 = .ok (.iadd, 1) := by decide +kernel
theorem dL_law_1285 : decode cL_law 1285 = .ok (.iaload, 1) := by decide +kernel
theorem dL_law_1286 : decode cL_law 1286 = .ok (.aload_n 0, 1) := by decide +kernel
theorem dL_law_1287 : decode cL_law 1287 = .ok (.iload 5, 2) := by decide +kernel
theorem dL_law_1289 : decode cL_law 1289 = .ok (.iconst 2, 1) := by decide +kernel
theorem dL_law_1290 : decode cL_law 1290 = .ok (.iadd, 1) := by decide +kernel
theorem dL_law_1291 : decode cL_law 1291 = .ok (.iaload, 1) := by decide +kernel
theorem dL_law_1292 : decode cL_law 1292 = .ok (.invokevirtual 276, 3) := by decide +kernel
theorem dL_law_1295 : decode cL_law 1295 = .ok (.istore 7, 2) := by decide +kernel
theorem dL_law_1297 : decode cL_law 1297 = .ok (.aload_n 2, 1) := by decide +kernel
theorem dL_law_1298 : decode cL_law 1298 = .ok (.invokevirtual 215, 3) := by decide +kernel
theorem dL_law_1301 : decode cL_law 1301 = .ok (.iload 6, 2) := by decide +kernel
theorem dL_law_1303 : decode cL_law 1303 = .ok (.if_icmp .eq 5, 3) := by decide +kernel
theorem dL_law_1306 : decode cL_law 1306 = .ok (.iconst 0, 1) := by decide +kernel
theorem dL_law_1307 : decode cL_law 1307 = .ok (.ireturn, 1) := by decide +kernel
theorem dL_law_1308 : decode cL_law 1308 = .ok (.iload 6, 2) := by decide +kernel
theorem dL_law_1310 : decode cL_law 1310 = .ok (.ifCond .ne 15, 3) := by decide +kernel
theorem dL_law_1313 : decode cL_law 1313 = .ok (.aload_n 3, 1) := by decide +kernel
theorem dL_law_1314 : decode cL_law 1314 = .ok (.iconst 0, 1) := by decide +kernel
theorem dL_law_1315 : decode cL_law 1315 = .ok (.laload, 1) := by decide +kernel
theorem dL_law_1316 : decode cL_law 1316 = .ok (.iload 7, 2) := by decide +kernel
theorem dL_law_1318 : decode cL_law 1318 = .ok (.i2l, 1) := by decide +kernel
theorem dL_law_1319 : decode cL_law 1319 = .ok (.lcmp, 1) := by decide +kernel
theorem dL_law_1320 : decode cL_law 1320 = .ok (.ifCond .eq 5, 3) := by decide +kernel
theorem dL_law_1323 : decode cL_law 1323 = .ok (.iconst 0, 1) := by decide +kernel
theorem dL_law_1324 : decode cL_law 1324 = .ok (.ireturn, 1) := by decide +kernel
theorem dL_law_1325 : decode cL_law 1325 = .ok (.goto 2339, 3) := by decide +kernel
theorem dL_law_1328 : decode cL_law 1328 = .ok (.aload_n 1, 1) := by decide +kernel
theorem dL_law_1329 : decode cL_law 1329 = .ok (.aload_n 0, 1) := by decide +kernel
theorem dL_law_1330 : decode cL_law 1330 = .ok (.iload 5, 2) := by decide +kernel
theorem dL_law_1332 : decode cL_law 1332 = .ok (.iconst 1, 1) := by decide +kernel
theorem dL_law_1333 : decode cL_law 1333 = .ok (.iadd, 1) := by decide +kernel
theorem dL_law_1334 : decode cL_law 1334 = .ok (.iaload, 1) := by decide +kernel
theorem dL_law_1335 : decode cL_law 1335 = .ok (.aload_n 3, 1) := by decide +kernel
theorem dL_law_1336 : decode cL_law 1336 = .ok (.invokestatic 277, 3) := by decide +kernel
theorem dL_law_1339 : decode cL_law 1339 = .ok (.istore 6, 2) := by decide +kernel
theorem dL_law_1341 : decode cL_law 1341 = .ok (.aload_n 2, 1) := by decide +kernel
theorem dL_law_1342 : decode cL_law 1342 = .ok (.aload_n 0, 1) := by decide +kernel
theorem dL_law_1343 : decode cL_law 1343 = .ok (.iload 5, 2) := by decide +kernel
theorem dL_law_1345 : decode cL_law 1345 = .ok (.iconst 1, 1) := by decide +kernel
theorem dL_law_1346 : decode cL_law 1346 = .ok (.iadd, 1) := by decide +kernel
theorem dL_law_1347 : decode cL_law 1347 = .ok (.iaload, 1) := by decide +kernel
theorem dL_law_1348 : decode cL_law 1348 = .ok (.invokevirtual 279, 3) := by decide +kernel
theorem dL_law_1351 : decode cL_law 1351 = .ok (.istore 7, 2) := by decide +kernel
theorem dL_law_1353 : decode cL_law 1353 = .ok (.aload_n 2, 1) := by decide +kernel
theorem dL_law_1354 : decode cL_law 1354 = .ok (.invokevirtual 215, 3) := by decide +kernel
theorem dL_law_1357 : decode cL_law 1357 = .ok (.iload 6, 2) := by decide +kernel
theorem dL_law_1359 : decode cL_law 1359 = .ok (.if_icmp .eq 5, 3) := by decide +kernel
theorem dL_law_1362 : decode cL_law 1362 = .ok (.iconst 0, 1) := by decide +kernel
theorem dL_law_1363 : decode cL_law 1363 = .ok (.ireturn, 1) := by decide +kernel
theorem dL_law_1364 : decode cL_law 1364 = .ok (.iload 6, 2) := by decide +kernel
theorem dL_law_1366 : decode cL_law 1366 = .ok (.ifCond .ne 15, 3) := by decide +kernel
theorem dL_law_1369 : decode cL_law 1369 = .ok (.aload_n 3, 1) := by decide +kernel
theorem dL_law_1370 : decode cL_law 1370 = .ok (.iconst 0, 1) := by decide +kernel
theorem dL_law_1371 : decode cL_law 1371 = .ok (.laload, 1) := by decide +kernel
theorem dL_law_1372 : decode cL_law 1372 = .ok (.iload 7, 2) := by decide +kernel
theorem dL_law_1374 : decode cL_law 1374 = .ok (.i2l, 1) := by decide +kernel
theorem dL_law_1375 : decode cL_law 1375 = .ok (.lcmp, 1) := by decide +kernel
theorem dL_law_1376 : decode cL_law 1376 = .ok (.ifCond .eq 5, 3) := by decide +kernel
theorem dL_law_1379 : decode cL_law 1379 = .ok (.iconst 0, 1) := by decide +kernel
theorem dL_law_1380 : decode cL_law 1380 = .ok (.ireturn, 1) := by decide +kernel
theorem dL_law_1381 : decode cL_law 1381 = .ok (.goto 2283, 3) := by decide +kernel
theorem dL_law_1384 : decode cL_law 1384 = .ok (.aload_n 1, 1) := by decide +kernel
theorem dL_law_1385 : decode cL_law 1385 = .ok (.aload_n 3, 1) := by decide +kernel
theorem dL_law_1386 : decode cL_law 1386 = .ok (.invokestatic 280, 3) := by decide +kernel
theorem dL_law_1389 : decode cL_law 1389 = .ok (.istore 6, 2) := by decide +kernel
theorem dL_law_1391 : decode cL_law 1391 = .ok (.aload_n 2, 1) := by decide +kernel
theorem dL_law_1392 : decode cL_law 1392 = .ok (.invokevirtual 282, 3) := by decide +kernel
theorem dL_law_1395 : decode cL_law 1395 = .ok (.istore 7, 2) := by decide +kernel
theorem dL_law_1397 : decode cL_law 1397 = .ok (.aload_n 2, 1) := by decide +kernel
theorem dL_law_1398 : decode cL_law 1398 = .ok (.invokevirtual 215, 3) := by decide +kernel
theorem dL_law_1401 : decode cL_law 1401 = .ok (.iload 6, 2) := by decide +kernel
theorem dL_law_1403 : decode cL_law 1403 = .ok (.if_icmp .eq 5, 3) := by decide +kernel
theorem dL_law_1406 : decode cL_law 1406 = .ok (.iconst 0, 1) := by decide +kernel
theorem dL_law_1407 : decode cL_law 1407 = .ok (.ireturn, 1) := by decide +kernel
theorem dL_law_1408 : decode cL_law 1408 = .ok (.iload 6, 2) := by decide +kernel
theorem dL_law_1410 : decode cL_law 1410 = .ok (.ifCond .ne 15, 3) := by decide +kernel
theorem dL_law_1413 : decode cL_law 1413 = .ok (.aload_n 3, 1) := by decide +kernel
theorem dL_law_1414 : decode cL_law 1414 = .ok (.iconst 0, 1) := by decide +kernel
theorem dL_law_1415 : decode cL_law 1415 = .ok (.laload, 1) := by decide +kernel
theorem dL_law_1416 : decode cL_law 1416 = .ok (.iload 7, 2) := by decide +kernel
theorem dL_law_1418 : decode cL_law 1418 = .ok (.i2l, 1) := by decide +kernel
theorem dL_law_1419 : decode cL_law 1419 = .ok (.lcmp, 1) := by decide +kernel
theorem dL_law_1420 : decode cL_law 1420 = .ok (.ifCond .eq 5, 3) := by decide +kernel
theorem dL_law_1423 : decode cL_law 1423 = .ok (.iconst 0, 1) := by decide +kernel
theorem dL_law_1424 : decode cL_law 1424 = .ok (.ireturn, 1) := by decide +kernel
theorem dL_law_1425 : decode cL_law 1425 = .ok (.goto 2239, 3) := by decide +kernel
theorem dL_law_1428 : decode cL_law 1428 = .ok (.aload_n 1, 1) := by decide +kernel
theorem dL_law_1429 : decode cL_law 1429 = .ok (.aload_n 0, 1) := by decide +kernel
theorem dL_law_1430 : decode cL_law 1430 = .ok (.iload 5, 2) := by decide +kernel
theorem dL_law_1432 : decode cL_law 1432 = .ok (.iconst 1, 1) := by decide +kernel
theorem dL_law_1433 : decode cL_law 1433 = .ok (.iadd, 1) := by decide +kernel
theorem dL_law_1434 : decode cL_law 1434 = .ok (.iaload, 1) := by decide +kernel
theorem dL_law_1435 : decode cL_law 1435 = .ok (.aload_n 3, 1) := by decide +kernel
theorem dL_law_1436 : decode cL_law 1436 = .ok (.invokestatic 283, 3) := by decide +kernel
theorem dL_law_1439 : decode cL_law 1439 = .ok (.istore 6, 2) := by decide +kernel
theorem dL_law_1441 : decode cL_law 1441 = .ok (.aload_n 2, 1) := by decide +kernel
theorem dL_law_1442 : decode cL_law 1442 = .ok (.aload_n 0, 1) := by decide +kernel
theorem dL_law_1443 : decode cL_law 1443 = .ok (.iload 5, 2) := by decide +kernel
theorem dL_law_1445 : decode cL_law 1445 = .ok (.iconst 1, 1) := by decide +kernel
theorem dL_law_1446 : decode cL_law 1446 = .ok (.iadd, 1) := by decide +kernel
theorem dL_law_1447 : decode cL_law 1447 = .ok (.iaload, 1) := by decide +kernel
theorem dL_law_1448 : decode cL_law 1448 = .ok (.invokevirtual 285, 3) := by decide +kernel
theorem dL_law_1451 : decode cL_law 1451 = .ok (.istore 7, 2) := by decide +kernel
theorem dL_law_1453 : decode cL_law 1453 = .ok (.aload_n 2, 1) := by decide +kernel
theorem dL_law_1454 : decode cL_law 1454 = .ok (.invokevirtual 215, 3) := by decide +kernel
theorem dL_law_1457 : decode cL_law 1457 = .ok (.iload 6, 2) := by decide +kernel
theorem dL_law_1459 : decode cL_law 1459 = .ok (.if_icmp .eq 5, 3) := by decide +kernel
theorem dL_law_1462 : decode cL_law 1462 = .ok (.iconst 0, 1) := by decide +kernel
theorem dL_law_1463 : decode cL_law 1463 = .ok (.ireturn, 1) := by decide +kernel
theorem dL_law_1464 : decode cL_law 1464 = .ok (.iload 6, 2) := by decide +kernel
theorem dL_law_1466 : decode cL_law 1466 = .ok (.ifCond .ne 15, 3) := by decide +kernel
theorem dL_law_1469 : decode cL_law 1469 = .ok (.aload_n 3, 1) := by decide +kernel
theorem dL_law_1470 : decode cL_law 1470 = .ok (.iconst 0, 1) := by decide +kernel
theorem dL_law_1471 : decode cL_law 1471 = .ok (.laload, 1) := by decide +kernel
theorem dL_law_1472 : decode cL_law 1472 = .ok (.iload 7, 2) := by decide +kernel
theorem dL_law_1474 : decode cL_law 1474 = .ok (.i2l, 1) := by decide +kernel
theorem dL_law_1475 : decode cL_law 1475 = .ok (.lcmp, 1) := by decide +kernel
theorem dL_law_1476 : decode cL_law 1476 = .ok (.ifCond .eq 5, 3) := by decide +kernel
theorem dL_law_1479 : decode cL_law 1479 = .ok (.iconst 0, 1) := by decide +kernel
theorem dL_law_1480 : decode cL_law 1480 = .ok (.ireturn, 1) := by decide +kernel
theorem dL_law_1481 : decode cL_law 1481 = .ok (.goto 2183, 3) := by decide +kernel
theorem dL_law_1484 : decode cL_law 1484 = .ok (.aload_n 1, 1) := by decide +kernel
theorem dL_law_1485 : decode cL_law 1485 = .ok (.aload_n 0, 1) := by decide +kernel
theorem dL_law_1486 : decode cL_law 1486 = .ok (.iload 5, 2) := by decide +kernel
theorem dL_law_1488 : decode cL_law 1488 = .ok (.iconst 1, 1) := by decide +kernel
theorem dL_law_1489 : decode cL_law 1489 = .ok (.iadd, 1) := by decide +kernel
theorem dL_law_1490 : decode cL_law 1490 = .ok (.iaload, 1) := by decide +kernel
theorem dL_law_1491 : decode cL_law 1491 = .ok (.aload_n 3, 1) := by decide +kernel
theorem dL_law_1492 : decode cL_law 1492 = .ok (.invokestatic 286, 3) := by decide +kernel
theorem dL_law_1495 : decode cL_law 1495 = .ok (.istore 6, 2) := by decide +kernel
theorem dL_law_1497 : decode cL_law 1497 = .ok (.aload_n 2, 1) := by decide +kernel
theorem dL_law_1498 : decode cL_law 1498 = .ok (.aload_n 0, 1) := by decide +kernel
theorem dL_law_1499 : decode cL_law 1499 = .ok (.iload 5, 2) := by decide +kernel
theorem dL_law_1501 : decode cL_law 1501 = .ok (.iconst 1, 1) := by decide +kernel
theorem dL_law_1502 : decode cL_law 1502 = .ok (.iadd, 1) := by decide +kernel
theorem dL_law_1503 : decode cL_law 1503 = .ok (.iaload, 1) := by decide +kernel
theorem dL_law_1504 : decode cL_law 1504 = .ok (.invokevirtual 288, 3) := by decide +kernel
theorem dL_law_1507 : decode cL_law 1507 = .ok (.istore 7, 2) := by decide +kernel
theorem dL_law_1509 : decode cL_law 1509 = .ok (.aload_n 2, 1) := by decide +kernel
theorem dL_law_1510 : decode cL_law 1510 = .ok (.invokevirtual 215, 3) := by decide +kernel
theorem dL_law_1513 : decode cL_law 1513 = .ok (.iload 6, 2) := by decide +kernel
theorem dL_law_1515 : decode cL_law 1515 = .ok (.if_icmp .eq 5, 3) := by decide +kernel
theorem dL_law_1518 : decode cL_law 1518 = .ok (.iconst 0, 1) := by decide +kernel
theorem dL_law_1519 : decode cL_law 1519 = .ok (.ireturn, 1) := by decide +kernel
theorem dL_law_1520 : decode cL_law 1520 = .ok (.iload 6, 2) := by decide +kernel
theorem dL_law_1522 : decode cL_law 1522 = .ok (.ifCond .ne 15, 3) := by decide +kernel
theorem dL_law_1525 : decode cL_law 1525 = .ok (.aload_n 3, 1) := by decide +kernel
theorem dL_law_1526 : decode cL_law 1526 = .ok (.iconst 0, 1) := by decide +kernel
theorem dL_law_1527 : decode cL_law 1527 = .ok (.laload, 1) := by decide +kernel
theorem dL_law_1528 : decode cL_law 1528 = .ok (.iload 7, 2) := by decide +kernel
theorem dL_law_1530 : decode cL_law 1530 = .ok (.i2l, 1) := by decide +kernel
theorem dL_law_1531 : decode cL_law 1531 = .ok (.lcmp, 1) := by decide +kernel
theorem dL_law_1532 : decode cL_law 1532 = .ok (.ifCond .eq 5, 3) := by decide +kernel
theorem dL_law_1535 : decode cL_law 1535 = .ok (.iconst 0, 1) := by decide +kernel
theorem dL_law_1536 : decode cL_law 1536 = .ok (.ireturn, 1) := by decide +kernel
theorem dL_law_1537 : decode cL_law 1537 = .ok (.goto 2127, 3) := by decide +kernel
theorem dL_law_1540 : decode cL_law 1540 = .ok (.aload_n 1, 1) := by decide +kernel
theorem dL_law_1541 : decode cL_law 1541 = .ok (.aload_n 3, 1) := by decide +kernel
theorem dL_law_1542 : decode cL_law 1542 = .ok (.invokestatic 289, 3) := by decide +kernel
theorem dL_law_1545 : decode cL_law 1545 = .ok (.istore 6, 2) := by decide +kernel
theorem dL_law_1547 : decode cL_law 1547 = .ok (.aload_n 2, 1) := by decide +kernel
theorem dL_law_1548 : decode cL_law 1548 = .ok (.invokevirtual 291, 3) := by decide +kernel
theorem dL_law_1551 : decode cL_law 1551 = .ok (.istore 7, 2) := by decide +kernel
theorem dL_law_1553 : decode cL_law 1553 = .ok (.aload_n 2, 1) := by decide +kernel
theorem dL_law_1554 : decode cL_law 1554 = .ok (.invokevirtual 215, 3) := by decide +kernel
theorem dL_law_1557 : decode cL_law 1557 = .ok (.iload 6, 2) := by decide +kernel
theorem dL_law_1559 : decode cL_law 1559 = .ok (.if_icmp .eq 5, 3) := by decide +kernel
theorem dL_law_1562 : decode cL_law 1562 = .ok (.iconst 0, 1) := by decide +kernel
theorem dL_law_1563 : decode cL_law 1563 = .ok (.ireturn, 1) := by decide +kernel
theorem dL_law_1564 : decode cL_law 1564 = .ok (.iload 6, 2) := by decide +kernel
theorem dL_law_1566 : decode cL_law 1566 = .ok (.ifCond .ne 15, 3) := by decide +kernel
theorem dL_law_1569 : decode cL_law 1569 = .ok (.aload_n 3, 1) := by decide +kernel
theorem dL_law_1570 : decode cL_law 1570 = .ok (.iconst 0, 1) := by decide +kernel
theorem dL_law_1571 : decode cL_law 1571 = .ok (.laload, 1) := by decide +kernel
theorem dL_law_1572 : decode cL_law 1572 = .ok (.iload 7, 2) := by decide +kernel
theorem dL_law_1574 : decode cL_law 1574 = .ok (.i2l, 1) := by decide +kernel
theorem dL_law_1575 : decode cL_law 1575 = .ok (.lcmp, 1) := by decide +kernel
theorem dL_law_1576 : decode cL_law 1576 = .ok (.ifCond .eq 5, 3) := by decide +kernel
theorem dL_law_1579 : decode cL_law 1579 = .ok (.iconst 0, 1) := by decide +kernel
theorem dL_law_1580 : decode cL_law 1580 = .ok (.ireturn, 1) := by decide +kernel
theorem dL_law_1581 : decode cL_law 1581 = .ok (.goto 2083, 3) := by decide +kernel
theorem dL_law_1584 : decode cL_law 1584 = .ok (.aload_n 1, 1) := by decide +kernel
theorem dL_law_1585 : decode cL_law 1585 = .ok (.aload_n 3, 1) := by decide +kernel
theorem dL_law_1586 : decode cL_law 1586 = .ok (.invokestatic 292, 3) := by decide +kernel
theorem dL_law_1589 : decode cL_law 1589 = .ok (.istore 6, 2) := by decide +kernel
theorem dL_law_1591 : decode cL_law 1591 = .ok (.aload_n 2, 1) := by decide +kernel
theorem dL_law_1592 : decode cL_law 1592 = .ok (.invokevirtual 294, 3) := by decide +kernel
theorem dL_law_1595 : decode cL_law 1595 = .ok (.istore 7, 2) := by decide +kernel
theorem dL_law_1597 : decode cL_law 1597 = .ok (.aload_n 2, 1) := by decide +kernel
theorem dL_law_1598 : decode cL_law 1598 = .ok (.invokevirtual 215, 3) := by decide +kernel
theorem dL_law_1601 : decode cL_law 1601 = .ok (.iload 6, 2) := by decide +kernel
theorem dL_law_1603 : decode cL_law 1603 = .ok (.if_icmp .eq 5, 3) := by decide +kernel
theorem dL_law_1606 : decode cL_law 1606 = .ok (.iconst 0, 1) := by decide +kernel
theorem dL_law_1607 : decode cL_law 1607 = .ok (.ireturn, 1) := by decide +kernel
theorem dL_law_1608 : decode cL_law 1608 = .ok (.iload 6, 2) := by decide +kernel
theorem dL_law_1610 : decode cL_law 1610 = .ok (.ifCond .ne 15, 3) := by decide +kernel
theorem dL_law_1613 : decode cL_law 1613 = .ok (.aload_n 3, 1) := by decide +kernel
theorem dL_law_1614 : decode cL_law 1614 = .ok (.iconst 0, 1) := by decide +kernel
theorem dL_law_1615 : decode cL_law 1615 = .ok (.laload, 1) := by decide +kernel
theorem dL_law_1616 : decode cL_law 1616 = .ok (.iload 7, 2) := by decide +kernel
theorem dL_law_1618 : decode cL_law 1618 = .ok (.i2l, 1) := by decide +kernel
theorem dL_law_1619 : decode cL_law 1619 = .ok (.lcmp, 1) := by decide +kernel
theorem dL_law_1620 : decode cL_law 1620 = .ok (.ifCond .eq 5, 3) := by decide +kernel
theorem dL_law_1623 : decode cL_law 1623 = .ok (.iconst 0, 1) := by decide +kernel
theorem dL_law_1624 : decode cL_law 1624 = .ok (.ireturn, 1) := by decide +kernel
theorem dL_law_1625 : decode cL_law 1625 = .ok (.goto 2039, 3) := by decide +kernel
theorem dL_law_1628 : decode cL_law 1628 = .ok (.aload_n 1, 1) := by decide +kernel
theorem dL_law_1629 : decode cL_law 1629 = .ok (.aload_n 3, 1) := by decide +kernel
theorem dL_law_1630 : decode cL_law 1630 = .ok (.invokestatic 295, 3) := by decide +kernel
theorem dL_law_1633 : decode cL_law 1633 = .ok (.istore 6, 2) := by decide +kernel
theorem dL_law_1635 : decode cL_law 1635 = .ok (.aload_n 2, 1) := by decide +kernel
theorem dL_law_1636 : decode cL_law 1636 = .ok (.invokevirtual 297, 3) := by decide +kernel
theorem dL_law_1639 : decode cL_law 1639 = .ok (.istore 7, 2) := by decide +kernel
theorem dL_law_1641 : decode cL_law 1641 = .ok (.aload_n 2, 1) := by decide +kernel
theorem dL_law_1642 : decode cL_law 1642 = .ok (.invokevirtual 215, 3) := by decide +kernel
theorem dL_law_1645 : decode cL_law 1645 = .ok (.iload 6, 2) := by decide +kernel
theorem dL_law_1647 : decode cL_law 1647 = .ok (.if_icmp .eq 5, 3) := by decide +kernel
theorem dL_law_1650 : decode cL_law 1650 = .ok (.iconst 0, 1) := by decide +kernel
theorem dL_law_1651 : decode cL_law 1651 = .ok (.ireturn, 1) := by decide +kernel
theorem dL_law_1652 : decode cL_law 1652 = .ok (.iload 6, 2) := by decide +kernel
theorem dL_law_1654 : decode cL_law 1654 = .ok (.ifCond .ne 22, 3) := by decide +kernel
theorem dL_law_1657 : decode cL_law 1657 = .ok (.aload_n 3, 1) := by decide +kernel
theorem dL_law_1658 : decode cL_law 1658 = .ok (.iconst 0, 1) := by decide +kernel
theorem dL_law_1659 : decode cL_law 1659 = .ok (.laload, 1) := by decide +kernel
theorem dL_law_1660 : decode cL_law 1660 = .ok (.iload 7, 2) := by decide +kernel
theorem dL_law_1662 : decode cL_law 1662 = .ok (.ifCond .eq 7, 3) := by decide +kernel
theorem dL_law_1665 : decode cL_law 1665 = .ok (.lconst 1, 1) := by decide +kernel
theorem dL_law_1666 : decode cL_law 1666 = .ok (.goto 4, 3) := by decide +kernel
theorem dL_law_1669 : decode cL_law 1669 = .ok (.lconst 0, 1) := by decide +kernel
theorem dL_law_1670 : decode cL_law 1670 = .ok (.lcmp, 1) := by decide +kernel
theorem dL_law_1671 : decode cL_law 1671 = .ok (.ifCond .eq 5, 3) := by decide +kernel
theorem dL_law_1674 : decode cL_law 1674 = .ok (.iconst 0, 1) := by decide +kernel
theorem dL_law_1675 : decode cL_law 1675 = .ok (.ireturn, 1) := by decide +kernel
theorem dL_law_1676 : decode cL_law 1676 = .ok (.goto 1988, 3) := by decide +kernel
theorem dL_law_1679 : decode cL_law 1679 = .ok (.aload_n 1, 1) := by decide +kernel
theorem dL_law_1680 : decode cL_law 1680 = .ok (.aload_n 3, 1) := by decide +kernel
theorem dL_law_1681 : decode cL_law 1681 = .ok (.invokestatic 298, 3) := by decide +kernel
theorem dL_law_1684 : decode cL_law 1684 = .ok (.istore 6, 2) := by decide +kernel
theorem dL_law_1686 : decode cL_law 1686 = .ok (.aload_n 2, 1) := by decide +kernel
theorem dL_law_1687 : decode cL_law 1687 = .ok (.invokevirtual 300, 3) := by decide +kernel
theorem dL_law_1690 : decode cL_law 1690 = .ok (.istore 7, 2) := by decide +kernel
theorem dL_law_1692 : decode cL_law 1692 = .ok (.aload_n 2, 1) := by decide +kernel
theorem dL_law_1693 : decode cL_law 1693 = .ok (.invokevirtual 215, 3) := by decide +kernel
theorem dL_law_1696 : decode cL_law 1696 = .ok (.iload 6, 2) := by decide +kernel
theorem dL_law_1698 : decode cL_law 1698 = .ok (.if_icmp .eq 5, 3) := by decide +kernel
theorem dL_law_1701 : decode cL_law 1701 = .ok (.iconst 0, 1) := by decide +kernel
theorem dL_law_1702 : decode cL_law 1702 = .ok (.ireturn, 1) := by decide +kernel
theorem dL_law_1703 : decode cL_law 1703 = .ok (.iload 6, 2) := by decide +kernel
theorem dL_law_1705 : decode cL_law 1705 = .ok (.ifCond .ne 15, 3) := by decide +kernel
theorem dL_law_1708 : decode cL_law 1708 = .ok (.aload_n 3, 1) := by decide +kernel
theorem dL_law_1709 : decode cL_law 1709 = .ok (.iconst 0, 1) := by decide +kernel
theorem dL_law_1710 : decode cL_law 1710 = .ok (.laload, 1) := by decide +kernel
theorem dL_law_1711 : decode cL_law 1711 = .ok (.iload 7, 2) := by decide +kernel
theorem dL_law_1713 : decode cL_law 1713 = .ok (.i2l, 1) := by decide +kernel
theorem dL_law_1714 : decode cL_law 1714 = .ok (.lcmp, 1) := by decide +kernel
theorem dL_law_1715 : decode cL_law 1715 = .ok (.ifCond .eq 5, 3) := by decide +kernel
theorem dL_law_1718 : decode cL_law 1718 = .ok (.iconst 0, 1) := by decide +kernel
theorem dL_law_1719 : decode cL_law 1719 = .ok (.ireturn, 1) := by decide +kernel
theorem dL_law_1720 : decode cL_law 1720 = .ok (.goto 1944, 3) := by decide +kernel
theorem dL_law_1723 : decode cL_law 1723 = .ok (.aload_n 1, 1) := by decide +kernel
theorem dL_law_1724 : decode cL_law 1724 = .ok (.aload_n 0, 1) := by decide +kernel
theorem dL_law_1725 : decode cL_law 1725 = .ok (.iload 5, 2) := by decide +kernel
theorem dL_law_1727 : decode cL_law 1727 = .ok (.iconst 1, 1) := by decide +kernel
theorem dL_law_1728 : decode cL_law 1728 = .ok (.iadd, 1) := by decide +kernel
theorem dL_law_1729 : decode cL_law 1729 = .ok (.iaload, 1) := by decide +kernel
theorem dL_law_1730 : decode cL_law 1730 = .ok (.aload_n 0, 1) := by decide +kernel
theorem dL_law_1731 : decode cL_law 1731 = .ok (.iload 5, 2) := by decide +kernel
theorem dL_law_1733 : decode cL_law 1733 = .ok (.iconst 2, 1) := by decide +kernel
theorem dL_law_1734 : decode cL_law 1734 = .ok (.iadd, 1) := by decide +kernel
theorem dL_law_1735 : decode cL_law 1735 = .ok (.iaload, 1) := by decide +kernel
theorem dL_law_1736 : decode cL_law 1736 = .ok (.aload_n 3, 1) := by decide +kernel
theorem dL_law_1737 : decode cL_law 1737 = .ok (.invokestatic 301, 3) := by decide +kernel
theorem dL_law_1740 : decode cL_law 1740 = .ok (.istore 6, 2) := by decide +kernel
theorem dL_law_1742 : decode cL_law 1742 = .ok (.aload_n 2, 1) := by decide +kernel
theorem dL_law_1743 : decode cL_law 1743 = .ok (.aload_n 0, 1) := by decide +kernel
theorem dL_law_1744 : decode cL_law 1744 = .ok (.iload 5, 2) := by decide +kernel
theorem dL_law_1746 : decode cL_law 1746 = .ok (.iconst 1, 1) := by decide +kernel
theorem dL_law_1747 : decode cL_law 1747 = .ok (.iadd, 1) := by decide +kernel
theorem dL_law_1748 : decode cL_law 1748 = .ok (.iaload, 1) := by decide +kernel
theorem dL_law_1749 : decode cL_law 1749 = .ok (.aload_n 0, 1) := by decide +kernel
theorem dL_law_1750 : decode cL_law 1750 = .ok (.iload 5, 2) := by decide +kernel
theorem dL_law_1752 : decode cL_law 1752 = .ok (.iconst 2, 1) := by decide +kernel
theorem dL_law_1753 : decode cL_law 1753 = .ok (.iadd, 1) := by decide +kernel
theorem dL_law_1754 : decode cL_law 1754 = .ok (.iaload, 1) := by decide +kernel
theorem dL_law_1755 : decode cL_law 1755 = .ok (.invokevirtual 303, 3) := by decide +kernel
theorem dL_law_1758 : decode cL_law 1758 = .ok (.istore 7, 2) := by decide +kernel
theorem dL_law_1760 : decode cL_law 1760 = .ok (.aload_n 2, 1) := by decide +kernel
theorem dL_law_1761 : decode cL_law 1761 = .ok (.invokevirtual 215, 3) := by decide +kernel
theorem dL_law_1764 : decode cL_law 1764 = .ok (.iload 6, 2) := by decide +kernel
theorem dL_law_1766 : decode cL_law 1766 = .ok (.if_icmp .eq 5, 3) := by decide +kernel
theorem dL_law_1769 : decode cL_law 1769 = .ok (.iconst 0, 1) := by decide +kernel
theorem dL_law_1770 : decode cL_law 1770 = .ok (.ireturn, 1) := by decide +kernel
theorem dL_law_1771 : decode cL_law 1771 = .ok (.iload 6, 2) := by decide +kernel
theorem dL_law_1773 : decode cL_law 1773 = .ok (.ifCond .ne 15, 3) := by decide +kernel
theorem dL_law_1776 : decode cL_law 1776 = .ok (.aload_n 3, 1) := by decide +kernel
theorem dL_law_1777 : decode cL_law 1777 = .ok (.iconst 0, 1) := by decide +kernel
theorem dL_law_1778 : decode cL_law 1778 = .ok (.laload, 1) := by decide +kernel
theorem dL_law_1779 : decode cL_law 1779 = .ok (.iload 7, 2) := by decide +kernel
theorem dL_law_1781 : decode cL_law 1781 = .ok (.i2l, 1) := by decide +kernel
theorem dL_law_1782 : decode cL_law 1782 = .ok (.lcmp, 1) := by decide +kernel
theorem dL_law_1783 : decode cL_law 1783 = .ok (.ifCond .eq 5, 3) := by decide +kernel
theorem dL_law_1786 : decode cL_law 1786 = .ok (.iconst 0, 1) := by decide +kernel
theorem dL_law_1787 : decode cL_law 1787 = .ok (.ireturn, 1) := by decide +kernel
theorem dL_law_1788 : decode cL_law 1788 = .ok (.goto 1876, 3) := by decide +kernel
theorem dL_law_1791 : decode cL_law 1791 = .ok (.aload_n 1, 1) := by decide +kernel
theorem dL_law_1792 : decode cL_law 1792 = .ok (.aload_n 0, 1) := by decide +kernel
theorem dL_law_1793 : decode cL_law 1793 = .ok (.iload 5, 2) := by decide +kernel
theorem dL_law_1795 : decode cL_law 1795 = .ok (.iconst 1, 1) := by decide +kernel
theorem dL_law_1796 : decode cL_law 1796 = .ok (.iadd, 1) := by decide +kernel
theorem dL_law_1797 : decode cL_law 1797 = .ok (.iaload, 1) := by decide +kernel
theorem dL_law_1798 : decode cL_law 1798 = .ok (.aload_n 0, 1) := by decide +kernel
theorem dL_law_1799 : decode cL_law 1799 = .ok (.iload 5, 2) := by decide +kernel
theorem dL_law_1801 : decode cL_law 1801 = .ok (.iconst 2, 1) := by decide +kernel
theorem dL_law_1802 : decode cL_law 1802 = .ok (.iadd, 1) := by decide +kernel
theorem dL_law_1803 : decode cL_law 1803 = .ok (.iaload, 1) := by decide +kernel
theorem dL_law_1804 : decode cL_law 1804 = .ok (.aload_n 3, 1) := by decide +kernel
theorem dL_law_1805 : decode cL_law 1805 = .ok (.invokestatic 304, 3) := by decide +kernel
theorem dL_law_1808 : decode cL_law 1808 = .ok (.istore 6, 2) := by decide +kernel
theorem dL_law_1810 : decode cL_law 1810 = .ok (.aload_n 2, 1) := by decide +kernel
theorem dL_law_1811 : decode cL_law 1811 = .ok (.aload_n 0, 1) := by decide +kernel
theorem dL_law_1812 : decode cL_law 1812 = .ok (.iload 5, 2) := by decide +kernel
theorem dL_law_1814 : decode cL_law 1814 = .ok (.iconst 1, 1) := by decide +kernel
theorem dL_law_1815 : decode cL_law 1815 = .ok (.iadd, 1) := by decide +kernel
theorem dL_law_1816 : decode cL_law 1816 = .ok (.iaload, 1) := by decide +kernel
theorem dL_law_1817 : decode cL_law 1817 = .ok (.aload_n 0, 1) := by decide +kernel
theorem dL_law_1818 : decode cL_law 1818 = .ok (.iload 5, 2) := by decide +kernel
theorem dL_law_1820 : decode cL_law 1820 = .ok (.iconst 2, 1) := by decide +kernel
theorem dL_law_1821 : decode cL_law 1821 = .ok (.iadd, 1) := by decide +kernel
theorem dL_law_1822 : decode cL_law 1822 = .ok (.iaload, 1) := by decide +kernel
theorem dL_law_1823 : decode cL_law 1823 = .ok (.invokevirtual 306, 3) := by decide +kernel
theorem dL_law_1826 : decode cL_law 1826 = .ok (.istore 7, 2) := by decide +kernel
theorem dL_law_1828 : decode cL_law 1828 = .ok (.aload_n 2, 1) := by decide +kernel
theorem dL_law_1829 : decode cL_law 1829 = .ok (.invokevirtual 215, 3) := by decide +kernel
theorem dL_law_1832 : decode cL_law 1832 = .ok (.iload 6, 2) := by decide +kernel
theorem dL_law_1834 : decode cL_law 1834 = .ok (.if_icmp .eq 5, 3) := by decide +kernel
theorem dL_law_1837 : decode cL_law 1837 = .ok (.iconst 0, 1) := by decide +kernel
theorem dL_law_1838 : decode cL_law 1838 = .ok (.ireturn, 1) := by decide +kernel
theorem dL_law_1839 : decode cL_law 1839 = .ok (.iload 6, 2) := by decide +kernel
theorem dL_law_1841 : decode cL_law 1841 = .ok (.ifCond .ne 22, 3) := by decide +kernel
theorem dL_law_1844 : decode cL_law 1844 = .ok (.aload_n 3, 1) := by decide +kernel
theorem dL_law_1845 : decode cL_law 1845 = .ok (.iconst 0, 1) := by decide +kernel
theorem dL_law_1846 : decode cL_law 1846 = .ok (.laload, 1) := by decide +kernel
theorem dL_law_1847 : decode cL_law 1847 = .ok (.iload 7, 2) := by decide +kernel
theorem dL_law_1849 : decode cL_law 1849 = .ok (.ifCond .eq 7, 3) := by decide +kernel
theorem dL_law_1852 : decode cL_law 1852 = .ok (.lconst 1, 1) := by decide +kernel
theorem dL_law_1853 : decode cL_law 1853 = .ok (.goto 4, 3) := by decide +kernel
theorem dL_law_1856 : decode cL_law 1856 = .ok (.lconst 0, 1) := by decide +kernel
theorem dL_law_1857 : decode cL_law 1857 = .ok (.lcmp, 1) := by decide +kernel
theorem dL_law_1858 : decode cL_law 1858 = .ok (.ifCond .eq 5, 3) := by decide +kernel
theorem dL_law_1861 : decode cL_law 1861 = .ok (.iconst 0, 1) := by decide +kernel
theorem dL_law_1862 : decode cL_law 1862 = .ok (.ireturn, 1) := by decide +kernel
theorem dL_law_1863 : decode cL_law 1863 = .ok (.goto 1801, 3) := by decide +kernel
theorem dL_law_1866 : decode cL_law 1866 = .ok (.aload_n 1, 1) := by decide +kernel
theorem dL_law_1867 : decode cL_law 1867 = .ok (.aload_n 0, 1) := by decide +kernel
theorem dL_law_1868 : decode cL_law 1868 = .ok (.iload 5, 2) := by decide +kernel
theorem dL_law_1870 : decode cL_law 1870 = .ok (.iconst 1, 1) := by decide +kernel
theorem dL_law_1871 : decode cL_law 1871 = .ok (.iadd, 1) := by decide +kernel
theorem dL_law_1872 : decode cL_law 1872 = .ok (.iaload, 1) := by decide +kernel
theorem dL_law_1873 : decode cL_law 1873 = .ok (.aload_n 3, 1) := by decide +kernel
theorem dL_law_1874 : decode cL_law 1874 = .ok (.invokestatic 307, 3) := by decide +kernel
theorem dL_law_1877 : decode cL_law 1877 = .ok (.istore 6, 2) := by decide +kernel
theorem dL_law_1879 : decode cL_law 1879 = .ok (.aload_n 2, 1) := by decide +kernel
theorem dL_law_1880 : decode cL_law 1880 = .ok (.aload_n 0, 1) := by decide +kernel
theorem dL_law_1881 : decode cL_law 1881 = .ok (.iload 5, 2) := by decide +kernel
theorem dL_law_1883 : decode cL_law 1883 = .ok (.iconst 1, 1) := by decide +kernel
theorem dL_law_1884 : decode cL_law 1884 = .ok (.iadd, 1) := by decide +kernel
theorem dL_law_1885 : decode cL_law 1885 = .ok (.iaload, 1) := by decide +kernel
theorem dL_law_1886 : decode cL_law 1886 = .ok (.invokevirtual 309, 3) := by decide +kernel
theorem dL_law_1889 : decode cL_law 1889 = .ok (.istore 7, 2) := by decide +kernel
theorem dL_law_1891 : decode cL_law 1891 = .ok (.aload_n 2, 1) := by decide +kernel
theorem dL_law_1892 : decode cL_law 1892 = .ok (.invokevirtual 215, 3) := by decide +kernel
theorem dL_law_1895 : decode cL_law 1895 = .ok (.iload 6, 2) := by decide +kernel
theorem dL_law_1897 : decode cL_law 1897 = .ok (.if_icmp .eq 5, 3) := by decide +kernel
theorem dL_law_1900 : decode cL_law 1900 = .ok (.iconst 0, 1) := by decide +kernel
theorem dL_law_1901 : decode cL_law 1901 = .ok (.ireturn, 1) := by decide +kernel
theorem dL_law_1902 : decode cL_law 1902 = .ok (.iload 6, 2) := by decide +kernel
theorem dL_law_1904 : decode cL_law 1904 = .ok (.ifCond .ne 15, 3) := by decide +kernel
theorem dL_law_1907 : decode cL_law 1907 = .ok (.aload_n 3, 1) := by decide +kernel
theorem dL_law_1908 : decode cL_law 1908 = .ok (.iconst 0, 1) := by decide +kernel
theorem dL_law_1909 : decode cL_law 1909 = .ok (.laload, 1) := by decide +kernel
theorem dL_law_1910 : decode cL_law 1910 = .ok (.iload 7, 2) := by decide +kernel
theorem dL_law_1912 : decode cL_law 1912 = .ok (.i2l, 1) := by decide +kernel
theorem dL_law_1913 : decode cL_law 1913 = .ok (.lcmp, 1) := by decide +kernel
theorem dL_law_1914 : decode cL_law 1914 = .ok (.ifCond .eq 5, 3) := by decide +kernel
theorem dL_law_1917 : decode cL_law 1917 = .ok (.iconst 0, 1) := by decide +kernel
theorem dL_law_1918 : decode cL_law 1918 = .ok (.ireturn, 1) := by decide +kernel
theorem dL_law_1919 : decode cL_law 1919 = .ok (.goto 1745, 3) := by decide +kernel
theorem dL_law_1922 : decode cL_law 1922 = .ok (.aload_n 1, 1) := by decide +kernel
theorem dL_law_1923 : decode cL_law 1923 = .ok (.aload_n 0, 1) := by decide +kernel
theorem dL_law_1924 : decode cL_law 1924 = .ok (.iload 5, 2) := by decide +kernel
theorem dL_law_1926 : decode cL_law 1926 = .ok (.iconst 1, 1) := by decide +kernel
theorem dL_law_1927 : decode cL_law 1927 = .ok (.iadd, 1) := by decide +kernel
theorem dL_law_1928 : decode cL_law 1928 = .ok (.iaload, 1) := by decide +kernel
theorem dL_law_1929 : decode cL_law 1929 = .ok (.aload_n 3, 1) := by decide +kernel
theorem dL_law_1930 : decode cL_law 1930 = .ok (.invokestatic 310, 3) := by decide +kernel
theorem dL_law_1933 : decode cL_law 1933 = .ok (.istore 6, 2) := by decide +kernel
theorem dL_law_1935 : decode cL_law 1935 = .ok (.aload_n 2, 1) := by decide +kernel
theorem dL_law_1936 : decode cL_law 1936 = .ok (.aload_n 0, 1) := by decide +kernel
theorem dL_law_1937 : decode cL_law 1937 = .ok (.iload 5, 2) := by decide +kernel
theorem dL_law_1939 : decode cL_law 1939 = .ok (.iconst 1, 1) := by decide +kernel
theorem dL_law_1940 : decode cL_law 1940 = .ok (.iadd, 1) := by decide +kernel
theorem dL_law_1941 : decode cL_law 1941 = .ok (.iaload, 1) := by decide +kernel
theorem dL_law_1942 : decode cL_law 1942 = .ok (.invokevirtual 312, 3) := by decide +kernel
theorem dL_law_1945 : decode cL_law 1945 = .ok (.istore 7, 2) := by decide +kernel
theorem dL_law_1947 : decode cL_law 1947 = .ok (.aload_n 2, 1) := by decide +kernel
theorem dL_law_1948 : decode cL_law 1948 = .ok (.invokevirtual 215, 3) := by decide +kernel
theorem dL_law_1951 : decode cL_law 1951 = .ok (.iload 6, 2) := by decide +kernel
theorem dL_law_1953 : decode cL_law 1953 = .ok (.if_icmp .eq 5, 3) := by decide +kernel
theorem dL_law_1956 : decode cL_law 1956 = .ok (.iconst 0, 1) := by decide +kernel
theorem dL_law_1957 : decode cL_law 1957 = .ok (.ireturn, 1) := by decide +kernel
theorem dL_law_1958 : decode cL_law 1958 = .ok (.iload 6, 2) := by decide +kernel
theorem dL_law_1960 : decode cL_law 1960 = .ok (.ifCond .ne 15, 3) := by decide +kernel
theorem dL_law_1963 : decode cL_law 1963 = .ok (.aload_n 3, 1) := by decide +kernel
theorem dL_law_1964 : decode cL_law 1964 = .ok (.iconst 0, 1) := by decide +kernel
theorem dL_law_1965 : decode cL_law 1965 = .ok (.laload, 1) := by decide +kernel
theorem dL_law_1966 : decode cL_law 1966 = .ok (.iload 7, 2) := by decide +kernel
theorem dL_law_1968 : decode cL_law 1968 = .ok (.i2l, 1) := by decide +kernel
theorem dL_law_1969 : decode cL_law 1969 = .ok (.lcmp, 1) := by decide +kernel
theorem dL_law_1970 : decode cL_law 1970 = .ok (.ifCond .eq 5, 3) := by decide +kernel
theorem dL_law_1973 : decode cL_law 1973 = .ok (.iconst 0, 1) := by decide +kernel
theorem dL_law_1974 : decode cL_law 1974 = .ok (.ireturn, 1) := by decide +kernel
theorem dL_law_1975 : decode cL_law 1975 = .ok (.goto 1689, 3) := by decide +kernel
theorem dL_law_1978 : decode cL_law 1978 = .ok (.aload_n 1, 1) := by decide +kernel
theorem dL_law_1979 : decode cL_law 1979 = .ok (.aload_n 0, 1) := by decide +kernel
theorem dL_law_1980 : decode cL_law 1980 = .ok (.iload 5, 2) := by decide +kernel
theorem dL_law_1982 : decode cL_law 1982 = .ok (.iconst 1, 1) := by decide +kernel
theorem dL_law_1983 : decode cL_law 1983 = .ok (.iadd, 1) := by decide +kernel
theorem dL_law_1984 : decode cL_law 1984 = .ok (.iaload, 1) := by decide +kernel
theorem dL_law_1985 : decode cL_law 1985 = .ok (.aload_n 3, 1) := by decide +kernel
theorem dL_law_1986 : decode cL_law 1986 = .ok (.invokestatic 313, 3) := by decide +kernel
theorem dL_law_1989 : decode cL_law 1989 = .ok (.istore 6, 2) := by decide +kernel
theorem dL_law_1991 : decode cL_law 1991 = .ok (.aload_n 2, 1) := by decide +kernel
theorem dL_law_1992 : decode cL_law 1992 = .ok (.aload_n 0, 1) := by decide +kernel
theorem dL_law_1993 : decode cL_law 1993 = .ok (.iload 5, 2) := by decide +kernel
theorem dL_law_1995 : decode cL_law 1995 = .ok (.iconst 1, 1) := by decide +kernel
theorem dL_law_1996 : decode cL_law 1996 = .ok (.iadd, 1) := by decide +kernel
theorem dL_law_1997 : decode cL_law 1997 = .ok (.iaload, 1) := by decide +kernel
theorem dL_law_1998 : decode cL_law 1998 = .ok (.invokevirtual 315, 3) := by decide +kernel
theorem dL_law_2001 : decode cL_law 2001 = .ok (.istore 7, 2) := by decide +kernel
theorem dL_law_2003 : decode cL_law 2003 = .ok (.aload_n 2, 1) := by decide +kernel
theorem dL_law_2004 : decode cL_law 2004 = .ok (.invokevirtual 215, 3) := by decide +kernel
theorem dL_law_2007 : decode cL_law 2007 = .ok (.iload 6, 2) := by decide +kernel
theorem dL_law_2009 : decode cL_law 2009 = .ok (.if_icmp .eq 5, 3) := by decide +kernel
theorem dL_law_2012 : decode cL_law 2012 = .ok (.iconst 0, 1) := by decide +kernel
theorem dL_law_2013 : decode cL_law 2013 = .ok (.ireturn, 1) := by decide +kernel
theorem dL_law_2014 : decode cL_law 2014 = .ok (.iload 6, 2) := by decide +kernel
theorem dL_law_2016 : decode cL_law 2016 = .ok (.ifCond .ne 15, 3) := by decide +kernel
theorem dL_law_2019 : decode cL_law 2019 = .ok (.aload_n 3, 1) := by decide +kernel
theorem dL_law_2020 : decode cL_law 2020 = .ok (.iconst 0, 1) := by decide +kernel
theorem dL_law_2021 : decode cL_law 2021 = .ok (.laload, 1) := by decide +kernel
theorem dL_law_2022 : decode cL_law 2022 = .ok (.iload 7, 2) := by decide +kernel
theorem dL_law_2024 : decode cL_law 2024 = .ok (.i2l, 1) := by decide +kernel
theorem dL_law_2025 : decode cL_law 2025 = .ok (.lcmp, 1) := by decide +kernel
theorem dL_law_2026 : decode cL_law 2026 = .ok (.ifCond .eq 5, 3) := by decide +kernel
theorem dL_law_2029 : decode cL_law 2029 = .ok (.iconst 0, 1) := by decide +kernel
theorem dL_law_2030 : decode cL_law 2030 = .ok (.ireturn, 1) := by decide +kernel
theorem dL_law_2031 : decode cL_law 2031 = .ok (.goto 1633, 3) := by decide +kernel
theorem dL_law_2034 : decode cL_law 2034 = .ok (.aload_n 1, 1) := by decide +kernel
theorem dL_law_2035 : decode cL_law 2035 = .ok (.aload_n 3, 1) := by decide +kernel
theorem dL_law_2036 : decode cL_law 2036 = .ok (.invokestatic 316, 3) := by decide +kernel
theorem dL_law_2039 : decode cL_law 2039 = .ok (.istore 6, 2) := by decide +kernel
theorem dL_law_2041 : decode cL_law 2041 = .ok (.aload_n 2, 1) := by decide +kernel
theorem dL_law_2042 : decode cL_law 2042 = .ok (.invokevirtual 318, 3) := by decide +kernel
theorem dL_law_2045 : decode cL_law 2045 = .ok (.istore 7, 2) := by decide +kernel
theorem dL_law_2047 : decode cL_law 2047 = .ok (.aload_n 2, 1) := by decide +kernel
theorem dL_law_2048 : decode cL_law 2048 = .ok (.invokevirtual 215, 3) := by decide +kernel
theorem dL_law_2051 : decode cL_law 2051 = .ok (.iload 6, 2) := by decide +kernel
theorem dL_law_2053 : decode cL_law 2053 = .ok (.if_icmp .eq 5, 3) := by decide +kernel
theorem dL_law_2056 : decode cL_law 2056 = .ok (.iconst 0, 1) := by decide +kernel
theorem dL_law_2057 : decode cL_law 2057 = .ok (.ireturn, 1) := by decide +kernel
theorem dL_law_2058 : decode cL_law 2058 = .ok (.iload 6, 2) := by decide +kernel
theorem dL_law_2060 : decode cL_law 2060 = .ok (.ifCond .ne 15, 3) := by decide +kernel
theorem dL_law_2063 : decode cL_law 2063 = .ok (.aload_n 3, 1) := by decide +kernel
theorem dL_law_2064 : decode cL_law 2064 = .ok (.iconst 0, 1) := by decide +kernel
theorem dL_law_2065 : decode cL_law 2065 = .ok (.laload, 1) := by decide +kernel
theorem dL_law_2066 : decode cL_law 2066 = .ok (.iload 7, 2) := by decide +kernel
theorem dL_law_2068 : decode cL_law 2068 = .ok (.i2l, 1) := by decide +kernel
theorem dL_law_2069 : decode cL_law 2069 = .ok (.lcmp, 1) := by decide +kernel
theorem dL_law_2070 : decode cL_law 2070 = .ok (.ifCond .eq 5, 3) := by decide +kernel
theorem dL_law_2073 : decode cL_law 2073 = .ok (.iconst 0, 1) := by decide +kernel
theorem dL_law_2074 : decode cL_law 2074 = .ok (.ireturn, 1) := by decide +kernel
theorem dL_law_2075 : decode cL_law 2075 = .ok (.goto 1589, 3) := by decide +kernel
theorem dL_law_2078 : decode cL_law 2078 = .ok (.aload_n 1, 1) := by decide +kernel
theorem dL_law_2079 : decode cL_law 2079 = .ok (.aload 4, 2) := by decide +kernel
theorem dL_law_2081 : decode cL_law 2081 = .ok (.invokestatic 319, 3) := by decide +kernel
theorem dL_law_2084 : decode cL_law 2084 = .ok (.istore 6, 2) := by decide +kernel
theorem dL_law_2086 : decode cL_law 2086 = .ok (.aload_n 2, 1) := by decide +kernel
theorem dL_law_2087 : decode cL_law 2087 = .ok (.invokevirtual 322, 3) := by decide +kernel
theorem dL_law_2090 : decode cL_law 2090 = .ok (.fstore 7, 2) := by decide +kernel
theorem dL_law_2092 : decode cL_law 2092 = .ok (.aload_n 2, 1) := by decide +kernel
theorem dL_law_2093 : decode cL_law 2093 = .ok (.invokevirtual 215, 3) := by decide +kernel
theorem dL_law_2096 : decode cL_law 2096 = .ok (.iload 6, 2) := by decide +kernel
theorem dL_law_2098 : decode cL_law 2098 = .ok (.if_icmp .eq 5, 3) := by decide +kernel
theorem dL_law_2101 : decode cL_law 2101 = .ok (.iconst 0, 1) := by decide +kernel
theorem dL_law_2102 : decode cL_law 2102 = .ok (.ireturn, 1) := by decide +kernel
theorem dL_law_2103 : decode cL_law 2103 = .ok (.iload 6, 2) := by decide +kernel
theorem dL_law_2105 : decode cL_law 2105 = .ok (.ifCond .ne 36, 3) := by decide +kernel
theorem dL_law_2108 : decode cL_law 2108 = .ok (.aload 4, 2) := by decide +kernel
theorem dL_law_2110 : decode cL_law 2110 = .ok (.iconst 0, 1) := by decide +kernel
theorem dL_law_2111 : decode cL_law 2111 = .ok (.daload, 1) := by decide +kernel
theorem dL_law_2112 : decode cL_law 2112 = .ok (.fload 7, 2) := by decide +kernel
theorem dL_law_2114 : decode cL_law 2114 = .ok (.f2d, 1) := by decide +kernel
theorem dL_law_2115 : decode cL_law 2115 = .ok (.dcmp .l, 1) := by decide +kernel
theorem dL_law_2116 : decode cL_law 2116 = .ok (.ifCond .eq 25, 3) := by decide +kernel
theorem dL_law_2119 : decode cL_law 2119 = .ok (.aload 4, 2) := by decide +kernel
theorem dL_law_2121 : decode cL_law 2121 = .ok (.iconst 0, 1) := by decide +kernel
theorem dL_law_2122 : decode cL_law 2122 = .ok (.daload, 1) := by decide +kernel
theorem dL_law_2123 : decode cL_law 2123 = .ok (.aload 4, 2) := by decide +kernel
theorem dL_law_2125 : decode cL_law 2125 = .ok (.iconst 0, 1) := by decide +kernel
theorem dL_law_2126 : decode cL_law 2126 = .ok (.daload, 1) := by decide +kernel
theorem dL_law_2127 : decode cL_law 2127 = .ok (.dcmp .l, 1) := by decide +kernel
theorem dL_law_2128 : decode cL_law 2128 = .ok (.ifCond .eq 11, 3) := by decide +kernel
theorem dL_law_2131 : decode cL_law 2131 = .ok (.fload 7, 2) := by decide +kernel
theorem dL_law_2133 : decode cL_law 2133 = .ok (.fload 7, 2) := by decide +kernel
theorem dL_law_2135 : decode cL_law 2135 = .ok (.fcmp .l, 1) := by decide +kernel
theorem dL_law_2136 : decode cL_law 2136 = .ok (.ifCond .ne 5, 3) := by decide +kernel
theorem dL_law_2139 : decode cL_law 2139 = .ok (.iconst 0, 1) := by decide +kernel
theorem dL_law_2140 : decode cL_law 2140 = .ok (.ireturn, 1) := by decide +kernel
theorem dL_law_2141 : decode cL_law 2141 = .ok (.goto 1523, 3) := by decide +kernel
theorem dL_law_2144 : decode cL_law 2144 = .ok (.aload_n 1, 1) := by decide +kernel
theorem dL_law_2145 : decode cL_law 2145 = .ok (.aload 4, 2) := by decide +kernel
theorem dL_law_2147 : decode cL_law 2147 = .ok (.invokestatic 323, 3) := by decide +kernel
theorem dL_law_2150 : decode cL_law 2150 = .ok (.istore 6, 2) := by decide +kernel
theorem dL_law_2152 : decode cL_law 2152 = .ok (.aload_n 2, 1) := by decide +kernel
theorem dL_law_2153 : decode cL_law 2153 = .ok (.invokevirtual 325, 3) := by decide +kernel
theorem dL_law_2156 : decode cL_law 2156 = .ok (.dstore 7, 2) := by decide +kernel
theorem dL_law_2158 : decode cL_law 2158 = .ok (.aload_n 2, 1) := by decide +kernel
theorem dL_law_2159 : decode cL_law 2159 = .ok (.invokevirtual 215, 3) := by decide +kernel
theorem dL_law_2162 : decode cL_law 2162 = .ok (.iload 6, 2) := by decide +kernel
theorem dL_law_2164 : decode cL_law 2164 = .ok (.if_icmp .eq 5, 3) := by decide +kernel
theorem dL_law_2167 : decode cL_law 2167 = .ok (.iconst 0, 1) := by decide +kernel
theorem dL_law_2168 : decode cL_law 2168 = .ok (.ireturn, 1) := by decide +kernel
theorem dL_law_2169 : decode cL_law 2169 = .ok (.iload 6, 2) := by decide +kernel
theorem dL_law_2171 : decode cL_law 2171 = .ok (.ifCond .ne 35, 3) := by decide +kernel
theorem dL_law_2174 : decode cL_law 2174 = .ok (.aload 4, 2) := by decide +kernel
theorem dL_law_2176 : decode cL_law 2176 = .ok (.iconst 0, 1) := by decide +kernel
theorem dL_law_2177 : decode cL_law 2177 = .ok (.daload, 1) := by decide +kernel
theorem dL_law_2178 : decode cL_law 2178 = .ok (.dload 7, 2) := by decide +kernel
theorem dL_law_2180 : decode cL_law 2180 = .ok (.dcmp .l, 1) := by decide +kernel
theorem dL_law_2181 : decode cL_law 2181 = .ok (.ifCond .eq 25, 3) := by decide +kernel
theorem dL_law_2184 : decode cL_law 2184 = .ok (.aload 4, 2) := by decide +kernel
theorem dL_law_2186 : decode cL_law 2186 = .ok (.iconst 0, 1) := by decide +kernel
theorem dL_law_2187 : decode cL_law 2187 = .ok (.daload, 1) := by decide +kernel
theorem dL_law_2188 : decode cL_law 2188 = .ok (.aload 4, 2) := by decide +kernel
theorem dL_law_2190 : decode cL_law 2190 = .ok (.iconst 0, 1) := by decide +kernel
theorem dL_law_2191 : decode cL_law 2191 = .ok (.daload, 1) := by decide +kernel
theorem dL_law_2192 : decode cL_law 2192 = .ok (.dcmp .l, 1) := by decide +kernel
theorem dL_law_2193 : decode cL_law 2193 = .ok (.ifCond .eq 11, 3) := by decide +kernel
theorem dL_law_2196 : decode cL_law 2196 = .ok (.dload 7, 2) := by decide +kernel
theorem dL_law_2198 : decode cL_law 2198 = .ok (.dload 7, 2) := by decide +kernel
theorem dL_law_2200 : decode cL_law 2200 = .ok (.dcmp .l, 1) := by decide +kernel
theorem dL_law_2201 : decode cL_law 2201 = .ok (.ifCond .ne 5, 3) := by decide +kernel
theorem dL_law_2204 : decode cL_law 2204 = .ok (.iconst 0, 1) := by decide +kernel
theorem dL_law_2205 : decode cL_law 2205 = .ok (.ireturn, 1) := by decide +kernel
theorem dL_law_2206 : decode cL_law 2206 = .ok (.goto 1458, 3) := by decide +kernel
theorem dL_law_2209 : decode cL_law 2209 = .ok (.aload_n 1, 1) := by decide +kernel
theorem dL_law_2210 : decode cL_law 2210 = .ok (.aload_n 0, 1) := by decide +kernel
theorem dL_law_2211 : decode cL_law 2211 = .ok (.iload 5, 2) := by decide +kernel
theorem dL_law_2213 : decode cL_law 2213 = .ok (.iconst 1, 1) := by decide +kernel
theorem dL_law_2214 : decode cL_law 2214 = .ok (.iadd, 1) := by decide +kernel
theorem dL_law_2215 : decode cL_law 2215 = .ok (.iaload, 1) := by decide +kernel
theorem dL_law_2216 : decode cL_law 2216 = .ok (.aload_n 3, 1) := by decide +kernel
theorem dL_law_2217 : decode cL_law 2217 = .ok (.invokestatic 326, 3) := by decide +kernel
theorem dL_law_2220 : decode cL_law 2220 = .ok (.istore 6, 2) := by decide +kernel
theorem dL_law_2222 : decode cL_law 2222 = .ok (.aload_n 2, 1) := by decide +kernel
theorem dL_law_2223 : decode cL_law 2223 = .ok (.aload_n 0, 1) := by decide +kernel
theorem dL_law_2224 : decode cL_law 2224 = .ok (.iload 5, 2) := by decide +kernel
theorem dL_law_2226 : decode cL_law 2226 = .ok (.iconst 1, 1) := by decide +kernel
theorem dL_law_2227 : decode cL_law 2227 = .ok (.iadd, 1) := by decide +kernel
theorem dL_law_2228 : decode cL_law 2228 = .ok (.iaload, 1) := by decide +kernel
theorem dL_law_2229 : decode cL_law 2229 = .ok (.invokevirtual 328, 3) := by decide +kernel
theorem dL_law_2232 : decode cL_law 2232 = .ok (.istore 7, 2) := by decide +kernel
theorem dL_law_2234 : decode cL_law 2234 = .ok (.aload_n 2, 1) := by decide +kernel
theorem dL_law_2235 : decode cL_law 2235 = .ok (.invokevirtual 215, 3) := by decide +kernel
theorem dL_law_2238 : decode cL_law 2238 = .ok (.iload 6, 2) := by decide +kernel
theorem dL_law_2240 : decode cL_law 2240 = .ok (.if_icmp .eq 5, 3) := by decide +kernel
theorem dL_law_2243 : decode cL_law 2243 = .ok (.iconst 0, 1) := by decide +kernel
theorem dL_law_2244 : decode cL_law 2244 = .ok (.ireturn, 1) := by decide +kernel
theorem dL_law_2245 : decode cL_law 2245 = .ok (.iload 6, 2) := by decide +kernel
theorem dL_law_2247 : decode cL_law 2247 = .ok (.ifCond .ne 22, 3) := by decide +kernel
theorem dL_law_2250 : decode cL_law 2250 = .ok (.aload_n 3, 1) := by decide +kernel
theorem dL_law_2251 : decode cL_law 2251 = .ok (.iconst 0, 1) := by decide +kernel
theorem dL_law_2252 : decode cL_law 2252 = .ok (.laload, 1) := by decide +kernel
theorem dL_law_2253 : decode cL_law 2253 = .ok (.iload 7, 2) := by decide +kernel
theorem dL_law_2255 : decode cL_law 2255 = .ok (.ifCond .eq 7, 3) := by decide +kernel
theorem dL_law_2258 : decode cL_law 2258 = .ok (.lconst 1, 1) := by decide +kernel
theorem dL_law_2259 : decode cL_law 2259 = .ok (.goto 4, 3) := by decide +kernel
theorem dL_law_2262 : decode cL_law 2262 = .ok (.lconst 0, 1) := by decide +kernel
theorem dL_law_2263 : decode cL_law 2263 = .ok (.lcmp, 1) := by decide +kernel
theorem dL_law_2264 : decode cL_law 2264 = .ok (.ifCond .eq 5, 3) := by decide +kernel
theorem dL_law_2267 : decode cL_law 2267 = .ok (.iconst 0, 1) := by decide +kernel
theorem dL_law_2268 : decode cL_law 2268 = .ok (.ireturn, 1) := by decide +kernel
theorem dL_law_2269 : decode cL_law 2269 = .ok (.goto 1395, 3) := by decide +kernel
theorem dL_law_2272 : decode cL_law 2272 = .ok (.aload_n 1, 1) := by decide +kernel
theorem dL_law_2273 : decode cL_law 2273 = .ok (.aload_n 3, 1) := by decide +kernel
theorem dL_law_2274 : decode cL_law 2274 = .ok (.invokestatic 329, 3) := by decide +kernel
theorem dL_law_2277 : decode cL_law 2277 = .ok (.istore 6, 2) := by decide +kernel
theorem dL_law_2279 : decode cL_law 2279 = .ok (.aload_n 2, 1) := by decide +kernel
theorem dL_law_2280 : decode cL_law 2280 = .ok (.invokevirtual 331, 3) := by decide +kernel
theorem dL_law_2283 : decode cL_law 2283 = .ok (.istore 7, 2) := by decide +kernel
theorem dL_law_2285 : decode cL_law 2285 = .ok (.aload_n 2, 1) := by decide +kernel
theorem dL_law_2286 : decode cL_law 2286 = .ok (.invokevirtual 215, 3) := by decide +kernel
theorem dL_law_2289 : decode cL_law 2289 = .ok (.iload 6, 2) := by decide +kernel
theorem dL_law_2291 : decode cL_law 2291 = .ok (.if_icmp .eq 5, 3) := by decide +kernel
theorem dL_law_2294 : decode cL_law 2294 = .ok (.iconst 0, 1) := by decide +kernel
theorem dL_law_2295 : decode cL_law 2295 = .ok (.ireturn, 1) := by decide +kernel
theorem dL_law_2296 : decode cL_law 2296 = .ok (.iload 6, 2) := by decide +kernel
theorem dL_law_2298 : decode cL_law 2298 = .ok (.ifCond .ne 15, 3) := by decide +kernel
theorem dL_law_2301 : decode cL_law 2301 = .ok (.aload_n 3, 1) := by decide +kernel
theorem dL_law_2302 : decode cL_law 2302 = .ok (.iconst 0, 1) := by decide +kernel
theorem dL_law_2303 : decode cL_law 2303 = .ok (.laload, 1) := by decide +kernel
theorem dL_law_2304 : decode cL_law 2304 = .ok (.iload 7, 2) := by decide +kernel
theorem dL_law_2306 : decode cL_law 2306 = .ok (.i2l, 1) := by decide +kernel
theorem dL_law_2307 : decode cL_law 2307 = .ok (.lcmp, 1) := by decide +kernel
theorem dL_law_2308 : decode cL_law 2308 = .ok (.ifCond .eq 5, 3) := by decide +kernel
theorem dL_law_2311 : decode cL_law 2311 = .ok (.iconst 0, 1) := by decide +kernel
theorem dL_law_2312 : decode cL_law 2312 = .ok (.ireturn, 1) := by decide +kernel
theorem dL_law_2313 : decode cL_law 2313 = .ok (.goto 1351, 3) := by decide +kernel
theorem dL_law_2316 : decode cL_law 2316 = .ok (.aload_n 1, 1) := by decide +kernel
theorem dL_law_2317 : decode cL_law 2317 = .ok (.aload_n 3, 1) := by decide +kernel
theorem dL_law_2318 : decode cL_law 2318 = .ok (.invokestatic 332, 3) := by decide +kernel
theorem dL_law_2321 : decode cL_law 2321 = .ok (.istore 6, 2) := by decide +kernel
theorem dL_law_2323 : decode cL_law 2323 = .ok (.aload_n 2, 1) := by decide +kernel
theorem dL_law_2324 : decode cL_law 2324 = .ok (.invokevirtual 334, 3) := by decide +kernel
theorem dL_law_2327 : decode cL_law 2327 = .ok (.istore 7, 2) := by decide +kernel
theorem dL_law_2329 : decode cL_law 2329 = .ok (.aload_n 2, 1) := by decide +kernel
theorem dL_law_2330 : decode cL_law 2330 = .ok (.invokevirtual 215, 3) := by decide +kernel
theorem dL_law_2333 : decode cL_law 2333 = .ok (.iload 6, 2) := by decide +kernel
theorem dL_law_2335 : decode cL_law 2335 = .ok (.if_icmp .eq 5, 3) := by decide +kernel
theorem dL_law_2338 : decode cL_law 2338 = .ok (.iconst 0, 1) := by decide +kernel
theorem dL_law_2339 : decode cL_law 2339 = .ok (.ireturn, 1) := by decide +kernel
theorem dL_law_2340 : decode cL_law 2340 = .ok (.iload 6, 2) := by decide +kernel
theorem dL_law_2342 : decode cL_law 2342 = .ok (.ifCond .ne 15, 3) := by decide +kernel
theorem dL_law_2345 : decode cL_law 2345 = .ok (.aload_n 3, 1) := by decide +kernel
theorem dL_law_2346 : decode cL_law 2346 = .ok (.iconst 0, 1) := by decide +kernel
theorem dL_law_2347 : decode cL_law 2347 = .ok (.laload, 1) := by decide +kernel
theorem dL_law_2348 : decode cL_law 2348 = .ok (.iload 7, 2) := by decide +kernel
theorem dL_law_2350 : decode cL_law 2350 = .ok (.i2l, 1) := by decide +kernel
theorem dL_law_2351 : decode cL_law 2351 = .ok (.lcmp, 1) := by decide +kernel
theorem dL_law_2352 : decode cL_law 2352 = .ok (.ifCond .eq 5, 3) := by decide +kernel
theorem dL_law_2355 : decode cL_law 2355 = .ok (.iconst 0, 1) := by decide +kernel
theorem dL_law_2356 : decode cL_law 2356 = .ok (.ireturn, 1) := by decide +kernel
theorem dL_law_2357 : decode cL_law 2357 = .ok (.goto 1307, 3) := by decide +kernel
theorem dL_law_2360 : decode cL_law 2360 = .ok (.aload_n 1, 1) := by decide +kernel
theorem dL_law_2361 : decode cL_law 2361 = .ok (.aload_n 3, 1) := by decide +kernel
theorem dL_law_2362 : decode cL_law 2362 = .ok (.invokestatic 335, 3) := by decide +kernel
theorem dL_law_2365 : decode cL_law 2365 = .ok (.istore 6, 2) := by decide +kernel
theorem dL_law_2367 : decode cL_law 2367 = .ok (.aload_n 2, 1) := by decide +kernel
theorem dL_law_2368 : decode cL_law 2368 = .ok (.invokevirtual 337, 3) := by decide +kernel
theorem dL_law_2371 : decode cL_law 2371 = .ok (.istore 7, 2) := by decide +kernel
theorem dL_law_2373 : decode cL_law 2373 = .ok (.aload_n 2, 1) := by decide +kernel
theorem dL_law_2374 : decode cL_law 2374 = .ok (.invokevirtual 215, 3) := by decide +kernel
theorem dL_law_2377 : decode cL_law 2377 = .ok (.iload 6, 2) := by decide +kernel
theorem dL_law_2379 : decode cL_law 2379 = .ok (.if_icmp .eq 5, 3) := by decide +kernel
theorem dL_law_2382 : decode cL_law 2382 = .ok (.iconst 0, 1) := by decide +kernel
theorem dL_law_2383 : decode cL_law 2383 = .ok (.ireturn, 1) := by decide +kernel
theorem dL_law_2384 : decode cL_law 2384 = .ok (.iload 6, 2) := by decide +kernel
theorem dL_law_2386 : decode cL_law 2386 = .ok (.ifCond .ne 15, 3) := by decide +kernel
theorem dL_law_2389 : decode cL_law 2389 = .ok (.aload_n 3, 1) := by decide +kernel
theorem dL_law_2390 : decode cL_law 2390 = .ok (.iconst 0, 1) := by decide +kernel
theorem dL_law_2391 : decode cL_law 2391 = .ok (.laload, 1) := by decide +kernel
theorem dL_law_2392 : decode cL_law 2392 = .ok (.iload 7, 2) := by decide +kernel
theorem dL_law_2394 : decode cL_law 2394 = .ok (.i2l, 1) := by decide +kernel
theorem dL_law_2395 : decode cL_law 2395 = .ok (.lcmp, 1) := by decide +kernel
theorem dL_law_2396 : decode cL_law 2396 = .ok (.ifCond .eq 5, 3) := by decide +kernel
theorem dL_law_2399 : decode cL_law 2399 = .ok (.iconst 0, 1) := by decide +kernel
theorem dL_law_2400 : decode cL_law 2400 = .ok (.ireturn, 1) := by decide +kernel
theorem dL_law_2401 : decode cL_law 2401 = .ok (.goto 1263, 3) := by decide +kernel
theorem dL_law_2404 : decode cL_law 2404 = .ok (.aload_n 1, 1) := by decide +kernel
theorem dL_law_2405 : decode cL_law 2405 = .ok (.aload_n 3, 1) := by decide +kernel
theorem dL_law_2406 : decode cL_law 2406 = .ok (.invokestatic 338, 3) := by decide +kernel
theorem dL_law_2409 : decode cL_law 2409 = .ok (.istore 6, 2) := by decide +kernel
theorem dL_law_2411 : decode cL_law 2411 = .ok (.aload_n 2, 1) := by decide +kernel
theorem dL_law_2412 : decode cL_law 2412 = .ok (.invokevirtual 340, 3) := by decide +kernel
theorem dL_law_2415 : decode cL_law 2415 = .ok (.istore 7, 2) := by decide +kernel
theorem dL_law_2417 : decode cL_law 2417 = .ok (.aload_n 2, 1) := by decide +kernel
theorem dL_law_2418 : decode cL_law 2418 = .ok (.invokevirtual 215, 3) := by decide +kernel
theorem dL_law_2421 : decode cL_law 2421 = .ok (.iload 6, 2) := by decide +kernel
theorem dL_law_2423 : decode cL_law 2423 = .ok (.if_icmp .eq 5, 3) := by decide +kernel
theorem dL_law_2426 : decode cL_law 2426 = .ok (.iconst 0, 1) := by decide +kernel
theorem dL_law_2427 : decode cL_law 2427 = .ok (.ireturn, 1) := by decide +kernel
theorem dL_law_2428 : decode cL_law 2428 = .ok (.iload 6, 2) := by decide +kernel
theorem dL_law_2430 : decode cL_law 2430 = .ok (.ifCond .ne 15, 3) := by decide +kernel
theorem dL_law_2433 : decode cL_law 2433 = .ok (.aload_n 3, 1) := by decide +kernel
theorem dL_law_2434 : decode cL_law 2434 = .ok (.iconst 0, 1) := by decide +kernel
theorem dL_law_2435 : decode cL_law 2435 = .ok (.laload, 1) := by decide +kernel
theorem dL_law_2436 : decode cL_law 2436 = .ok (.iload 7, 2) := by decide +kernel
theorem dL_law_2438 : decode cL_law 2438 = .ok (.i2l, 1) := by decide +kernel
theorem dL_law_2439 : decode cL_law 2439 = .ok (.lcmp, 1) := by decide +kernel
theorem dL_law_2440 : decode cL_law 2440 = .ok (.ifCond .eq 5, 3) := by decide +kernel
theorem dL_law_2443 : decode cL_law 2443 = .ok (.iconst 0, 1) := by decide +kernel
theorem dL_law_2444 : decode cL_law 2444 = .ok (.ireturn, 1) := by decide +kernel
theorem dL_law_2445 : decode cL_law 2445 = .ok (.goto 1219, 3) := by decide +kernel
theorem dL_law_2448 : decode cL_law 2448 = .ok (.aload_n 1, 1) := by decide +kernel
theorem dL_law_2449 : decode cL_law 2449 = .ok (.aload_n 0, 1) := by decide +kernel
theorem dL_law_2450 : decode cL_law 2450 = .ok (.iload 5, 2) := by decide +kernel
theorem dL_law_2452 : decode cL_law 2452 = .ok (.iconst 1, 1) := by decide +kernel
theorem dL_law_2453 : decode cL_law 2453 = .ok (.iadd, 1) := by decide +kernel
theorem dL_law_2454 : decode cL_law 2454 = .ok (.iaload, 1) := by decide +kernel
theorem dL_law_2455 : decode cL_law 2455 = .ok (.aload_n 3, 1) := by decide +kernel
theorem dL_law_2456 : decode cL_law 2456 = .ok (.invokestatic 341, 3) := by decide +kernel
theorem dL_law_2459 : decode cL_law 2459 = .ok (.istore 6, 2) := by decide +kernel
theorem dL_law_2461 : decode cL_law 2461 = .ok (.aload_n 2, 1) := by decide +kernel
theorem dL_law_2462 : decode cL_law 2462 = .ok (.aload_n 0, 1) := by decide +kernel
theorem dL_law_2463 : decode cL_law 2463 = .ok (.iload 5, 2) := by decide +kernel
theorem dL_law_2465 : decode cL_law 2465 = .ok (.iconst 1, 1) := by decide +kernel
theorem dL_law_2466 : decode cL_law 2466 = .ok (.iadd, 1) := by decide +kernel
theorem dL_law_2467 : decode cL_law 2467 = .ok (.iaload, 1) := by decide +kernel
theorem dL_law_2468 : decode cL_law 2468 = .ok (.invokevirtual 343, 3) := by decide +kernel
theorem dL_law_2471 : decode cL_law 2471 = .ok (.istore 7, 2) := by decide +kernel
theorem dL_law_2473 : decode cL_law 2473 = .ok (.aload_n 2, 1) := by decide +kernel
theorem dL_law_2474 : decode cL_law 2474 = .ok (.invokevirtual 215, 3) := by decide +kernel
theorem dL_law_2477 : decode cL_law 2477 = .ok (.iload 6, 2) := by decide +kernel
theorem dL_law_2479 : decode cL_law 2479 = .ok (.if_icmp .eq 5, 3) := by decide +kernel
theorem dL_law_2482 : decode cL_law 2482 = .ok (.iconst 0, 1) := by decide +kernel
theorem dL_law_2483 : decode cL_law 2483 = .ok (.ireturn, 1) := by decide +kernel
theorem dL_law_2484 : decode cL_law 2484 = .ok (.iload 6, 2) := by decide +kernel
theorem dL_law_2486 : decode cL_law 2486 = .ok (.ifCond .ne 15, 3) := by decide +kernel
theorem dL_law_2489 : decode cL_law 2489 = .ok (.aload_n 3, 1) := by decide +kernel
theorem dL_law_2490 : decode cL_law 2490 = .ok (.iconst 0, 1) := by decide +kernel
theorem dL_law_2491 : decode cL_law 2491 = .ok (.laload, 1) := by decide +kernel
theorem dL_law_2492 : decode cL_law 2492 = .ok (.iload 7, 2) := by decide +kernel
theorem dL_law_2494 : decode cL_law 2494 = .ok (.i2l, 1) := by decide +kernel
theorem dL_law_2495 : decode cL_law 2495 = .ok (.lcmp, 1) := by decide +kernel
theorem dL_law_2496 : decode cL_law 2496 = .ok (.ifCond .eq 5, 3) := by decide +kernel
theorem dL_law_2499 : decode cL_law 2499 = .ok (.iconst 0, 1) := by decide +kernel
theorem dL_law_2500 : decode cL_law 2500 = .ok (.ireturn, 1) := by decide +kernel
theorem dL_law_2501 : decode cL_law 2501 = .ok (.goto 1163, 3) := by decide +kernel
theorem dL_law_2504 : decode cL_law 2504 = .ok (.aload_n 1, 1) := by decide +kernel
theorem dL_law_2505 : decode cL_law 2505 = .ok (.aload_n 0, 1) := by decide +kernel
theorem dL_law_2506 : decode cL_law 2506 = .ok (.iload 5, 2) := by decide +kernel
theorem dL_law_2508 : decode cL_law 2508 = .ok (.iconst 1, 1) := by decide +kernel
theorem dL_law_2509 : decode cL_law 2509 = .ok (.iadd, 1) := by decide +kernel
theorem dL_law_2510 : decode cL_law 2510 = .ok (.iaload, 1) := by decide +kernel
theorem dL_law_2511 : decode cL_law 2511 = .ok (.aload_n 3, 1) := by decide +kernel
theorem dL_law_2512 : decode cL_law 2512 = .ok (.invokestatic 344, 3) := by decide +kernel
theorem dL_law_2515 : decode cL_law 2515 = .ok (.istore 6, 2) := by decide +kernel
theorem dL_law_2517 : decode cL_law 2517 = .ok (.aload_n 2, 1) := by decide +kernel
theorem dL_law_2518 : decode cL_law 2518 = .ok (.aload_n 0, 1) := by decide +kernel
theorem dL_law_2519 : decode cL_law 2519 = .ok (.iload 5, 2) := by decide +kernel
theorem dL_law_2521 : decode cL_law 2521 = .ok (.iconst 1, 1) := by decide +kernel
theorem dL_law_2522 : decode cL_law 2522 = .ok (.iadd, 1) := by decide +kernel
theorem dL_law_2523 : decode cL_law 2523 = .ok (.iaload, 1) := by decide +kernel
theorem dL_law_2524 : decode cL_law 2524 = .ok (.invokevirtual 346, 3) := by decide +kernel
theorem dL_law_2527 : decode cL_law 2527 = .ok (.istore 7, 2) := by decide +kernel
theorem dL_law_2529 : decode cL_law 2529 = .ok (.aload_n 2, 1) := by decide +kernel
theorem dL_law_2530 : decode cL_law 2530 = .ok (.invokevirtual 215, 3) := by decide +kernel
theorem dL_law_2533 : decode cL_law 2533 = .ok (.iload 6, 2) := by decide +kernel
theorem dL_law_2535 : decode cL_law 2535 = .ok (.if_icmp .eq 5, 3) := by decide +kernel
theorem dL_law_2538 : decode cL_law 2538 = .ok (.iconst 0, 1) := by decide +kernel
theorem dL_law_2539 : decode cL_law 2539 = .ok (.ireturn, 1) := by decide +kernel
theorem dL_law_2540 : decode cL_law 2540 = .ok (.iload 6, 2) := by decide +kernel
theorem dL_law_2542 : decode cL_law 2542 = .ok (.ifCond .ne 15, 3) := by decide +kernel
theorem dL_law_2545 : decode cL_law 2545 = .ok (.aload_n 3, 1) := by decide +kernel
theorem dL_law_2546 : decode cL_law 2546 = .ok (.iconst 0, 1) := by decide +kernel
theorem dL_law_2547 : decode cL_law 2547 = .ok (.laload, 1) := by decide +kernel
theorem dL_law_2548 : decode cL_law 2548 = .ok (.iload 7, 2) := by decide +kernel
theorem dL_law_2550 : decode cL_law 2550 = .ok (.i2l, 1) := by decide +kernel
theorem dL_law_2551 : decode cL_law 2551 = .ok (.lcmp, 1) := by decide +kernel
theorem dL_law_2552 : decode cL_law 2552 = .ok (.ifCond .eq 5, 3) := by decide +kernel
theorem dL_law_2555 : decode cL_law 2555 = .ok (.iconst 0, 1) := by decide +kernel
theorem dL_law_2556 : decode cL_law 2556 = .ok (.ireturn, 1) := by decide +kernel
theorem dL_law_2557 : decode cL_law 2557 = .ok (.goto 1107, 3) := by decide +kernel
theorem dL_law_2560 : decode cL_law 2560 = .ok (.aload_n 1, 1) := by decide +kernel
theorem dL_law_2561 : decode cL_law 2561 = .ok (.aload_n 3, 1) := by decide +kernel
theorem dL_law_2562 : decode cL_law 2562 = .ok (.invokestatic 347, 3) := by decide +kernel
theorem dL_law_2565 : decode cL_law 2565 = .ok (.istore 6, 2) := by decide +kernel
theorem dL_law_2567 : decode cL_law 2567 = .ok (.aload_n 2, 1) := by decide +kernel
theorem dL_law_2568 : decode cL_law 2568 = .ok (.invokevirtual 349, 3) := by decide +kernel
theorem dL_law_2571 : decode cL_law 2571 = .ok (.istore 7, 2) := by decide +kernel
theorem dL_law_2573 : decode cL_law 2573 = .ok (.aload_n 2, 1) := by decide +kernel
theorem dL_law_2574 : decode cL_law 2574 = .ok (.invokevirtual 215, 3) := by decide +kernel
theorem dL_law_2577 : decode cL_law 2577 = .ok (.iload 6, 2) := by decide +kernel
theorem dL_law_2579 : decode cL_law 2579 = .ok (.if_icmp .eq 5, 3) := by decide +kernel
theorem dL_law_2582 : decode cL_law 2582 = .ok (.iconst 0, 1) := by decide +kernel
theorem dL_law_2583 : decode cL_law 2583 = .ok (.ireturn, 1) := by decide +kernel
theorem dL_law_2584 : decode cL_law 2584 = .ok (.iload 6, 2) := by decide +kernel
theorem dL_law_2586 : decode cL_law 2586 = .ok (.ifCond .ne 15, 3) := by decide +kernel
theorem dL_law_2589 : decode cL_law 2589 = .ok (.aload_n 3, 1) := by decide +kernel
theorem dL_law_2590 : decode cL_law 2590 = .ok (.iconst 0, 1) := by decide +kernel
theorem dL_law_2591 : decode cL_law 2591 = .ok (.laload, 1) := by decide +kernel
theorem dL_law_2592 : decode cL_law 2592 = .ok (.iload 7, 2) := by decide +kernel
theorem dL_law_2594 : decode cL_law 2594 = .ok (.i2l, 1) := by decide +kernel
theorem dL_law_2595 : decode cL_law 2595 = .ok (.lcmp, 1) := by decide +kernel
theorem dL_law_2596 : decode cL_law 2596 = .ok (.ifCond .eq 5, 3) := by decide +kernel
theorem dL_law_2599 : decode cL_law 2599 = .ok (.iconst 0, 1) := by decide +kernel
theorem dL_law_2600 : decode cL_law 2600 = .ok (.ireturn, 1) := by decide +kernel
theorem dL_law_2601 : decode cL_law 2601 = .ok (.goto 1063, 3) := by decide +kernel
theorem dL_law_2604 : decode cL_law 2604 = .ok (.aload_n 1, 1) := by decide +kernel
theorem dL_law_2605 : decode cL_law 2605 = .ok (.aload_n 3, 1) := by decide +kernel
theorem dL_law_2606 : decode cL_law 2606 = .ok (.invokestatic 350, 3) := by decide +kernel
theorem dL_law_2609 : decode cL_law 2609 = .ok (.istore 6, 2) := by decide +kernel
theorem dL_law_2611 : decode cL_law 2611 = .ok (.aload_n 2, 1) := by decide +kernel
theorem dL_law_2612 : decode cL_law 2612 = .ok (.invokevirtual 352, 3) := by decide +kernel
theorem dL_law_2615 : decode cL_law 2615 = .ok (.istore 7, 2) := by decide +kernel
theorem dL_law_2617 : decode cL_law 2617 = .ok (.aload_n 2, 1) := by decide +kernel
theorem dL_law_2618 : decode cL_law 2618 = .ok (.invokevirtual 215, 3) := by decide +kernel
theorem dL_law_2621 : decode cL_law 2621 = .ok (.iload 6, 2) := by decide +kernel
theorem dL_law_2623 : decode cL_law 2623 = .ok (.if_icmp .eq 5, 3) := by decide +kernel
theorem dL_law_2626 : decode cL_law 2626 = .ok (.iconst 0, 1) := by decide +kernel
theorem dL_law_2627 : decode cL_law 2627 = .ok (.ireturn, 1) := by decide +kernel
theorem dL_law_2628 : decode cL_law 2628 = .ok (.iload 6, 2) := by decide +kernel
theorem dL_law_2630 : decode cL_law 2630 = .ok (.ifCond .ne 15, 3) := by decide +kernel
theorem dL_law_2633 : decode cL_law 2633 = .ok (.aload_n 3, 1) := by decide +kernel
theorem dL_law_2634 : decode cL_law 2634 = .ok (.iconst 0, 1) := by decide +kernel
theorem dL_law_2635 : decode cL_law 2635 = .ok (.laload, 1) := by decide +kernel
theorem dL_law_2636 : decode cL_law 2636 = .ok (.iload 7, 2) := by decide +kernel
theorem dL_law_2638 : decode cL_law 2638 = .ok (.i2l, 1) := by decide +kernel
theorem dL_law_2639 : decode cL_law 2639 = .ok (.lcmp, 1) := by decide +kernel
theorem dL_law_2640 : decode cL_law 2640 = .ok (.ifCond .eq 5, 3) := by decide +kernel
theorem dL_law_2643 : decode cL_law 2643 = .ok (.iconst 0, 1) := by decide +kernel
theorem dL_law_2644 : decode cL_law 2644 = .ok (.ireturn, 1) := by decide +kernel
theorem dL_law_2645 : decode cL_law 2645 = .ok (.goto 1019, 3) := by decide +kernel
theorem dL_law_2648 : decode cL_law 2648 = .ok (.aload_n 1, 1) := by decide +kernel
theorem dL_law_2649 : decode cL_law 2649 = .ok (.aload_n 3, 1) := by decide +kernel
theorem dL_law_2650 : decode cL_law 2650 = .ok (.invokestatic 353, 3) := by decide +kernel
theorem dL_law_2653 : decode cL_law 2653 = .ok (.istore 6, 2) := by decide +kernel
theorem dL_law_2655 : decode cL_law 2655 = .ok (.aload_n 2, 1) := by decide +kernel
theorem dL_law_2656 : decode cL_law 2656 = .ok (.invokevirtual 355, 3) := by decide +kernel
theorem dL_law_2659 : decode cL_law 2659 = .ok (.istore 7, 2) := by decide +kernel
theorem dL_law_2661 : decode cL_law 2661 = .ok (.aload_n 2, 1) := by decide +kernel
theorem dL_law_2662 : decode cL_law 2662 = .ok (.invokevirtual 215, 3) := by decide +kernel
theorem dL_law_2665 : decode cL_law 2665 = .ok (.iload 6, 2) := by decide +kernel
theorem dL_law_2667 : decode cL_law 2667 = .ok (.if_icmp .eq 5, 3) := by decide +kernel
theorem dL_law_2670 : decode cL_law 2670 = .ok (.iconst 0, 1) := by decide +kernel
theorem dL_law_2671 : decode cL_law 2671 = .ok (.ireturn, 1) := by decide +kernel
theorem dL_law_2672 : decode cL_law 2672 = .ok (.iload 6, 2) := by decide +kernel
theorem dL_law_2674 : decode cL_law 2674 = .ok (.ifCond .ne 15, 3) := by decide +kernel
theorem dL_law_2677 : decode cL_law 2677 = .ok (.aload_n 3, 1) := by decide +kernel
theorem dL_law_2678 : decode cL_law 2678 = .ok (.iconst 0, 1) := by decide +kernel
theorem dL_law_2679 : decode cL_law 2679 = .ok (.laload, 1) := by decide +kernel
theorem dL_law_2680 : decode cL_law 2680 = .ok (.iload 7, 2) := by decide +kernel
theorem dL_law_2682 : decode cL_law 2682 = .ok (.i2l, 1) := by decide +kernel
theorem dL_law_2683 : decode cL_law 2683 = .ok (.lcmp, 1) := by decide +kernel
theorem dL_law_2684 : decode cL_law 2684 = .ok (.ifCond .eq 5, 3) := by decide +kernel
theorem dL_law_2687 : decode cL_law 2687 = .ok (.iconst 0, 1) := by decide +kernel
theorem dL_law_2688 : decode cL_law 2688 = .ok (.ireturn, 1) := by decide +kernel
theorem dL_law_2689 : decode cL_law 2689 = .ok (.goto 975, 3) := by decide +kernel
theorem dL_law_2692 : decode cL_law 2692 = .ok (.aload_n 1, 1) := by decide +kernel
theorem dL_law_2693 : decode cL_law 2693 = .ok (.aload_n 3, 1) := by decide +kernel
theorem dL_law_2694 : decode cL_law 2694 = .ok (.invokestatic 356, 3) := by decide +kernel
theorem dL_law_2697 : decode cL_law 2697 = .ok (.istore 6, 2) := by decide +kernel
theorem dL_law_2699 : decode cL_law 2699 = .ok (.aload_n 2, 1) := by decide +kernel
theorem dL_law_2700 : decode cL_law 2700 = .ok (.invokevirtual 358, 3) := by decide +kernel
theorem dL_law_2703 : decode cL_law 2703 = .ok (.istore 7, 2) := by decide +kernel
theorem dL_law_2705 : decode cL_law 2705 = .ok (.aload_n 2, 1) := by decide +kernel
theorem dL_law_2706 : decode cL_law 2706 = .ok (.invokevirtual 215, 3) := by decide +kernel
theorem dL_law_2709 : decode cL_law 2709 = .ok (.iload 6, 2) := by decide +kernel
theorem dL_law_2711 : decode cL_law 2711 = .ok (.if_icmp .eq 5, 3) := by decide +kernel
theorem dL_law_2714 : decode cL_law 2714 = .ok (.iconst 0, 1) := by decide +kernel
theorem dL_law_2715 : decode cL_law 2715 = .ok (.ireturn, 1) := by decide +kernel
theorem dL_law_2716 : decode cL_law 2716 = .ok (.iload 6, 2) := by decide +kernel
theorem dL_law_2718 : decode cL_law 2718 = .ok (.ifCond .ne 15, 3) := by decide +kernel
theorem dL_law_2721 : decode cL_law 2721 = .ok (.aload_n 3, 1) := by decide +kernel
theorem dL_law_2722 : decode cL_law 2722 = .ok (.iconst 0, 1) := by decide +kernel
theorem dL_law_2723 : decode cL_law 2723 = .ok (.laload, 1) := by decide +kernel
theorem dL_law_2724 : decode cL_law 2724 = .ok (.iload 7, 2) := by decide +kernel
theorem dL_law_2726 : decode cL_law 2726 = .ok (.i2l, 1) := by decide +kernel
theorem dL_law_2727 : decode cL_law 2727 = .ok (.lcmp, 1) := by decide +kernel
theorem dL_law_2728 : decode cL_law 2728 = .ok (.ifCond .eq 5, 3) := by decide +kernel
theorem dL_law_2731 : decode cL_law 2731 = .ok (.iconst 0, 1) := by decide +kernel
theorem dL_law_2732 : decode cL_law 2732 = .ok (.ireturn, 1) := by decide +kernel
theorem dL_law_2733 : decode cL_law 2733 = .ok (.goto 931, 3) := by decide +kernel
theorem dL_law_2736 : decode cL_law 2736 = .ok (.aload_n 1, 1) := by decide +kernel
theorem dL_law_2737 : decode cL_law 2737 = .ok (.aload_n 3, 1) := by decide +kernel
theorem dL_law_2738 : decode cL_law 2738 = .ok (.invokestatic 359, 3) := by decide +kernel
theorem dL_law_2741 : decode cL_law 2741 = .ok (.istore 6, 2) := by decide +kernel
theorem dL_law_2743 : decode cL_law 2743 = .ok (.aload_n 2, 1) := by decide +kernel
theorem dL_law_2744 : decode cL_law 2744 = .ok (.invokevirtual 361, 3) := by decide +kernel
theorem dL_law_2747 : decode cL_law 2747 = .ok (.istore 7, 2) := by decide +kernel
theorem dL_law_2749 : decode cL_law 2749 = .ok (.aload_n 2, 1) := by decide +kernel
theorem dL_law_2750 : decode cL_law 2750 = .ok (.invokevirtual 215, 3) := by decide +kernel
theorem dL_law_2753 : decode cL_law 2753 = .ok (.iload 6, 2) := by decide +kernel
theorem dL_law_2755 : decode cL_law 2755 = .ok (.if_icmp .eq 5, 3) := by decide +kernel
theorem dL_law_2758 : decode cL_law 2758 = .ok (.iconst 0, 1) := by decide +kernel
theorem dL_law_2759 : decode cL_law 2759 = .ok (.ireturn, 1) := by decide +kernel
theorem dL_law_2760 : decode cL_law 2760 = .ok (.iload 6, 2) := by decide +kernel
theorem dL_law_2762 : decode cL_law 2762 = .ok (.ifCond .ne 15, 3) := by decide +kernel
theorem dL_law_2765 : decode cL_law 2765 = .ok (.aload_n 3, 1) := by decide +kernel
theorem dL_law_2766 : decode cL_law 2766 = .ok (.iconst 0, 1) := by decide +kernel
theorem dL_law_2767 : decode cL_law 2767 = .ok (.laload, 1) := by decide +kernel
theorem dL_law_2768 : decode cL_law 2768 = .ok (.iload 7, 2) := by decide +kernel
theorem dL_law_2770 : decode cL_law 2770 = .ok (.i2l, 1) := by decide +kernel
theorem dL_law_2771 : decode cL_law 2771 = .ok (.lcmp, 1) := by decide +kernel
theorem dL_law_2772 : decode cL_law 2772 = .ok (.ifCond .eq 5, 3) := by decide +kernel
theorem dL_law_2775 : decode cL_law 2775 = .ok (.iconst 0, 1) := by decide +kernel
theorem dL_law_2776 : decode cL_law 2776 = .ok (.ireturn, 1) := by decide +kernel
theorem dL_law_2777 : decode cL_law 2777 = .ok (.goto 887, 3) := by decide +kernel
theorem dL_law_2780 : decode cL_law 2780 = .ok (.aload_n 1, 1) := by decide +kernel
theorem dL_law_2781 : decode cL_law 2781 = .ok (.aload_n 0, 1) := by decide +kernel
theorem dL_law_2782 : decode cL_law 2782 = .ok (.iload 5, 2) := by decide +kernel
theorem dL_law_2784 : decode cL_law 2784 = .ok (.iconst 1, 1) := by decide +kernel
theorem dL_law_2785 : decode cL_law 2785 = .ok (.iadd, 1) := by decide +kernel
theorem dL_law_2786 : decode cL_law 2786 = .ok (.iaload, 1) := by decide +kernel
theorem dL_law_2787 : decode cL_law 2787 = .ok (.aload_n 3, 1) := by decide +kernel
theorem dL_law_2788 : decode cL_law 2788 = .ok (.invokestatic 362, 3) := by decide +kernel
theorem dL_law_2791 : decode cL_law 2791 = .ok (.istore 6, 2) := by decide +kernel
theorem dL_law_2793 : decode cL_law 2793 = .ok (.aload_n 2, 1) := by decide +kernel
theorem dL_law_2794 : decode cL_law 2794 = .ok (.aload_n 0, 1) := by decide +kernel
theorem dL_law_2795 : decode cL_law 2795 = .ok (.iload 5, 2) := by decide +kernel
theorem dL_law_2797 : decode cL_law 2797 = .ok (.iconst 1, 1) := by decide +kernel
theorem dL_law_2798 : decode cL_law 2798 = .ok (.iadd, 1) := by decide +kernel
theorem dL_law_2799 : decode cL_law 2799 = .ok (.iaload, 1) := by decide +kernel
theorem dL_law_2800 : decode cL_law 2800 = .ok (.invokevirtual 364, 3) := by decide +kernel
theorem dL_law_2803 : decode cL_law 2803 = .ok (.istore 7, 2) := by decide +kernel
theorem dL_law_2805 : decode cL_law 2805 = .ok (.aload_n 2, 1) := by decide +kernel
theorem dL_law_2806 : decode cL_law 2806 = .ok (.invokevirtual 215, 3) := by decide +kernel
theorem dL_law_2809 : decode cL_law 2809 = .ok (.iload 6, 2) := by decide +kernel
theorem dL_law_2811 : decode cL_law 2811 = .ok (.if_icmp .eq 5, 3) := by decide +kernel
theorem dL_law_2814 : decode cL_law 2814 = .ok (.iconst 0, 1) := by decide +kernel
theorem dL_law_2815 : decode cL_law 2815 = .ok (.ireturn, 1) := by decide +kernel
theorem dL_law_2816 : decode cL_law 2816 = .ok (.iload 6, 2) := by decide +kernel
theorem dL_law_2818 : decode cL_law 2818 = .ok (.ifCond .ne 15, 3) := by decide +kernel
theorem dL_law_2821 : decode cL_law 2821 = .ok (.aload_n 3, 1) := by decide +kernel
theorem dL_law_2822 : decode cL_law 2822 = .ok (.iconst 0, 1) := by decide +kernel
theorem dL_law_2823 : decode cL_law 2823 = .ok (.laload, 1) := by decide +kernel
theorem dL_law_2824 : decode cL_law 2824 = .ok (.iload 7, 2) := by decide +kernel
theorem dL_law_2826 : decode cL_law 2826 = .ok (.i2l, 1) := by decide +kernel
theorem dL_law_2827 : decode cL_law 2827 = .ok (.lcmp, 1) := by decide +kernel
theorem dL_law_2828 : decode cL_law 2828 = .ok (.ifCond .eq 5, 3) := by decide +kernel
theorem dL_law_2831 : decode cL_law 2831 = .ok (.iconst 0, 1) := by decide +kernel
theorem dL_law_2832 : decode cL_law 2832 = .ok (.ireturn, 1) := by decide +kernel
theorem dL_law_2833 : decode cL_law 2833 = .ok (.goto 831, 3) := by decide +kernel
theorem dL_law_2836 : decode cL_law 2836 = .ok (.aload_n 1, 1) := by decide +kernel
theorem dL_law_2837 : decode cL_law 2837 = .ok (.aload_n 0, 1) := by decide +kernel
theorem dL_law_2838 : decode cL_law 2838 = .ok (.iload 5, 2) := by decide +kernel
theorem dL_law_2840 : decode cL_law 2840 = .ok (.iconst 1, 1) := by decide +kernel
theorem dL_law_2841 : decode cL_law 2841 = .ok (.iadd, 1) := by decide +kernel
theorem dL_law_2842 : decode cL_law 2842 = .ok (.iaload, 1) := by decide +kernel
theorem dL_law_2843 : decode cL_law 2843 = .ok (.aload_n 3, 1) := by decide +kernel
theorem dL_law_2844 : decode cL_law 2844 = .ok (.invokestatic 365, 3) := by decide +kernel
theorem dL_law_2847 : decode cL_law 2847 = .ok (.istore 6, 2) := by decide +kernel
theorem dL_law_2849 : decode cL_law 2849 = .ok (.aload_n 2, 1) := by decide +kernel
theorem dL_law_2850 : decode cL_law 2850 = .ok (.aload_n 0, 1) := by decide +kernel
theorem dL_law_2851 : decode cL_law 2851 = .ok (.iload 5, 2) := by decide +kernel
theorem dL_law_2853 : decode cL_law 2853 = .ok (.iconst 1, 1) := by decide +kernel
theorem dL_law_2854 : decode cL_law 2854 = .ok (.iadd, 1) := by decide +kernel
theorem dL_law_2855 : decode cL_law 2855 = .ok (.iaload, 1) := by decide +kernel
theorem dL_law_2856 : decode cL_law 2856 = .ok (.invokevirtual 367, 3) := by decide +kernel
theorem dL_law_2859 : decode cL_law 2859 = .ok (.istore 7, 2) := by decide +kernel
theorem dL_law_2861 : decode cL_law 2861 = .ok (.aload_n 2, 1) := by decide +kernel
theorem dL_law_2862 : decode cL_law 2862 = .ok (.invokevirtual 215, 3) := by decide +kernel
theorem dL_law_2865 : decode cL_law 2865 = .ok (.iload 6, 2) := by decide +kernel
theorem dL_law_2867 : decode cL_law 2867 = .ok (.if_icmp .eq 5, 3) := by decide +kernel
theorem dL_law_2870 : decode cL_law 2870 = .ok (.iconst 0, 1) := by decide +kernel
theorem dL_law_2871 : decode cL_law 2871 = .ok (.ireturn, 1) := by decide +kernel
theorem dL_law_2872 : decode cL_law 2872 = .ok (.iload 6, 2) := by decide +kernel
theorem dL_law_2874 : decode cL_law 2874 = .ok (.ifCond .ne 15, 3) := by decide +kernel
theorem dL_law_2877 : decode cL_law 2877 = .ok (.aload_n 3, 1) := by decide +kernel
theorem dL_law_2878 : decode cL_law 2878 = .ok (.iconst 0, 1) := by decide +kernel
theorem dL_law_2879 : decode cL_law 2879 = .ok (.laload, 1) := by decide +kernel
theorem dL_law_2880 : decode cL_law 2880 = .ok (.iload 7, 2) := by decide +kernel
theorem dL_law_2882 : decode cL_law 2882 = .ok (.i2l, 1) := by decide +kernel
theorem dL_law_2883 : decode cL_law 2883 = .ok (.lcmp, 1) := by decide +kernel
theorem dL_law_2884 : decode cL_law 2884 = .ok (.ifCond .eq 5, 3) := by decide +kernel
theorem dL_law_2887 : decode cL_law 2887 = .ok (.iconst 0, 1) := by decide +kernel
theorem dL_law_2888 : decode cL_law 2888 = .ok (.ireturn, 1) := by decide +kernel
theorem dL_law_2889 : decode cL_law 2889 = .ok (.goto 775, 3) := by decide +kernel
theorem dL_law_2892 : decode cL_law 2892 = .ok (.aload_n 1, 1) := by decide +kernel
theorem dL_law_2893 : decode cL_law 2893 = .ok (.aload_n 3, 1) := by decide +kernel
theorem dL_law_2894 : decode cL_law 2894 = .ok (.invokestatic 368, 3) := by decide +kernel
theorem dL_law_2897 : decode cL_law 2897 = .ok (.istore 6, 2) := by decide +kernel
theorem dL_law_2899 : decode cL_law 2899 = .ok (.aload_n 2, 1) := by decide +kernel
theorem dL_law_2900 : decode cL_law 2900 = .ok (.invokevirtual 370, 3) := by decide +kernel
theorem dL_law_2903 : decode cL_law 2903 = .ok (.istore 7, 2) := by decide +kernel
theorem dL_law_2905 : decode cL_law 2905 = .ok (.aload_n 2, 1) := by decide +kernel
theorem dL_law_2906 : decode cL_law 2906 = .ok (.invokevirtual 215, 3) := by decide +kernel
theorem dL_law_2909 : decode cL_law 2909 = .ok (.iload 6, 2) := by decide +kernel
theorem dL_law_2911 : decode cL_law 2911 = .ok (.if_icmp .eq 5, 3) := by decide +kernel
theorem dL_law_2914 : decode cL_law 2914 = .ok (.iconst 0, 1) := by decide +kernel
theorem dL_law_2915 : decode cL_law 2915 = .ok (.ireturn, 1) := by decide +kernel
theorem dL_law_2916 : decode cL_law 2916 = .ok (.iload 6, 2) := by decide +kernel
theorem dL_law_2918 : decode cL_law 2918 = .ok (.ifCond .ne 15, 3) := by decide +kernel
theorem dL_law_2921 : decode cL_law 2921 = .ok (.aload_n 3, 1) := by decide +kernel
theorem dL_law_2922 : decode cL_law 2922 = .ok (.iconst 0, 1) := by decide +kernel
theorem dL_law_2923 : decode cL_law 2923 = .ok (.laload, 1) := by decide +kernel
theorem dL_law_2924 : decode cL_law 2924 = .ok (.iload 7, 2) := by decide +kernel
theorem dL_law_2926 : decode cL_law 2926 = .ok (.i2l, 1) := by decide +kernel
theorem dL_law_2927 : decode cL_law 2927 = .ok (.lcmp, 1) := by decide +kernel
theorem dL_law_2928 : decode cL_law 2928 = .ok (.ifCond .eq 5, 3) := by decide +kernel
theorem dL_law_2931 : decode cL_law 2931 = .ok (.iconst 0, 1) := by decide +kernel
theorem dL_law_2932 : decode cL_law 2932 = .ok (.ireturn, 1) := by decide +kernel
theorem dL_law_2933 : decode cL_law 2933 = .ok (.goto 731, 3) := by decide +kernel
theorem dL_law_2936 : decode cL_law 2936 = .ok (.aload_n 1, 1) := by decide +kernel
theorem dL_law_2937 : decode cL_law 2937 = .ok (.aload_n 0, 1) := by decide +kernel
theorem dL_law_2938 : decode cL_law 2938 = .ok (.iload 5, 2) := by decide +kernel
theorem dL_law_2940 : decode cL_law 2940 = .ok (.iconst 1, 1) := by decide +kernel
theorem dL_law_2941 : decode cL_law 2941 = .ok (.iadd, 1) := by decide +kernel
theorem dL_law_2942 : decode cL_law 2942 = .ok (.iaload, 1) := by decide +kernel
theorem dL_law_2943 : decode cL_law 2943 = .ok (.aload_n 3, 1) := by decide +kernel
theorem dL_law_2944 : decode cL_law 2944 = .ok (.invokestatic 371, 3) := by decide +kernel
theorem dL_law_2947 : decode cL_law 2947 = .ok (.istore 6, 2) := by decide +kernel
theorem dL_law_2949 : decode cL_law 2949 = .ok (.aload_n 2, 1) := by decide +kernel
theorem dL_law_2950 : decode cL_law 2950 = .ok (.aload_n 0, 1) := by decide +kernel
theorem dL_law_2951 : decode cL_law 2951 = .ok (.iload 5, 2) := by decide +kernel
theorem dL_law_2953 : decode cL_law 2953 = .ok (.iconst 1, 1) := by decide +kernel
theorem dL_law_2954 : decode cL_law 2954 = .ok (.iadd, 1) := by decide +kernel
theorem dL_law_2955 : decode cL_law 2955 = .ok (.iaload, 1) := by decide +kernel
theorem dL_law_2956 : decode cL_law 2956 = .ok (.invokevirtual 373, 3) := by decide +kernel
theorem dL_law_2959 : decode cL_law 2959 = .ok (.istore 7, 2) := by decide +kernel
theorem dL_law_2961 : decode cL_law 2961 = .ok (.aload_n 2, 1) := by decide +kernel
theorem dL_law_2962 : decode cL_law 2962 = .ok (.invokevirtual 215, 3) := by decide +kernel
theorem dL_law_2965 : decode cL_law 2965 = .ok (.iload 6, 2) := by decide +kernel
theorem dL_law_2967 : decode cL_law 2967 = .ok (.if_icmp .eq 5, 3) := by decide +kernel
theorem dL_law_2970 : decode cL_law 2970 = .ok (.iconst 0, 1) := by decide +kernel
theorem dL_law_2971 : decode cL_law 2971 = .ok (.ireturn, 1) := by decide +kernel
theorem dL_law_2972 : decode cL_law 2972 = .ok (.iload 6, 2) := by decide +kernel
theorem dL_law_2974 : decode cL_law 2974 = .ok (.ifCond .ne 15, 3) := by decide +kernel
theorem dL_law_2977 : decode cL_law 2977 = .ok (.aload_n 3, 1) := by decide +kernel
theorem dL_law_2978 : decode cL_law 2978 = .ok (.iconst 0, 1) := by decide +kernel
theorem dL_law_2979 : decode cL_law 2979 = .ok (.laload, 1) := by decide +kernel
theorem dL_law_2980 : decode cL_law 2980 = .ok (.iload 7, 2) := by decide +kernel
theorem dL_law_2982 : decode cL_law 2982 = .ok (.i2l, 1) := by decide +kernel
theorem dL_law_2983 : decode cL_law 2983 = .ok (.lcmp, 1) := by decide +kernel
theorem dL_law_2984 : decode cL_law 2984 = .ok (.ifCond .eq 5, 3) := by decide +kernel
theorem dL_law_2987 : decode cL_law 2987 = .ok (.iconst 0, 1) := by decide +kernel
theorem dL_law_2988 : decode cL_law 2988 = .ok (.ireturn, 1) := by decide +kernel
theorem dL_law_2989 : decode cL_law 2989 = .ok (.goto 675, 3) := by decide +kernel
theorem dL_law_2992 : decode cL_law 2992 = .ok (.aload_n 1, 1) := by decide +kernel
theorem dL_law_2993 : decode cL_law 2993 = .ok (.aload_n 0, 1) := by decide +kernel
theorem dL_law_2994 : decode cL_law 2994 = .ok (.iload 5, 2) := by decide +kernel
theorem dL_law_2996 : decode cL_law 2996 = .ok (.iconst 1, 1) := by decide +kernel
theorem dL_law_2997 : decode cL_law 2997 = .ok (.iadd, 1) := by decide +kernel
theorem dL_law_2998 : decode cL_law 2998 = .ok (.iaload, 1) := by decide +kernel
theorem dL_law_2999 : decode cL_law 2999 = .ok (.aload_n 3, 1) := by decide +kernel
theorem dL_law_3000 : decode cL_law 3000 = .ok (.invokestatic 374, 3) := by decide +kernel
theorem dL_law_3003 : decode cL_law 3003 = .ok (.istore 6, 2) := by decide +kernel
theorem dL_law_3005 : decode cL_law 3005 = .ok (.aload_n 2, 1) := by decide +kernel
theorem dL_law_3006 : decode cL_law 3006 = .ok (.aload_n 0, 1) := by decide +kernel
theorem dL_law_3007 : decode cL_law 3007 = .ok (.iload 5, 2) := by decide +kernel
theorem dL_law_3009 : decode cL_law 3009 = .ok (.iconst 1, 1) := by decide +kernel
theorem dL_law_3010 : decode cL_law 3010 = .ok (.iadd, 1) := by decide +kernel
theorem dL_law_3011 : decode cL_law 3011 = .ok (.iaload, 1) := by decide +kernel
theorem dL_law_3012 : decode cL_law 3012 = .ok (.invokevirtual 376, 3) := by decide +kernel
theorem dL_law_3015 : decode cL_law 3015 = .ok (.istore 7, 2) := by decide +kernel
theorem dL_law_3017 : decode cL_law 3017 = .ok (.aload_n 2, 1) := by decide +kernel
theorem dL_law_3018 : decode cL_law 3018 = .ok (.invokevirtual 215, 3) := by decide +kernel
theorem dL_law_3021 : decode cL_law 3021 = .ok (.iload 6, 2) := by decide +kernel
theorem dL_law_3023 : decode cL_law 3023 = .ok (.if_icmp .eq 5, 3) := by decide +kernel
theorem dL_law_3026 : decode cL_law 3026 = .ok (.iconst 0, 1) := by decide +kernel
theorem dL_law_3027 : decode cL_law 3027 = .ok (.ireturn, 1) := by decide +kernel
theorem dL_law_3028 : decode cL_law 3028 = .ok (.iload 6, 2) := by decide +kernel
theorem dL_law_3030 : decode cL_law 3030 = .ok (.ifCond .ne 15, 3) := by decide +kernel
theorem dL_law_3033 : decode cL_law 3033 = .ok (.aload_n 3, 1) := by decide +kernel
theorem dL_law_3034 : decode cL_law 3034 = .ok (.iconst 0, 1) := by decide +kernel
theorem dL_law_3035 : decode cL_law 3035 = .ok (.laload, 1) := by decide +kernel
theorem dL_law_3036 : decode cL_law 3036 = .ok (.iload 7, 2) := by decide +kernel
theorem dL_law_3038 : decode cL_law 3038 = .ok (.i2l, 1) := by decide +kernel
theorem dL_law_3039 : decode cL_law 3039 = .ok (.lcmp, 1) := by decide +kernel
theorem dL_law_3040 : decode cL_law 3040 = .ok (.ifCond .eq 5, 3) := by decide +kernel
theorem dL_law_3043 : decode cL_law 3043 = .ok (.iconst 0, 1) := by decide +kernel
theorem dL_law_3044 : decode cL_law 3044 = .ok (.ireturn, 1) := by decide +kernel
theorem dL_law_3045 : decode cL_law 3045 = .ok (.goto 619, 3) := by decide +kernel
theorem dL_law_3048 : decode cL_law 3048 = .ok (.aload_n 1, 1) := by decide +kernel
theorem dL_law_3049 : decode cL_law 3049 = .ok (.aload_n 0, 1) := by decide +kernel
theorem dL_law_3050 : decode cL_law 3050 = .ok (.iload 5, 2) := by decide +kernel
theorem dL_law_3052 : decode cL_law 3052 = .ok (.iconst 1, 1) := by decide +kernel
theorem dL_law_3053 : decode cL_law 3053 = .ok (.iadd, 1) := by decide +kernel
theorem dL_law_3054 : decode cL_law 3054 = .ok (.iaload, 1) := by decide +kernel
theorem dL_law_3055 : decode cL_law 3055 = .ok (.aload_n 3, 1) := by decide +kernel
theorem dL_law_3056 : decode cL_law 3056 = .ok (.invokestatic 377, 3) := by decide +kernel
theorem dL_law_3059 : decode cL_law 3059 = .ok (.istore 6, 2) := by decide +kernel
theorem dL_law_3061 : decode cL_law 3061 = .ok (.aload_n 2, 1) := by decide +kernel
theorem dL_law_3062 : decode cL_law 3062 = .ok (.aload_n 0, 1) := by decide +kernel
theorem dL_law_3063 : decode cL_law 3063 = .ok (.iload 5, 2) := by decide +kernel
theorem dL_law_3065 : decode cL_law 3065 = .ok (.iconst 1, 1) := by decide +kernel
theorem dL_law_3066 : decode cL_law 3066 = .ok (.iadd, 1) := by decide +kernel
theorem dL_law_3067 : decode cL_law 3067 = .ok (.iaload, 1) := by decide +kernel
theorem dL_law_3068 : decode cL_law 3068 = .ok (.invokevirtual 379, 3) := by decide +kernel
theorem dL_law_3071 : decode cL_law 3071 = .ok (.istore 7, 2) := by decide +kernel
theorem dL_law_3073 : decode cL_law 3073 = .ok (.aload_n 2, 1) := by decide +kernel
theorem dL_law_3074 : decode cL_law 3074 = .ok (.invokevirtual 215, 3) := by decide +kernel
theorem dL_law_3077 : decode cL_law 3077 = .ok (.iload 6, 2) := by decide +kernel
theorem dL_law_3079 : decode cL_law 3079 = .ok (.if_icmp .eq 5, 3) := by decide +kernel
theorem dL_law_3082 : decode cL_law 3082 = .ok (.iconst 0, 1) := by decide +kernel
theorem dL_law_3083 : decode cL_law 3083 = .ok (.ireturn, 1) := by decide +kernel
theorem dL_law_3084 : decode cL_law 3084 = .ok (.iload 6, 2) := by decide +kernel
theorem dL_law_3086 : decode cL_law 3086 = .ok (.ifCond .ne 15, 3) := by decide +kernel
theorem dL_law_3089 : decode cL_law 3089 = .ok (.aload_n 3, 1) := by decide +kernel
theorem dL_law_3090 : decode cL_law 3090 = .ok (.iconst 0, 1) := by decide +kernel
theorem dL_law_3091 : decode cL_law 3091 = .ok (.laload, 1) := by decide +kernel
theorem dL_law_3092 : decode cL_law 3092 = .ok (.iload 7, 2) := by decide +kernel
theorem dL_law_3094 : decode cL_law 3094 = .ok (.i2l, 1) := by decide +kernel
theorem dL_law_3095 : decode cL_law 3095 = .ok (.lcmp, 1) := by decide +kernel
theorem dL_law_3096 : decode cL_law 3096 = .ok (.ifCond .eq 5, 3) := by decide +kernel
theorem dL_law_3099 : decode cL_law 3099 = .ok (.iconst 0, 1) := by decide +kernel
theorem dL_law_3100 : decode cL_law 3100 = .ok (.ireturn, 1) := by decide +kernel
theorem dL_law_3101 : decode cL_law 3101 = .ok (.goto 563, 3) := by decide +kernel
theorem dL_law_3104 : decode cL_law 3104 = .ok (.aload_n 1, 1) := by decide +kernel
theorem dL_law_3105 : decode cL_law 3105 = .ok (.aload_n 0, 1) := by decide +kernel
theorem dL_law_3106 : decode cL_law 3106 = .ok (.iload 5, 2) := by decide +kernel
theorem dL_law_3108 : decode cL_law 3108 = .ok (.iconst 1, 1) := by decide +kernel
theorem dL_law_3109 : decode cL_law 3109 = .ok (.iadd, 1) := by decide +kernel
theorem dL_law_3110 : decode cL_law 3110 = .ok (.iaload, 1) := by decide +kernel
theorem dL_law_3111 : decode cL_law 3111 = .ok (.aload_n 0, 1) := by decide +kernel
theorem dL_law_3112 : decode cL_law 3112 = .ok (.iload 5, 2) := by decide +kernel
theorem dL_law_3114 : decode cL_law 3114 = .ok (.iconst 2, 1) := by decide +kernel
theorem dL_law_3115 : decode cL_law 3115 = .ok (.iadd, 1) := by decide +kernel
theorem dL_law_3116 : decode cL_law 3116 = .ok (.iaload, 1) := by decide +kernel
theorem dL_law_3117 : decode cL_law 3117 = .ok (.aload_n 3, 1) := by decide +kernel
theorem dL_law_3118 : decode cL_law 3118 = .ok (.invokestatic 380, 3) := by decide +kernel
theorem dL_law_3121 : decode cL_law 3121 = .ok (.istore 6, 2) := by decide +kernel
theorem dL_law_3123 : decode cL_law 3123 = .ok (.aload_n 2, 1) := by decide +kernel
theorem dL_law_3124 : decode cL_law 3124 = .ok (.aload_n 0, 1) := by decide +kernel
theorem dL_law_3125 : decode cL_law 3125 = .ok (.iload 5, 2) := by decide +kernel
theorem dL_law_3127 : decode cL_law 3127 = .ok (.iconst 1, 1) := by decide +kernel
theorem dL_law_3128 : decode cL_law 3128 = .ok (.iadd, 1) := by decide +kernel
theorem dL_law_3129 : decode cL_law 3129 = .ok (.iaload, 1) := by decide +kernel
theorem dL_law_3130 : decode cL_law 3130 = .ok (.aload_n 0, 1) := by decide +kernel
theorem dL_law_3131 : decode cL_law 3131 = .ok (.iload 5, 2) := by decide +kernel
theorem dL_law_3133 : decode cL_law 3133 = .ok (.iconst 2, 1) := by decide +kernel
theorem dL_law_3134 : decode cL_law 3134 = .ok (.iadd, 1) := by decide +kernel
theorem dL_law_3135 : decode cL_law 3135 = .ok (.iaload, 1) := by decide +kernel
theorem dL_law_3136 : decode cL_law 3136 = .ok (.invokevirtual 382, 3) := by decide +kernel
theorem dL_law_3139 : decode cL_law 3139 = .ok (.istore 7, 2) := by decide +kernel
theorem dL_law_3141 : decode cL_law 3141 = .ok (.aload_n 2, 1) := by decide +kernel
theorem dL_law_3142 : decode cL_law 3142 = .ok (.invokevirtual 215, 3) := by decide +kernel
theorem dL_law_3145 : decode cL_law 3145 = .ok (.iload 6, 2) := by decide +kernel
theorem dL_law_3147 : decode cL_law 3147 = .ok (.if_icmp .eq 5, 3) := by decide +kernel
theorem dL_law_3150 : decode cL_law 3150 = .ok (.iconst 0, 1) := by decide +kernel
theorem dL_law_3151 : decode cL_law 3151 = .ok (.ireturn, 1) := by decide +kernel
theorem dL_law_3152 : decode cL_law 3152 = .ok (.iload 6, 2) := by decide +kernel
theorem dL_law_3154 : decode cL_law 3154 = .ok (.ifCond .ne 15, 3) := by decide +kernel
theorem dL_law_3157 : decode cL_law 3157 = .ok (.aload_n 3, 1) := by decide +kernel
theorem dL_law_3158 : decode cL_law 3158 = .ok (.iconst 0, 1) := by decide +kernel
theorem dL_law_3159 : decode cL_law 3159 = .ok (.laload, 1) := by decide +kernel
theorem dL_law_3160 : decode cL_law 3160 = .ok (.iload 7, 2) := by decide +kernel
theorem dL_law_3162 : decode cL_law 3162 = .ok (.i2l, 1) := by decide +kernel
theorem dL_law_3163 : decode cL_law 3163 = .ok (.lcmp, 1) := by decide +kernel
theorem dL_law_3164 : decode cL_law 3164 = .ok (.ifCond .eq 5, 3) := by decide +kernel
theorem dL_law_3167 : decode cL_law 3167 = .ok (.iconst 0, 1) := by decide +kernel
theorem dL_law_3168 : decode cL_law 3168 = .ok (.ireturn, 1) := by decide +kernel
theorem dL_law_3169 : decode cL_law 3169 = .ok (.goto 495, 3) := by decide +kernel
theorem dL_law_3172 : decode cL_law 3172 = .ok (.aload_n 1, 1) := by decide +kernel
theorem dL_law_3173 : decode cL_law 3173 = .ok (.aload_n 0, 1) := by decide +kernel
theorem dL_law_3174 : decode cL_law 3174 = .ok (.iload 5, 2) := by decide +kernel
theorem dL_law_3176 : decode cL_law 3176 = .ok (.iconst 1, 1) := by decide +kernel
theorem dL_law_3177 : decode cL_law 3177 = .ok (.iadd, 1) := by decide +kernel
theorem dL_law_3178 : decode cL_law 3178 = .ok (.iaload, 1) := by decide +kernel
theorem dL_law_3179 : decode cL_law 3179 = .ok (.aload_n 0, 1) := by decide +kernel
theorem dL_law_3180 : decode cL_law 3180 = .ok (.iload 5, 2) := by decide +kernel
theorem dL_law_3182 : decode cL_law 3182 = .ok (.iconst 2, 1) := by decide +kernel
theorem dL_law_3183 : decode cL_law 3183 = .ok (.iadd, 1) := by decide +kernel
theorem dL_law_3184 : decode cL_law 3184 = .ok (.iaload, 1) := by decide +kernel
theorem dL_law_3185 : decode cL_law 3185 = .ok (.aload_n 3, 1) := by decide +kernel
theorem dL_law_3186 : decode cL_law 3186 = .ok (.invokestatic 383, 3) := by decide +kernel
theorem dL_law_3189 : decode cL_law 3189 = .ok (.istore 6, 2) := by decide +kernel
theorem dL_law_3191 : decode cL_law 3191 = .ok (.aload_n 2, 1) := by decide +kernel
theorem dL_law_3192 : decode cL_law 3192 = .ok (.aload_n 0, 1) := by decide +kernel
theorem dL_law_3193 : decode cL_law 3193 = .ok (.iload 5, 2) := by decide +kernel
theorem dL_law_3195 : decode cL_law 3195 = .ok (.iconst 1, 1) := by decide +kernel
theorem dL_law_3196 : decode cL_law 3196 = .ok (.iadd, 1) := by decide +kernel
theorem dL_law_3197 : decode cL_law 3197 = .ok (.iaload, 1) := by decide +kernel
theorem dL_law_3198 : decode cL_law 3198 = .ok (.aload_n 0, 1) := by decide +kernel
theorem dL_law_3199 : decode cL_law 3199 = .ok (.iload 5, 2) := by decide +kernel
theorem dL_law_3201 : decode cL_law 3201 = .ok (.iconst 2, 1) := by decide +kernel
theorem dL_law_3202 : decode cL_law 3202 = .ok (.iadd, 1) := by decide +kernel
theorem dL_law_3203 : decode cL_law 3203 = .ok (.iaload, 1) := by decide +kernel
theorem dL_law_3204 : decode cL_law 3204 = .ok (.invokevirtual 385, 3) := by decide +kernel
theorem dL_law_3207 : decode cL_law 3207 = .ok (.istore 7, 2) := by decide +kernel
theorem dL_law_3209 : decode cL_law 3209 = .ok (.aload_n 2, 1) := by decide +kernel
theorem dL_law_3210 : decode cL_law 3210 = .ok (.invokevirtual 215, 3) := by decide +kernel
theorem dL_law_3213 : decode cL_law 3213 = .ok (.iload 6, 2) := by decide +kernel
theorem dL_law_3215 : decode cL_law 3215 = .ok (.if_icmp .eq 5, 3) := by decide +kernel
theorem dL_law_3218 : decode cL_law 3218 = .ok (.iconst 0, 1) := by decide +kernel
theorem dL_law_3219 : decode cL_law 3219 = .ok (.ireturn, 1) := by decide +kernel
theorem dL_law_3220 : decode cL_law 3220 = .ok (.iload 6, 2) := by decide +kernel
theorem dL_law_3222 : decode cL_law 3222 = .ok (.ifCond .ne 22, 3) := by decide +kernel
theorem dL_law_3225 : decode cL_law 3225 = .ok (.aload_n 3, 1) := by decide +kernel
theorem dL_law_3226 : decode cL_law 3226 = .ok (.iconst 0, 1) := by decide +kernel
theorem dL_law_3227 : decode cL_law 3227 = .ok (.laload, 1) := by decide +kernel
theorem dL_law_3228 : decode cL_law 3228 = .ok (.iload 7, 2) := by decide +kernel
theorem dL_law_3230 : decode cL_law 3230 = .ok (.ifCond .eq 7, 3) := by decide +kernel
theorem dL_law_3233 : decode cL_law 3233 = .ok (.lconst 1, 1) := by decide +kernel
theorem dL_law_3234 : decode cL_law 3234 = .ok (.goto 4, 3) := by decide +kernel
theorem dL_law_3237 : decode cL_law 3237 = .ok (.lconst 0, 1) := by decide +kernel
theorem dL_law_3238 : decode cL_law 3238 = .ok (.lcmp, 1) := by decide +kernel
theorem dL_law_3239 : decode cL_law 3239 = .ok (.ifCond .eq 5, 3) := by decide +kernel
theorem dL_law_3242 : decode cL_law 3242 = .ok (.iconst 0, 1) := by decide +kernel
theorem dL_law_3243 : decode cL_law 3243 = .ok (.ireturn, 1) := by decide +kernel
theorem dL_law_3244 : decode cL_law 3244 = .ok (.goto 420, 3) := by decide +kernel
theorem dL_law_3247 : decode cL_law 3247 = .ok (.aload_n 1, 1) := by decide +kernel
theorem dL_law_3248 : decode cL_law 3248 = .ok (.aload_n 0, 1) := by decide +kernel
theorem dL_law_3249 : decode cL_law 3249 = .ok (.iload 5, 2) := by decide +kernel
theorem dL_law_3251 : decode cL_law 3251 = .ok (.iconst 1, 1) := by decide +kernel
theorem dL_law_3252 : decode cL_law 3252 = .ok (.iadd, 1) := by decide +kernel
theorem dL_law_3253 : decode cL_law 3253 = .ok (.iaload, 1) := by decide +kernel
theorem dL_law_3254 : decode cL_law 3254 = .ok (.aload_n 0, 1) := by decide +kernel
theorem dL_law_3255 : decode cL_law 3255 = .ok (.iload 5, 2) := by decide +kernel
theorem dL_law_3257 : decode cL_law 3257 = .ok (.iconst 2, 1) := by decide +kernel
theorem dL_law_3258 : decode cL_law 3258 = .ok (.iadd, 1) := by decide +kernel
theorem dL_law_3259 : decode cL_law 3259 = .ok (.iaload, 1) := by decide +kernel
theorem dL_law_3260 : decode cL_law 3260 = .ok (.aload_n 3, 1) := by decide +kernel
theorem dL_law_3261 : decode cL_law 3261 = .ok (.invokestatic 386, 3) := by decide +kernel
theorem dL_law_3264 : decode cL_law 3264 = .ok (.istore 6, 2) := by decide +kernel
theorem dL_law_3266 : decode cL_law 3266 = .ok (.aload_n 2, 1) := by decide +kernel
theorem dL_law_3267 : decode cL_law 3267 = .ok (.aload_n 0, 1) := by decide +kernel
theorem dL_law_3268 : decode cL_law 3268 = .ok (.iload 5, 2) := by decide +kernel
theorem dL_law_3270 : decode cL_law 3270 = .ok (.iconst 1, 1) := by decide +kernel
theorem dL_law_3271 : decode cL_law 3271 = .ok (.iadd, 1) := by decide +kernel
theorem dL_law_3272 : decode cL_law 3272 = .ok (.iaload, 1) := by decide +kernel
theorem dL_law_3273 : decode cL_law 3273 = .ok (.aload_n 0, 1) := by decide +kernel
theorem dL_law_3274 : decode cL_law 3274 = .ok (.iload 5, 2) := by decide +kernel
theorem dL_law_3276 : decode cL_law 3276 = .ok (.iconst 2, 1) := by decide +kernel
theorem dL_law_3277 : decode cL_law 3277 = .ok (.iadd, 1) := by decide +kernel
theorem dL_law_3278 : decode cL_law 3278 = .ok (.iaload, 1) := by decide +kernel
theorem dL_law_3279 : decode cL_law 3279 = .ok (.invokevirtual 388, 3) := by decide +kernel
theorem dL_law_3282 : decode cL_law 3282 = .ok (.istore 7, 2) := by decide +kernel
theorem dL_law_3284 : decode cL_law 3284 = .ok (.aload_n 2, 1) := by decide +kernel
theorem dL_law_3285 : decode cL_law 3285 = .ok (.invokevirtual 215, 3) := by decide +kernel
theorem dL_law_3288 : decode cL_law 3288 = .ok (.iload 6, 2) := by decide +kernel
theorem dL_law_3290 : decode cL_law 3290 = .ok (.if_icmp .eq 5, 3) := by decide +kernel
theorem dL_law_3293 : decode cL_law 3293 = .ok (.iconst 0, 1) := by decide +kernel
theorem dL_law_3294 : decode cL_law 3294 = .ok (.ireturn, 1) := by decide +kernel
theorem dL_law_3295 : decode cL_law 3295 = .ok (.iload 6, 2) := by decide +kernel
theorem dL_law_3297 : decode cL_law 3297 = .ok (.ifCond .ne 15, 3) := by decide +kernel
theorem dL_law_3300 : decode cL_law 3300 = .ok (.aload_n 3, 1) := by decide +kernel
theorem dL_law_3301 : decode cL_law 3301 = .ok (.iconst 0, 1) := by decide +kernel
theorem dL_law_3302 : decode cL_law 3302 = .ok (.laload, 1) := by decide +kernel
theorem dL_law_3303 : decode cL_law 3303 = .ok (.iload 7, 2) := by decide +kernel
theorem dL_law_3305 : decode cL_law 3305 = .ok (.i2l, 1) := by decide +kernel
theorem dL_law_3306 : decode cL_law 3306 = .ok (.lcmp, 1) := by decide +kernel
theorem dL_law_3307 : decode cL_law 3307 = .ok (.ifCond .eq 5, 3) := by decide +kernel
theorem dL_law_3310 : decode cL_law 3310 = .ok (.iconst 0, 1) := by decide +kernel
theorem dL_law_3311 : decode cL_law 3311 = .ok (.ireturn, 1) := by decide +kernel
theorem dL_law_3312 : decode cL_law 3312 = .ok (.goto 352, 3) := by decide +kernel
theorem dL_law_3315 : decode cL_law 3315 = .ok (.aload_n 1, 1) := by decide +kernel
theorem dL_law_3316 : decode cL_law 3316 = .ok (.aload_n 0, 1) := by decide +kernel
theorem dL_law_3317 : decode cL_law 3317 = .ok (.iload 5, 2) := by decide +kernel
theorem dL_law_3319 : decode cL_law 3319 = .ok (.iconst 1, 1) := by decide +kernel
theorem dL_law_3320 : decode cL_law 3320 = .ok (.iadd, 1) := by decide +kernel
theorem dL_law_3321 : decode cL_law 3321 = .ok (.iaload, 1) := by decide +kernel
theorem dL_law_3322 : decode cL_law 3322 = .ok (.aload_n 0, 1) := by decide +kernel
theorem dL_law_3323 : decode cL_law 3323 = .ok (.iload 5, 2) := by decide +kernel
theorem dL_law_3325 : decode cL_law 3325 = .ok (.iconst 2, 1) := by decide +kernel
theorem dL_law_3326 : decode cL_law 3326 = .ok (.iadd, 1) := by decide +kernel
theorem dL_law_3327 : decode cL_law 3327 = .ok (.iaload, 1) := by decide +kernel
theorem dL_law_3328 : decode cL_law 3328 = .ok (.aload_n 3, 1) := by decide +kernel
theorem dL_law_3329 : decode cL_law 3329 = .ok (.invokestatic 389, 3) := by decide +kernel
theorem dL_law_3332 : decode cL_law 3332 = .ok (.istore 6, 2) := by decide +kernel
theorem dL_law_3334 : decode cL_law 3334 = .ok (.aload_n 2, 1) := by decide +kernel
theorem dL_law_3335 : decode cL_law 3335 = .ok (.aload_n 0, 1) := by decide +kernel
theorem dL_law_3336 : decode cL_law 3336 = .ok (.iload 5, 2) := by decide +kernel
theorem dL_law_3338 : decode cL_law 3338 = .ok (.iconst 1, 1) := by decide +kernel
theorem dL_law_3339 : decode cL_law 3339 = .ok (.iadd, 1) := by decide +kernel
theorem dL_law_3340 : decode cL_law 3340 = .ok (.iaload, 1) := by decide +kernel
theorem dL_law_3341 : decode cL_law 3341 = .ok (.aload_n 0, 1) := by decide +kernel
theorem dL_law_3342 : decode cL_law 3342 = .ok (.iload 5, 2) := by decide +kernel
theorem dL_law_3344 : decode cL_law 3344 = .ok (.iconst 2, 1) := by decide +kernel
theorem dL_law_3345 : decode cL_law 3345 = .ok (.iadd, 1) := by decide +kernel
theorem dL_law_3346 : decode cL_law 3346 = .ok (.iaload, 1) := by decide +kernel
theorem dL_law_3347 : decode cL_law 3347 = .ok (.invokevirtual 391, 3) := by decide +kernel
theorem dL_law_3350 : decode cL_law 3350 = .ok (.istore 7, 2) := by decide +kernel
theorem dL_law_3352 : decode cL_law 3352 = .ok (.aload_n 2, 1) := by decide +kernel
theorem dL_law_3353 : decode cL_law 3353 = .ok (.invokevirtual 215, 3) := by decide +kernel
theorem dL_law_3356 : decode cL_law 3356 = .ok (.iload 6, 2) := by decide +kernel
theorem dL_law_3358 : decode cL_law 3358 = .ok (.if_icmp .eq 5, 3) := by decide +kernel
theorem dL_law_3361 : decode cL_law 3361 = .ok (.iconst 0, 1) := by decide +kernel
theorem dL_law_3362 : decode cL_law 3362 = .ok (.ireturn, 1) := by decide +kernel
theorem dL_law_3363 : decode cL_law 3363 = .ok (.iload 6, 2) := by decide +kernel
theorem dL_law_3365 : decode cL_law 3365 = .ok (.ifCond .ne 15, 3) := by decide +kernel
theorem dL_law_3368 : decode cL_law 3368 = .ok (.aload_n 3, 1) := by decide +kernel
theorem dL_law_3369 : decode cL_law 3369 = .ok (.iconst 0, 1) := by decide +kernel
theorem dL_law_3370 : decode cL_law 3370 = .ok (.laload, 1) := by decide +kernel
theorem dL_law_3371 : decode cL_law 3371 = .ok (.iload 7, 2) := by decide +kernel
theorem dL_law_3373 : decode cL_law 3373 = .ok (.i2l, 1) := by decide +kernel
theorem dL_law_3374 : decode cL_law 3374 = .ok (.lcmp, 1) := by decide +kernel
theorem dL_law_3375 : decode cL_law 3375 = .ok (.ifCond .eq 5, 3) := by decide +kernel
theorem dL_law_3378 : decode cL_law 3378 = .ok (.iconst 0, 1) := by decide +kernel
theorem dL_law_3379 : decode cL_law 3379 = .ok (.ireturn, 1) := by decide +kernel
theorem dL_law_3380 : decode cL_law 3380 = .ok (.goto 284, 3) := by decide +kernel
theorem dL_law_3383 : decode cL_law 3383 = .ok (.aload_n 1, 1) := by decide +kernel
theorem dL_law_3384 : decode cL_law 3384 = .ok (.aload_n 0, 1) := by decide +kernel
theorem dL_law_3385 : decode cL_law 3385 = .ok (.iload 5, 2) := by decide +kernel
theorem dL_law_3387 : decode cL_law 3387 = .ok (.iconst 1, 1) := by decide +kernel
theorem dL_law_3388 : decode cL_law 3388 = .ok (.iadd, 1) := by decide +kernel
theorem dL_law_3389 : decode cL_law 3389 = .ok (.iaload, 1) := by decide +kernel
theorem dL_law_3390 : decode cL_law 3390 = .ok (.aload_n 3, 1) := by decide +kernel
theorem dL_law_3391 : decode cL_law 3391 = .ok (.invokestatic 392, 3) := by decide +kernel
theorem dL_law_3394 : decode cL_law 3394 = .ok (.istore 6, 2) := by decide +kernel
theorem dL_law_3396 : decode cL_law 3396 = .ok (.aload_n 2, 1) := by decide +kernel
theorem dL_law_3397 : decode cL_law 3397 = .ok (.aload_n 0, 1) := by decide +kernel
theorem dL_law_3398 : decode cL_law 3398 = .ok (.iload 5, 2) := by decide +kernel
theorem dL_law_3400 : decode cL_law 3400 = .ok (.iconst 1, 1) := by decide +kernel
theorem dL_law_3401 : decode cL_law 3401 = .ok (.iadd, 1) := by decide +kernel
theorem dL_law_3402 : decode cL_law 3402 = .ok (.iaload, 1) := by decide +kernel
theorem dL_law_3403 : decode cL_law 3403 = .ok (.invokevirtual 394, 3) := by decide +kernel
theorem dL_law_3406 : decode cL_law 3406 = .ok (.istore 7, 2) := by decide +kernel
theorem dL_law_3408 : decode cL_law 3408 = .ok (.aload_n 2, 1) := by decide +kernel
theorem dL_law_3409 : decode cL_law 3409 = .ok (.invokevirtual 215, 3) := by decide +kernel
theorem dL_law_3412 : decode cL_law 3412 = .ok (.iload 6, 2) := by decide +kernel
theorem dL_law_3414 : decode cL_law 3414 = .ok (.if_icmp .eq 5, 3) := by decide +kernel
theorem dL_law_3417 : decode cL_law 3417 = .ok (.iconst 0, 1) := by decide +kernel
theorem dL_law_3418 : decode cL_law 3418 = .ok (.ireturn, 1) := by decide +kernel
theorem dL_law_3419 : decode cL_law 3419 = .ok (.iload 6, 2) := by decide +kernel
theorem dL_law_3421 : decode cL_law 3421 = .ok (.ifCond .ne 15, 3) := by decide +kernel
theorem dL_law_3424 : decode cL_law 3424 = .ok (.aload_n 3, 1) := by decide +kernel
theorem dL_law_3425 : decode cL_law 3425 = .ok (.iconst 0, 1) := by decide +kernel
theorem dL_law_3426 : decode cL_law 3426 = .ok (.laload, 1) := by decide +kernel
theorem dL_law_3427 : decode cL_law 3427 = .ok (.iload 7, 2) := by decide +kernel
theorem dL_law_3429 : decode cL_law 3429 = .ok (.i2l, 1) := by decide +kernel
theorem dL_law_3430 : decode cL_law 3430 = .ok (.lcmp, 1) := by decide +kernel
theorem dL_law_3431 : decode cL_law 3431 = .ok (.ifCond .eq 5, 3) := by decide +kernel
theorem dL_law_3434 : decode cL_law 3434 = .ok (.iconst 0, 1) := by decide +kernel
theorem dL_law_3435 : decode cL_law 3435 = .ok (.ireturn, 1) := by decide +kernel
theorem dL_law_3436 : decode cL_law 3436 = .ok (.goto 228, 3) := by decide +kernel
theorem dL_law_3439 : decode cL_law 3439 = .ok (.aload_n 1, 1) := by decide +kernel
theorem dL_law_3440 : decode cL_law 3440 = .ok (.aload_n 0, 1) := by decide +kernel
theorem dL_law_3441 : decode cL_law 3441 = .ok (.iload 5, 2) := by decide +kernel
theorem dL_law_3443 : decode cL_law 3443 = .ok (.iconst 1, 1) := by decide +kernel
theorem dL_law_3444 : decode cL_law 3444 = .ok (.iadd, 1) := by decide +kernel
theorem dL_law_3445 : decode cL_law 3445 = .ok (.iaload, 1) := by decide +kernel
theorem dL_law_3446 : decode cL_law 3446 = .ok (.aload_n 3, 1) := by decide +kernel
theorem dL_law_3447 : decode cL_law 3447 = .ok (.invokestatic 395, 3) := by decide +kernel
theorem dL_law_3450 : decode cL_law 3450 = .ok (.istore 6, 2) := by decide +kernel
theorem dL_law_3452 : decode cL_law 3452 = .ok (.aload_n 2, 1) := by decide +kernel
theorem dL_law_3453 : decode cL_law 3453 = .ok (.aload_n 0, 1) := by decide +kernel
theorem dL_law_3454 : decode cL_law 3454 = .ok (.iload 5, 2) := by decide +kernel
theorem dL_law_3456 : decode cL_law 3456 = .ok (.iconst 1, 1) := by decide +kernel
theorem dL_law_3457 : decode cL_law 3457 = .ok (.iadd, 1) := by decide +kernel
theorem dL_law_3458 : decode cL_law 3458 = .ok (.iaload, 1) := by decide +kernel
theorem dL_law_3459 : decode cL_law 3459 = .ok (.invokevirtual 397, 3) := by decide +kernel
theorem dL_law_3462 : decode cL_law 3462 = .ok (.istore 7, 2) := by decide +kernel
theorem dL_law_3464 : decode cL_law 3464 = .ok (.aload_n 2, 1) := by decide +kernel
theorem dL_law_3465 : decode cL_law 3465 = .ok (.invokevirtual 215, 3) := by decide +kernel
theorem dL_law_3468 : decode cL_law 3468 = .ok (.iload 6, 2) := by decide +kernel
theorem dL_law_3470 : decode cL_law 3470 = .ok (.if_icmp .eq 5, 3) := by decide +kernel
theorem dL_law_3473 : decode cL_law 3473 = .ok (.iconst 0, 1) := by decide +kernel
theorem dL_law_3474 : decode cL_law 3474 = .ok (.ireturn, 1) := by decide +kernel
theorem dL_law_3475 : decode cL_law 3475 = .ok (.iload 6, 2) := by decide +kernel
theorem dL_law_3477 : decode cL_law 3477 = .ok (.ifCond .ne 15, 3) := by decide +kernel
theorem dL_law_3480 : decode cL_law 3480 = .ok (.aload_n 3, 1) := by decide +kernel
theorem dL_law_3481 : decode cL_law 3481 = .ok (.iconst 0, 1) := by decide +kernel
theorem dL_law_3482 : decode cL_law 3482 = .ok (.laload, 1) := by decide +kernel
theorem dL_law_3483 : decode cL_law 3483 = .ok (.iload 7, 2) := by decide +kernel
theorem dL_law_3485 : decode cL_law 3485 = .ok (.i2l, 1) := by decide +kernel
theorem dL_law_3486 : decode cL_law 3486 = .ok (.lcmp, 1) := by decide +kernel
theorem dL_law_3487 : decode cL_law 3487 = .ok (.ifCond .eq 5, 3) := by decide +kernel
theorem dL_law_3490 : decode cL_law 3490 = .ok (.iconst 0, 1) := by decide +kernel
theorem dL_law_3491 : decode cL_law 3491 = .ok (.ireturn, 1) := by decide +kernel
theorem dL_law_3492 : decode cL_law 3492 = .ok (.goto 172, 3) := by decide +kernel
theorem dL_law_3495 : decode cL_law 3495 = .ok (.aload_n 1, 1) := by decide +kernel
theorem dL_law_3496 : decode cL_law 3496 = .ok (.aload_n 3, 1) := by decide +kernel
theorem dL_law_3497 : decode cL_law 3497 = .ok (.invokestatic 398, 3) := by decide +kernel
theorem dL_law_3500 : decode cL_law 3500 = .ok (.istore 6, 2) := by decide +kernel
theorem dL_law_3502 : decode cL_law 3502 = .ok (.aload_n 2, 1) := by decide +kernel
theorem dL_law_3503 : decode cL_law 3503 = .ok (.invokevirtual 400, 3) := by decide +kernel
theorem dL_law_3506 : decode cL_law 3506 = .ok (.istore 7, 2) := by decide +kernel
theorem dL_law_3508 : decode cL_law 3508 = .ok (.aload_n 2, 1) := by decide +kernel
theorem dL_law_3509 : decode cL_law 3509 = .ok (.invokevirtual 215, 3) := by decide +kernel
theorem dL_law_3512 : decode cL_law 3512 = .ok (.iload 6, 2) := by decide +kernel
theorem dL_law_3514 : decode cL_law 3514 = .ok (.if_icmp .eq 5, 3) := by decide +kernel
theorem dL_law_3517 : decode cL_law 3517 = .ok (.iconst 0, 1) := by decide +kernel
theorem dL_law_3518 : decode cL_law 3518 = .ok (.ireturn, 1) := by decide +kernel
theorem dL_law_3519 : decode cL_law 3519 = .ok (.iload 6, 2) := by decide +kernel
theorem dL_law_3521 : decode cL_law 3521 = .ok (.ifCond .ne 15, 3) := by decide +kernel
theorem dL_law_3524 : decode cL_law 3524 = .ok (.aload_n 3, 1) := by decide +kernel
theorem dL_law_3525 : decode cL_law 3525 = .ok (.iconst 0, 1) := by decide +kernel
theorem dL_law_3526 : decode cL_law 3526 = .ok (.laload, 1) := by decide +kernel
theorem dL_law_3527 : decode cL_law 3527 = .ok (.iload 7, 2) := by decide +kernel
theorem dL_law_3529 : decode cL_law 3529 = .ok (.i2l, 1) := by decide +kernel
theorem dL_law_3530 : decode cL_law 3530 = .ok (.lcmp, 1) := by decide +kernel
theorem dL_law_3531 : decode cL_law 3531 = .ok (.ifCond .eq 5, 3) := by decide +kernel
theorem dL_law_3534 : decode cL_law 3534 = .ok (.iconst 0, 1) := by decide +kernel
theorem dL_law_3535 : decode cL_law 3535 = .ok (.ireturn, 1) := by decide +kernel
theorem dL_law_3536 : decode cL_law 3536 = .ok (.goto 128, 3) := by decide +kernel
theorem dL_law_3539 : decode cL_law 3539 = .ok (.aload_n 1, 1) := by decide +kernel
theorem dL_law_3540 : decode cL_law 3540 = .ok (.invokevirtual 401, 3) := by decide +kernel
theorem dL_law_3543 : decode cL_law 3543 = .ok (.aload_n 2, 1) := by decide +kernel
theorem dL_law_3544 : decode cL_law 3544 = .ok (.invokevirtual 404, 3) := by decide +kernel
theorem dL_law_3547 : decode cL_law 3547 = .ok (.if_icmp .eq 117, 3) := by decide +kernel
theorem dL_law_3550 : decode cL_law 3550 = .ok (.iconst 0, 1) := by decide +kernel
theorem dL_law_3551 : decode cL_law 3551 = .ok (.ireturn, 1) := by decide +kernel
theorem dL_law_3552 : decode cL_law 3552 = .ok (.aload_n 1, 1) := by decide +kernel
theorem dL_law_3553 : decode cL_law 3553 = .ok (.aload_n 0, 1) := by decide +kernel
theorem dL_law_3554 : decode cL_law 3554 = .ok (.iload 5, 2) := by decide +kernel
theorem dL_law_3556 : decode cL_law 3556 = .ok (.iconst 1, 1) := by decide +kernel
theorem dL_law_3557 : decode cL_law 3557 = .ok (.iadd, 1) := by decide +kernel
theorem dL_law_3558 : decode cL_law 3558 = .ok (.iaload, 1) := by decide +kernel
theorem dL_law_3559 : decode cL_law 3559 = .ok (.aload_n 3, 1) := by decide +kernel
theorem dL_law_3560 : decode cL_law 3560 = .ok (.invokestatic 405, 3) := by decide +kernel
theorem dL_law_3563 : decode cL_law 3563 = .ok (.istore 6, 2) := by decide +kernel
theorem dL_law_3565 : decode cL_law 3565 = .ok (.aload_n 2, 1) := by decide +kernel
theorem dL_law_3566 : decode cL_law 3566 = .ok (.aload_n 0, 1) := by decide +kernel
theorem dL_law_3567 : decode cL_law 3567 = .ok (.iload 5, 2) := by decide +kernel
theorem dL_law_3569 : decode cL_law 3569 = .ok (.iconst 1, 1) := by decide +kernel
theorem dL_law_3570 : decode cL_law 3570 = .ok (.iadd, 1) := by decide +kernel
theorem dL_law_3571 : decode cL_law 3571 = .ok (.iaload, 1) := by decide +kernel
theorem dL_law_3572 : decode cL_law 3572 = .ok (.invokevirtual 407, 3) := by decide +kernel
theorem dL_law_3575 : decode cL_law 3575 = .ok (.istore 7, 2) := by decide +kernel
theorem dL_law_3577 : decode cL_law 3577 = .ok (.aload_n 2, 1) := by decide +kernel
theorem dL_law_3578 : decode cL_law 3578 = .ok (.invokevirtual 215, 3) := by decide +kernel
theorem dL_law_3581 : decode cL_law 3581 = .ok (.iload 6, 2) := by decide +kernel
theorem dL_law_3583 : decode cL_law 3583 = .ok (.if_icmp .eq 5, 3) := by decide +kernel
theorem dL_law_3586 : decode cL_law 3586 = .ok (.iconst 0, 1) := by decide +kernel
theorem dL_law_3587 : decode cL_law 3587 = .ok (.ireturn, 1) := by decide +kernel
theorem dL_law_3588 : decode cL_law 3588 = .ok (.iload 6, 2) := by decide +kernel
theorem dL_law_3590 : decode cL_law 3590 = .ok (.ifCond .ne 15, 3) := by decide +kernel
theorem dL_law_3593 : decode cL_law 3593 = .ok (.aload_n 3, 1) := by decide +kernel
theorem dL_law_3594 : decode cL_law 3594 = .ok (.iconst 0, 1) := by decide +kernel
theorem dL_law_3595 : decode cL_law 3595 = .ok (.laload, 1) := by decide +kernel
theorem dL_law_3596 : decode cL_law 3596 = .ok (.iload 7, 2) := by decide +kernel
theorem dL_law_3598 : decode cL_law 3598 = .ok (.i2l, 1) := by decide +kernel
theorem dL_law_3599 : decode cL_law 3599 = .ok (.lcmp, 1) := by decide +kernel
theorem dL_law_3600 : decode cL_law 3600 = .ok (.ifCond .eq 5, 3) := by decide +kernel
theorem dL_law_3603 : decode cL_law 3603 = .ok (.iconst 0, 1) := by decide +kernel
theorem dL_law_3604 : decode cL_law 3604 = .ok (.ireturn, 1) := by decide +kernel
theorem dL_law_3605 : decode cL_law 3605 = .ok (.goto 59, 3) := by decide +kernel
theorem dL_law_3608 : decode cL_law 3608 = .ok (.aload_n 1, 1) := by decide +kernel
theorem dL_law_3609 : decode cL_law 3609 = .ok (.aload_n 0, 1) := by decide +kernel
theorem dL_law_3610 : decode cL_law 3610 = .ok (.iload 5, 2) := by decide +kernel
theorem dL_law_3612 : decode cL_law 3612 = .ok (.iconst 1, 1) := by decide +kernel
theorem dL_law_3613 : decode cL_law 3613 = .ok (.iadd, 1) := by decide +kernel
theorem dL_law_3614 : decode cL_law 3614 = .ok (.iaload, 1) := by decide +kernel
theorem dL_law_3615 : decode cL_law 3615 = .ok (.aload_n 3, 1) := by decide +kernel
theorem dL_law_3616 : decode cL_law 3616 = .ok (.invokestatic 408, 3) := by decide +kernel
theorem dL_law_3619 : decode cL_law 3619 = .ok (.istore 6, 2) := by decide +kernel
theorem dL_law_3621 : decode cL_law 3621 = .ok (.aload_n 2, 1) := by decide +kernel
theorem dL_law_3622 : decode cL_law 3622 = .ok (.aload_n 0, 1) := by decide +kernel
theorem dL_law_3623 : decode cL_law 3623 = .ok (.iload 5, 2) := by decide +kernel
theorem dL_law_3625 : decode cL_law 3625 = .ok (.iconst 1, 1) := by decide +kernel
theorem dL_law_3626 : decode cL_law 3626 = .ok (.iadd, 1) := by decide +kernel
theorem dL_law_3627 : decode cL_law 3627 = .ok (.iaload, 1) := by decide +kernel
theorem dL_law_3628 : decode cL_law 3628 = .ok (.invokevirtual 410, 3) := by decide +kernel
theorem dL_law_3631 : decode cL_law 3631 = .ok (.istore 7, 2) := by decide +kernel
theorem dL_law_3633 : decode cL_law 3633 = .ok (.aload_n 2, 1) := by decide +kernel
theorem dL_law_3634 : decode cL_law 3634 = .ok (.invokevirtual 215, 3) := by decide +kernel
theorem dL_law_3637 : decode cL_law 3637 = .ok (.iload 6, 2) := by decide +kernel
theorem dL_law_3639 : decode cL_law 3639 = .ok (.if_icmp .eq 5, 3) := by decide +kernel
theorem dL_law_3642 : decode cL_law 3642 = .ok (.iconst 0, 1) := by decide +kernel
theorem dL_law_3643 : decode cL_law 3643 = .ok (.ireturn, 1) := by decide +kernel
theorem dL_law_3644 : decode cL_law 3644 = .ok (.iload 6, 2) := by decide +kernel
theorem dL_law_3646 : decode cL_law 3646 = .ok (.ifCond .ne 15, 3) := by decide +kernel
theorem dL_law_3649 : decode cL_law 3649 = .ok (.aload_n 3, 1) := by decide +kernel
theorem dL_law_3650 : decode cL_law 3650 = .ok (.iconst 0, 1) := by decide +kernel
theorem dL_law_3651 : decode cL_law 3651 = .ok (.laload, 1) := by decide +kernel
theorem dL_law_3652 : decode cL_law 3652 = .ok (.iload 7, 2) := by decide +kernel
theorem dL_law_3654 : decode cL_law 3654 = .ok (.i2l, 1) := by decide +kernel
theorem dL_law_3655 : decode cL_law 3655 = .ok (.lcmp, 1) := by decide +kernel
theorem dL_law_3656 : decode cL_law 3656 = .ok (.ifCond .eq 5, 3) := by decide +kernel
theorem dL_law_3659 : decode cL_law 3659 = .ok (.iconst 0, 1) := by decide +kernel
theorem dL_law_3660 : decode cL_law 3660 = .ok (.ireturn, 1) := by decide +kernel
theorem dL_law_3661 : decode cL_law 3661 = .ok (.goto 3, 3) := by decide +kernel
theorem dL_law_3664 : decode cL_law 3664 = .ok (.iinc 5 6, 3) := by decide +kernel
theorem dL_law_3667 : decode cL_law 3667 = .ok (.goto (-3639), 3) := by decide +kernel
theorem dL_law_3670 : decode cL_law 3670 = .ok (.iconst 1, 1) := by decide +kernel
theorem dL_law_3671 : decode cL_law 3671 = .ok (.ireturn, 1) := by decide +kernel
