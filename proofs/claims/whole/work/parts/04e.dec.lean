theorem dL_restore_9 : decode cL_restore 9 = .ok (.goto 9, 3) := by decide +kernel
theorem dL_restore_12 : decode cL_restore 12 = .ok (.astore_n 3, 1) := by decide +kernel
theorem dL_restore_13 : decode cL_restore 13 = .ok (.iconst 1, 1) := by decide +kernel
theorem dL_restore_14 : decode cL_restore 14 = .ok (.ireturn, 1) := by decide +kernel
theorem dL_restore_15 : decode cL_restore 15 = .ok (.astore_n 3, 1) := by decide +kernel
theorem dL_restore_16 : decode cL_restore 16 = .ok (.iconst 2, 1) := by decide +kernel
theorem dL_restore_17 : decode cL_restore 17 = .ok (.ireturn, 1) := by decide +kernel
theorem dL_restore_18 : decode cL_restore 18 = .ok (.iconst 0, 1) := by decide +kernel
theorem dL_restore_19 : decode cL_restore 19 = .ok (.ireturn, 1) := by decide +kernel
theorem dL_law_0 : decode cL_law 0 = .ok (.new 8, 3) := by decide +kernel
theorem dL_law_3 : decode cL_law 3 = .ok (.dup, 1) := by decide +kernel
theorem dL_law_4 : decode cL_law 4 = .ok (.invokespecial 191, 3) := by decide +kernel
theorem dL_law_7 : decode cL_law 7 = .ok (.astore_n 1, 1) := by decide +kernel
theorem dL_law_8 : decode cL_law 8 = .ok (.new 192, 3) := by decide +kernel
theorem dL_law_11 : decode cL_law 11 = .ok (.dup, 1) := by decide +kernel
theorem dL_law_12 : decode cL_law 12 = .ok (.invokespecial 194, 3) := by decide +kernel
theorem dL_law_15 : decode cL_law 15 = .ok (.astore_n 2, 1) := by decide +kernel
theorem dL_law_16 : decode cL_law 16 = .ok (.iconst 1, 1) := by decide +kernel
theorem dL_law_17 : decode cL_law 17 = .ok (.newarray .long, 2) := by decide +kernel
theorem dL_law_19 : decode cL_law 19 = .ok (.astore_n 3, 1) := by decide +kernel
theorem dL_law_20 : decode cL_law 20 = .ok (.iconst 1, 1) := by decide +kernel
theorem dL_law_21 : decode cL_law 21 = .ok (.newarray .double, 2) := by decide +kernel
theorem dL_law_23 : decode cL_law 23 = .ok (.astore 4, 2) := by decide +kernel
theorem dL_law_25 : decode cL_law 25 = .ok (.iconst 0, 1) := by decide +kernel
theorem dL_law_26 : decode cL_law 26 = .ok (.istore 5, 2) := by decide +kernel
theorem dL_law_28 : decode cL_law 28 = .ok (.iload 5, 2) := by decide +kernel
theorem dL_law_30 : decode cL_law 30 = .ok (.aload_n 0, 1) := by decide +kernel
theorem dL_law_31 : decode cL_law 31 = .ok (.arraylength, 1) := by decide +kernel
theorem dL_law_32 : decode cL_law 32 = .ok (.bipush 6, 2) := by decide +kernel
theorem dL_law_34 : decode cL_law 34 = .ok (.isub, 1) := by decide +kernel
theorem dL_law_35 : decode cL_law 35 = .ok (.if_icmp .gt 4328, 3) := by decide +kernel
theorem dL_law_38 : decode cL_law 38 = .ok (.aload_n 0, 1) := by decide +kernel
theorem dL_law_39 : decode cL_law 39 = .ok (.iload 5, 2) := by decide +kernel
theorem dL_law_41 : decode cL_law 41 = .ok (.iaload, 1) := by decide +kernel
theorem dL_law_42 : decode cL_law 42 = .ok (.bipush 63, 2) := by decide +kernel
theorem dL_law_44 : decode cL_law 44 = .ok (.iand, 1) := by decide +kernel
theorem dL_law_45 : decode cL_law 45 = .ok (.tableswitch 4312 0 63 #[271, 344, 400, 413, 426, 439, 452, 465, 478, 522, 566, 629, 642, 722, 790, 853, 921, 977, 1045, 1132, 1224, 1304, 1384, 1464, 1520, 1600, 1668, 1748, 1840, 1853, 1921, 1989, 2057, 2125, 2224, 2292, 2372, 2440, 2519, 2586, 2641, 2709, 2777, 2876, 2944, 3034, 3090, 3146, 3202, 3282, 3374, 3466, 3557, 3637, 3693, 3784, 3852, 3920, 4000, 4080, 4143, 4187, 4200, 4256], 271) := by decide +kernel
theorem dL_law_316 : decode cL_law 316 = .ok (.aload_n 1, 1) := by decide +kernel
theorem dL_law_317 : decode cL_law 317 = .ok (.aload_n 0, 1) := by decide +kernel
theorem dL_law_318 : decode cL_law 318 = .ok (.iload 5, 2) := by decide +kernel
theorem dL_law_320 : decode cL_law 320 = .ok (.iconst 1, 1) := by decide +kernel
theorem dL_law_321 : decode cL_law 321 = .ok (.iadd, 1) := by decide +kernel
theorem dL_law_322 : decode cL_law 322 = .ok (.iaload, 1) := by decide +kernel
theorem dL_law_323 : decode cL_law 323 = .ok (.aload_n 0, 1) := by decide +kernel
theorem dL_law_324 : decode cL_law 324 = .ok (.iload 5, 2) := by decide +kernel
theorem dL_law_326 : decode cL_law 326 = .ok (.iconst 2, 1) := by decide +kernel
theorem dL_law_327 : decode cL_law 327 = .ok (.iadd, 1) := by decide +kernel
theorem dL_law_328 : decode cL_law 328 = .ok (.iaload, 1) := by decide +kernel
theorem dL_law_329 : decode cL_law 329 = .ok (.aload_n 0, 1) := by decide +kernel
theorem dL_law_330 : decode cL_law 330 = .ok (.iload 5, 2) := by decide +kernel
theorem dL_law_332 : decode cL_law 332 = .ok (.iconst 3, 1) := by decide +kernel
theorem dL_law_333 : decode cL_law 333 = .ok (.iadd, 1) := by decide +kernel
theorem dL_law_334 : decode cL_law 334 = .ok (.iaload, 1) := by decide +kernel
theorem dL_law_335 : decode cL_law 335 = .ok (.aload_n 0, 1) := by decide +kernel
theorem dL_law_336 : decode cL_law 336 = .ok (.iload 5, 2) := by decide +kernel
theorem dL_law_338 : decode cL_law 338 = .ok (.iconst 4, 1) := by decide +kernel
theorem dL_law_339 : decode cL_law 339 = .ok (.iadd, 1) := by decide +kernel
theorem dL_law_340 : decode cL_law 340 = .ok (.iaload, 1) := by decide +kernel
theorem dL_law_341 : decode cL_law 341 = .ok (.aload_n 0, 1) := by decide +kernel
theorem dL_law_342 : decode cL_law 342 = .ok (.iload 5, 2) := by decide +kernel
theorem dL_law_344 : decode cL_law 344 = .ok (.iconst 5, 1) := by decide +kernel
theorem dL_law_345 : decode cL_law 345 = .ok (.iadd, 1) := by decide +kernel
theorem dL_law_346 : decode cL_law 346 = .ok (.iaload, 1) := by decide +kernel
theorem dL_law_347 : decode cL_law 347 = .ok (.invokevirtual 195, 3) := by decide +kernel
theorem dL_law_350 : decode cL_law 350 = .ok (.aload_n 2, 1) := by decide +kernel
theorem dL_law_351 : decode cL_law 351 = .ok (.aload_n 0, 1) := by decide +kernel
theorem dL_law_352 : decode cL_law 352 = .ok (.iload 5, 2) := by decide +kernel
theorem dL_law_354 : decode cL_law 354 = .ok (.iconst 1, 1) := by decide +kernel
theorem dL_law_355 : decode cL_law 355 = .ok (.iadd, 1) := by decide +kernel
theorem dL_law_356 : decode cL_law 356 = .ok (.iaload, 1) := by decide +kernel
theorem dL_law_357 : decode cL_law 357 = .ok (.aload_n 0, 1) := by decide +kernel
theorem dL_law_358 : decode cL_law 358 = .ok (.iload 5, 2) := by decide +kernel
theorem dL_law_360 : decode cL_law 360 = .ok (.iconst 2, 1) := by decide +kernel
theorem dL_law_361 : decode cL_law 361 = .ok (.iadd, 1) := by decide +kernel
theorem dL_law_362 : decode cL_law 362 = .ok (.iaload, 1) := by decide +kernel
theorem dL_law_363 : decode cL_law 363 = .ok (.aload_n 0, 1) := by decide +kernel
theorem dL_law_364 : decode cL_law 364 = .ok (.iload 5, 2) := by decide +kernel
theorem dL_law_366 : decode cL_law 366 = .ok (.iconst 3, 1) := by decide +kernel
theorem dL_law_367 : decode cL_law 367 = .ok (.iadd, 1) := by decide +kernel
theorem dL_law_368 : decode cL_law 368 = .ok (.iaload, 1) := by decide +kernel
theorem dL_law_369 : decode cL_law 369 = .ok (.aload_n 0, 1) := by decide +kernel
theorem dL_law_370 : decode cL_law 370 = .ok (.iload 5, 2) := by decide +kernel
theorem dL_law_372 : decode cL_law 372 = .ok (.iconst 4, 1) := by decide +kernel
theorem dL_law_373 : decode cL_law 373 = .ok (.iadd, 1) := by decide +kernel
theorem dL_law_374 : decode cL_law 374 = .ok (.iaload, 1) := by decide +kernel
theorem dL_law_375 : decode cL_law 375 = .ok (.aload_n 0, 1) := by decide +kernel
theorem dL_law_376 : decode cL_law 376 = .ok (.iload 5, 2) := by decide +kernel
theorem dL_law_378 : decode cL_law 378 = .ok (.iconst 5, 1) := by decide +kernel
theorem dL_law_379 : decode cL_law 379 = .ok (.iadd, 1) := by decide +kernel
theorem dL_law_380 : decode cL_law 380 = .ok (.iaload, 1) := by decide +kernel
theorem dL_law_381 : decode cL_law 381 = .ok (.invokevirtual 199, 3) := by decide +kernel
theorem dL_law_384 : decode cL_law 384 = .ok (.if_icmp .eq 3973, 3) := by decide +kernel
theorem dL_law_387 : decode cL_law 387 = .ok (.iconst 0, 1) := by decide +kernel
theorem dL_law_388 : decode cL_law 388 = .ok (.ireturn, 1) := by decide +kernel
theorem dL_law_389 : decode cL_law 389 = .ok (.aload_n 1, 1) := by decide +kernel
theorem dL_law_390 : decode cL_law 390 = .ok (.aload_n 0, 1) := by decide +kernel
theorem dL_law_391 : decode cL_law 391 = .ok (.iload 5, 2) := by decide +kernel
theorem dL_law_393 : decode cL_law 393 = .ok (.iconst 1, 1) := by decide +kernel
theorem dL_law_394 : decode cL_law 394 = .ok (.iadd, 1) := by decide +kernel
theorem dL_law_395 : decode cL_law 395 = .ok (.iaload, 1) := by decide +kernel
theorem dL_law_396 : decode cL_law 396 = .ok (.aload_n 3, 1) := by decide +kernel
theorem dL_law_397 : decode cL_law 397 = .ok (.invokestatic 200, 3) := by decide +kernel
theorem dL_law_400 : decode cL_law 400 = .ok (.istore 6, 2) := by decide +kernel
theorem dL_law_402 : decode cL_law 402 = .ok (.aload_n 2, 1) := by decide +kernel
theorem dL_law_403 : decode cL_law 403 = .ok (.aload_n 0, 1) := by decide +kernel
theorem dL_law_404 : decode cL_law 404 = .ok (.iload 5, 2) := by decide +kernel
theorem dL_law_406 : decode cL_law 406 = .ok (.iconst 1, 1) := by decide +kernel
theorem dL_law_407 : decode cL_law 407 = .ok (.iadd, 1) := by decide +kernel
theorem dL_law_408 : decode cL_law 408 = .ok (.iaload, 1) := by decide +kernel
theorem dL_law_409 : decode cL_law 409 = .ok (.invokevirtual 205, 3) := by decide +kernel
theorem dL_law_412 : decode cL_law 412 = .ok (.istore 7, 2) := by decide +kernel
theorem dL_law_414 : decode cL_law 414 = .ok (.aload_n 2, 1) := by decide +kernel
theorem dL_law_415 : decode cL_law 415 = .ok (.invokevirtual 206, 3) := by decide +kernel
theorem dL_law_418 : decode cL_law 418 = .ok (.iload 6, 2) := by decide +kernel
theorem dL_law_420 : decode cL_law 420 = .ok (.if_icmp .eq 5, 3) := by decide +kernel
theorem dL_law_423 : decode cL_law 423 = .ok (.iconst 0, 1) := by decide +kernel
theorem dL_law_424 : decode cL_law 424 = .ok (.ireturn, 1) := by decide +kernel
theorem dL_law_425 : decode cL_law 425 = .ok (.iload 6, 2) := by decide +kernel
theorem dL_law_427 : decode cL_law 427 = .ok (.ifCond .ne 15, 3) := by decide +kernel
theorem dL_law_430 : decode cL_law 430 = .ok (.aload_n 3, 1) := by decide +kernel
theorem dL_law_431 : decode cL_law 431 = .ok (.iconst 0, 1) := by decide +kernel
theorem dL_law_432 : decode cL_law 432 = .ok (.laload, 1) := by decide +kernel
theorem dL_law_433 : decode cL_law 433 = .ok (.iload 7, 2) := by decide +kernel
theorem dL_law_435 : decode cL_law 435 = .ok (.i2l, 1) := by decide +kernel
theorem dL_law_436 : decode cL_law 436 = .ok (.lcmp, 1) := by decide +kernel
theorem dL_law_437 : decode cL_law 437 = .ok (.ifCond .eq 5, 3) := by decide +kernel
theorem dL_law_440 : decode cL_law 440 = .ok (.iconst 0, 1) := by decide +kernel
theorem dL_law_441 : decode cL_law 441 = .ok (.ireturn, 1) := by decide +kernel
theorem dL_law_442 : decode cL_law 442 = .ok (.goto 3915, 3) := by decide +kernel
theorem dL_law_445 : decode cL_law 445 = .ok (.aload_n 1, 1) := by decide +kernel
theorem dL_law_446 : decode cL_law 446 = .ok (.invokevirtual 209, 3) := by decide +kernel
theorem dL_law_449 : decode cL_law 449 = .ok (.aload_n 2, 1) := by decide +kernel
theorem dL_law_450 : decode cL_law 450 = .ok (.invokevirtual 212, 3) := by decide +kernel
theorem dL_law_453 : decode cL_law 453 = .ok (.if_icmp .eq 3904, 3) := by decide +kernel
theorem dL_law_456 : decode cL_law 456 = .ok (.iconst 0, 1) := by decide +kernel
theorem dL_law_457 : decode cL_law 457 = .ok (.ireturn, 1) := by decide +kernel
theorem dL_law_458 : decode cL_law 458 = .ok (.aload_n 1, 1) := by decide +kernel
theorem dL_law_459 : decode cL_law 459 = .ok (.invokevirtual 213, 3) := by decide +kernel
theorem dL_law_462 : decode cL_law 462 = .ok (.aload_n 2, 1) := by decide +kernel
theorem dL_law_463 : decode cL_law 463 = .ok (.invokevirtual 216, 3) := by decide +kernel
theorem dL_law_466 : decode cL_law 466 = .ok (.if_icmp .eq 3891, 3) := by decide +kernel
theorem dL_law_469 : decode cL_law 469 = .ok (.iconst 0, 1) := by decide +kernel
theorem dL_law_470 : decode cL_law 470 = .ok (.ireturn, 1) := by decide +kernel
theorem dL_law_471 : decode cL_law 471 = .ok (.aload_n 1, 1) := by decide +kernel
theorem dL_law_472 : decode cL_law 472 = .ok (.invokevirtual 217, 3) := by decide +kernel
theorem dL_law_475 : decode cL_law 475 = .ok (.aload_n 2, 1) := by decide +kernel
theorem dL_law_476 : decode cL_law 476 = .ok (.invokevirtual 220, 3) := by decide +kernel
theorem dL_law_479 : decode cL_law 479 = .ok (.if_icmp .eq 3878, 3) := by decide +kernel
theorem dL_law_482 : decode cL_law 482 = .ok (.iconst 0, 1) := by decide +kernel
theorem dL_law_483 : decode cL_law 483 = .ok (.ireturn, 1) := by decide +kernel
theorem dL_law_484 : decode cL_law 484 = .ok (.aload_n 1, 1) := by decide +kernel
theorem dL_law_485 : decode cL_law 485 = .ok (.invokevirtual 221, 3) := by decide +kernel
theorem dL_law_488 : decode cL_law 488 = .ok (.aload_n 2, 1) := by decide +kernel
theorem dL_law_489 : decode cL_law 489 = .ok (.invokevirtual 224, 3) := by decide +kernel
theorem dL_law_492 : decode cL_law 492 = .ok (.if_icmp .eq 3865, 3) := by decide +kernel
theorem dL_law_495 : decode cL_law 495 = .ok (.iconst 0, 1) := by decide +kernel
theorem dL_law_496 : decode cL_law 496 = .ok (.ireturn, 1) := by decide +kernel
theorem dL_law_497 : decode cL_law 497 = .ok (.aload_n 1, 1) := by decide +kernel
theorem dL_law_498 : decode cL_law 498 = .ok (.invokevirtual 225, 3) := by decide +kernel
theorem dL_law_501 : decode cL_law 501 = .ok (.aload_n 2, 1) := by decide +kernel
theorem dL_law_502 : decode cL_law 502 = .ok (.invokevirtual 228, 3) := by decide +kernel
theorem dL_law_505 : decode cL_law 505 = .ok (.if_icmp .eq 3852, 3) := by decide +kernel
theorem dL_law_508 : decode cL_law 508 = .ok (.iconst 0, 1) := by decide +kernel
theorem dL_law_509 : decode cL_law 509 = .ok (.ireturn, 1) := by decide +kernel
theorem dL_law_510 : decode cL_law 510 = .ok (.aload_n 1, 1) := by decide +kernel
theorem dL_law_511 : decode cL_law 511 = .ok (.invokevirtual 229, 3) := by decide +kernel
theorem dL_law_514 : decode cL_law 514 = .ok (.aload_n 2, 1) := by decide +kernel
theorem dL_law_515 : decode cL_law 515 = .ok (.invokevirtual 232, 3) := by decide +kernel
theorem dL_law_518 : decode cL_law 518 = .ok (.if_icmp .eq 3839, 3) := by decide +kernel
theorem dL_law_521 : decode cL_law 521 = .ok (.iconst 0, 1) := by decide +kernel
theorem dL_law_522 : decode cL_law 522 = .ok (.ireturn, 1) := by decide +kernel
theorem dL_law_523 : decode cL_law 523 = .ok (.aload_n 1, 1) := by decide +kernel
theorem dL_law_524 : decode cL_law 524 = .ok (.aload_n 3, 1) := by decide +kernel
theorem dL_law_525 : decode cL_law 525 = .ok (.invokestatic 233, 3) := by decide +kernel
theorem dL_law_528 : decode cL_law 528 = .ok (.istore 6, 2) := by decide +kernel
theorem dL_law_530 : decode cL_law 530 = .ok (.aload_n 2, 1) := by decide +kernel
theorem dL_law_531 : decode cL_law 531 = .ok (.invokevirtual 236, 3) := by decide +kernel
theorem dL_law_534 : decode cL_law 534 = .ok (.istore 7, 2) := by decide +kernel
theorem dL_law_536 : decode cL_law 536 = .ok (.aload_n 2, 1) := by decide +kernel
theorem dL_law_537 : decode cL_law 537 = .ok (.invokevirtual 206, 3) := by decide +kernel
theorem dL_law_540 : decode cL_law 540 = .ok (.iload 6, 2) := by decide +kernel
theorem dL_law_542 : decode cL_law 542 = .ok (.if_icmp .eq 5, 3) := by decide +kernel
theorem dL_law_545 : decode cL_law 545 = .ok (.iconst 0, 1) := by decide +kernel
theorem dL_law_546 : decode cL_law 546 = .ok (.ireturn, 1) := by decide +kernel
theorem dL_law_547 : decode cL_law 547 = .ok (.iload 6, 2) := by decide +kernel
theorem dL_law_549 : decode cL_law 549 = .ok (.ifCond .ne 15, 3) := by decide +kernel
theorem dL_law_552 : decode cL_law 552 = .ok (.aload_n 3, 1) := by decide +kernel
theorem dL_law_553 : decode cL_law 553 = .ok (.iconst 0, 1) := by decide +kernel
theorem dL_law_554 : decode cL_law 554 = .ok (.laload, 1) := by decide +kernel
theorem dL_law_555 : decode cL_law 555 = .ok (.iload 7, 2) := by decide +kernel
theorem dL_law_557 : decode cL_law 557 = .ok (.i2l, 1) := by decide +kernel
theorem dL_law_558 : decode cL_law 558 = .ok (.lcmp, 1) := by decide +kernel
theorem dL_law_559 : decode cL_law 559 = .ok (.ifCond .eq 5, 3) := by decide +kernel
theorem dL_law_562 : decode cL_law 562 = .ok (.iconst 0, 1) := by decide +kernel
theorem dL_law_563 : decode cL_law 563 = .ok (.ireturn, 1) := by decide +kernel
theorem dL_law_564 : decode cL_law 564 = .ok (.goto 3793, 3) := by decide +kernel
theorem dL_law_567 : decode cL_law 567 = .ok (.aload_n 1, 1) := by decide +kernel
theorem dL_law_568 : decode cL_law 568 = .ok (.aload_n 3, 1) := by decide +kernel
theorem dL_law_569 : decode cL_law 569 = .ok (.invokestatic 237, 3) := by decide +kernel
theorem dL_law_572 : decode cL_law 572 = .ok (.istore 6, 2) := by decide +kernel
theorem dL_law_574 : decode cL_law 574 = .ok (.aload_n 2, 1) := by decide +kernel
theorem dL_law_575 : decode cL_law 575 = .ok (.invokevirtual 239, 3) := by decide +kernel
theorem dL_law_578 : decode cL_law 578 = .ok (.istore 7, 2) := by decide +kernel
theorem dL_law_580 : decode cL_law 580 = .ok (.aload_n 2, 1) := by decide +kernel
theorem dL_law_581 : decode cL_law 581 = .ok (.invokevirtual 206, 3) := by decide +kernel
theorem dL_law_584 : decode cL_law 584 = .ok (.iload 6, 2) := by decide +kernel
theorem dL_law_586 : decode cL_law 586 = .ok (.if_icmp .eq 5, 3) := by decide +kernel
theorem dL_law_589 : decode cL_law 589 = .ok (.iconst 0, 1) := by decide +kernel
theorem dL_law_590 : decode cL_law 590 = .ok (.ireturn, 1) := by decide +kernel
theorem dL_law_591 : decode cL_law 591 = .ok (.iload 6, 2) := by decide +kernel
theorem dL_law_593 : decode cL_law 593 = .ok (.ifCond .ne 15, 3) := by decide +kernel
theorem dL_law_596 : decode cL_law 596 = .ok (.aload_n 3, 1) := by decide +kernel
theorem dL_law_597 : decode cL_law 597 = .ok (.iconst 0, 1) := by decide +kernel
theorem dL_law_598 : decode cL_law 598 = .ok (.laload, 1) := by decide +kernel
theorem dL_law_599 : decode cL_law 599 = .ok (.iload 7, 2) := by decide +kernel
theorem dL_law_601 : decode cL_law 601 = .ok (.i2l, 1) := by decide +kernel
theorem dL_law_602 : decode cL_law 602 = .ok (.lcmp, 1) := by decide +kernel
theorem dL_law_603 : decode cL_law 603 = .ok (.ifCond .eq 5, 3) := by decide +kernel
theorem dL_law_606 : decode cL_law 606 = .ok (.iconst 0, 1) := by decide +kernel
theorem dL_law_607 : decode cL_law 607 = .ok (.ireturn, 1) := by decide +kernel
theorem dL_law_608 : decode cL_law 608 = .ok (.goto 3749, 3) := by decide +kernel
theorem dL_law_611 : decode cL_law 611 = .ok (.aload_n 1, 1) := by decide +kernel
theorem dL_law_612 : decode cL_law 612 = .ok (.aload_n 0, 1) := by decide +kernel
theorem dL_law_613 : decode cL_law 613 = .ok (.iload 5, 2) := by decide +kernel
theorem dL_law_615 : decode cL_law 615 = .ok (.iconst 1, 1) := by decide +kernel
theorem dL_law_616 : decode cL_law 616 = .ok (.iadd, 1) := by decide +kernel
theorem dL_law_617 : decode cL_law 617 = .ok (.iaload, 1) := by decide +kernel
theorem dL_law_618 : decode cL_law 618 = .ok (.aload_n 3, 1) := by decide +kernel
theorem dL_law_619 : decode cL_law 619 = .ok (.invokestatic 240, 3) := by decide +kernel
theorem dL_law_622 : decode cL_law 622 = .ok (.istore 6, 2) := by decide +kernel
theorem dL_law_624 : decode cL_law 624 = .ok (.aload_n 2, 1) := by decide +kernel
theorem dL_law_625 : decode cL_law 625 = .ok (.aload_n 0, 1) := by decide +kernel
theorem dL_law_626 : decode cL_law 626 = .ok (.iload 5, 2) := by decide +kernel
theorem dL_law_628 : decode cL_law 628 = .ok (.iconst 1, 1) := by decide +kernel
theorem dL_law_629 : decode cL_law 629 = .ok (.iadd, 1) := by decide +kernel
theorem dL_law_630 : decode cL_law 630 = .ok (.iaload, 1) := by decide +kernel
theorem dL_law_631 : decode cL_law 631 = .ok (.invokevirtual 242, 3) := by decide +kernel
theorem dL_law_634 : decode cL_law 634 = .ok (.istore 7, 2) := by decide +kernel
theorem dL_law_636 : decode cL_law 636 = .ok (.aload_n 2, 1) := by decide +kernel
theorem dL_law_637 : decode cL_law 637 = .ok (.invokevirtual 206, 3) := by decide +kernel
theorem dL_law_640 : decode cL_law 640 = .ok (.iload 6, 2) := by decide +kernel
theorem dL_law_642 : decode cL_law 642 = .ok (.if_icmp .eq 5, 3) := by decide +kernel
theorem dL_law_645 : decode cL_law 645 = .ok (.iconst 0, 1) := by decide +kernel
theorem dL_law_646 : decode cL_law 646 = .ok (.ireturn, 1) := by decide +kernel
theorem dL_law_647 : decode cL_law 647 = .ok (.iload 6, 2) := by decide +kernel
theorem dL_law_649 : decode cL_law 649 = .ok (.ifCond .ne 22, 3) := by decide +kernel
theorem dL_law_652 : decode cL_law 652 = .ok (.aload_n 3, 1) := by decide +kernel
theorem dL_law_653 : decode cL_law 653 = .ok (.iconst 0, 1) := by decide +kernel
theorem dL_law_654 : decode cL_law 654 = .ok (.laload, 1) := by decide +kernel
theorem dL_law_655 : decode cL_law 655 = .ok (.iload 7, 2) := by decide +kernel
theorem dL_law_657 : decode cL_law 657 = .ok (.ifCond .eq 7, 3) := by decide +kernel
theorem dL_law_660 : decode cL_law 660 = .ok (.lconst 1, 1) := by decide +kernel
theorem dL_law_661 : decode cL_law 661 = .ok (.goto 4, 3) := by decide +kernel
theorem dL_law_664 : decode cL_law 664 = .ok (.lconst 0, 1) := by decide +kernel
theorem dL_law_665 : decode cL_law 665 = .ok (.lcmp, 1) := by decide +kernel
theorem dL_law_666 : decode cL_law 666 = .ok (.ifCond .eq 5, 3) := by decide +kernel
theorem dL_law_669 : decode cL_law 669 = .ok (.iconst 0, 1) := by decide +kernel
theorem dL_law_670 : decode cL_law 670 = .ok (.ireturn, 1) := by decide +kernel
theorem dL_law_671 : decode cL_law 671 = .ok (.goto 3686, 3) := by decide +kernel
theorem dL_law_674 : decode cL_law 674 = .ok (.aload_n 1, 1) := by decide +kernel
theorem dL_law_675 : decode cL_law 675 = .ok (.invokevirtual 243, 3) := by decide +kernel
theorem dL_law_678 : decode cL_law 678 = .ok (.aload_n 2, 1) := by decide +kernel
theorem dL_law_679 : decode cL_law 679 = .ok (.invokevirtual 246, 3) := by decide +kernel
theorem dL_law_682 : decode cL_law 682 = .ok (.if_icmp .eq 3675, 3) := by decide +kernel
theorem dL_law_685 : decode cL_law 685 = .ok (.iconst 0, 1) := by decide +kernel
theorem dL_law_686 : decode cL_law 686 = .ok (.ireturn, 1) := by decide +kernel
theorem dL_law_687 : decode cL_law 687 = .ok (.aload_n 1, 1) := by decide +kernel
theorem dL_law_688 : decode cL_law 688 = .ok (.aload_n 0, 1) := by decide +kernel
theorem dL_law_689 : decode cL_law 689 = .ok (.iload 5, 2) := by decide +kernel
theorem dL_law_691 : decode cL_law 691 = .ok (.iconst 1, 1) := by decide +kernel
theorem dL_law_692 : decode cL_law 692 = .ok (.iadd, 1) := by decide +kernel
theorem dL_law_693 : decode cL_law 693 = .ok (.iaload, 1) := by decide +kernel
theorem dL_law_694 : decode cL_law 694 = .ok (.aload_n 0, 1) := by decide +kernel
theorem dL_law_695 : decode cL_law 695 = .ok (.iload 5, 2) := by decide +kernel
theorem dL_law_697 : decode cL_law 697 = .ok (.iconst 2, 1) := by decide +kernel
theorem dL_law_698 : decode cL_law 698 = .ok (.iadd, 1) := by decide +kernel
theorem dL_law_699 : decode cL_law 699 = .ok (.iaload, 1) := by decide +kernel
theorem dL_law_700 : decode cL_law 700 = .ok (.aload_n 0, 1) := by decide +kernel
theorem dL_law_701 : decode cL_law 701 = .ok (.iload 5, 2) := by decide +kernel
theorem dL_law_703 : decode cL_law 703 = .ok (.iconst 3, 1) := by decide +kernel
theorem dL_law_704 : decode cL_law 704 = .ok (.iadd, 1) := by decide +kernel
theorem dL_law_705 : decode cL_law 705 = .ok (.iaload, 1) := by decide +kernel
theorem dL_law_706 : decode cL_law 706 = .ok (.aload_n 3, 1) := by decide +kernel
theorem dL_law_707 : decode cL_law 707 = .ok (.invokestatic 247, 3) := by decide +kernel
theorem dL_law_710 : decode cL_law 710 = .ok (.istore 6, 2) := by decide +kernel
theorem dL_law_712 : decode cL_law 712 = .ok (.aload_n 2, 1) := by decide +kernel
theorem dL_law_713 : decode cL_law 713 = .ok (.aload_n 0, 1) := by decide +kernel
theorem dL_law_714 : decode cL_law 714 = .ok (.iload 5, 2) := by decide +kernel
theorem dL_law_716 : decode cL_law 716 = .ok (.iconst 1, 1) := by decide +kernel
theorem dL_law_717 : decode cL_law 717 = .ok (.iadd, 1) := by decide +kernel
theorem dL_law_718 : decode cL_law 718 = .ok (.iaload, 1) := by decide +kernel
theorem dL_law_719 : decode cL_law 719 = .ok (.aload_n 0, 1) := by decide +kernel
theorem dL_law_720 : decode cL_law 720 = .ok (.iload 5, 2) := by decide +kernel
theorem dL_law_722 : decode cL_law 722 = .ok (.iconst 2, 1) := by decide +kernel
theorem dL_law_723 : decode cL_law 723 = .ok (.iadd, 1) := by decide +kernel
theorem dL_law_724 : decode cL_law 724 = .ok (.iaload, 1) := by decide +kernel
theorem dL_law_725 : decode cL_law 725 = .ok (.aload_n 0, 1) := by decide +kernel
theorem dL_law_726 : decode cL_law 726 = .ok (.iload 5, 2) := by decide +kernel
theorem dL_law_728 : decode cL_law 728 = .ok (.iconst 3, 1) := by decide +kernel
theorem dL_law_729 : decode cL_law 729 = .ok (.iadd, 1) := by decide +kernel
theorem dL_law_730 : decode cL_law 730 = .ok (.iaload, 1) := by decide +kernel
theorem dL_law_731 : decode cL_law 731 = .ok (.invokevirtual 250, 3) := by decide +kernel
theorem dL_law_734 : decode cL_law 734 = .ok (.istore 7, 2) := by decide +kernel
theorem dL_law_736 : decode cL_law 736 = .ok (.aload_n 2, 1) := by decide +kernel
theorem dL_law_737 : decode cL_law 737 = .ok (.invokevirtual 206, 3) := by decide +kernel
theorem dL_law_740 : decode cL_law 740 = .ok (.iload 6, 2) := by decide +kernel
theorem dL_law_742 : decode cL_law 742 = .ok (.if_icmp .eq 5, 3) := by decide +kernel
theorem dL_law_745 : decode cL_law 745 = .ok (.iconst 0, 1) := by decide +kernel
theorem dL_law_746 : decode cL_law 746 = .ok (.ireturn, 1) := by decide +kernel
theorem dL_law_747 : decode cL_law 747 = .ok (.iload 6, 2) := by decide +kernel
theorem dL_law_749 : decode cL_law 749 = .ok (.ifCond .ne 15, 3) := by decide +kernel
theorem dL_law_752 : decode cL_law 752 = .ok (.aload_n 3, 1) := by decide +kernel
theorem dL_law_753 : decode cL_law 753 = .ok (.iconst 0, 1) := by decide +kernel
theorem dL_law_754 : decode cL_law 754 = .ok (.laload, 1) := by decide +kernel
theorem dL_law_755 : decode cL_law 755 = .ok (.iload 7, 2) := by decide +kernel
theorem dL_law_757 : decode cL_law 757 = .ok (.i2l, 1) := by decide +kernel
theorem dL_law_758 : decode cL_law 758 = .ok (.lcmp, 1) := by decide +kernel
theorem dL_law_759 : decode cL_law 759 = .ok (.ifCond .eq 5, 3) := by decide +kernel
theorem dL_law_762 : decode cL_law 762 = .ok (.iconst 0, 1) := by decide +kernel
theorem dL_law_763 : decode cL_law 763 = .ok (.ireturn, 1) := by decide +kernel
theorem dL_law_764 : decode cL_law 764 = .ok (.goto 3593, 3) := by decide +kernel
theorem dL_law_767 : decode cL_law 767 = .ok (.aload_n 1, 1) := by decide +kernel
theorem dL_law_768 : decode cL_law 768 = .ok (.aload_n 0, 1) := by decide +kernel
theorem dL_law_769 : decode cL_law 769 = .ok (.iload 5, 2) := by decide +kernel
theorem dL_law_771 : decode cL_law 771 = .ok (.iconst 1, 1) := by decide +kernel
theorem dL_law_772 : decode cL_law 772 = .ok (.iadd, 1) := by decide +kernel
theorem dL_law_773 : decode cL_law 773 = .ok (.iaload, 1) := by decide +kernel
theorem dL_law_774 : decode cL_law 774 = .ok (.aload_n 0, 1) := by decide +kernel
theorem dL_law_775 : decode cL_law 775 = .ok (.iload 5, 2) := by decide +kernel
theorem dL_law_777 : decode cL_law 777 = .ok (.iconst 2, 1) := by decide +kernel
theorem dL_law_778 : decode cL_law 778 = .ok (.iadd, 1) := by decide +kernel
theorem dL_law_779 : decode cL_law 779 = .ok (.iaload, 1) := by decide +kernel
theorem dL_law_780 : decode cL_law 780 = .ok (.aload_n 3, 1) := by decide +kernel
theorem dL_law_781 : decode cL_law 781 = .ok (.invokestatic 251, 3) := by decide +kernel
theorem dL_law_784 : decode cL_law 784 = .ok (.istore 6, 2) := by decide +kernel
theorem dL_law_786 : decode cL_law 786 = .ok (.aload_n 2, 1) := by decide +kernel
theorem dL_law_787 : decode cL_law 787 = .ok (.aload_n 0, 1) := by decide +kernel
theorem dL_law_788 : decode cL_law 788 = .ok (.iload 5, 2) := by decide +kernel
theorem dL_law_790 : decode cL_law 790 = .ok (.iconst 1, 1) := by decide +kernel
theorem dL_law_791 : decode cL_law 791 = .ok (.iadd, 1) := by decide +kernel
theorem dL_law_792 : decode cL_law 792 = .ok (.iaload, 1) := by decide +kernel
theorem dL_law_793 : decode cL_law 793 = .ok (.aload_n 0, 1) := by decide +kernel
theorem dL_law_794 : decode cL_law 794 = .ok (.iload 5, 2) := by decide +kernel
theorem dL_law_796 : decode cL_law 796 = .ok (.iconst 2, 1) := by decide +kernel
theorem dL_law_797 : decode cL_law 797 = .ok (.iadd, 1) := by decide +kernel
theorem dL_law_798 : decode cL_law 798 = .ok (.iaload, 1) := by decide +kernel
theorem dL_law_799 : decode cL_law 799 = .ok (.invokevirtual 254, 3) := by decide +kernel
theorem dL_law_802 : decode cL_law 802 = .ok (.istore 7, 2) := by decide +kernel
theorem dL_law_804 : decode cL_law 804 = .ok (.aload_n 2, 1) := by decide +kernel
theorem dL_law_805 : decode cL_law 805 = .ok (.invokevirtual 206, 3) := by decide +kernel
theorem dL_law_808 : decode cL_law 808 = .ok (.iload 6, 2) := by decide +kernel
theorem dL_law_810 : decode cL_law 810 = .ok (.if_icmp .eq 5, 3) := by decide +kernel
theorem dL_law_813 : decode cL_law 813 = .ok (.iconst 0, 1) := by decide +kernel
theorem dL_law_814 : decode cL_law 814 = .ok (.ireturn, 1) := by decide +kernel
theorem dL_law_815 : decode cL_law 815 = .ok (.iload 6, 2) := by decide +kernel
theorem dL_law_817 : decode cL_law 817 = .ok (.ifCond .ne 15, 3) := by decide +kernel
theorem dL_law_820 : decode cL_law 820 = .ok (.aload_n 3, 1) := by decide +kernel
theorem dL_law_821 : decode cL_law 821 = .ok (.iconst 0, 1) := by decide +kernel
theorem dL_law_822 : decode cL_law 822 = .ok (.laload, 1) := by decide +kernel
theorem dL_law_823 : decode cL_law 823 = .ok (.iload 7, 2) := by decide +kernel
theorem dL_law_825 : decode cL_law 825 = .ok (.i2l, 1) := by decide +kernel
theorem dL_law_826 : decode cL_law 826 = .ok (.lcmp, 1) := by decide +kernel
theorem dL_law_827 : decode cL_law 827 = .ok (.ifCond .eq 5, 3) := by decide +kernel
theorem dL_law_830 : decode cL_law 830 = .ok (.iconst 0, 1) := by decide +kernel
theorem dL_law_831 : decode cL_law 831 = .ok (.ireturn, 1) := by decide +kernel
theorem dL_law_832 : decode cL_law 832 = .ok (.goto 3525, 3) := by decide +kernel
theorem dL_law_835 : decode cL_law 835 = .ok (.aload_n 1, 1) := by decide +kernel
theorem dL_law_836 : decode cL_law 836 = .ok (.aload_n 0, 1) := by decide +kernel
theorem dL_law_837 : decode cL_law 837 = .ok (.iload 5, 2) := by decide +kernel
theorem dL_law_839 : decode cL_law 839 = .ok (.iconst 1, 1) := by decide +kernel
theorem dL_law_840 : decode cL_law 840 = .ok (.iadd, 1) := by decide +kernel
theorem dL_law_841 : decode cL_law 841 = .ok (.iaload, 1) := by decide +kernel
theorem dL_law_842 : decode cL_law 842 = .ok (.aload_n 3, 1) := by decide +kernel
theorem dL_law_843 : decode cL_law 843 = .ok (.invokestatic 255, 3) := by decide +kernel
theorem dL_law_846 : decode cL_law 846 = .ok (.istore 6, 2) := by decide +kernel
theorem dL_law_848 : decode cL_law 848 = .ok (.aload_n 2, 1) := by decide +kernel
theorem dL_law_849 : decode cL_law 849 = .ok (.aload_n 0, 1) := by decide +kernel
theorem dL_law_850 : decode cL_law 850 = .ok (.iload 5, 2) := by decide +kernel
theorem dL_law_852 : decode cL_law 852 = .ok (.iconst 1, 1) := by decide +kernel
theorem dL_law_853 : decode cL_law 853 = .ok (.iadd, 1) := by decide +kernel
theorem dL_law_854 : decode cL_law 854 = .ok (.iaload, 1) := by decide +kernel
theorem dL_law_855 : decode cL_law 855 = .ok (.invokevirtual 257, 3) := by decide +kernel
theorem dL_law_858 : decode cL_law 858 = .ok (.istore 7, 2) := by decide +kernel
theorem dL_law_860 : decode cL_law 860 = .ok (.aload_n 2, 1) := by decide +kernel
theorem dL_law_861 : decode cL_law 861 = .ok (.invokevirtual 206, 3) := by decide +kernel
theorem dL_law_864 : decode cL_law 864 = .ok (.iload 6, 2) := by decide +kernel
theorem dL_law_866 : decode cL_law 866 = .ok (.if_icmp .eq 5, 3) := by decide +kernel
theorem dL_law_869 : decode cL_law 869 = .ok (.iconst 0, 1) := by decide +kernel
theorem dL_law_870 : decode cL_law 870 = .ok (.ireturn, 1) := by decide +kernel
theorem dL_law_871 : decode cL_law 871 = .ok (.iload 6, 2) := by decide +kernel
theorem dL_law_873 : decode cL_law 873 = .ok (.ifCond .ne 22, 3) := by decide +kernel
theorem dL_law_876 : decode cL_law 876 = .ok (.aload_n 3, 1) := by decide +kernel
theorem dL_law_877 : decode cL_law 877 = .ok (.iconst 0, 1) := by decide +kernel
theorem dL_law_878 : decode cL_law 878 = .ok (.laload, 1) := by decide +kernel
theorem dL_law_879 : decode cL_law 879 = .ok (.iload 7, 2) := by decide +kernel
theorem dL_law_881 : decode cL_law 881 = .ok (.ifCond .eq 7, 3) := by decide +kernel
theorem dL_law_884 : decode cL_law 884 = .ok (.lconst 1, 1) := by decide +kernel
theorem dL_law_885 : decode cL_law 885 = .ok (.goto 4, 3) := by decide +kernel
theorem dL_law_888 : decode cL_law 888 = .ok (.lconst 0, 1) := by decide +kernel
theorem dL_law_889 : decode cL_law 889 = .ok (.lcmp, 1) := by decide +kernel
theorem dL_law_890 : decode cL_law 890 = .ok (.ifCond .eq 5, 3) := by decide +kernel
theorem dL_law_893 : decode cL_law 893 = .ok (.iconst 0, 1) := by decide +kernel
theorem dL_law_894 : decode cL_law 894 = .ok (.ireturn, 1) := by decide +kernel
theorem dL_law_895 : decode cL_law 895 = .ok (.goto 3462, 3) := by decide +kernel
theorem dL_law_898 : decode cL_law 898 = .ok (.aload_n 1, 1) := by decide +kernel
theorem dL_law_899 : decode cL_law 899 = .ok (.aload_n 0, 1) := by decide +kernel
theorem dL_law_900 : decode cL_law 900 = .ok (.iload 5, 2) := by decide +kernel
theorem dL_law_902 : decode cL_law 902 = .ok (.iconst 1, 1) := by decide +kernel
theorem dL_law_903 : decode cL_law 903 = .ok (.iadd, 1) := by decide +kernel
theorem dL_law_904 : decode cL_law 904 = .ok (.iaload, 1) := by decide +kernel
theorem dL_law_905 : decode cL_law 905 = .ok (.aload_n 0, 1) := by decide +kernel
theorem dL_law_906 : decode cL_law 906 = .ok (.iload 5, 2) := by decide +kernel
theorem dL_law_908 : decode cL_law 908 = .ok (.iconst 2, 1) := by decide +kernel
theorem dL_law_909 : decode cL_law 909 = .ok (.iadd, 1) := by decide +kernel
theorem dL_law_910 : decode cL_law 910 = .ok (.iaload, 1) := by decide +kernel
theorem dL_law_911 : decode cL_law 911 = .ok (.aload_n 3, 1) := by decide +kernel
theorem dL_law_912 : decode cL_law 912 = .ok (.invokestatic 258, 3) := by decide +kernel
theorem dL_law_915 : decode cL_law 915 = .ok (.istore 6, 2) := by decide +kernel
theorem dL_law_917 : decode cL_law 917 = .ok (.aload_n 2, 1) := by decide +kernel
theorem dL_law_918 : decode cL_law 918 = .ok (.aload_n 0, 1) := by decide +kernel
theorem dL_law_919 : decode cL_law 919 = .ok (.iload 5, 2) := by decide +kernel
theorem dL_law_921 : decode cL_law 921 = .ok (.iconst 1, 1) := by decide +kernel
theorem dL_law_922 : decode cL_law 922 = .ok (.iadd, 1) := by decide +kernel
theorem dL_law_923 : decode cL_law 923 = .ok (.iaload, 1) := by decide +kernel
theorem dL_law_924 : decode cL_law 924 = .ok (.aload_n 0, 1) := by decide +kernel
theorem dL_law_925 : decode cL_law 925 = .ok (.iload 5, 2) := by decide +kernel
theorem dL_law_927 : decode cL_law 927 = .ok (.iconst 2, 1) := by decide +kernel
theorem dL_law_928 : decode cL_law 928 = .ok (.iadd, 1) := by decide +kernel
theorem dL_law_929 : decode cL_law 929 = .ok (.iaload, 1) := by decide +kernel
theorem dL_law_930 : decode cL_law 930 = .ok (.invokevirtual 260, 3) := by decide +kernel
theorem dL_law_933 : decode cL_law 933 = .ok (.istore 7, 2) := by decide +kernel
theorem dL_law_935 : decode cL_law 935 = .ok (.aload_n 2, 1) := by decide +kernel
theorem dL_law_936 : decode cL_law 936 = .ok (.invokevirtual 206, 3) := by decide +kernel
theorem dL_law_939 : decode cL_law 939 = .ok (.iload 6, 2) := by decide +kernel
theorem dL_law_941 : decode cL_law 941 = .ok (.if_icmp .eq 5, 3) := by decide +kernel
theorem dL_law_944 : decode cL_law 944 = .ok (.iconst 0, 1) := by decide +kernel
theorem dL_law_945 : decode cL_law 945 = .ok (.ireturn, 1) := by decide +kernel
theorem dL_law_946 : decode cL_law 946 = .ok (.iload 6, 2) := by decide +kernel
theorem dL_law_948 : decode cL_law 948 = .ok (.ifCond .ne 15, 3) := by decide +kernel
theorem dL_law_951 : decode cL_law 951 = .ok (.aload_n 3, 1) := by decide +kernel
theorem dL_law_952 : decode cL_law 952 = .ok (.iconst 0, 1) := by decide +kernel
theorem dL_law_953 : decode cL_law 953 = .ok (.laload, 1) := by decide +kernel
theorem dL_law_954 : decode cL_law 954 = .ok (.iload 7, 2) := by decide +kernel
theorem dL_law_956 : decode cL_law 956 = .ok (.i2l, 1) := by decide +kernel
theorem dL_law_957 : decode cL_law 957 = .ok (.lcmp, 1) := by decide +kernel
theorem dL_law_958 : decode cL_law 958 = .ok (.ifCond .eq 5, 3) := by decide +kernel
theorem dL_law_961 : decode cL_law 961 = .ok (.iconst 0, 1) := by decide +kernel
theorem dL_law_962 : decode cL_law 962 = .ok (.ireturn, 1) := by decide +kernel
theorem dL_law_963 : decode cL_law 963 = .ok (.goto 3394, 3) := by decide +kernel
theorem dL_law_966 : decode cL_law 966 = .ok (.aload_n 1, 1) := by decide +kernel
theorem dL_law_967 : decode cL_law 967 = .ok (.aload_n 0, 1) := by decide +kernel
theorem dL_law_968 : decode cL_law 968 = .ok (.iload 5, 2) := by decide +kernel
theorem dL_law_970 : decode cL_law 970 = .ok (.iconst 1, 1) := by decide +kernel
theorem dL_law_971 : decode cL_law 971 = .ok (.iadd, 1) := by decide +kernel
theorem dL_law_972 : decode cL_law 972 = .ok (.iaload, 1) := by decide +kernel
theorem dL_law_973 : decode cL_law 973 = .ok (.aload_n 3, 1) := by decide +kernel
theorem dL_law_974 : decode cL_law 974 = .ok (.invokestatic 261, 3) := by decide +kernel
theorem dL_law_977 : decode cL_law 977 = .ok (.istore 6, 2) := by decide +kernel
theorem dL_law_979 : decode cL_law 979 = .ok (.aload_n 2, 1) := by decide +kernel
theorem dL_law_980 : decode cL_law 980 = .ok (.aload_n 0, 1) := by decide +kernel
theorem dL_law_981 : decode cL_law 981 = .ok (.iload 5, 2) := by decide +kernel
theorem dL_law_983 : decode cL_law 983 = .ok (.iconst 1, 1) := by decide +kernel
theorem dL_law_984 : decode cL_law 984 = .ok (.iadd, 1) := by decide +kernel
theorem dL_law_985 : decode cL_law 985 = .ok (.iaload, 1) := by decide +kernel
theorem dL_law_986 : decode cL_law 986 = .ok (.invokevirtual 263, 3) := by decide +kernel
theorem dL_law_989 : decode cL_law 989 = .ok (.istore 7, 2) := by decide +kernel
theorem dL_law_991 : decode cL_law 991 = .ok (.aload_n 2, 1) := by decide +kernel
theorem dL_law_992 : decode cL_law 992 = .ok (.invokevirtual 206, 3) := by decide +kernel
theorem dL_law_995 : decode cL_law 995 = .ok (.iload 6, 2) := by decide +kernel
theorem dL_law_997 : decode cL_law 997 = .ok (.if_icmp .eq 5, 3) := by decide +kernel
theorem dL_law_1000 : decode cL_law 1000 = .ok (.iconst 0, 1) := by decide +kernel
theorem dL_law_1001 : decode cL_law 1001 = .ok (.ireturn, 1) := by decide +kernel
theorem dL_law_1002 : decode cL_law 1002 = .ok (.iload 6, 2) := by decide +kernel
theorem dL_law_1004 : decode cL_law 1004 = .ok (.ifCond .ne 15, 3) := by decide +kernel
theorem dL_law_1007 : decode cL_law 1007 = .ok (.aload_n 3, 1) := by decide +kernel
theorem dL_law_1008 : decode cL_law 1008 = .ok (.iconst 0, 1) := by decide +kernel
theorem dL_law_1009 : decode cL_law 1009 = .ok (.laload, 1) := by decide +kernel
theorem dL_law_1010 : decode cL_law 1010 = .ok (.iload 7, 2) := by decide +kernel
theorem dL_law_1012 : decode cL_law 1012 = .ok (.i2l, 1) := by decide +kernel
theorem dL_law_1013 : decode cL_law 1013 = .ok (.lcmp, 1) := by decide +kernel
theorem dL_law_1014 : decode cL_law 1014 = .ok (.ifCond .eq 5, 3) := by decide +kernel
theorem dL_law_1017 : decode cL_law 1017 = .ok (.iconst 0, 1) := by decide +kernel
theorem dL_law_1018 : decode cL_law 1018 = .ok (.ireturn, 1) := by decide +kernel
theorem dL_law_1019 : decode cL_law 1019 = .ok (.goto 3338, 3) := by decide +kernel
theorem dL_law_1022 : decode cL_law 1022 = .ok (.aload_n 1, 1) := by decide +kernel
theorem dL_law_1023 : decode cL_law 1023 = .ok (.aload_n 0, 1) := by decide +kernel
theorem dL_law_1024 : decode cL_law 1024 = .ok (.iload 5, 2) := by decide +kernel
theorem dL_law_1026 : decode cL_law 1026 = .ok (.iconst 1, 1) := by decide +kernel
theorem dL_law_1027 : decode cL_law 1027 = .ok (.iadd, 1) := by decide +kernel
theorem dL_law_1028 : decode cL_law 1028 = .ok (.iaload, 1) := by decide +kernel
theorem dL_law_1029 : decode cL_law 1029 = .ok (.aload_n 0, 1) := by decide +kernel
theorem dL_law_1030 : decode cL_law 1030 = .ok (.iload 5, 2) := by decide +kernel
theorem dL_law_1032 : decode cL_law 1032 = .ok (.iconst 2, 1) := by decide +kernel
theorem dL_law_1033 : decode cL_law 1033 = .ok (.iadd, 1) := by decide +kernel
theorem dL_law_1034 : decode cL_law 1034 = .ok (.iaload, 1) := by decide +kernel
theorem dL_law_1035 : decode cL_law 1035 = .ok (.aload_n 3, 1) := by decide +kernel
theorem dL_law_1036 : decode cL_law 1036 = .ok (.invokestatic 264, 3) := by decide +kernel
theorem dL_law_1039 : decode cL_law 1039 = .ok (.istore 6, 2) := by decide +kernel
theorem dL_law_1041 : decode cL_law 1041 = .ok (.aload_n 2, 1) := by decide +kernel
theorem dL_law_1042 : decode cL_law 1042 = .ok (.aload_n 0, 1) := by decide +kernel
theorem dL_law_1043 : decode cL_law 1043 = .ok (.iload 5, 2) := by decide +kernel
theorem dL_law_1045 : decode cL_law 1045 = .ok (.iconst 1, 1) := by decide +kernel
theorem dL_law_1046 : decode cL_law 1046 = .ok (.iadd, 1) := by decide +kernel
theorem dL_law_1047 : decode cL_law 1047 = .ok (.iaload, 1) := by decide +kernel
theorem dL_law_1048 : decode cL_law 1048 = .ok (.aload_n 0, 1) := by decide +kernel
theorem dL_law_1049 : decode cL_law 1049 = .ok (.iload 5, 2) := by decide +kernel
theorem dL_law_1051 : decode cL_law 1051 = .ok (.iconst 2, 1) := by decide +kernel
theorem dL_law_1052 : decode cL_law 1052 = .ok (.iadd, 1) := by decide +kernel
theorem dL_law_1053 : decode cL_law 1053 = .ok (.iaload, 1) := by decide +kernel
theorem dL_law_1054 : decode cL_law 1054 = .ok (.invokevirtual 266, 3) := by decide +kernel
theorem dL_law_1057 : decode cL_law 1057 = .ok (.istore 7, 2) := by decide +kernel
theorem dL_law_1059 : decode cL_law 1059 = .ok (.aload_n 2, 1) := by decide +kernel
theorem dL_law_1060 : decode cL_law 1060 = .ok (.invokevirtual 206, 3) := by decide +kernel
theorem dL_law_1063 : decode cL_law 1063 = .ok (.iload 6, 2) := by decide +kernel
theorem dL_law_1065 : decode cL_law 1065 = .ok (.if_icmp .eq 5, 3) := by decide +kernel
theorem dL_law_1068 : decode cL_law 1068 = .ok (.iconst 0, 1) := by decide +kernel
theorem dL_law_1069 : decode cL_law 1069 = .ok (.ireturn, 1) := by decide +kernel
theorem dL_law_1070 : decode cL_law 1070 = .ok (.iload 6, 2) := by decide +kernel
theorem dL_law_1072 : decode cL_law 1072 = .ok (.ifCond .ne 15, 3) := by decide +kernel
theorem dL_law_1075 : decode cL_law 1075 = .ok (.aload_n 3, 1) := by decide +kernel
theorem dL_law_1076 : decode cL_law 1076 = .ok (.iconst 0, 1) := by decide +kernel
theorem dL_law_1077 : decode cL_law 1077 = .ok (.laload, 1) := by decide +kernel
theorem dL_law_1078 : decode cL_law 1078 = .ok (.iload 7, 2) := by decide +kernel
theorem dL_law_1080 : decode cL_law 1080 = .ok (.i2l, 1) := by decide +kernel
theorem dL_law_1081 : decode cL_law 1081 = .ok (.lcmp, 1) := by decide +kernel
theorem dL_law_1082 : decode cL_law 1082 = .ok (.ifCond .eq 5, 3) := by decide +kernel
theorem dL_law_1085 : decode cL_law 1085 = .ok (.iconst 0, 1) := by decide +kernel
theorem dL_law_1086 : decode cL_law 1086 = .ok (.ireturn, 1) := by decide +kernel
theorem dL_law_1087 : decode cL_law 1087 = .ok (.goto 3270, 3) := by decide +kernel
theorem dL_law_1090 : decode cL_law 1090 = .ok (.aload_n 1, 1) := by decide +kernel
theorem dL_law_1091 : decode cL_law 1091 = .ok (.aload_n 0, 1) := by decide +kernel
theorem dL_law_1092 : decode cL_law 1092 = .ok (.iload 5, 2) := by decide +kernel
theorem dL_law_1094 : decode cL_law 1094 = .ok (.iconst 1, 1) := by decide +kernel
theorem dL_law_1095 : decode cL_law 1095 = .ok (.iadd, 1) := by decide +kernel
theorem dL_law_1096 : decode cL_law 1096 = .ok (.iaload, 1) := by decide +kernel
theorem dL_law_1097 : decode cL_law 1097 = .ok (.aload_n 0, 1) := by decide +kernel
theorem dL_law_1098 : decode cL_law 1098 = .ok (.iload 5, 2) := by decide +kernel
theorem dL_law_1100 : decode cL_law 1100 = .ok (.iconst 2, 1) := by decide +kernel
theorem dL_law_1101 : decode cL_law 1101 = .ok (.iadd, 1) := by decide +kernel
theorem dL_law_1102 : decode cL_law 1102 = .ok (.iaload, 1) := by decide +kernel
theorem dL_law_1103 : decode cL_law 1103 = .ok (.aload_n 0, 1) := by decide +kernel
theorem dL_law_1104 : decode cL_law 1104 = .ok (.iload 5, 2) := by decide +kernel
theorem dL_law_1106 : decode cL_law 1106 = .ok (.iconst 3, 1) := by decide +kernel
theorem dL_law_1107 : decode cL_law 1107 = .ok (.iadd, 1) := by decide +kernel
theorem dL_law_1108 : decode cL_law 1108 = .ok (.iaload, 1) := by decide +kernel
theorem dL_law_1109 : decode cL_law 1109 = .ok (.aload_n 3, 1) := by decide +kernel
theorem dL_law_1110 : decode cL_law 1110 = .ok (.invokestatic 267, 3) := by decide +kernel
theorem dL_law_1113 : decode cL_law 1113 = .ok (.istore 6, 2) := by decide +kernel
theorem dL_law_1115 : decode cL_law 1115 = .ok (.aload_n 2, 1) := by decide +kernel
theorem dL_law_1116 : decode cL_law 1116 = .ok (.aload_n 0, 1) := by decide +kernel
theorem dL_law_1117 : decode cL_law 1117 = .ok (.iload 5, 2) := by decide +kernel
theorem dL_law_1119 : decode cL_law 1119 = .ok (.iconst 1, 1) := by decide +kernel
theorem dL_law_1120 : decode cL_law 1120 = .ok (.iadd, 1) := by decide +kernel
theorem dL_law_1121 : decode cL_law 1121 = .ok (.iaload, 1) := by decide +kernel
theorem dL_law_1122 : decode cL_law 1122 = .ok (.aload_n 0, 1) := by decide +kernel
theorem dL_law_1123 : decode cL_law 1123 = .ok (.iload 5, 2) := by decide +kernel
theorem dL_law_1125 : decode cL_law 1125 = .ok (.iconst 2, 1) := by decide +kernel
theorem dL_law_1126 : decode cL_law 1126 = .ok (.iadd, 1) := by decide +kernel
theorem dL_law_1127 : decode cL_law 1127 = .ok (.iaload, 1) := by decide +kernel
theorem dL_law_1128 : decode cL_law 1128 = .ok (.aload_n 0, 1) := by decide +kernel
theorem dL_law_1129 : decode cL_law 1129 = .ok (.iload 5, 2) := by decide +kernel
theorem dL_law_1131 : decode cL_law 1131 = .ok (.iconst 3, 1) := by decide +kernel
theorem dL_law_1132 : decode cL_law 1132 = .ok (.iadd, 1) := by decide +kernel
theorem dL_law_1133 : decode cL_law 1133 = .ok (.iaload, 1) := by decide +kernel
theorem dL_law_1134 : decode cL_law 1134 = .ok (.invokevirtual 269, 3) := by decide +kernel
theorem dL_law_1137 : decode cL_law 1137 = .ok (.istore 7, 2) := by decide +kernel
theorem dL_law_1139 : decode cL_law 1139 = .ok (.aload_n 2, 1) := by decide +kernel
theorem dL_law_1140 : decode cL_law 1140 = .ok (.invokevirtual 206, 3) := by decide +kernel
theorem dL_law_1143 : decode cL_law 1143 = .ok (.iload 6, 2) := by decide +kernel
theorem dL_law_1145 : decode cL_law 1145 = .ok (.if_icmp .eq 5, 3) := by decide +kernel
theorem dL_law_1148 : decode cL_law 1148 = .ok (.iconst 0, 1) := by decide +kernel
theorem dL_law_1149 : decode cL_law 1149 = .ok (.ireturn, 1) := by decide +kernel
theorem dL_law_1150 : decode cL_law 1150 = .ok (.iload 6, 2) := by decide +kernel
theorem dL_law_1152 : decode cL_law 1152 = .ok (.ifCond .ne 22, 3) := by decide +kernel
theorem dL_law_1155 : decode cL_law 1155 = .ok (.aload_n 3, 1) := by decide +kernel
theorem dL_law_1156 : decode cL_law 1156 = .ok (.iconst 0, 1) := by decide +kernel
theorem dL_law_1157 : decode cL_law 1157 = .ok (.laload, 1) := by decide +kernel
theorem dL_law_1158 : decode cL_law 1158 = .ok (.iload 7, 2) := by decide +kernel
theorem dL_law_1160 : decode cL_law 1160 = .ok (.ifCond .eq 7, 3) := by decide +kernel
theorem dL_law_1163 : decode cL_law 1163 = .ok (.lconst 1, 1) := by decide +kernel
theorem dL_law_1164 : decode cL_law 1164 = .ok (.goto 4, 3) := by decide +kernel
theorem dL_law_1167 : decode cL_law 1167 = .ok (.lconst 0, 1) := by decide +kernel
theorem dL_law_1168 : decode cL_law 1168 = .ok (.lcmp, 1) := by decide +kernel
theorem dL_law_1169 : decode cL_law 1169 = .ok (.ifCond .eq 5, 3) := by decide +kernel
theorem dL_law_1172 : decode cL_law 1172 = .ok (.iconst 0, 1) := by decide +kernel
theorem dL_law_1173 : decode cL_law 1173 = .ok (.ireturn, 1) := by decide +kernel
theorem dL_law_1174 : decode cL_law 1174 = .ok (.goto 3183, 3) := by decide +kernel
theorem dL_law_1177 : decode cL_law 1177 = .ok (.aload_n 1, 1) := by decide +kernel
theorem dL_law_1178 : decode cL_law 1178 = .ok (.aload_n 0, 1) := by decide +kernel
theorem dL_law_1179 : decode cL_law 1179 = .ok (.iload 5, 2) := by decide +kernel
theorem dL_law_1181 : decode cL_law 1181 = .ok (.iconst 1, 1) := by decide +kernel
theorem dL_law_1182 : decode cL_law 1182 = .ok (.iadd, 1) := by decide +kernel
theorem dL_law_1183 : decode cL_law 1183 = .ok (.iaload, 1) := by decide +kernel
theorem dL_law_1184 : decode cL_law 1184 = .ok (.aload_n 0, 1) := by decide +kernel
theorem dL_law_1185 : decode cL_law 1185 = .ok (.iload 5, 2) := by decide +kernel
theorem dL_law_1187 : decode cL_law 1187 = .ok (.iconst 2, 1) := by decide +kernel
theorem dL_law_1188 : decode cL_law 1188 = .ok (.iadd, 1) := by decide +kernel
theorem dL_law_1189 : decode cL_law 1189 = .ok (.iaload, 1) := by decide +kernel
theorem dL_law_1190 : decode cL_law 1190 = .ok (.aload_n 0, 1) := by decide +kernel
theorem dL_law_1191 : decode cL_law 1191 = .ok (.iload 5, 2) := by decide +kernel
theorem dL_law_1193 : decode cL_law 1193 = .ok (.iconst 3, 1) := by decide +kernel
theorem dL_law_1194 : decode cL_law 1194 = .ok (.iadd, 1) := by decide +kernel
theorem dL_law_1195 : decode cL_law 1195 = .ok (.iaload, 1) := by decide +kernel
theorem dL_law_1196 : decode cL_law 1196 = .ok (.aload_n 0, 1) := by decide +kernel
theorem dL_law_1197 : decode cL_law 1197 = .ok (.iload 5, 2) := by decide +kernel
theorem dL_law_1199 : decode cL_law 1199 = .ok (.iconst 4, 1) := by decide +kernel
theorem dL_law_1200 : decode cL_law 1200 = .ok (.iadd, 1) := by decide +kernel
theorem dL_law_1201 : decode cL_law 1201 = .ok (.iaload, 1) := by decide +kernel
theorem dL_law_1202 : decode cL_law 1202 = .ok (.aload_n 3, 1) := by decide +kernel
theorem dL_law_1203 : decode cL_law 1203 = .ok (.invokestatic 270, 3) := by decide +kernel
theorem dL_law_1206 : decode cL_law 1206 = .ok (.istore 6, 2) := by decide +kernel
theorem dL_law_1208 : decode cL_law 1208 = .ok (.aload_n 2, 1) := by decide +kernel
theorem dL_law_1209 : decode cL_law 1209 = .ok (.aload_n 0, 1) := by decide +kernel
theorem dL_law_1210 : decode cL_law 1210 = .ok (.iload 5, 2) := by decide +kernel
theorem dL_law_1212 : decode cL_law 1212 = .ok (.iconst 1, 1) := by decide +kernel
theorem dL_law_1213 : decode cL_law 1213 = .ok (.iadd, 1) := by decide +kernel
theorem dL_law_1214 : decode cL_law 1214 = .ok (.iaload, 1) := by decide +kernel
theorem dL_law_1215 : decode cL_law 1215 = .ok (.aload_n 0, 1) := by decide +kernel
theorem dL_law_1216 : decode cL_law 1216 = .ok (.iload 5, 2) := by decide +kernel
theorem dL_law_1218 : decode cL_law 1218 = .ok (.iconst 2, 1) := by decide +kernel
theorem dL_law_1219 : decode cL_law 1219 = .ok (.iadd, 1) := by decide +kernel
theorem dL_law_1220 : decode cL_law 1220 = .ok (.iaload, 1) := by decide +kernel
theorem dL_law_1221 : decode cL_law 1221 = .ok (.aload_n 0, 1) := by decide +kernel
theorem dL_law_1222 : decode cL_law 1222 = .ok (.iload 5, 2) := by decide +kernel
theorem dL_law_1224 : decode cL_law 1224 = .ok (.iconst 3, 1) := by decide +kernel
theorem dL_law_1225 : decode cL_law 1225 = .ok (.iadd, 1) := by decide +kernel
theorem dL_law_1226 : decode cL_law 1226 = .ok (.iaload, 1) := by decide +kernel
theorem dL_law_1227 : decode cL_law 1227 = .ok (.aload_n 0, 1) := by decide +kernel
theorem dL_law_1228 : decode cL_law 1228 = .ok (.iload 5, 2) := by decide +kernel
theorem dL_law_1230 : decode cL_law 1230 = .ok (.iconst 4, 1) := by decide +kernel
theorem dL_law_1231 : decode cL_law 1231 = .ok (.iadd, 1) := by decide +kernel
theorem dL_law_1232 : decode cL_law 1232 = .ok (.iaload, 1) := by decide +kernel
theorem dL_law_1233 : decode cL_law 1233 = .ok (.invokevirtual 273, 3) := by decide +kernel
theorem dL_law_1236 : decode cL_law 1236 = .ok (.istore 7, 2) := by decide +kernel
theorem dL_law_1238 : decode cL_law 1238 = .ok (.aload_n 2, 1) := by decide +kernel
theorem dL_law_1239 : decode cL_law 1239 = .ok (.invokevirtual 206, 3) := by decide +kernel
theorem dL_law_1242 : decode cL_law 1242 = .ok (.iload 6, 2) := by decide +kernel
theorem dL_law_1244 : decode cL_law 1244 = .ok (.if_icmp .eq 5, 3) := by decide +kernel
theorem dL_law_1247 : decode cL_law 1247 = .ok (.iconst 0, 1) := by decide +kernel
theorem dL_law_1248 : decode cL_law 1248 = .ok (.ireturn, 1) := by decide +kernel
theorem dL_law_1249 : decode cL_law 1249 = .ok (.iload 6, 2) := by decide +kernel
theorem dL_law_1251 : decode cL_law 1251 = .ok (.ifCond .ne 15, 3) := by decide +kernel
theorem dL_law_1254 : decode cL_law 1254 = .ok (.aload_n 3, 1) := by decide +kernel
theorem dL_law_1255 : decode cL_law 1255 = .ok (.iconst 0, 1) := by decide +kernel
theorem dL_law_1256 : decode cL_law 1256 = .ok (.laload, 1) := by decide +kernel
theorem dL_law_1257 : decode cL_law 1257 = .ok (.iload 7, 2) := by decide +kernel
theorem dL_law_1259 : decode cL_law 1259 = .ok (.i2l, 1) := by decide +kernel
theorem dL_law_1260 : decode cL_law 1260 = .ok (.lcmp, 1) := by decide +kernel
theorem dL_law_1261 : decode cL_law 1261 = .ok (.ifCond .eq 5, 3) := by decide +kernel
theorem dL_law_1264 : decode cL_law 1264 = .ok (.iconst 0, 1) := by decide +kernel
theorem dL_law_1265 : decode cL_law 1265 = .ok (.ireturn, 1) := by decide +kernel
theorem dL_law_1266 : decode cL_law 1266 = .ok (.goto 3091, 3) := by decide +kernel
theorem dL_law_1269 : decode cL_law 1269 = .ok (.aload_n 1, 1) := by decide +kernel
theorem dL_law_1270 : decode cL_law 1270 = .ok (.aload_n 0, 1) := by decide +kernel
theorem dL_law_1271 : decode cL_law 1271 = .ok (.iload 5, 2) := by decide +kernel
theorem dL_law_1273 : decode cL_law 1273 = .ok (.iconst 1, 1) := by decide +kernel
theorem dL_law_1274 : decode cL_law 1274 = .ok (.iadd, 1) := by decide +kernel
theorem dL_law_1275 : decode cL_law 1275 = .ok (.iaload, 1) := by decide +kernel
theorem dL_law_1276 : decode cL_law 1276 = .ok (.aload_n 0, 1) := by decide +kernel
theorem dL_law_1277 : decode cL_law 1277 = .ok (.iload 5, 2) := by decide +kernel
theorem dL_law_1279 : decode cL_law 1279 = .ok (.iconst 2, 1) := by decide +kernel
theorem dL_law_1280 : decode cL_law 1280 = .ok (.iadd, 1) := by decide +kernel
theorem dL_law_1281 : decode cL_law 1281 = .ok (.iaload, 1) := by decide +kernel
theorem dL_law_1282 : decode cL_law 1282 = .ok (.aload_n 0, 1) := by decide +kernel
theorem dL_law_1283 : decode cL_law 1283 = .ok (.iload 5, 2) := by decide +kernel
theorem dL_law_1285 : decode cL_law 1285 = .ok (.iconst 3, 1) := by decide +kernel
theorem dL_law_1286 : decode cL_law 1286 = .ok (.iadd, 1) := by decide +kernel
theorem dL_law_1287 : decode cL_law 1287 = .ok (.iaload, 1) := by decide +kernel
theorem dL_law_1288 : decode cL_law 1288 = .ok (.aload_n 3, 1) := by decide +kernel
theorem dL_law_1289 : decode cL_law 1289 = .ok (.invokestatic 274, 3) := by decide +kernel
theorem dL_law_1292 : decode cL_law 1292 = .ok (.istore 6, 2) := by decide +kernel
theorem dL_law_1294 : decode cL_law 1294 = .ok (.aload_n 2, 1) := by decide +kernel
theorem dL_law_1295 : decode cL_law 1295 = .ok (.aload_n 0, 1) := by decide +kernel
theorem dL_law_1296 : decode cL_law 1296 = .ok (.iload 5, 2) := by decide +kernel
theorem dL_law_1298 : decode cL_law 1298 = .ok (.iconst 1, 1) := by decide +kernel
theorem dL_law_1299 : decode cL_law 1299 = .ok (.iadd, 1) := by decide +kernel
theorem dL_law_1300 : decode cL_law 1300 = .ok (.iaload, 1) := by decide +kernel
theorem dL_law_1301 : decode cL_law 1301 = .ok (.aload_n 0, 1) := by decide +kernel
theorem dL_law_1302 : decode cL_law 1302 = .ok (.iload 5, 2) := by decide +kernel
theorem dL_law_1304 : decode cL_law 1304 = .ok (.iconst 2, 1) := by decide +kernel
theorem dL_law_1305 : decode cL_law 1305 = .ok (.iadd, 1) := by decide +kernel
theorem dL_law_1306 : decode cL_law 1306 = .ok (.iaload, 1) := by decide +kernel
theorem dL_law_1307 : decode cL_law 1307 = .ok (.aload_n 0, 1) := by decide +kernel
theorem dL_law_1308 : decode cL_law 1308 = .ok (.iload 5, 2) := by decide +kernel
theorem dL_law_1310 : decode cL_law 1310 = .ok (.iconst 3, 1) := by decide +kernel
theorem dL_law_1311 : decode cL_law 1311 = .ok (.iadd, 1) := by decide +kernel
theorem dL_law_1312 : decode cL_law 1312 = .ok (.iaload, 1) := by decide +kernel
theorem dL_law_1313 : decode cL_law 1313 = .ok (.invokevirtual 276, 3) := by decide +kernel
theorem dL_law_1316 : decode cL_law 1316 = .ok (.istore 7, 2) := by decide +kernel
theorem dL_law_1318 : decode cL_law 1318 = .ok (.aload_n 2, 1) := by decide +kernel
theorem dL_law_1319 : decode cL_law 1319 = .ok (.invokevirtual 206, 3) := by decide +kernel
theorem dL_law_1322 : decode cL_law 1322 = .ok (.iload 6, 2) := by decide +kernel
theorem dL_law_1324 : decode cL_law 1324 = .ok (.if_icmp .eq 5, 3) := by decide +kernel
theorem dL_law_1327 : decode cL_law 1327 = .ok (.iconst 0, 1) := by decide +kernel
theorem dL_law_1328 : decode cL_law 1328 = .ok (.ireturn, 1) := by decide +kernel
theorem dL_law_1329 : decode cL_law 1329 = .ok (.iload 6, 2) := by decide +kernel
theorem dL_law_1331 : decode cL_law 1331 = .ok (.ifCond .ne 15, 3) := by decide +kernel
theorem dL_law_1334 : decode cL_law 1334 = .ok (.aload_n 3, 1) := by decide +kernel
theorem dL_law_1335 : decode cL_law 1335 = .ok (.iconst 0, 1) := by decide +kernel
theorem dL_law_1336 : decode cL_law 1336 = .ok (.laload, 1) := by decide +kernel
theorem dL_law_1337 : decode cL_law 1337 = .ok (.iload 7, 2) := by decide +kernel
theorem dL_law_1339 : decode cL_law 1339 = .ok (.i2l, 1) := by decide +kernel
theorem dL_law_1340 : decode cL_law 1340 = .ok (.lcmp, 1) := by decide +kernel
theorem dL_law_1341 : decode cL_law 1341 = .ok (.ifCond .eq 5, 3) := by decide +kernel
theorem dL_law_1344 : decode cL_law 1344 = .ok (.iconst 0, 1) := by decide +kernel
theorem dL_law_1345 : decode cL_law 1345 = .ok (.ireturn, 1) := by decide +kernel
theorem dL_law_1346 : decode cL_law 1346 = .ok (.goto 3011, 3) := by decide +kernel
theorem dL_law_1349 : decode cL_law 1349 = .ok (.aload_n 1, 1) := by decide +kernel
theorem dL_law_1350 : decode cL_law 1350 = .ok (.aload_n 0, 1) := by decide +kernel
theorem dL_law_1351 : decode cL_law 1351 = .ok (.iload 5, 2) := by decide +kernel
theorem dL_law_1353 : decode cL_law 1353 = .ok (.iconst 1, 1) := by decide +kernel
theorem dL_law_1354 : decode cL_law 1354 = .ok (.iadd, 1) := by decide +kernel
theorem dL_law_1355 : decode cL_law 1355 = .ok (.iaload, 1) := by decide +kernel
theorem dL_law_1356 : decode cL_law 1356 = .ok (.aload_n 0, 1) := by decide +kernel
theorem dL_law_1357 : decode cL_law 1357 = .ok (.iload 5, 2) := by decide +kernel
theorem dL_law_1359 : decode cL_law 1359 = .ok (.iconst 2, 1) := by decide +kernel
theorem dL_law_1360 : decode cL_law 1360 = .ok (.iadd, 1) := by decide +kernel
theorem dL_law_1361 : decode cL_law 1361 = .ok (.iaload, 1) := by decide +kernel
theorem dL_law_1362 : decode cL_law 1362 = .ok (.aload_n 0, 1) := by decide +kernel
theorem dL_law_1363 : decode cL_law 1363 = .ok (.iload 5, 2) := by decide +kernel
theorem dL_law_1365 : decode cL_law 1365 = .ok (.iconst 3, 1) := by decide +kernel
theorem dL_law_1366 : decode cL_law 1366 = .ok (.iadd, 1) := by decide +kernel
theorem dL_law_1367 : decode cL_law 1367 = .ok (.iaload, 1) := by decide +kernel
theorem dL_law_1368 : decode cL_law 1368 = .ok (.aload_n 3, 1) := by decide +kernel
theorem dL_law_1369 : decode cL_law 1369 = .ok (.invokestatic 277, 3) := by decide +kernel
theorem dL_law_1372 : decode cL_law 1372 = .ok (.istore 6, 2) := by decide +kernel
theorem dL_law_1374 : decode cL_law 1374 = .ok (.aload_n 2, 1) := by decide +kernel
theorem dL_law_1375 : decode cL_law 1375 = .ok (.aload_n 0, 1) := by decide +kernel
theorem dL_law_1376 : decode cL_law 1376 = .ok (.iload 5, 2) := by decide +kernel
theorem dL_law_1378 : decode cL_law 1378 = .ok (.iconst 1, 1) := by decide +kernel
theorem dL_law_1379 : decode cL_law 1379 = .ok (.iadd, 1) := by decide +kernel
theorem dL_law_1380 : decode cL_law 1380 = .ok (.iaload, 1) := by decide +kernel
theorem dL_law_1381 : decode cL_law 1381 = .ok (.aload_n 0, 1) := by decide +kernel
theorem dL_law_1382 : decode cL_law 1382 = .ok (.iload 5, 2) := by decide +kernel
theorem dL_law_1384 : decode cL_law 1384 = .ok (.iconst 2, 1) := by decide +kernel
theorem dL_law_1385 : decode cL_law 1385 = .ok (.iadd, 1) := by decide +kernel
theorem dL_law_1386 : decode cL_law 1386 = .ok (.iaload, 1) := by decide +kernel
theorem dL_law_1387 : decode cL_law 1387 = .ok (.aload_n 0, 1) := by decide +kernel
theorem dL_law_1388 : decode cL_law 1388 = .ok (.iload 5, 2) := by decide +kernel
theorem dL_law_1390 : decode cL_law 1390 = .ok (.iconst 3, 1) := by decide +kernel
theorem dL_law_1391 : decode cL_law 1391 = .ok (.iadd, 1) := by decide +kernel
theorem dL_law_1392 : decode cL_law 1392 = .ok (.iaload, 1) := by decide +kernel
theorem dL_law_1393 : decode cL_law 1393 = .ok (.invokevirtual 279, 3) := by decide +kernel
theorem dL_law_1396 : decode cL_law 1396 = .ok (.istore 7, 2) := by decide +kernel
theorem dL_law_1398 : decode cL_law 1398 = .ok (.aload_n 2, 1) := by decide +kernel
theorem dL_law_1399 : decode cL_law 1399 = .ok (.invokevirtual 206, 3) := by decide +kernel
theorem dL_law_1402 : decode cL_law 1402 = .ok (.iload 6, 2) := by decide +kernel
theorem dL_law_1404 : decode cL_law 1404 = .ok (.if_icmp .eq 5, 3) := by decide +kernel
theorem dL_law_1407 : decode cL_law 1407 = .ok (.iconst 0, 1) := by decide +kernel
theorem dL_law_1408 : decode cL_law 1408 = .ok (.ireturn, 1) := by decide +kernel
theorem dL_law_1409 : decode cL_law 1409 = .ok (.iload 6, 2) := by decide +kernel
theorem dL_law_1411 : decode cL_law 1411 = .ok (.ifCond .ne 15, 3) := by decide +kernel
theorem dL_law_1414 : decode cL_law 1414 = .ok (.aload_n 3, 1) := by decide +kernel
theorem dL_law_1415 : decode cL_law 1415 = .ok (.iconst 0, 1) := by decide +kernel
theorem dL_law_1416 : decode cL_law 1416 = .ok (.laload, 1) := by decide +kernel
theorem dL_law_1417 : decode cL_law 1417 = .ok (.iload 7, 2) := by decide +kernel
theorem dL_law_1419 : decode cL_law 1419 = .ok (.i2l, 1) := by decide +kernel
theorem dL_law_1420 : decode cL_law 1420 = .ok (.lcmp, 1) := by decide +kernel
theorem dL_law_1421 : decode cL_law 1421 = .ok (.ifCond .eq 5, 3) := by decide +kernel
theorem dL_law_1424 : decode cL_law 1424 = .ok (.iconst 0, 1) := by decide +kernel
theorem dL_law_1425 : decode cL_law 1425 = .ok (.ireturn, 1) := by decide +kernel
theorem dL_law_1426 : decode cL_law 1426 = .ok (.goto 2931, 3) := by decide +kernel
theorem dL_law_1429 : decode cL_law 1429 = .ok (.aload_n 1, 1) := by decide +kernel
theorem dL_law_1430 : decode cL_law 1430 = .ok (.aload_n 0, 1) := by decide +kernel
theorem dL_law_1431 : decode cL_law 1431 = .ok (.iload 5, 2) := by decide +kernel
theorem dL_law_1433 : decode cL_law 1433 = .ok (.iconst 1, 1) := by decide +kernel
theorem dL_law_1434 : decode cL_law 1434 = .ok (.iadd, 1) := by decide +kernel
theorem dL_law_1435 : decode cL_law 1435 = .ok (.iaload, 1) := by decide +kernel
theorem dL_law_1436 : decode cL_law 1436 = .ok (.aload_n 0, 1) := by decide +kernel
theorem dL_law_1437 : decode cL_law 1437 = .ok (.iload 5, 2) := by decide +kernel
theorem dL_law_1439 : decode cL_law 1439 = .ok (.iconst 2, 1) := by decide +kernel
theorem dL_law_1440 : decode cL_law 1440 = .ok (.iadd, 1) := by decide +kernel
theorem dL_law_1441 : decode cL_law 1441 = .ok (.iaload, 1) := by decide +kernel
theorem dL_law_1442 : decode cL_law 1442 = .ok (.aload_n 0, 1) := by decide +kernel
theorem dL_law_1443 : decode cL_law 1443 = .ok (.iload 5, 2) := by decide +kernel
theorem dL_law_1445 : decode cL_law 1445 = .ok (.iconst 3, 1) := by decide +kernel
theorem dL_law_1446 : decode cL_law 1446 = .ok (.iadd, 1) := by decide +kernel
theorem dL_law_1447 : decode cL_law 1447 = .ok (.iaload, 1) := by decide +kernel
theorem dL_law_1448 : decode cL_law 1448 = .ok (.aload_n 3, 1) := by decide +kernel
theorem dL_law_1449 : decode cL_law 1449 = .ok (.invokestatic 280, 3) := by decide +kernel
theorem dL_law_1452 : decode cL_law 1452 = .ok (.istore 6, 2) := by decide +kernel
theorem dL_law_1454 : decode cL_law 1454 = .ok (.aload_n 2, 1) := by decide +kernel
theorem dL_law_1455 : decode cL_law 1455 = .ok (.aload_n 0, 1) := by decide +kernel
theorem dL_law_1456 : decode cL_law 1456 = .ok (.iload 5, 2) := by decide +kernel
theorem dL_law_1458 : decode cL_law 1458 = .ok (.iconst 1, 1) := by decide +kernel
theorem dL_law_1459 : decode cL_law 1459 = .ok (.iadd, 1) := by decide +kernel
theorem dL_law_1460 : decode cL_law 1460 = .ok (.iaload, 1) := by decide +kernel
theorem dL_law_1461 : decode cL_law 1461 = .ok (.aload_n 0, 1) := by decide +kernel
theorem dL_law_1462 : decode cL_law 1462 = .ok (.iload 5, 2) := by decide +kernel
theorem dL_law_1464 : decode cL_law 1464 = .ok (.iconst 2, 1) := by decide +kernel
theorem dL_law_1465 : decode cL_law 1465 = .ok (.iadd, 1) := by decide +kernel
theorem dL_law_1466 : decode cL_law 1466 = .ok (.iaload, 1) := by decide +kernel
theorem dL_law_1467 : decode cL_law 1467 = .ok (.aload_n 0, 1) := by decide +kernel
theorem dL_law_1468 : decode cL_law 1468 = .ok (.iload 5, 2) := by decide +kernel
theorem dL_law_1470 : decode cL_law 1470 = .ok (.iconst 3, 1) := by decide +kernel
theorem dL_law_1471 : decode cL_law 1471 = .ok (.iadd, 1) := by decide +kernel
theorem dL_law_1472 : decode cL_law 1472 = .ok (.iaload, 1) := by decide +kernel
theorem dL_law_1473 : decode cL_law 1473 = .ok (.invokevirtual 282, 3) := by decide +kernel
theorem dL_law_1476 : decode cL_law 1476 = .ok (.istore 7, 2) := by decide +kernel
theorem dL_law_1478 : decode cL_law 1478 = .ok (.aload_n 2, 1) := by decide +kernel
theorem dL_law_1479 : decode cL_law 1479 = .ok (.invokevirtual 206, 3) := by decide +kernel
theorem dL_law_1482 : decode cL_law 1482 = .ok (.iload 6, 2) := by decide +kernel
theorem dL_law_1484 : decode cL_law 1484 = .ok (.if_icmp .eq 5, 3) := by decide +kernel
theorem dL_law_1487 : decode cL_law 1487 = .ok (.iconst 0, 1) := by decide +kernel
theorem dL_law_1488 : decode cL_law 1488 = .ok (.ireturn, 1) := by decide +kernel
theorem dL_law_1489 : decode cL_law 1489 = .ok (.iload 6, 2) := by decide +kernel
theorem dL_law_1491 : decode cL_law 1491 = .ok (.ifCond .ne 15, 3) := by decide +kernel
theorem dL_law_1494 : decode cL_law 1494 = .ok (.aload_n 3, 1) := by decide +kernel
theorem dL_law_1495 : decode cL_law 1495 = .ok (.iconst 0, 1) := by decide +kernel
theorem dL_law_1496 : decode cL_law 1496 = .ok (.laload, 1) := by decide +kernel
theorem dL_law_1497 : decode cL_law 1497 = .ok (.iload 7, 2) := by decide +kernel
theorem dL_law_1499 : decode cL_law 1499 = .ok (.i2l, 1) := by decide +kernel
theorem dL_law_1500 : decode cL_law 1500 = .ok (.lcmp, 1) := by decide +kernel
theorem dL_law_1501 : decode cL_law 1501 = .ok (.ifCond .eq 5, 3) := by decide +kernel
theorem dL_law_1504 : decode cL_law 1504 = .ok (.iconst 0, 1) := by decide +kernel
theorem dL_law_1505 : decode cL_law 1505 = .ok (.ireturn, 1) := by decide +kernel
theorem dL_law_1506 : decode cL_law 1506 = .ok (.goto 2851, 3) := by decide +kernel
theorem dL_law_1509 : decode cL_law 1509 = .ok (.aload_n 1, 1) := by decide +kernel
theorem dL_law_1510 : decode cL_law 1510 = .ok (.aload_n 0, 1) := by decide +kernel
theorem dL_law_1511 : decode cL_law 1511 = .ok (.iload 5, 2) := by decide +kernel
theorem dL_law_1513 : decode cL_law 1513 = .ok (.iconst 1, 1) := by decide +kernel
theorem dL_law_1514 : decode cL_law 1514 = .ok (.iadd, 1) := by decide +kernel
theorem dL_law_1515 : decode cL_law 1515 = .ok (.iaload, 1) := by decide +kernel
theorem dL_law_1516 : decode cL_law 1516 = .ok (.aload_n 3, 1) := by decide +kernel
theorem dL_law_1517 : decode cL_law 1517 = .ok (.invokestatic 283, 3) := by decide +kernel
theorem dL_law_1520 : decode cL_law 1520 = .ok (.istore 6, 2) := by decide +kernel
theorem dL_law_1522 : decode cL_law 1522 = .ok (.aload_n 2, 1) := by decide +kernel
theorem dL_law_1523 : decode cL_law 1523 = .ok (.aload_n 0, 1) := by decide +kernel
theorem dL_law_1524 : decode cL_law 1524 = .ok (.iload 5, 2) := by decide +kernel
theorem dL_law_1526 : decode cL_law 1526 = .ok (.iconst 1, 1) := by decide +kernel
theorem dL_law_1527 : decode cL_law 1527 = .ok (.iadd, 1) := by decide +kernel
theorem dL_law_1528 : decode cL_law 1528 = .ok (.iaload, 1) := by decide +kernel
theorem dL_law_1529 : decode cL_law 1529 = .ok (.invokevirtual 285, 3) := by decide +kernel
theorem dL_law_1532 : decode cL_law 1532 = .ok (.istore 7, 2) := by decide +kernel
theorem dL_law_1534 : decode cL_law 1534 = .ok (.aload_n 2, 1) := by decide +kernel
theorem dL_law_1535 : decode cL_law 1535 = .ok (.invokevirtual 206, 3) := by decide +kernel
theorem dL_law_1538 : decode cL_law 1538 = .ok (.iload 6, 2) := by decide +kernel
theorem dL_law_1540 : decode cL_law 1540 = .ok (.if_icmp .eq 5, 3) := by decide +kernel
theorem dL_law_1543 : decode cL_law 1543 = .ok (.iconst 0, 1) := by decide +kernel
theorem dL_law_1544 : decode cL_law 1544 = .ok (.ireturn, 1) := by decide +kernel
theorem dL_law_1545 : decode cL_law 1545 = .ok (.iload 6, 2) := by decide +kernel
theorem dL_law_1547 : decode cL_law 1547 = .ok (.ifCond .ne 15, 3) := by decide +kernel
theorem dL_law_1550 : decode cL_law 1550 = .ok (.aload_n 3, 1) := by decide +kernel
theorem dL_law_1551 : decode cL_law 1551 = .ok (.iconst 0, 1) := by decide +kernel
theorem dL_law_1552 : decode cL_law 1552 = .ok (.laload, 1) := by decide +kernel
theorem dL_law_1553 : decode cL_law 1553 = .ok (.iload 7, 2) := by decide +kernel
theorem dL_law_1555 : decode cL_law 1555 = .ok (.i2l, 1) := by decide +kernel
theorem dL_law_1556 : decode cL_law 1556 = .ok (.lcmp, 1) := by decide +kernel
theorem dL_law_1557 : decode cL_law 1557 = .ok (.ifCond .eq 5, 3) := by decide +kernel
theorem dL_law_1560 : decode cL_law 1560 = .ok (.iconst 0, 1) := by decide +kernel
theorem dL_law_1561 : decode cL_law 1561 = .ok (.ireturn, 1) := by decide +kernel
theorem dL_law_1562 : decode cL_law 1562 = .ok (.goto 2795, 3) := by decide +kernel
theorem dL_law_1565 : decode cL_law 1565 = .ok (.aload_n 1, 1) := by decide +kernel
theorem dL_law_1566 : decode cL_law 1566 = .ok (.aload_n 0, 1) := by decide +kernel
theorem dL_law_1567 : decode cL_law 1567 = .ok (.iload 5, 2) := by decide +kernel
theorem dL_law_1569 : decode cL_law 1569 = .ok (.iconst 1, 1) := by decide +kernel
theorem dL_law_1570 : decode cL_law 1570 = .ok (.iadd, 1) := by decide +kernel
theorem dL_law_1571 : decode cL_law 1571 = .ok (.iaload, 1) := by decide +kernel
theorem dL_law_1572 : decode cL_law 1572 = .ok (.aload_n 0, 1) := by decide +kernel
theorem dL_law_1573 : decode cL_law 1573 = .ok (.iload 5, 2) := by decide +kernel
theorem dL_law_1575 : decode cL_law 1575 = .ok (.iconst 2, 1) := by decide +kernel
theorem dL_law_1576 : decode cL_law 1576 = .ok (.iadd, 1) := by decide +kernel
theorem dL_law_1577 : decode cL_law 1577 = .ok (.iaload, 1) := by decide +kernel
theorem dL_law_1578 : decode cL_law 1578 = .ok (.aload_n 0, 1) := by decide +kernel
theorem dL_law_1579 : decode cL_law 1579 = .ok (.iload 5, 2) := by decide +kernel
theorem dL_law_1581 : decode cL_law 1581 = .ok (.iconst 3, 1) := by decide +kernel
theorem dL_law_1582 : decode cL_law 1582 = .ok (.iadd, 1) := by decide +kernel
theorem dL_law_1583 : decode cL_law 1583 = .ok (.iaload, 1) := by decide +kernel
theorem dL_law_1584 : decode cL_law 1584 = .ok (.aload_n 3, 1) := by decide +kernel
theorem dL_law_1585 : decode cL_law 1585 = .ok (.invokestatic 286, 3) := by decide +kernel
theorem dL_law_1588 : decode cL_law 1588 = .ok (.istore 6, 2) := by decide +kernel
theorem dL_law_1590 : decode cL_law 1590 = .ok (.aload_n 2, 1) := by decide +kernel
theorem dL_law_1591 : decode cL_law 1591 = .ok (.aload_n 0, 1) := by decide +kernel
theorem dL_law_1592 : decode cL_law 1592 = .ok (.iload 5, 2) := by decide +kernel
theorem dL_law_1594 : decode cL_law 1594 = .ok (.iconst 1, 1) := by decide +kernel
theorem dL_law_1595 : decode cL_law 1595 = .ok (.iadd, 1) := by decide +kernel
theorem dL_law_1596 : decode cL_law 1596 = .ok (.iaload, 1) := by decide +kernel
theorem dL_law_1597 : decode cL_law 1597 = .ok (.aload_n 0, 1) := by decide +kernel
theorem dL_law_1598 : decode cL_law 1598 = .ok (.iload 5, 2) := by decide +kernel
theorem dL_law_1600 : decode cL_law 1600 = .ok (.iconst 2, 1) := by decide +kernel
theorem dL_law_1601 : decode cL_law 1601 = .ok (.iadd, 1) := by decide +kernel
theorem dL_law_1602 : decode cL_law 1602 = .ok (.iaload, 1) := by decide +kernel
theorem dL_law_1603 : decode cL_law 1603 = .ok (.aload_n 0, 1) := by decide +kernel
theorem dL_law_1604 : decode cL_law 1604 = .ok (.iload 5, 2) := by decide +kernel
theorem dL_law_1606 : decode cL_law 1606 = .ok (.iconst 3, 1) := by decide +kernel
theorem dL_law_1607 : decode cL_law 1607 = .ok (.iadd, 1) := by decide +kernel
theorem dL_law_1608 : decode cL_law 1608 = .ok (.iaload, 1) := by decide +kernel
theorem dL_law_1609 : decode cL_law 1609 = .ok (.invokevirtual 288, 3) := by decide +kernel
theorem dL_law_1612 : decode cL_law 1612 = .ok (.istore 7, 2) := by decide +kernel
theorem dL_law_1614 : decode cL_law 1614 = .ok (.aload_n 2, 1) := by decide +kernel
theorem dL_law_1615 : decode cL_law 1615 = .ok (.invokevirtual 206, 3) := by decide +kernel
theorem dL_law_1618 : decode cL_law 1618 = .ok (.iload 6, 2) := by decide +kernel
theorem dL_law_1620 : decode cL_law 1620 = .ok (.if_icmp .eq 5, 3) := by decide +kernel
theorem dL_law_1623 : decode cL_law 1623 = .ok (.iconst 0, 1) := by decide +kernel
theorem dL_law_1624 : decode cL_law 1624 = .ok (.ireturn, 1) := by decide +kernel
theorem dL_law_1625 : decode cL_law 1625 = .ok (.iload 6, 2) := by decide +kernel
theorem dL_law_1627 : decode cL_law 1627 = .ok (.ifCond .ne 15, 3) := by decide +kernel
theorem dL_law_1630 : decode cL_law 1630 = .ok (.aload_n 3, 1) := by decide +kernel
theorem dL_law_1631 : decode cL_law 1631 = .ok (.iconst 0, 1) := by decide +kernel
theorem dL_law_1632 : decode cL_law 1632 = .ok (.laload, 1) := by decide +kernel
theorem dL_law_1633 : decode cL_law 1633 = .ok (.iload 7, 2) := by decide +kernel
theorem dL_law_1635 : decode cL_law 1635 = .ok (.i2l, 1) := by decide +kernel
theorem dL_law_1636 : decode cL_law 1636 = .ok (.lcmp, 1) := by decide +kernel
theorem dL_law_1637 : decode cL_law 1637 = .ok (.ifCond .eq 5, 3) := by decide +kernel
theorem dL_law_1640 : decode cL_law 1640 = .ok (.iconst 0, 1) := by decide +kernel
theorem dL_law_1641 : decode cL_law 1641 = .ok (.ireturn, 1) := by decide +kernel
theorem dL_law_1642 : decode cL_law 1642 = .ok (.goto 2715, 3) := by decide +kernel
theorem dL_law_1645 : decode cL_law 1645 = .ok (.aload_n 1, 1) := by decide +kernel
theorem dL_law_1646 : decode cL_law 1646 = .ok (.aload_n 0, 1) := by decide +kernel
theorem dL_law_1647 : decode cL_law 1647 = .ok (.iload 5, 2) := by decide +kernel
theorem dL_law_1649 : decode cL_law 1649 = .ok (.iconst 1, 1) := by decide +kernel
theorem dL_law_1650 : decode cL_law 1650 = .ok (.iadd, 1) := by decide +kernel
theorem dL_law_1651 : decode cL_law 1651 = .ok (.iaload, 1) := by decide +kernel
theorem dL_law_1652 : decode cL_law 1652 = .ok (.aload_n 0, 1) := by decide +kernel
theorem dL_law_1653 : decode cL_law 1653 = .ok (.iload 5, 2) := by decide +kernel
theorem dL_law_1655 : decode cL_law 1655 = .ok (.iconst 2, 1) := by decide +kernel
theorem dL_law_1656 : decode cL_law 1656 = .ok (.iadd, 1) := by decide +kernel
theorem dL_law_1657 : decode cL_law 1657 = .ok (.iaload, 1) := by decide +kernel
theorem dL_law_1658 : decode cL_law 1658 = .ok (.aload_n 3, 1) := by decide +kernel
theorem dL_law_1659 : decode cL_law 1659 = .ok (.invokestatic 289, 3) := by decide +kernel
theorem dL_law_1662 : decode cL_law 1662 = .ok (.istore 6, 2) := by decide +kernel
theorem dL_law_1664 : decode cL_law 1664 = .ok (.aload_n 2, 1) := by decide +kernel
theorem dL_law_1665 : decode cL_law 1665 = .ok (.aload_n 0, 1) := by decide +kernel
theorem dL_law_1666 : decode cL_law 1666 = .ok (.iload 5, 2) := by decide +kernel
theorem dL_law_1668 : decode cL_law 1668 = .ok (.iconst 1, 1) := by decide +kernel
theorem dL_law_1669 : decode cL_law 1669 = .ok (.iadd, 1) := by decide +kernel
theorem dL_law_1670 : decode cL_law 1670 = .ok (.iaload, 1) := by decide +kernel
theorem dL_law_1671 : decode cL_law 1671 = .ok (.aload_n 0, 1) := by decide +kernel
theorem dL_law_1672 : decode cL_law 1672 = .ok (.iload 5, 2) := by decide +kernel
theorem dL_law_1674 : decode cL_law 1674 = .ok (.iconst 2, 1) := by decide +kernel
theorem dL_law_1675 : decode cL_law 1675 = .ok (.iadd, 1) := by decide +kernel
theorem dL_law_1676 : decode cL_law 1676 = .ok (.iaload, 1) := by decide +kernel
theorem dL_law_1677 : decode cL_law 1677 = .ok (.invokevirtual 291, 3) := by decide +kernel
theorem dL_law_1680 : decode cL_law 1680 = .ok (.istore 7, 2) := by decide +kernel
theorem dL_law_1682 : decode cL_law 1682 = .ok (.aload_n 2, 1) := by decide +kernel
theorem dL_law_1683 : decode cL_law 1683 = .ok (.invokevirtual 206, 3) := by decide +kernel
theorem dL_law_1686 : decode cL_law 1686 = .ok (.iload 6, 2) := by decide +kernel
theorem dL_law_1688 : decode cL_law 1688 = .ok (.if_icmp .eq 5, 3) := by decide +kernel
theorem dL_law_1691 : decode cL_law 1691 = .ok (.iconst 0, 1) := by decide +kernel
theorem dL_law_1692 : decode cL_law 1692 = .ok (.ireturn, 1) := by decide +kernel
theorem dL_law_1693 : decode cL_law 1693 = .ok (.iload 6, 2) := by decide +kernel
theorem dL_law_1695 : decode cL_law 1695 = .ok (.ifCond .ne 15, 3) := by decide +kernel
theorem dL_law_1698 : decode cL_law 1698 = .ok (.aload_n 3, 1) := by decide +kernel
theorem dL_law_1699 : decode cL_law 1699 = .ok (.iconst 0, 1) := by decide +kernel
theorem dL_law_1700 : decode cL_law 1700 = .ok (.laload, 1) := by decide +kernel
theorem dL_law_1701 : decode cL_law 1701 = .ok (.iload 7, 2) := by decide +kernel
theorem dL_law_1703 : decode cL_law 1703 = .ok (.i2l, 1) := by decide +kernel
theorem dL_law_1704 : decode cL_law 1704 = .ok (.lcmp, 1) := by decide +kernel
theorem dL_law_1705 : decode cL_law 1705 = .ok (.ifCond .eq 5, 3) := by decide +kernel
theorem dL_law_1708 : decode cL_law 1708 = .ok (.iconst 0, 1) := by decide +kernel
theorem dL_law_1709 : decode cL_law 1709 = .ok (.ireturn, 1) := by decide +kernel
theorem dL_law_1710 : decode cL_law 1710 = .ok (.goto 2647, 3) := by decide +kernel
theorem dL_law_1713 : decode cL_law 1713 = .ok (.aload_n 1, 1) := by decide +kernel
theorem dL_law_1714 : decode cL_law 1714 = .ok (.aload_n 0, 1) := by decide +kernel
theorem dL_law_1715 : decode cL_law 1715 = .ok (.iload 5, 2) := by decide +kernel
theorem dL_law_1717 : decode cL_law 1717 = .ok (.iconst 1, 1) := by decide +kernel
theorem dL_law_1718 : decode cL_law 1718 = .ok (.iadd, 1) := by decide +kernel
theorem dL_law_1719 : decode cL_law 1719 = .ok (.iaload, 1) := by decide +kernel
theorem dL_law_1720 : decode cL_law 1720 = .ok (.aload_n 0, 1) := by decide +kernel
theorem dL_law_1721 : decode cL_law 1721 = .ok (.iload 5, 2) := by decide +kernel
theorem dL_law_1723 : decode cL_law 1723 = .ok (.iconst 2, 1) := by decide +kernel
theorem dL_law_1724 : decode cL_law 1724 = .ok (.iadd, 1) := by decide +kernel
theorem dL_law_1725 : decode cL_law 1725 = .ok (.iaload, 1) := by decide +kernel
theorem dL_law_1726 : decode cL_law 1726 = .ok (.aload_n 0, 1) := by decide +kernel
theorem dL_law_1727 : decode cL_law 1727 = .ok (.iload 5, 2) := by decide +kernel
theorem dL_law_1729 : decode cL_law 1729 = .ok (.iconst 3, 1) := by decide +kernel
theorem dL_law_1730 : decode cL_law 1730 = .ok (.iadd, 1) := by decide +kernel
theorem dL_law_1731 : decode cL_law 1731 = .ok (.iaload, 1) := by decide +kernel
theorem dL_law_1732 : decode cL_law 1732 = .ok (.aload_n 3, 1) := by decide +kernel
theorem dL_law_1733 : decode cL_law 1733 = .ok (.invokestatic 292, 3) := by decide +kernel
theorem dL_law_1736 : decode cL_law 1736 = .ok (.istore 6, 2) := by decide +kernel
theorem dL_law_1738 : decode cL_law 1738 = .ok (.aload_n 2, 1) := by decide +kernel
theorem dL_law_1739 : decode cL_law 1739 = .ok (.aload_n 0, 1) := by decide +kernel
theorem dL_law_1740 : decode cL_law 1740 = .ok (.iload 5, 2) := by decide +kernel
theorem dL_law_1742 : decode cL_law 1742 = .ok (.iconst 1, 1) := by decide +kernel
theorem dL_law_1743 : decode cL_law 1743 = .ok (.iadd, 1) := by decide +kernel
theorem dL_law_1744 : decode cL_law 1744 = .ok (.iaload, 1) := by decide +kernel
theorem dL_law_1745 : decode cL_law 1745 = .ok (.aload_n 0, 1) := by decide +kernel
theorem dL_law_1746 : decode cL_law 1746 = .ok (.iload 5, 2) := by decide +kernel
theorem dL_law_1748 : decode cL_law 1748 = .ok (.iconst 2, 1) := by decide +kernel
theorem dL_law_1749 : decode cL_law 1749 = .ok (.iadd, 1) := by decide +kernel
theorem dL_law_1750 : decode cL_law 1750 = .ok (.iaload, 1) := by decide +kernel
theorem dL_law_1751 : decode cL_law 1751 = .ok (.aload_n 0, 1) := by decide +kernel
theorem dL_law_1752 : decode cL_law 1752 = .ok (.iload 5, 2) := by decide +kernel
theorem dL_law_1754 : decode cL_law 1754 = .ok (.iconst 3, 1) := by decide +kernel
theorem dL_law_1755 : decode cL_law 1755 = .ok (.iadd, 1) := by decide +kernel
theorem dL_law_1756 : decode cL_law 1756 = .ok (.iaload, 1) := by decide +kernel
theorem dL_law_1757 : decode cL_law 1757 = .ok (.invokevirtual 294, 3) := by decide +kernel
theorem dL_law_1760 : decode cL_law 1760 = .ok (.istore 7, 2) := by decide +kernel
theorem dL_law_1762 : decode cL_law 1762 = .ok (.aload_n 2, 1) := by decide +kernel
theorem dL_law_1763 : decode cL_law 1763 = .ok (.invokevirtual 206, 3) := by decide +kernel
theorem dL_law_1766 : decode cL_law 1766 = .ok (.iload 6, 2) := by decide +kernel
theorem dL_law_1768 : decode cL_law 1768 = .ok (.if_icmp .eq 5, 3) := by decide +kernel
theorem dL_law_1771 : decode cL_law 1771 = .ok (.iconst 0, 1) := by decide +kernel
theorem dL_law_1772 : decode cL_law 1772 = .ok (.ireturn, 1) := by decide +kernel
theorem dL_law_1773 : decode cL_law 1773 = .ok (.iload 6, 2) := by decide +kernel
theorem dL_law_1775 : decode cL_law 1775 = .ok (.ifCond .ne 15, 3) := by decide +kernel
theorem dL_law_1778 : decode cL_law 1778 = .ok (.aload_n 3, 1) := by decide +kernel
theorem dL_law_1779 : decode cL_law 1779 = .ok (.iconst 0, 1) := by decide +kernel
theorem dL_law_1780 : decode cL_law 1780 = .ok (.laload, 1) := by decide +kernel
theorem dL_law_1781 : decode cL_law 1781 = .ok (.iload 7, 2) := by decide +kernel
theorem dL_law_1783 : decode cL_law 1783 = .ok (.i2l, 1) := by decide +kernel
theorem dL_law_1784 : decode cL_law 1784 = .ok (.lcmp, 1) := by decide +kernel
theorem dL_law_1785 : decode cL_law 1785 = .ok (.ifCond .eq 5, 3) := by decide +kernel
theorem dL_law_1788 : decode cL_law 1788 = .ok (.iconst 0, 1) := by decide +kernel
theorem dL_law_1789 : decode cL_law 1789 = .ok (.ireturn, 1) := by decide +kernel
theorem dL_law_1790 : decode cL_law 1790 = .ok (.goto 2567, 3) := by decide +kernel
theorem dL_law_1793 : decode cL_law 1793 = .ok (.aload_n 1, 1) := by decide +kernel
theorem dL_law_1794 : decode cL_law 1794 = .ok (.aload_n 0, 1) := by decide +kernel
theorem dL_law_1795 : decode cL_law 1795 = .ok (.iload 5, 2) := by decide +kernel
theorem dL_law_1797 : decode cL_law 1797 = .ok (.iconst 1, 1) := by decide +kernel
theorem dL_law_1798 : decode cL_law 1798 = .ok (.iadd, 1) := by decide +kernel
theorem dL_law_1799 : decode cL_law 1799 = .ok (.iaload, 1) := by decide +kernel
theorem dL_law_1800 : decode cL_law 1800 = .ok (.aload_n 0, 1) := by decide +kernel
theorem dL_law_1801 : decode cL_law 1801 = .ok (.iload 5, 2) := by decide +kernel
theorem dL_law_1803 : decode cL_law 1803 = .ok (.iconst 2, 1) := by decide +kernel
theorem dL_law_1804 : decode cL_law 1804 = .ok (.iadd, 1) := by decide +kernel
theorem dL_law_1805 : decode cL_law 1805 = .ok (.iaload, 1) := by decide +kernel
theorem dL_law_1806 : decode cL_law 1806 = .ok (.aload_n 0, 1) := by decide +kernel
theorem dL_law_1807 : decode cL_law 1807 = .ok (.iload 5, 2) := by decide +kernel
theorem dL_law_1809 : decode cL_law 1809 = .ok (.iconst 3, 1) := by decide +kernel
theorem dL_law_1810 : decode cL_law 1810 = .ok (.iadd, 1) := by decide +kernel
theorem dL_law_1811 : decode cL_law 1811 = .ok (.iaload, 1) := by decide +kernel
theorem dL_law_1812 : decode cL_law 1812 = .ok (.aload_n 0, 1) := by decide +kernel
theorem dL_law_1813 : decode cL_law 1813 = .ok (.iload 5, 2) := by decide +kernel
theorem dL_law_1815 : decode cL_law 1815 = .ok (.iconst 4, 1) := by decide +kernel
theorem dL_law_1816 : decode cL_law 1816 = .ok (.iadd, 1) := by decide +kernel
theorem dL_law_1817 : decode cL_law 1817 = .ok (.iaload, 1) := by decide +kernel
theorem dL_law_1818 : decode cL_law 1818 = .ok (.aload_n 3, 1) := by decide +kernel
theorem dL_law_1819 : decode cL_law 1819 = .ok (.invokestatic 295, 3) := by decide +kernel
theorem dL_law_1822 : decode cL_law 1822 = .ok (.istore 6, 2) := by decide +kernel
theorem dL_law_1824 : decode cL_law 1824 = .ok (.aload_n 2, 1) := by decide +kernel
theorem dL_law_1825 : decode cL_law 1825 = .ok (.aload_n 0, 1) := by decide +kernel
theorem dL_law_1826 : decode cL_law 1826 = .ok (.iload 5, 2) := by decide +kernel
theorem dL_law_1828 : decode cL_law 1828 = .ok (.iconst 1, 1) := by decide +kernel
theorem dL_law_1829 : decode cL_law 1829 = .ok (.iadd, 1) := by decide +kernel
theorem dL_law_1830 : decode cL_law 1830 = .ok (.iaload, 1) := by decide +kernel
theorem dL_law_1831 : decode cL_law 1831 = .ok (.aload_n 0, 1) := by decide +kernel
theorem dL_law_1832 : decode cL_law 1832 = .ok (.iload 5, 2) := by decide +kernel
theorem dL_law_1834 : decode cL_law 1834 = .ok (.iconst 2, 1) := by decide +kernel
theorem dL_law_1835 : decode cL_law 1835 = .ok (.iadd, 1) := by decide +kernel
theorem dL_law_1836 : decode cL_law 1836 = .ok (.iaload, 1) := by decide +kernel
theorem dL_law_1837 : decode cL_law 1837 = .ok (.aload_n 0, 1) := by decide +kernel
theorem dL_law_1838 : decode cL_law 1838 = .ok (.iload 5, 2) := by decide +kernel
theorem dL_law_1840 : decode cL_law 1840 = .ok (.iconst 3, 1) := by decide +kernel
theorem dL_law_1841 : decode cL_law 1841 = .ok (.iadd, 1) := by decide +kernel
theorem dL_law_1842 : decode cL_law 1842 = .ok (.iaload, 1) := by decide +kernel
theorem dL_law_1843 : decode cL_law 1843 = .ok (.aload_n 0, 1) := by decide +kernel
theorem dL_law_1844 : decode cL_law 1844 = .ok (.iload 5, 2) := by decide +kernel
theorem dL_law_1846 : decode cL_law 1846 = .ok (.iconst 4, 1) := by decide +kernel
theorem dL_law_1847 : decode cL_law 1847 = .ok (.iadd, 1) := by decide +kernel
theorem dL_law_1848 : decode cL_law 1848 = .ok (.iaload, 1) := by decide +kernel
theorem dL_law_1849 : decode cL_law 1849 = .ok (.invokevirtual 297, 3) := by decide +kernel
theorem dL_law_1852 : decode cL_law 1852 = .ok (.istore 7, 2) := by decide +kernel
theorem dL_law_1854 : decode cL_law 1854 = .ok (.aload_n 2, 1) := by decide +kernel
theorem dL_law_1855 : decode cL_law 1855 = .ok (.invokevirtual 206, 3) := by decide +kernel
theorem dL_law_1858 : decode cL_law 1858 = .ok (.iload 6, 2) := by decide +kernel
theorem dL_law_1860 : decode cL_law 1860 = .ok (.if_icmp .eq 5, 3) := by decide +kernel
theorem dL_law_1863 : decode cL_law 1863 = .ok (.iconst 0, 1) := by decide +kernel
theorem dL_law_1864 : decode cL_law 1864 = .ok (.ireturn, 1) := by decide +kernel
theorem dL_law_1865 : decode cL_law 1865 = .ok (.iload 6, 2) := by decide +kernel
theorem dL_law_1867 : decode cL_law 1867 = .ok (.ifCond .ne 15, 3) := by decide +kernel
theorem dL_law_1870 : decode cL_law 1870 = .ok (.aload_n 3, 1) := by decide +kernel
theorem dL_law_1871 : decode cL_law 1871 = .ok (.iconst 0, 1) := by decide +kernel
theorem dL_law_1872 : decode cL_law 1872 = .ok (.laload, 1) := by decide +kernel
theorem dL_law_1873 : decode cL_law 1873 = .ok (.iload 7, 2) := by decide +kernel
theorem dL_law_1875 : decode cL_law 1875 = .ok (.i2l, 1) := by decide +kernel
theorem dL_law_1876 : decode cL_law 1876 = .ok (.lcmp, 1) := by decide +kernel
theorem dL_law_1877 : decode cL_law 1877 = .ok (.ifCond .eq 5, 3) := by decide +kernel
theorem dL_law_1880 : decode cL_law 1880 = .ok (.iconst 0, 1) := by decide +kernel
theorem dL_law_1881 : decode cL_law 1881 = .ok (.ireturn, 1) := by decide +kernel
theorem dL_law_1882 : decode cL_law 1882 = .ok (.goto 2475, 3) := by decide +kernel
theorem dL_law_1885 : decode cL_law 1885 = .ok (.aload_n 1, 1) := by decide +kernel
theorem dL_law_1886 : decode cL_law 1886 = .ok (.invokevirtual 298, 3) := by decide +kernel
theorem dL_law_1889 : decode cL_law 1889 = .ok (.aload_n 2, 1) := by decide +kernel
theorem dL_law_1890 : decode cL_law 1890 = .ok (.invokevirtual 301, 3) := by decide +kernel
theorem dL_law_1893 : decode cL_law 1893 = .ok (.if_icmp .eq 2464, 3) := by decide +kernel
theorem dL_law_1896 : decode cL_law 1896 = .ok (.iconst 0, 1) := by decide +kernel
theorem dL_law_1897 : decode cL_law 1897 = .ok (.ireturn, 1) := by decide +kernel
theorem dL_law_1898 : decode cL_law 1898 = .ok (.aload_n 1, 1) := by decide +kernel
theorem dL_law_1899 : decode cL_law 1899 = .ok (.aload_n 0, 1) := by decide +kernel
theorem dL_law_1900 : decode cL_law 1900 = .ok (.iload 5, 2) := by decide +kernel
theorem dL_law_1902 : decode cL_law 1902 = .ok (.iconst 1, 1) := by decide +kernel
theorem dL_law_1903 : decode cL_law 1903 = .ok (.iadd, 1) := by decide +kernel
theorem dL_law_1904 : decode cL_law 1904 = .ok (.iaload, 1) := by decide +kernel
theorem dL_law_1905 : decode cL_law 1905 = .ok (.aload_n 0, 1) := by decide +kernel
theorem dL_law_1906 : decode cL_law 1906 = .ok (.iload 5, 2) := by decide +kernel
theorem dL_law_1908 : decode cL_law 1908 = .ok (.iconst 2, 1) := by decide +kernel
theorem dL_law_1909 : decode cL_law 1909 = .ok (.iadd, 1) := by decide +kernel
theorem dL_law_1910 : decode cL_law 1910 = .ok (.iaload, 1) := by decide +kernel
theorem dL_law_1911 : decode cL_law 1911 = .ok (.aload_n 3, 1) := by decide +kernel
theorem dL_law_1912 : decode cL_law 1912 = .ok (.invokestatic 302, 3) := by decide +kernel
theorem dL_law_1915 : decode cL_law 1915 = .ok (.istore 6, 2) := by decide +kernel
theorem dL_law_1917 : decode cL_law 1917 = .ok (.aload_n 2, 1) := by decide +kernel
theorem dL_law_1918 : decode cL_law 1918 = .ok (.aload_n 0, 1) := by decide +kernel
theorem dL_law_1919 : decode cL_law 1919 = .ok (.iload 5, 2) := by decide +kernel
theorem dL_law_1921 : decode cL_law 1921 = .ok (.iconst 1, 1) := by decide +kernel
theorem dL_law_1922 : decode cL_law 1922 = .ok (.iadd, 1) := by decide +kernel
theorem dL_law_1923 : decode cL_law 1923 = .ok (.iaload, 1) := by decide +kernel
theorem dL_law_1924 : decode cL_law 1924 = .ok (.aload_n 0, 1) := by decide +kernel
theorem dL_law_1925 : decode cL_law 1925 = .ok (.iload 5, 2) := by decide +kernel
theorem dL_law_1927 : decode cL_law 1927 = .ok (.iconst 2, 1) := by decide +kernel
theorem dL_law_1928 : decode cL_law 1928 = .ok (.iadd, 1) := by decide +kernel
theorem dL_law_1929 : decode cL_law 1929 = .ok (.iaload, 1) := by decide +kernel
theorem dL_law_1930 : decode cL_law 1930 = .ok (.invokevirtual 304, 3) := by decide +kernel
theorem dL_law_1933 : decode cL_law 1933 = .ok (.istore 7, 2) := by decide +kernel
theorem dL_law_1935 : decode cL_law 1935 = .ok (.aload_n 2, 1) := by decide +kernel
theorem dL_law_1936 : decode cL_law 1936 = .ok (.invokevirtual 206, 3) := by decide +kernel
theorem dL_law_1939 : decode cL_law 1939 = .ok (.iload 6, 2) := by decide +kernel
theorem dL_law_1941 : decode cL_law 1941 = .ok (.if_icmp .eq 5, 3) := by decide +kernel
theorem dL_law_1944 : decode cL_law 1944 = .ok (.iconst 0, 1) := by decide +kernel
theorem dL_law_1945 : decode cL_law 1945 = .ok (.ireturn, 1) := by decide +kernel
theorem dL_law_1946 : decode cL_law 1946 = .ok (.iload 6, 2) := by decide +kernel
theorem dL_law_1948 : decode cL_law 1948 = .ok (.ifCond .ne 15, 3) := by decide +kernel
theorem dL_law_1951 : decode cL_law 1951 = .ok (.aload_n 3, 1) := by decide +kernel
theorem dL_law_1952 : decode cL_law 1952 = .ok (.iconst 0, 1) := by decide +kernel
theorem dL_law_1953 : decode cL_law 1953 = .ok (.laload, 1) := by decide +kernel
theorem dL_law_1954 : decode cL_law 1954 = .ok (.iload 7, 2) := by decide +kernel
theorem dL_law_1956 : decode cL_law 1956 = .ok (.i2l, 1) := by decide +kernel
theorem dL_law_1957 : decode cL_law 1957 = .ok (.lcmp, 1) := by decide +kernel
theorem dL_law_1958 : decode cL_law 1958 = .ok (.ifCond .eq 5, 3) := by decide +kernel
theorem dL_law_1961 : decode cL_law 1961 = .ok (.iconst 0, 1) := by decide +kernel
theorem dL_law_1962 : decode cL_law 1962 = .ok (.ireturn, 1) := by decide +kernel
theorem dL_law_1963 : decode cL_law 1963 = .ok (.goto 2394, 3) := by decide +kernel
theorem dL_law_1966 : decode cL_law 1966 = .ok (.aload_n 1, 1) := by decide +kernel
theorem dL_law_1967 : decode cL_law 1967 = .ok (.aload_n 0, 1) := by decide +kernel
theorem dL_law_1968 : decode cL_law 1968 = .ok (.iload 5, 2) := by decide +kernel
theorem dL_law_1970 : decode cL_law 1970 = .ok (.iconst 1, 1) := by decide +kernel
theorem dL_law_1971 : decode cL_law 1971 = .ok (.iadd, 1) := by decide +kernel
theorem dL_law_1972 : decode cL_law 1972 = .ok (.iaload, 1) := by decide +kernel
theorem dL_law_1973 : decode cL_law 1973 = .ok (.aload_n 0, 1) := by decide +kernel
theorem dL_law_1974 : decode cL_law 1974 = .ok (.iload 5, 2) := by decide +kernel
theorem dL_law_1976 : decode cL_law 1976 = .ok (.iconst 2, 1) := by decide +kernel
theorem dL_law_1977 : decode cL_law 1977 = .ok (.iadd, 1) := by decide +kernel
theorem dL_law_1978 : decode cL_law 1978 = .ok (.iaload, 1) := by decide +kernel
theorem dL_law_1979 : decode cL_law 1979 = .ok (.aload_n 3, 1) := by decide +kernel
theorem dL_law_1980 : decode cL_law 1980 = .ok (.invokestatic 305, 3) := by decide +kernel
theorem dL_law_1983 : decode cL_law 1983 = .ok (.istore 6, 2) := by decide +kernel
theorem dL_law_1985 : decode cL_law 1985 = .ok (.aload_n 2, 1) := by decide +kernel
theorem dL_law_1986 : decode cL_law 1986 = .ok (.aload_n 0, 1) := by decide +kernel
theorem dL_law_1987 : decode cL_law 1987 = .ok (.iload 5, 2) := by decide +kernel
theorem dL_law_1989 : decode cL_law 1989 = .ok (.iconst 1, 1) := by decide +kernel
theorem dL_law_1990 : decode cL_law 1990 = .ok (.iadd, 1) := by decide +kernel
theorem dL_law_1991 : decode cL_law 1991 = .ok (.iaload, 1) := by decide +kernel
theorem dL_law_1992 : decode cL_law 1992 = .ok (.aload_n 0, 1) := by decide +kernel
theorem dL_law_1993 : decode cL_law 1993 = .ok (.iload 5, 2) := by decide +kernel
theorem dL_law_1995 : decode cL_law 1995 = .ok (.iconst 2, 1) := by decide +kernel
theorem dL_law_1996 : decode cL_law 1996 = .ok (.iadd, 1) := by decide +kernel
theorem dL_law_1997 : decode cL_law 1997 = .ok (.iaload, 1) := by decide +kernel
theorem dL_law_1998 : decode cL_law 1998 = .ok (.invokevirtual 307, 3) := by decide +kernel
theorem dL_law_2001 : decode cL_law 2001 = .ok (.istore 7, 2) := by decide +kernel
theorem dL_law_2003 : decode cL_law 2003 = .ok (.aload_n 2, 1) := by decide +kernel
theorem dL_law_2004 : decode cL_law 2004 = .ok (.invokevirtual 206, 3) := by decide +kernel
theorem dL_law_2007 : decode cL_law 2007 = .ok (.iload 6, 2) := by decide +kernel
theorem dL_law_2009 : decode cL_law 2009 = .ok (.if_icmp .eq 5, 3) := by decide +kernel
theorem dL_law_2012 : decode cL_law 2012 = .ok (.iconst 0, 1) := by decide +kernel
theorem dL_law_2013 : decode cL_law 2013 = .ok (.ireturn, 1) := by decide +kernel
theorem dL_law_2014 : decode cL_law 2014 = .ok (.iload 6, 2) := by decide +kernel
theorem dL_law_2016 : decode cL_law 2016 = .ok (.ifCond .ne 15, 3) := by decide +kernel
theorem dL_law_2019 : decode cL_law 2019 = .ok (.aload_n 3, 1) := by decide +kernel
theorem dL_law_2020 : decode cL_law 2020 = .ok (.iconst 0, 1) := by decide +kernel
theorem dL_law_2021 : decode cL_law 2021 = .ok (.laload, 1) := by decide +kernel
theorem dL_law_2022 : decode cL_law 2022 = .ok (.iload 7, 2) := by decide +kernel
theorem dL_law_2024 : decode cL_law 2024 = .ok (.i2l, 1) := by decide +kernel
theorem dL_law_2025 : decode cL_law 2025 = .ok (.lcmp, 1) := by decide +kernel
theorem dL_law_2026 : decode cL_law 2026 = .ok (.ifCond .eq 5, 3) := by decide +kernel
theorem dL_law_2029 : decode cL_law 2029 = .ok (.iconst 0, 1) := by decide +kernel
theorem dL_law_2030 : decode cL_law 2030 = .ok (.ireturn, 1) := by decide +kernel
theorem dL_law_2031 : decode cL_law 2031 = .ok (.goto 2326, 3) := by decide +kernel
theorem dL_law_2034 : decode cL_law 2034 = .ok (.aload_n 1, 1) := by decide +kernel
theorem dL_law_2035 : decode cL_law 2035 = .ok (.aload_n 0, 1) := by decide +kernel
theorem dL_law_2036 : decode cL_law 2036 = .ok (.iload 5, 2) := by decide +kernel
theorem dL_law_2038 : decode cL_law 2038 = .ok (.iconst 1, 1) := by decide +kernel
theorem dL_law_2039 : decode cL_law 2039 = .ok (.iadd, 1) := by decide +kernel
theorem dL_law_2040 : decode cL_law 2040 = .ok (.iaload, 1) := by decide +kernel
theorem dL_law_2041 : decode cL_law 2041 = .ok (.aload_n 0, 1) := by decide +kernel
theorem dL_law_2042 : decode cL_law 2042 = .ok (.iload 5, 2) := by decide +kernel
theorem dL_law_2044 : decode cL_law 2044 = .ok (.iconst 2, 1) := by decide +kernel
theorem dL_law_2045 : decode cL_law 2045 = .ok (.iadd, 1) := by decide +kernel
theorem dL_law_2046 : decode cL_law 2046 = .ok (.iaload, 1) := by decide +kernel
theorem dL_law_2047 : decode cL_law 2047 = .ok (.aload_n 3, 1) := by decide +kernel
theorem dL_law_2048 : decode cL_law 2048 = .ok (.invokestatic 308, 3) := by decide +kernel
theorem dL_law_2051 : decode cL_law 2051 = .ok (.istore 6, 2) := by decide +kernel
theorem dL_law_2053 : decode cL_law 2053 = .ok (.aload_n 2, 1) := by decide +kernel
theorem dL_law_2054 : decode cL_law 2054 = .ok (.aload_n 0, 1) := by decide +kernel
theorem dL_law_2055 : decode cL_law 2055 = .ok (.iload 5, 2) := by decide +kernel
theorem dL_law_2057 : decode cL_law 2057 = .ok (.iconst 1, 1) := by decide +kernel
theorem dL_law_2058 : decode cL_law 2058 = .ok (.iadd, 1) := by decide +kernel
theorem dL_law_2059 : decode cL_law 2059 = .ok (.iaload, 1) := by decide +kernel
theorem dL_law_2060 : decode cL_law 2060 = .ok (.aload_n 0, 1) := by decide +kernel
theorem dL_law_2061 : decode cL_law 2061 = .ok (.iload 5, 2) := by decide +kernel
theorem dL_law_2063 : decode cL_law 2063 = .ok (.iconst 2, 1) := by decide +kernel
theorem dL_law_2064 : decode cL_law 2064 = .ok (.iadd, 1) := by decide +kernel
theorem dL_law_2065 : decode cL_law 2065 = .ok (.iaload, 1) := by decide +kernel
theorem dL_law_2066 : decode cL_law 2066 = .ok (.invokevirtual 310, 3) := by decide +kernel
theorem dL_law_2069 : decode cL_law 2069 = .ok (.istore 7, 2) := by decide +kernel
theorem dL_law_2071 : decode cL_law 2071 = .ok (.aload_n 2, 1) := by decide +kernel
theorem dL_law_2072 : decode cL_law 2072 = .ok (.invokevirtual 206, 3) := by decide +kernel
theorem dL_law_2075 : decode cL_law 2075 = .ok (.iload 6, 2) := by decide +kernel
theorem dL_law_2077 : decode cL_law 2077 = .ok (.if_icmp .eq 5, 3) := by decide +kernel
theorem dL_law_2080 : decode cL_law 2080 = .ok (.iconst 0, 1) := by decide +kernel
theorem dL_law_2081 : decode cL_law 2081 = .ok (.ireturn, 1) := by decide +kernel
theorem dL_law_2082 : decode cL_law 2082 = .ok (.iload 6, 2) := by decide +kernel
theorem dL_law_2084 : decode cL_law 2084 = .ok (.ifCond .ne 15, 3) := by decide +kernel
theorem dL_law_2087 : decode cL_law 2087 = .ok (.aload_n 3, 1) := by decide +kernel
theorem dL_law_2088 : decode cL_law 2088 = .ok (.iconst 0, 1) := by decide +kernel
theorem dL_law_2089 : decode cL_law 2089 = .ok (.laload, 1) := by decide +kernel
theorem dL_law_2090 : decode cL_law 2090 = .ok (.iload 7, 2) := by decide +kernel
theorem dL_law_2092 : decode cL_law 2092 = .ok (.i2l, 1) := by decide +kernel
theorem dL_law_2093 : decode cL_law 2093 = .ok (.lcmp, 1) := by decide +kernel
theorem dL_law_2094 : decode cL_law 2094 = .ok (.ifCond .eq 5, 3) := by decide +kernel
theorem dL_law_2097 : decode cL_law 2097 = .ok (.iconst 0, 1) := by decide +kernel
theorem dL_law_2098 : decode cL_law 2098 = .ok (.ireturn, 1) := by decide +kernel
theorem dL_law_2099 : decode cL_law 2099 = .ok (.goto 2258, 3) := by decide +kernel
theorem dL_law_2102 : decode cL_law 2102 = .ok (.aload_n 1, 1) := by decide +kernel
theorem dL_law_2103 : decode cL_law 2103 = .ok (.aload_n 0, 1) := by decide +kernel
theorem dL_law_2104 : decode cL_law 2104 = .ok (.iload 5, 2) := by decide +kernel
theorem dL_law_2106 : decode cL_law 2106 = .ok (.iconst 1, 1) := by decide +kernel
theorem dL_law_2107 : decode cL_law 2107 = .ok (.iadd, 1) := by decide +kernel
theorem dL_law_2108 : decode cL_law 2108 = .ok (.iaload, 1) := by decide +kernel
theorem dL_law_2109 : decode cL_law 2109 = .ok (.aload_n 0, 1) := by decide +kernel
theorem dL_law_2110 : decode cL_law 2110 = .ok (.iload 5, 2) := by decide +kernel
theorem dL_law_2112 : decode cL_law 2112 = .ok (.iconst 2, 1) := by decide +kernel
theorem dL_law_2113 : decode cL_law 2113 = .ok (.iadd, 1) := by decide +kernel
theorem dL_law_2114 : decode cL_law 2114 = .ok (.iaload, 1) := by decide +kernel
theorem dL_law_2115 : decode cL_law 2115 = .ok (.aload_n 3, 1) := by decide +kernel
theorem dL_law_2116 : decode cL_law 2116 = .ok (.invokestatic 311, 3) := by decide +kernel
theorem dL_law_2119 : decode cL_law 2119 = .ok (.istore 6, 2) := by decide +kernel
theorem dL_law_2121 : decode cL_law 2121 = .ok (.aload_n 2, 1) := by decide +kernel
theorem dL_law_2122 : decode cL_law 2122 = .ok (.aload_n 0, 1) := by decide +kernel
theorem dL_law_2123 : decode cL_law 2123 = .ok (.iload 5, 2) := by decide +kernel
theorem dL_law_2125 : decode cL_law 2125 = .ok (.iconst 1, 1) := by decide +kernel
theorem dL_law_2126 : decode cL_law 2126 = .ok (.iadd, 1) := by decide +kernel
theorem dL_law_2127 : decode cL_law 2127 = .ok (.iaload, 1) := by decide +kernel
theorem dL_law_2128 : decode cL_law 2128 = .ok (.aload_n 0, 1) := by decide +kernel
theorem dL_law_2129 : decode cL_law 2129 = .ok (.iload 5, 2) := by decide +kernel
theorem dL_law_2131 : decode cL_law 2131 = .ok (.iconst 2, 1) := by decide +kernel
theorem dL_law_2132 : decode cL_law 2132 = .ok (.iadd, 1) := by decide +kernel
theorem dL_law_2133 : decode cL_law 2133 = .ok (.iaload, 1) := by decide +kernel
theorem dL_law_2134 : decode cL_law 2134 = .ok (.invokevirtual 313, 3) := by decide +kernel
theorem dL_law_2137 : decode cL_law 2137 = .ok (.istore 7, 2) := by decide +kernel
theorem dL_law_2139 : decode cL_law 2139 = .ok (.aload_n 2, 1) := by decide +kernel
theorem dL_law_2140 : decode cL_law 2140 = .ok (.invokevirtual 206, 3) := by decide +kernel
theorem dL_law_2143 : decode cL_law 2143 = .ok (.iload 6, 2) := by decide +kernel
theorem dL_law_2145 : decode cL_law 2145 = .ok (.if_icmp .eq 5, 3) := by decide +kernel
theorem dL_law_2148 : decode cL_law 2148 = .ok (.iconst 0, 1) := by decide +kernel
theorem dL_law_2149 : decode cL_law 2149 = .ok (.ireturn, 1) := by decide +kernel
theorem dL_law_2150 : decode cL_law 2150 = .ok (.iload 6, 2) := by decide +kernel
theorem dL_law_2152 : decode cL_law 2152 = .ok (.ifCond .ne 15, 3) := by decide +kernel
theorem dL_law_2155 : decode cL_law 2155 = .ok (.aload_n 3, 1) := by decide +kernel
theorem dL_law_2156 : decode cL_law 2156 = .ok (.iconst 0, 1) := by decide +kernel
theorem dL_law_2157 : decode cL_law 2157 = .ok (.laload, 1) := by decide +kernel
theorem dL_law_2158 : decode cL_law 2158 = .ok (.iload 7, 2) := by decide +kernel
theorem dL_law_2160 : decode cL_law 2160 = .ok (.i2l, 1) := by decide +kernel
theorem dL_law_2161 : decode cL_law 2161 = .ok (.lcmp, 1) := by decide +kernel
theorem dL_law_2162 : decode cL_law 2162 = .ok (.ifCond .eq 5, 3) := by decide +kernel
theorem dL_law_2165 : decode cL_law 2165 = .ok (.iconst 0, 1) := by decide +kernel
theorem dL_law_2166 : decode cL_law 2166 = .ok (.ireturn, 1) := by decide +kernel
theorem dL_law_2167 : decode cL_law 2167 = .ok (.goto 2190, 3) := by decide +kernel
theorem dL_law_2170 : decode cL_law 2170 = .ok (.aload_n 1, 1) := by decide +kernel
theorem dL_law_2171 : decode cL_law 2171 = .ok (.aload_n 0, 1) := by decide +kernel
theorem dL_law_2172 : decode cL_law 2172 = .ok (.iload 5, 2) := by decide +kernel
theorem dL_law_2174 : decode cL_law 2174 = .ok (.iconst 1, 1) := by decide +kernel
theorem dL_law_2175 : decode cL_law 2175 = .ok (.iadd, 1) := by decide +kernel
theorem dL_law_2176 : decode cL_law 2176 = .ok (.iaload, 1) := by decide +kernel
theorem dL_law_2177 : decode cL_law 2177 = .ok (.aload_n 0, 1) := by decide +kernel
theorem dL_law_2178 : decode cL_law 2178 = .ok (.iload 5, 2) := by decide +kernel
theorem dL_law_2180 : decode cL_law 2180 = .ok (.iconst 2, 1) := by decide +kernel
theorem dL_law_2181 : decode cL_law 2181 = .ok (.iadd, 1) := by decide +kernel
theorem dL_law_2182 : decode cL_law 2182 = .ok (.iaload, 1) := by decide +kernel
theorem dL_law_2183 : decode cL_law 2183 = .ok (.aload_n 0, 1) := by decide +kernel
theorem dL_law_2184 : decode cL_law 2184 = .ok (.iload 5, 2) := by decide +kernel
theorem dL_law_2186 : decode cL_law 2186 = .ok (.iconst 3, 1) := by decide +kernel
theorem dL_law_2187 : decode cL_law 2187 = .ok (.iadd, 1) := by decide +kernel
theorem dL_law_2188 : decode cL_law 2188 = .ok (.iaload, 1) := by decide +kernel
theorem dL_law_2189 : decode cL_law 2189 = .ok (.aload_n 0, 1) := by decide +kernel
theorem dL_law_2190 : decode cL_law 2190 = .ok (.iload 5, 2) := by decide +kernel
theorem dL_law_2192 : decode cL_law 2192 = .ok (.iconst 4, 1) := by decide +kernel
theorem dL_law_2193 : decode cL_law 2193 = .ok (.iadd, 1) := by decide +kernel
theorem dL_law_2194 : decode cL_law 2194 = .ok (.iaload, 1) := by decide +kernel
theorem dL_law_2195 : decode cL_law 2195 = .ok (.aload_n 3, 1) := by decide +kernel
theorem dL_law_2196 : decode cL_law 2196 = .ok (.invokestatic 314, 3) := by decide +kernel
theorem dL_law_2199 : decode cL_law 2199 = .ok (.istore 6, 2) := by decide +kernel
theorem dL_law_2201 : decode cL_law 2201 = .ok (.aload_n 2, 1) := by decide +kernel
theorem dL_law_2202 : decode cL_law 2202 = .ok (.aload_n 0, 1) := by decide +kernel
theorem dL_law_2203 : decode cL_law 2203 = .ok (.iload 5, 2) := by decide +kernel
theorem dL_law_2205 : decode cL_law 2205 = .ok (.iconst 1, 1) := by decide +kernel
theorem dL_law_2206 : decode cL_law 2206 = .ok (.iadd, 1) := by decide +kernel
theorem dL_law_2207 : decode cL_law 2207 = .ok (.iaload, 1) := by decide +kernel
theorem dL_law_2208 : decode cL_law 2208 = .ok (.aload_n 0, 1) := by decide +kernel
theorem dL_law_2209 : decode cL_law 2209 = .ok (.iload 5, 2) := by decide +kernel
theorem dL_law_2211 : decode cL_law 2211 = .ok (.iconst 2, 1) := by decide +kernel
theorem dL_law_2212 : decode cL_law 2212 = .ok (.iadd, 1) := by decide +kernel
theorem dL_law_2213 : decode cL_law 2213 = .ok (.iaload, 1) := by decide +kernel
theorem dL_law_2214 : decode cL_law 2214 = .ok (.aload_n 0, 1) := by decide +kernel
theorem dL_law_2215 : decode cL_law 2215 = .ok (.iload 5, 2) := by decide +kernel
theorem dL_law_2217 : decode cL_law 2217 = .ok (.iconst 3, 1) := by decide +kernel
theorem dL_law_2218 : decode cL_law 2218 = .ok (.iadd, 1) := by decide +kernel
theorem dL_law_2219 : decode cL_law 2219 = .ok (.iaload, 1) := by decide +kernel
theorem dL_law_2220 : decode cL_law 2220 = .ok (.aload_n 0, 1) := by decide +kernel
theorem dL_law_2221 : decode cL_law 2221 = .ok (.iload 5, 2) := by decide +kernel
theorem dL_law_2223 : decode cL_law 2223 = .ok (.iconst 4, 1) := by decide +kernel
theorem dL_law_2224 : decode cL_law 2224 = .ok (.iadd, 1) := by decide +kernel
theorem dL_law_2225 : decode cL_law 2225 = .ok (.iaload, 1) := by decide +kernel
theorem dL_law_2226 : decode cL_law 2226 = .ok (.invokevirtual 316, 3) := by decide +kernel
theorem dL_law_2229 : decode cL_law 2229 = .ok (.istore 7, 2) := by decide +kernel
theorem dL_law_2231 : decode cL_law 2231 = .ok (.aload_n 2, 1) := by decide +kernel
theorem dL_law_2232 : decode cL_law 2232 = .ok (.invokevirtual 206, 3) := by decide +kernel
theorem dL_law_2235 : decode cL_law 2235 = .ok (.iload 6, 2) := by decide +kernel
theorem dL_law_2237 : decode cL_law 2237 = .ok (.if_icmp .eq 5, 3) := by decide +kernel
theorem dL_law_2240 : decode cL_law 2240 = .ok (.iconst 0, 1) := by decide +kernel
theorem dL_law_2241 : decode cL_law 2241 = .ok (.ireturn, 1) := by decide +kernel
theorem dL_law_2242 : decode cL_law 2242 = .ok (.iload 6, 2) := by decide +kernel
theorem dL_law_2244 : decode cL_law 2244 = .ok (.ifCond .ne 22, 3) := by decide +kernel
theorem dL_law_2247 : decode cL_law 2247 = .ok (.aload_n 3, 1) := by decide +kernel
theorem dL_law_2248 : decode cL_law 2248 = .ok (.iconst 0, 1) := by decide +kernel
theorem dL_law_2249 : decode cL_law 2249 = .ok (.laload, 1) := by decide +kernel
theorem dL_law_2250 : decode cL_law 2250 = .ok (.iload 7, 2) := by decide +kernel
theorem dL_law_2252 : decode cL_law 2252 = .ok (.ifCond .eq 7, 3) := by decide +kernel
theorem dL_law_2255 : decode cL_law 2255 = .ok (.lconst 1, 1) := by decide +kernel
theorem dL_law_2256 : decode cL_law 2256 = .ok (.goto 4, 3) := by decide +kernel
theorem dL_law_2259 : decode cL_law 2259 = .ok (.lconst 0, 1) := by decide +kernel
theorem dL_law_2260 : decode cL_law 2260 = .ok (.lcmp, 1) := by decide +kernel
theorem dL_law_2261 : decode cL_law 2261 = .ok (.ifCond .eq 5, 3) := by decide +kernel
theorem dL_law_2264 : decode cL_law 2264 = .ok (.iconst 0, 1) := by decide +kernel
theorem dL_law_2265 : decode cL_law 2265 = .ok (.ireturn, 1) := by decide +kernel
theorem dL_law_2266 : decode cL_law 2266 = .ok (.goto 2091, 3) := by decide +kernel
theorem dL_law_2269 : decode cL_law 2269 = .ok (.aload_n 1, 1) := by decide +kernel
theorem dL_law_2270 : decode cL_law 2270 = .ok (.aload_n 0, 1) := by decide +kernel
theorem dL_law_2271 : decode cL_law 2271 = .ok (.iload 5, 2) := by decide +kernel
theorem dL_law_2273 : decode cL_law 2273 = .ok (.iconst 1, 1) := by decide +kernel
theorem dL_law_2274 : decode cL_law 2274 = .ok (.iadd, 1) := by decide +kernel
theorem dL_law_2275 : decode cL_law 2275 = .ok (.iaload, 1) := by decide +kernel
theorem dL_law_2276 : decode cL_law 2276 = .ok (.aload_n 0, 1) := by decide +kernel
theorem dL_law_2277 : decode cL_law 2277 = .ok (.iload 5, 2) := by decide +kernel
theorem dL_law_2279 : decode cL_law 2279 = .ok (.iconst 2, 1) := by decide +kernel
theorem dL_law_2280 : decode cL_law 2280 = .ok (.iadd, 1) := by decide +kernel
theorem dL_law_2281 : decode cL_law 2281 = .ok (.iaload, 1) := by decide +kernel
theorem dL_law_2282 : decode cL_law 2282 = .ok (.aload_n 3, 1) := by decide +kernel
theorem dL_law_2283 : decode cL_law 2283 = .ok (.invokestatic 317, 3) := by decide +kernel
theorem dL_law_2286 : decode cL_law 2286 = .ok (.istore 6, 2) := by decide +kernel
theorem dL_law_2288 : decode cL_law 2288 = .ok (.aload_n 2, 1) := by decide +kernel
theorem dL_law_2289 : decode cL_law 2289 = .ok (.aload_n 0, 1) := by decide +kernel
theorem dL_law_2290 : decode cL_law 2290 = .ok (.iload 5, 2) := by decide +kernel
theorem dL_law_2292 : decode cL_law 2292 = .ok (.iconst 1, 1) := by decide +kernel
theorem dL_law_2293 : decode cL_law 2293 = .ok (.iadd, 1) := by decide +kernel
theorem dL_law_2294 : decode cL_law 2294 = .ok (.iaload, 1) := by decide +kernel
theorem dL_law_2295 : decode cL_law 2295 = .ok (.aload_n 0, 1) := by decide +kernel
theorem dL_law_2296 : decode cL_law 2296 = .ok (.iload 5, 2) := by decide +kernel
theorem dL_law_2298 : decode cL_law 2298 = .ok (.iconst 2, 1) := by decide +kernel
theorem dL_law_2299 : decode cL_law 2299 = .ok (.iadd, 1) := by decide +kernel
theorem dL_law_2300 : decode cL_law 2300 = .ok (.iaload, 1) := by decide +kernel
theorem dL_law_2301 : decode cL_law 2301 = .ok (.invokevirtual 319, 3) := by decide +kernel
theorem dL_law_2304 : decode cL_law 2304 = .ok (.istore 7, 2) := by decide +kernel
theorem dL_law_2306 : decode cL_law 2306 = .ok (.aload_n 2, 1) := by decide +kernel
theorem dL_law_2307 : decode cL_law 2307 = .ok (.invokevirtual 206, 3) := by decide +kernel
theorem dL_law_2310 : decode cL_law 2310 = .ok (.iload 6, 2) := by decide +kernel
theorem dL_law_2312 : decode cL_law 2312 = .ok (.if_icmp .eq 5, 3) := by decide +kernel
theorem dL_law_2315 : decode cL_law 2315 = .ok (.iconst 0, 1) := by decide +kernel
theorem dL_law_2316 : decode cL_law 2316 = .ok (.ireturn, 1) := by decide +kernel
theorem dL_law_2317 : decode cL_law 2317 = .ok (.iload 6, 2) := by decide +kernel
theorem dL_law_2319 : decode cL_law 2319 = .ok (.ifCond .ne 15, 3) := by decide +kernel
theorem dL_law_2322 : decode cL_law 2322 = .ok (.aload_n 3, 1) := by decide +kernel
theorem dL_law_2323 : decode cL_law 2323 = .ok (.iconst 0, 1) := by decide +kernel
theorem dL_law_2324 : decode cL_law 2324 = .ok (.laload, 1) := by decide +kernel
theorem dL_law_2325 : decode cL_law 2325 = .ok (.iload 7, 2) := by decide +kernel
theorem dL_law_2327 : decode cL_law 2327 = .ok (.i2l, 1) := by decide +kernel
theorem dL_law_2328 : decode cL_law 2328 = .ok (.lcmp, 1) := by decide +kernel
theorem dL_law_2329 : decode cL_law 2329 = .ok (.ifCond .eq 5, 3) := by decide +kernel
theorem dL_law_2332 : decode cL_law 2332 = .ok (.iconst 0, 1) := by decide +kernel
theorem dL_law_2333 : decode cL_law 2333 = .ok (.ireturn, 1) := by decide +kernel
theorem dL_law_2334 : decode cL_law 2334 = .ok (.goto 2023, 3) := by decide +kernel
theorem dL_law_2337 : decode cL_law 2337 = .ok (.aload_n 1, 1) := by decide +kernel
theorem dL_law_2338 : decode cL_law 2338 = .ok (.aload_n 0, 1) := by decide +kernel
theorem dL_law_2339 : decode cL_law 2339 = .ok (.iload 5, 2) := by decide +kernel
theorem dL_law_2341 : decode cL_law 2341 = .ok (.iconst 1, 1) := by decide +kernel
theorem dL_law_2342 : decode cL_law 2342 = .ok (.iadd, 1) := by decide +kernel
theorem dL_law_2343 : decode cL_law 2343 = .ok (.iaload, 1) := by decide +kernel
theorem dL_law_2344 : decode cL_law 2344 = .ok (.aload_n 0, 1) := by decide +kernel
theorem dL_law_2345 : decode cL_law 2345 = .ok (.iload 5, 2) := by decide +kernel
theorem dL_law_2347 : decode cL_law 2347 = .ok (.iconst 2, 1) := by decide +kernel
theorem dL_law_2348 : decode cL_law 2348 = .ok (.iadd, 1) := by decide +kernel
theorem dL_law_2349 : decode cL_law 2349 = .ok (.iaload, 1) := by decide +kernel
theorem dL_law_2350 : decode cL_law 2350 = .ok (.aload_n 0, 1) := by decide +kernel
theorem dL_law_2351 : decode cL_law 2351 = .ok (.iload 5, 2) := by decide +kernel
theorem dL_law_2353 : decode cL_law 2353 = .ok (.iconst 3, 1) := by decide +kernel
theorem dL_law_2354 : decode cL_law 2354 = .ok (.iadd, 1) := by decide +kernel
theorem dL_law_2355 : decode cL_law 2355 = .ok (.iaload, 1) := by decide +kernel
theorem dL_law_2356 : decode cL_law 2356 = .ok (.aload_n 3, 1) := by decide +kernel
theorem dL_law_2357 : decode cL_law 2357 = .ok (.invokestatic 320, 3) := by decide +kernel
theorem dL_law_2360 : decode cL_law 2360 = .ok (.istore 6, 2) := by decide +kernel
theorem dL_law_2362 : decode cL_law 2362 = .ok (.aload_n 2, 1) := by decide +kernel
theorem dL_law_2363 : decode cL_law 2363 = .ok (.aload_n 0, 1) := by decide +kernel
theorem dL_law_2364 : decode cL_law 2364 = .ok (.iload 5, 2) := by decide +kernel
theorem dL_law_2366 : decode cL_law 2366 = .ok (.iconst 1, 1) := by decide +kernel
theorem dL_law_2367 : decode cL_law 2367 = .ok (.iadd, 1) := by decide +kernel
theorem dL_law_2368 : decode cL_law 2368 = .ok (.iaload, 1) := by decide +kernel
theorem dL_law_2369 : decode cL_law 2369 = .ok (.aload_n 0, 1) := by decide +kernel
theorem dL_law_2370 : decode cL_law 2370 = .ok (.iload 5, 2) := by decide +kernel
theorem dL_law_2372 : decode cL_law 2372 = .ok (.iconst 2, 1) := by decide +kernel
theorem dL_law_2373 : decode cL_law 2373 = .ok (.iadd, 1) := by decide +kernel
theorem dL_law_2374 : decode cL_law 2374 = .ok (.iaload, 1) := by decide +kernel
theorem dL_law_2375 : decode cL_law 2375 = .ok (.aload_n 0, 1) := by decide +kernel
theorem dL_law_2376 : decode cL_law 2376 = .ok (.iload 5, 2) := by decide +kernel
theorem dL_law_2378 : decode cL_law 2378 = .ok (.iconst 3, 1) := by decide +kernel
theorem dL_law_2379 : decode cL_law 2379 = .ok (.iadd, 1) := by decide +kernel
theorem dL_law_2380 : decode cL_law 2380 = .ok (.iaload, 1) := by decide +kernel
theorem dL_law_2381 : decode cL_law 2381 = .ok (.invokevirtual 322, 3) := by decide +kernel
theorem dL_law_2384 : decode cL_law 2384 = .ok (.istore 7, 2) := by decide +kernel
theorem dL_law_2386 : decode cL_law 2386 = .ok (.aload_n 2, 1) := by decide +kernel
theorem dL_law_2387 : decode cL_law 2387 = .ok (.invokevirtual 206, 3) := by decide +kernel
theorem dL_law_2390 : decode cL_law 2390 = .ok (.iload 6, 2) := by decide +kernel
theorem dL_law_2392 : decode cL_law 2392 = .ok (.if_icmp .eq 5, 3) := by decide +kernel
theorem dL_law_2395 : decode cL_law 2395 = .ok (.iconst 0, 1) := by decide +kernel
theorem dL_law_2396 : decode cL_law 2396 = .ok (.ireturn, 1) := by decide +kernel
theorem dL_law_2397 : decode cL_law 2397 = .ok (.iload 6, 2) := by decide +kernel
theorem dL_law_2399 : decode cL_law 2399 = .ok (.ifCond .ne 15, 3) := by decide +kernel
theorem dL_law_2402 : decode cL_law 2402 = .ok (.aload_n 3, 1) := by decide +kernel
theorem dL_law_2403 : decode cL_law 2403 = .ok (.iconst 0, 1) := by decide +kernel
theorem dL_law_2404 : decode cL_law 2404 = .ok (.laload, 1) := by decide +kernel
theorem dL_law_2405 : decode cL_law 2405 = .ok (.iload 7, 2) := by decide +kernel
theorem dL_law_2407 : decode cL_law 2407 = .ok (.i2l, 1) := by decide +kernel
theorem dL_law_2408 : decode cL_law 2408 = .ok (.lcmp, 1) := by decide +kernel
theorem dL_law_2409 : decode cL_law 2409 = .ok (.ifCond .eq 5, 3) := by decide +kernel
theorem dL_law_2412 : decode cL_law 2412 = .ok (.iconst 0, 1) := by decide +kernel
theorem dL_law_2413 : decode cL_law 2413 = .ok (.ireturn, 1) := by decide +kernel
theorem dL_law_2414 : decode cL_law 2414 = .ok (.goto 1943, 3) := by decide +kernel
theorem dL_law_2417 : decode cL_law 2417 = .ok (.aload_n 1, 1) := by decide +kernel
theorem dL_law_2418 : decode cL_law 2418 = .ok (.aload_n 0, 1) := by decide +kernel
theorem dL_law_2419 : decode cL_law 2419 = .ok (.iload 5, 2) := by decide +kernel
theorem dL_law_2421 : decode cL_law 2421 = .ok (.iconst 1, 1) := by decide +kernel
theorem dL_law_2422 : decode cL_law 2422 = .ok (.iadd, 1) := by decide +kernel
theorem dL_law_2423 : decode cL_law 2423 = .ok (.iaload, 1) := by decide +kernel
theorem dL_law_2424 : decode cL_law 2424 = .ok (.aload_n 0, 1) := by decide +kernel
theorem dL_law_2425 : decode cL_law 2425 = .ok (.iload 5, 2) := by decide +kernel
theorem dL_law_2427 : decode cL_law 2427 = .ok (.iconst 2, 1) := by decide +kernel
theorem dL_law_2428 : decode cL_law 2428 = .ok (.iadd, 1) := by decide +kernel
theorem dL_law_2429 : decode cL_law 2429 = .ok (.iaload, 1) := by decide +kernel
theorem dL_law_2430 : decode cL_law 2430 = .ok (.aload_n 3, 1) := by decide +kernel
theorem dL_law_2431 : decode cL_law 2431 = .ok (.invokestatic 323, 3) := by decide +kernel
theorem dL_law_2434 : decode cL_law 2434 = .ok (.istore 6, 2) := by decide +kernel
theorem dL_law_2436 : decode cL_law 2436 = .ok (.aload_n 2, 1) := by decide +kernel
theorem dL_law_2437 : decode cL_law 2437 = .ok (.aload_n 0, 1) := by decide +kernel
theorem dL_law_2438 : decode cL_law 2438 = .ok (.iload 5, 2) := by decide +kernel
theorem dL_law_2440 : decode cL_law 2440 = .ok (.iconst 1, 1) := by decide +kernel
theorem dL_law_2441 : decode cL_law 2441 = .ok (.iadd, 1) := by decide +kernel
theorem dL_law_2442 : decode cL_law 2442 = .ok (.iaload, 1) := by decide +kernel
theorem dL_law_2443 : decode cL_law 2443 = .ok (.aload_n 0, 1) := by decide +kernel
theorem dL_law_2444 : decode cL_law 2444 = .ok (.iload 5, 2) := by decide +kernel
theorem dL_law_2446 : decode cL_law 2446 = .ok (.iconst 2, 1) := by decide +kernel
theorem dL_law_2447 : decode cL_law 2447 = .ok (.iadd, 1) := by decide +kernel
theorem dL_law_2448 : decode cL_law 2448 = .ok (.iaload, 1) := by decide +kernel
theorem dL_law_2449 : decode cL_law 2449 = .ok (.invokevirtual 325, 3) := by decide +kernel
theorem dL_law_2452 : decode cL_law 2452 = .ok (.istore 7, 2) := by decide +kernel
theorem dL_law_2454 : decode cL_law 2454 = .ok (.aload_n 2, 1) := by decide +kernel
theorem dL_law_2455 : decode cL_law 2455 = .ok (.invokevirtual 206, 3) := by decide +kernel
theorem dL_law_2458 : decode cL_law 2458 = .ok (.iload 6, 2) := by decide +kernel
theorem dL_law_2460 : decode cL_law 2460 = .ok (.if_icmp .eq 5, 3) := by decide +kernel
theorem dL_law_2463 : decode cL_law 2463 = .ok (.iconst 0, 1) := by decide +kernel
theorem dL_law_2464 : decode cL_law 2464 = .ok (.ireturn, 1) := by decide +kernel
theorem dL_law_2465 : decode cL_law 2465 = .ok (.iload 6, 2) := by decide +kernel
theorem dL_law_2467 : decode cL_law 2467 = .ok (.ifCond .ne 15, 3) := by decide +kernel
theorem dL_law_2470 : decode cL_law 2470 = .ok (.aload_n 3, 1) := by decide +kernel
theorem dL_law_2471 : decode cL_law 2471 = .ok (.iconst 0, 1) := by decide +kernel
theorem dL_law_2472 : decode cL_law 2472 = .ok (.laload, 1) := by decide +kernel
theorem dL_law_2473 : decode cL_law 2473 = .ok (.iload 7, 2) := by decide +kernel
theorem dL_law_2475 : decode cL_law 2475 = .ok (.i2l, 1) := by decide +kernel
theorem dL_law_2476 : decode cL_law 2476 = .ok (.lcmp, 1) := by decide +kernel
theorem dL_law_2477 : decode cL_law 2477 = .ok (.ifCond .eq 5, 3) := by decide +kernel
theorem dL_law_2480 : decode cL_law 2480 = .ok (.iconst 0, 1) := by decide +kernel
theorem dL_law_2481 : decode cL_law 2481 = .ok (.ireturn, 1) := by decide +kernel
theorem dL_law_2482 : decode cL_law 2482 = .ok (.goto 1875, 3) := by decide +kernel
theorem dL_law_2485 : decode cL_law 2485 = .ok (.aload_n 1, 1) := by decide +kernel
theorem dL_law_2486 : decode cL_law 2486 = .ok (.aload_n 0, 1) := by decide +kernel
theorem dL_law_2487 : decode cL_law 2487 = .ok (.iload 5, 2) := by decide +kernel
theorem dL_law_2489 : decode cL_law 2489 = .ok (.iconst 1, 1) := by decide +kernel
theorem dL_law_2490 : decode cL_law 2490 = .ok (.iadd, 1) := by decide +kernel
theorem dL_law_2491 : decode cL_law 2491 = .ok (.iaload, 1) := by decide +kernel
theorem dL_law_2492 : decode cL_law 2492 = .ok (.aload_n 0, 1) := by decide +kernel
theorem dL_law_2493 : decode cL_law 2493 = .ok (.iload 5, 2) := by decide +kernel
theorem dL_law_2495 : decode cL_law 2495 = .ok (.iconst 2, 1) := by decide +kernel
theorem dL_law_2496 : decode cL_law 2496 = .ok (.iadd, 1) := by decide +kernel
theorem dL_law_2497 : decode cL_law 2497 = .ok (.iaload, 1) := by decide +kernel
theorem dL_law_2498 : decode cL_law 2498 = .ok (.aload_n 0, 1) := by decide +kernel
theorem dL_law_2499 : decode cL_law 2499 = .ok (.iload 5, 2) := by decide +kernel
theorem dL_law_2501 : decode cL_law 2501 = .ok (.iconst 3, 1) := by decide +kernel
theorem dL_law_2502 : decode cL_law 2502 = .ok (.iadd, 1) := by decide +kernel
theorem dL_law_2503 : decode cL_law 2503 = .ok (.iaload, 1) := by decide +kernel
theorem dL_law_2504 : decode cL_law 2504 = .ok (.aload_n 3, 1) := by decide +kernel
theorem dL_law_2505 : decode cL_law 2505 = .ok (.invokestatic 326, 3) := by decide +kernel
theorem dL_law_2508 : decode cL_law 2508 = .ok (.istore 6, 2) := by decide +kernel
theorem dL_law_2510 : decode cL_law 2510 = .ok (.aload_n 2, 1) := by decide +kernel
theorem dL_law_2511 : decode cL_law 2511 = .ok (.aload_n 0, 1) := by decide +kernel
theorem dL_law_2512 : decode cL_law 2512 = .ok (.iload 5, 2) := by decide +kernel
theorem dL_law_2514 : decode cL_law 2514 = .ok (.iconst 1, 1) := by decide +kernel
theorem dL_law_2515 : decode cL_law 2515 = .ok (.iadd, 1) := by decide +kernel
theorem dL_law_2516 : decode cL_law 2516 = .ok (.iaload, 1) := by decide +kernel
theorem dL_law_2517 : decode cL_law 2517 = .ok (.aload_n 0, 1) := by decide +kernel
theorem dL_law_2518 : decode cL_law 2518 = .ok (.iload 5, 2) := by decide +kernel
theorem dL_law_2520 : decode cL_law 2520 = .ok (.iconst 2, 1) := by decide +kernel
theorem dL_law_2521 : decode cL_law 2521 = .ok (.iadd, 1) := by decide +kernel
theorem dL_law_2522 : decode cL_law 2522 = .ok (.iaload, 1) := by decide +kernel
theorem dL_law_2523 : decode cL_law 2523 = .ok (.aload_n 0, 1) := by decide +kernel
theorem dL_law_2524 : decode cL_law 2524 = .ok (.iload 5, 2) := by decide +kernel
theorem dL_law_2526 : decode cL_law 2526 = .ok (.iconst 3, 1) := by decide +kernel
theorem dL_law_2527 : decode cL_law 2527 = .ok (.iadd, 1) := by decide +kernel
theorem dL_law_2528 : decode cL_law 2528 = .ok (.iaload, 1) := by decide +kernel
theorem dL_law_2529 : decode cL_law 2529 = .ok (.invokevirtual 328, 3) := by decide +kernel
theorem dL_law_2532 : decode cL_law 2532 = .ok (.lstore 7, 2) := by decide +kernel
theorem dL_law_2534 : decode cL_law 2534 = .ok (.aload_n 2, 1) := by decide +kernel
theorem dL_law_2535 : decode cL_law 2535 = .ok (.invokevirtual 206, 3) := by decide +kernel
theorem dL_law_2538 : decode cL_law 2538 = .ok (.iload 6, 2) := by decide +kernel
theorem dL_law_2540 : decode cL_law 2540 = .ok (.if_icmp .eq 5, 3) := by decide +kernel
theorem dL_law_2543 : decode cL_law 2543 = .ok (.iconst 0, 1) := by decide +kernel
theorem dL_law_2544 : decode cL_law 2544 = .ok (.ireturn, 1) := by decide +kernel
theorem dL_law_2545 : decode cL_law 2545 = .ok (.iload 6, 2) := by decide +kernel
theorem dL_law_2547 : decode cL_law 2547 = .ok (.ifCond .ne 14, 3) := by decide +kernel
theorem dL_law_2550 : decode cL_law 2550 = .ok (.aload_n 3, 1) := by decide +kernel
theorem dL_law_2551 : decode cL_law 2551 = .ok (.iconst 0, 1) := by decide +kernel
theorem dL_law_2552 : decode cL_law 2552 = .ok (.laload, 1) := by decide +kernel
theorem dL_law_2553 : decode cL_law 2553 = .ok (.lload 7, 2) := by decide +kernel
theorem dL_law_2555 : decode cL_law 2555 = .ok (.lcmp, 1) := by decide +kernel
theorem dL_law_2556 : decode cL_law 2556 = .ok (.ifCond .eq 5, 3) := by decide +kernel
theorem dL_law_2559 : decode cL_law 2559 = .ok (.iconst 0, 1) := by decide +kernel
theorem dL_law_2560 : decode cL_law 2560 = .ok (.ireturn, 1) := by decide +kernel
theorem dL_law_2561 : decode cL_law 2561 = .ok (.goto 1796, 3) := by decide +kernel
theorem dL_law_2564 : decode cL_law 2564 = .ok (.aload_n 1, 1) := by decide +kernel
theorem dL_law_2565 : decode cL_law 2565 = .ok (.aload_n 0, 1) := by decide +kernel
theorem dL_law_2566 : decode cL_law 2566 = .ok (.iload 5, 2) := by decide +kernel
theorem dL_law_2568 : decode cL_law 2568 = .ok (.iconst 1, 1) := by decide +kernel
theorem dL_law_2569 : decode cL_law 2569 = .ok (.iadd, 1) := by decide +kernel
theorem dL_law_2570 : decode cL_law 2570 = .ok (.iaload, 1) := by decide +kernel
theorem dL_law_2571 : decode cL_law 2571 = .ok (.aload_n 0, 1) := by decide +kernel
theorem dL_law_2572 : decode cL_law 2572 = .ok (.iload 5, 2) := by decide +kernel
theorem dL_law_2574 : decode cL_law 2574 = .ok (.iconst 2, 1) := by decide +kernel
theorem dL_law_2575 : decode cL_law 2575 = .ok (.iadd, 1) := by decide +kernel
theorem dL_law_2576 : decode cL_law 2576 = .ok (.iaload, 1) := by decide +kernel
theorem dL_law_2577 : decode cL_law 2577 = .ok (.aload_n 3, 1) := by decide +kernel
theorem dL_law_2578 : decode cL_law 2578 = .ok (.invokestatic 329, 3) := by decide +kernel
theorem dL_law_2581 : decode cL_law 2581 = .ok (.istore 6, 2) := by decide +kernel
theorem dL_law_2583 : decode cL_law 2583 = .ok (.aload_n 2, 1) := by decide +kernel
theorem dL_law_2584 : decode cL_law 2584 = .ok (.aload_n 0, 1) := by decide +kernel
theorem dL_law_2585 : decode cL_law 2585 = .ok (.iload 5, 2) := by decide +kernel
theorem dL_law_2587 : decode cL_law 2587 = .ok (.iconst 1, 1) := by decide +kernel
theorem dL_law_2588 : decode cL_law 2588 = .ok (.iadd, 1) := by decide +kernel
theorem dL_law_2589 : decode cL_law 2589 = .ok (.iaload, 1) := by decide +kernel
theorem dL_law_2590 : decode cL_law 2590 = .ok (.aload_n 0, 1) := by decide +kernel
theorem dL_law_2591 : decode cL_law 2591 = .ok (.iload 5, 2) := by decide +kernel
theorem dL_law_2593 : decode cL_law 2593 = .ok (.iconst 2, 1) := by decide +kernel
theorem dL_law_2594 : decode cL_law 2594 = .ok (.iadd, 1) := by decide +kernel
theorem dL_law_2595 : decode cL_law 2595 = .ok (.iaload, 1) := by decide +kernel
theorem dL_law_2596 : decode cL_law 2596 = .ok (.invokevirtual 331, 3) := by decide +kernel
theorem dL_law_2599 : decode cL_law 2599 = .ok (.lstore 7, 2) := by decide +kernel
theorem dL_law_2601 : decode cL_law 2601 = .ok (.aload_n 2, 1) := by decide +kernel
theorem dL_law_2602 : decode cL_law 2602 = .ok (.invokevirtual 206, 3) := by decide +kernel
theorem dL_law_2605 : decode cL_law 2605 = .ok (.iload 6, 2) := by decide +kernel
theorem dL_law_2607 : decode cL_law 2607 = .ok (.if_icmp .eq 5, 3) := by decide +kernel
theorem dL_law_2610 : decode cL_law 2610 = .ok (.iconst 0, 1) := by decide +kernel
theorem dL_law_2611 : decode cL_law 2611 = .ok (.ireturn, 1) := by decide +kernel
theorem dL_law_2612 : decode cL_law 2612 = .ok (.iload 6, 2) := by decide +kernel
theorem dL_law_2614 : decode cL_law 2614 = .ok (.ifCond .ne 14, 3) := by decide +kernel
theorem dL_law_2617 : decode cL_law 2617 = .ok (.aload_n 3, 1) := by decide +kernel
theorem dL_law_2618 : decode cL_law 2618 = .ok (.iconst 0, 1) := by decide +kernel
theorem dL_law_2619 : decode cL_law 2619 = .ok (.laload, 1) := by decide +kernel
theorem dL_law_2620 : decode cL_law 2620 = .ok (.lload 7, 2) := by decide +kernel
theorem dL_law_2622 : decode cL_law 2622 = .ok (.lcmp, 1) := by decide +kernel
theorem dL_law_2623 : decode cL_law 2623 = .ok (.ifCond .eq 5, 3) := by decide +kernel
theorem dL_law_2626 : decode cL_law 2626 = .ok (.iconst 0, 1) := by decide +kernel
theorem dL_law_2627 : decode cL_law 2627 = .ok (.ireturn, 1) := by decide +kernel
theorem dL_law_2628 : decode cL_law 2628 = .ok (.goto 1729, 3) := by decide +kernel
theorem dL_law_2631 : decode cL_law 2631 = .ok (.aload_n 1, 1) := by decide +kernel
theorem dL_law_2632 : decode cL_law 2632 = .ok (.aload_n 0, 1) := by decide +kernel
theorem dL_law_2633 : decode cL_law 2633 = .ok (.iload 5, 2) := by decide +kernel
theorem dL_law_2635 : decode cL_law 2635 = .ok (.iconst 1, 1) := by decide +kernel
theorem dL_law_2636 : decode cL_law 2636 = .ok (.iadd, 1) := by decide +kernel
theorem dL_law_2637 : decode cL_law 2637 = .ok (.iaload, 1) := by decide +kernel
theorem dL_law_2638 : decode cL_law 2638 = .ok (.aload_n 3, 1) := by decide +kernel
theorem dL_law_2639 : decode cL_law 2639 = .ok (.invokestatic 332, 3) := by decide +kernel
theorem dL_law_2642 : decode cL_law 2642 = .ok (.istore 6, 2) := by decide +kernel
theorem dL_law_2644 : decode cL_law 2644 = .ok (.aload_n 2, 1) := by decide +kernel
theorem dL_law_2645 : decode cL_law 2645 = .ok (.aload_n 0, 1) := by decide +kernel
theorem dL_law_2646 : decode cL_law 2646 = .ok (.iload 5, 2) := by decide +kernel
theorem dL_law_2648 : decode cL_law 2648 = .ok (.iconst 1, 1) := by decide +kernel
theorem dL_law_2649 : decode cL_law 2649 = .ok (.iadd, 1) := by decide +kernel
theorem dL_law_2650 : decode cL_law 2650 = .ok (.iaload, 1) := by decide +kernel
theorem dL_law_2651 : decode cL_law 2651 = .ok (.invokevirtual 334, 3) := by decide +kernel
theorem dL_law_2654 : decode cL_law 2654 = .ok (.lstore 7, 2) := by decide +kernel
theorem dL_law_2656 : decode cL_law 2656 = .ok (.aload_n 2, 1) := by decide +kernel
theorem dL_law_2657 : decode cL_law 2657 = .ok (.invokevirtual 206, 3) := by decide +kernel
theorem dL_law_2660 : decode cL_law 2660 = .ok (.iload 6, 2) := by decide +kernel
theorem dL_law_2662 : decode cL_law 2662 = .ok (.if_icmp .eq 5, 3) := by decide +kernel
theorem dL_law_2665 : decode cL_law 2665 = .ok (.iconst 0, 1) := by decide +kernel
theorem dL_law_2666 : decode cL_law 2666 = .ok (.ireturn, 1) := by decide +kernel
theorem dL_law_2667 : decode cL_law 2667 = .ok (.iload 6, 2) := by decide +kernel
theorem dL_law_2669 : decode cL_law 2669 = .ok (.ifCond .ne 14, 3) := by decide +kernel
theorem dL_law_2672 : decode cL_law 2672 = .ok (.aload_n 3, 1) := by decide +kernel
theorem dL_law_2673 : decode cL_law 2673 = .ok (.iconst 0, 1) := by decide +kernel
theorem dL_law_2674 : decode cL_law 2674 = .ok (.laload, 1) := by decide +kernel
theorem dL_law_2675 : decode cL_law 2675 = .ok (.lload 7, 2) := by decide +kernel
theorem dL_law_2677 : decode cL_law 2677 = .ok (.lcmp, 1) := by decide +kernel
theorem dL_law_2678 : decode cL_law 2678 = .ok (.ifCond .eq 5, 3) := by decide +kernel
theorem dL_law_2681 : decode cL_law 2681 = .ok (.iconst 0, 1) := by decide +kernel
theorem dL_law_2682 : decode cL_law 2682 = .ok (.ireturn, 1) := by decide +kernel
theorem dL_law_2683 : decode cL_law 2683 = .ok (.goto 1674, 3) := by decide +kernel
theorem dL_law_2686 : decode cL_law 2686 = .ok (.aload_n 1, 1) := by decide +kernel
theorem dL_law_2687 : decode cL_law 2687 = .ok (.aload_n 0, 1) := by decide +kernel
theorem dL_law_2688 : decode cL_law 2688 = .ok (.iload 5, 2) := by decide +kernel
theorem dL_law_2690 : decode cL_law 2690 = .ok (.iconst 1, 1) := by decide +kernel
theorem dL_law_2691 : decode cL_law 2691 = .ok (.iadd, 1) := by decide +kernel
theorem dL_law_2692 : decode cL_law 2692 = .ok (.iaload, 1) := by decide +kernel
theorem dL_law_2693 : decode cL_law 2693 = .ok (.aload_n 0, 1) := by decide +kernel
theorem dL_law_2694 : decode cL_law 2694 = .ok (.iload 5, 2) := by decide +kernel
theorem dL_law_2696 : decode cL_law 2696 = .ok (.iconst 2, 1) := by decide +kernel
theorem dL_law_2697 : decode cL_law 2697 = .ok (.iadd, 1) := by decide +kernel
theorem dL_law_2698 : decode cL_law 2698 = .ok (.iaload, 1) := by decide +kernel
theorem dL_law_2699 : decode cL_law 2699 = .ok (.aload_n 3, 1) := by decide +kernel
theorem dL_law_2700 : decode cL_law 2700 = .ok (.invokestatic 335, 3) := by decide +kernel
theorem dL_law_2703 : decode cL_law 2703 = .ok (.istore 6, 2) := by decide +kernel
theorem dL_law_2705 : decode cL_law 2705 = .ok (.aload_n 2, 1) := by decide +kernel
theorem dL_law_2706 : decode cL_law 2706 = .ok (.aload_n 0, 1) := by decide +kernel
theorem dL_law_2707 : decode cL_law 2707 = .ok (.iload 5, 2) := by decide +kernel
theorem dL_law_2709 : decode cL_law 2709 = .ok (.iconst 1, 1) := by decide +kernel
theorem dL_law_2710 : decode cL_law 2710 = .ok (.iadd, 1) := by decide +kernel
theorem dL_law_2711 : decode cL_law 2711 = .ok (.iaload, 1) := by decide +kernel
theorem dL_law_2712 : decode cL_law 2712 = .ok (.aload_n 0, 1) := by decide +kernel
theorem dL_law_2713 : decode cL_law 2713 = .ok (.iload 5, 2) := by decide +kernel
theorem dL_law_2715 : decode cL_law 2715 = .ok (.iconst 2, 1) := by decide +kernel
theorem dL_law_2716 : decode cL_law 2716 = .ok (.iadd, 1) := by decide +kernel
theorem dL_law_2717 : decode cL_law 2717 = .ok (.iaload, 1) := by decide +kernel
theorem dL_law_2718 : decode cL_law 2718 = .ok (.invokevirtual 337, 3) := by decide +kernel
theorem dL_law_2721 : decode cL_law 2721 = .ok (.istore 7, 2) := by decide +kernel
theorem dL_law_2723 : decode cL_law 2723 = .ok (.aload_n 2, 1) := by decide +kernel
theorem dL_law_2724 : decode cL_law 2724 = .ok (.invokevirtual 206, 3) := by decide +kernel
theorem dL_law_2727 : decode cL_law 2727 = .ok (.iload 6, 2) := by decide +kernel
theorem dL_law_2729 : decode cL_law 2729 = .ok (.if_icmp .eq 5, 3) := by decide +kernel
theorem dL_law_2732 : decode cL_law 2732 = .ok (.iconst 0, 1) := by decide +kernel
theorem dL_law_2733 : decode cL_law 2733 = .ok (.ireturn, 1) := by decide +kernel
theorem dL_law_2734 : decode cL_law 2734 = .ok (.iload 6, 2) := by decide +kernel
theorem dL_law_2736 : decode cL_law 2736 = .ok (.ifCond .ne 15, 3) := by decide +kernel
theorem dL_law_2739 : decode cL_law 2739 = .ok (.aload_n 3, 1) := by decide +kernel
theorem dL_law_2740 : decode cL_law 2740 = .ok (.iconst 0, 1) := by decide +kernel
theorem dL_law_2741 : decode cL_law 2741 = .ok (.laload, 1) := by decide +kernel
theorem dL_law_2742 : decode cL_law 2742 = .ok (.iload 7, 2) := by decide +kernel
theorem dL_law_2744 : decode cL_law 2744 = .ok (.i2l, 1) := by decide +kernel
theorem dL_law_2745 : decode cL_law 2745 = .ok (.lcmp, 1) := by decide +kernel
theorem dL_law_2746 : decode cL_law 2746 = .ok (.ifCond .eq 5, 3) := by decide +kernel
theorem dL_law_2749 : decode cL_law 2749 = .ok (.iconst 0, 1) := by decide +kernel
theorem dL_law_2750 : decode cL_law 2750 = .ok (.ireturn, 1) := by decide +kernel
theorem dL_law_2751 : decode cL_law 2751 = .ok (.goto 1606, 3) := by decide +kernel
theorem dL_law_2754 : decode cL_law 2754 = .ok (.aload_n 1, 1) := by decide +kernel
theorem dL_law_2755 : decode cL_law 2755 = .ok (.aload_n 0, 1) := by decide +kernel
theorem dL_law_2756 : decode cL_law 2756 = .ok (.iload 5, 2) := by decide +kernel
theorem dL_law_2758 : decode cL_law 2758 = .ok (.iconst 1, 1) := by decide +kernel
theorem dL_law_2759 : decode cL_law 2759 = .ok (.iadd, 1) := by decide +kernel
theorem dL_law_2760 : decode cL_law 2760 = .ok (.iaload, 1) := by decide +kernel
theorem dL_law_2761 : decode cL_law 2761 = .ok (.aload_n 0, 1) := by decide +kernel
theorem dL_law_2762 : decode cL_law 2762 = .ok (.iload 5, 2) := by decide +kernel
theorem dL_law_2764 : decode cL_law 2764 = .ok (.iconst 2, 1) := by decide +kernel
theorem dL_law_2765 : decode cL_law 2765 = .ok (.iadd, 1) := by decide +kernel
theorem dL_law_2766 : decode cL_law 2766 = .ok (.iaload, 1) := by decide +kernel
theorem dL_law_2767 : decode cL_law 2767 = .ok (.aload_n 3, 1) := by decide +kernel
theorem dL_law_2768 : decode cL_law 2768 = .ok (.invokestatic 338, 3) := by decide +kernel
theorem dL_law_2771 : decode cL_law 2771 = .ok (.istore 6, 2) := by decide +kernel
theorem dL_law_2773 : decode cL_law 2773 = .ok (.aload_n 2, 1) := by decide +kernel
theorem dL_law_2774 : decode cL_law 2774 = .ok (.aload_n 0, 1) := by decide +kernel
theorem dL_law_2775 : decode cL_law 2775 = .ok (.iload 5, 2) := by decide +kernel
theorem dL_law_2777 : decode cL_law 2777 = .ok (.iconst 1, 1) := by decide +kernel
theorem dL_law_2778 : decode cL_law 2778 = .ok (.iadd, 1) := by decide +kernel
theorem dL_law_2779 : decode cL_law 2779 = .ok (.iaload, 1) := by decide +kernel
theorem dL_law_2780 : decode cL_law 2780 = .ok (.aload_n 0, 1) := by decide +kernel
theorem dL_law_2781 : decode cL_law 2781 = .ok (.iload 5, 2) := by decide +kernel
theorem dL_law_2783 : decode cL_law 2783 = .ok (.iconst 2, 1) := by decide +kernel
theorem dL_law_2784 : decode cL_law 2784 = .ok (.iadd, 1) := by decide +kernel
theorem dL_law_2785 : decode cL_law 2785 = .ok (.iaload, 1) := by decide +kernel
theorem dL_law_2786 : decode cL_law 2786 = .ok (.invokevirtual 340, 3) := by decide +kernel
theorem dL_law_2789 : decode cL_law 2789 = .ok (.istore 7, 2) := by decide +kernel
theorem dL_law_2791 : decode cL_law 2791 = .ok (.aload_n 2, 1) := by decide +kernel
theorem dL_law_2792 : decode cL_law 2792 = .ok (.invokevirtual 206, 3) := by decide +kernel
theorem dL_law_2795 : decode cL_law 2795 = .ok (.iload 6, 2) := by decide +kernel
theorem dL_law_2797 : decode cL_law 2797 = .ok (.if_icmp .eq 5, 3) := by decide +kernel
theorem dL_law_2800 : decode cL_law 2800 = .ok (.iconst 0, 1) := by decide +kernel
theorem dL_law_2801 : decode cL_law 2801 = .ok (.ireturn, 1) := by decide +kernel
theorem dL_law_2802 : decode cL_law 2802 = .ok (.iload 6, 2) := by decide +kernel
theorem dL_law_2804 : decode cL_law 2804 = .ok (.ifCond .ne 15, 3) := by decide +kernel
theorem dL_law_2807 : decode cL_law 2807 = .ok (.aload_n 3, 1) := by decide +kernel
theorem dL_law_2808 : decode cL_law 2808 = .ok (.iconst 0, 1) := by decide +kernel
theorem dL_law_2809 : decode cL_law 2809 = .ok (.laload, 1) := by decide +kernel
theorem dL_law_2810 : decode cL_law 2810 = .ok (.iload 7, 2) := by decide +kernel
theorem dL_law_2812 : decode cL_law 2812 = .ok (.i2l, 1) := by decide +kernel
theorem dL_law_2813 : decode cL_law 2813 = .ok (.lcmp, 1) := by decide +kernel
theorem dL_law_2814 : decode cL_law 2814 = .ok (.ifCond .eq 5, 3) := by decide +kernel
theorem dL_law_2817 : decode cL_law 2817 = .ok (.iconst 0, 1) := by decide +kernel
theorem dL_law_2818 : decode cL_law 2818 = .ok (.ireturn, 1) := by decide +kernel
theorem dL_law_2819 : decode cL_law 2819 = .ok (.goto 1538, 3) := by decide +kernel
theorem dL_law_2822 : decode cL_law 2822 = .ok (.aload_n 1, 1) := by decide +kernel
theorem dL_law_2823 : decode cL_law 2823 = .ok (.aload_n 0, 1) := by decide +kernel
theorem dL_law_2824 : decode cL_law 2824 = .ok (.iload 5, 2) := by decide +kernel
theorem dL_law_2826 : decode cL_law 2826 = .ok (.iconst 1, 1) := by decide +kernel
theorem dL_law_2827 : decode cL_law 2827 = .ok (.iadd, 1) := by decide +kernel
theorem dL_law_2828 : decode cL_law 2828 = .ok (.iaload, 1) := by decide +kernel
theorem dL_law_2829 : decode cL_law 2829 = .ok (.aload_n 0, 1) := by decide +kernel
theorem dL_law_2830 : decode cL_law 2830 = .ok (.iload 5, 2) := by decide +kernel
theorem dL_law_2832 : decode cL_law 2832 = .ok (.iconst 2, 1) := by decide +kernel
theorem dL_law_2833 : decode cL_law 2833 = .ok (.iadd, 1) := by decide +kernel
theorem dL_law_2834 : decode cL_law 2834 = .ok (.iaload, 1) := by decide +kernel
theorem dL_law_2835 : decode cL_law 2835 = .ok (.aload_n 0, 1) := by decide +kernel
theorem dL_law_2836 : decode cL_law 2836 = .ok (.iload 5, 2) := by decide +kernel
theorem dL_law_2838 : decode cL_law 2838 = .ok (.iconst 3, 1) := by decide +kernel
theorem dL_law_2839 : decode cL_law 2839 = .ok (.iadd, 1) := by decide +kernel
theorem dL_law_2840 : decode cL_law 2840 = .ok (.iaload, 1) := by decide +kernel
theorem dL_law_2841 : decode cL_law 2841 = .ok (.aload_n 0, 1) := by decide +kernel
theorem dL_law_2842 : decode cL_law 2842 = .ok (.iload 5, 2) := by decide +kernel
theorem dL_law_2844 : decode cL_law 2844 = .ok (.iconst 4, 1) := by decide +kernel
theorem dL_law_2845 : decode cL_law 2845 = .ok (.iadd, 1) := by decide +kernel
theorem dL_law_2846 : decode cL_law 2846 = .ok (.iaload, 1) := by decide +kernel
theorem dL_law_2847 : decode cL_law 2847 = .ok (.aload_n 3, 1) := by decide +kernel
theorem dL_law_2848 : decode cL_law 2848 = .ok (.invokestatic 341, 3) := by decide +kernel
theorem dL_law_2851 : decode cL_law 2851 = .ok (.istore 6, 2) := by decide +kernel
theorem dL_law_2853 : decode cL_law 2853 = .ok (.aload_n 2, 1) := by decide +kernel
theorem dL_law_2854 : decode cL_law 2854 = .ok (.aload_n 0, 1) := by decide +kernel
theorem dL_law_2855 : decode cL_law 2855 = .ok (.iload 5, 2) := by decide +kernel
theorem dL_law_2857 : decode cL_law 2857 = .ok (.iconst 1, 1) := by decide +kernel
theorem dL_law_2858 : decode cL_law 2858 = .ok (.iadd, 1) := by decide +kernel
theorem dL_law_2859 : decode cL_law 2859 = .ok (.iaload, 1) := by decide +kernel
theorem dL_law_2860 : decode cL_law 2860 = .ok (.aload_n 0, 1) := by decide +kernel
theorem dL_law_2861 : decode cL_law 2861 = .ok (.iload 5, 2) := by decide +kernel
theorem dL_law_2863 : decode cL_law 2863 = .ok (.iconst 2, 1) := by decide +kernel
theorem dL_law_2864 : decode cL_law 2864 = .ok (.iadd, 1) := by decide +kernel
theorem dL_law_2865 : decode cL_law 2865 = .ok (.iaload, 1) := by decide +kernel
theorem dL_law_2866 : decode cL_law 2866 = .ok (.aload_n 0, 1) := by decide +kernel
theorem dL_law_2867 : decode cL_law 2867 = .ok (.iload 5, 2) := by decide +kernel
theorem dL_law_2869 : decode cL_law 2869 = .ok (.iconst 3, 1) := by decide +kernel
theorem dL_law_2870 : decode cL_law 2870 = .ok (.iadd, 1) := by decide +kernel
theorem dL_law_2871 : decode cL_law 2871 = .ok (.iaload, 1) := by decide +kernel
theorem dL_law_2872 : decode cL_law 2872 = .ok (.aload_n 0, 1) := by decide +kernel
theorem dL_law_2873 : decode cL_law 2873 = .ok (.iload 5, 2) := by decide +kernel
theorem dL_law_2875 : decode cL_law 2875 = .ok (.iconst 4, 1) := by decide +kernel
theorem dL_law_2876 : decode cL_law 2876 = .ok (.iadd, 1) := by decide +kernel
theorem dL_law_2877 : decode cL_law 2877 = .ok (.iaload, 1) := by decide +kernel
theorem dL_law_2878 : decode cL_law 2878 = .ok (.invokevirtual 343, 3) := by decide +kernel
theorem dL_law_2881 : decode cL_law 2881 = .ok (.istore 7, 2) := by decide +kernel
theorem dL_law_2883 : decode cL_law 2883 = .ok (.aload_n 2, 1) := by decide +kernel
theorem dL_law_2884 : decode cL_law 2884 = .ok (.invokevirtual 206, 3) := by decide +kernel
theorem dL_law_2887 : decode cL_law 2887 = .ok (.iload 6, 2) := by decide +kernel
theorem dL_law_2889 : decode cL_law 2889 = .ok (.if_icmp .eq 5, 3) := by decide +kernel
theorem dL_law_2892 : decode cL_law 2892 = .ok (.iconst 0, 1) := by decide +kernel
theorem dL_law_2893 : decode cL_law 2893 = .ok (.ireturn, 1) := by decide +kernel
theorem dL_law_2894 : decode cL_law 2894 = .ok (.iload 6, 2) := by decide +kernel
theorem dL_law_2896 : decode cL_law 2896 = .ok (.ifCond .ne 22, 3) := by decide +kernel
theorem dL_law_2899 : decode cL_law 2899 = .ok (.aload_n 3, 1) := by decide +kernel
theorem dL_law_2900 : decode cL_law 2900 = .ok (.iconst 0, 1) := by decide +kernel
theorem dL_law_2901 : decode cL_law 2901 = .ok (.laload, 1) := by decide +kernel
theorem dL_law_2902 : decode cL_law 2902 = .ok (.iload 7, 2) := by decide +kernel
theorem dL_law_2904 : decode cL_law 2904 = .ok (.ifCond .eq 7, 3) := by decide +kernel
theorem dL_law_2907 : decode cL_law 2907 = .ok (.lconst 1, 1) := by decide +kernel
theorem dL_law_2908 : decode cL_law 2908 = .ok (.goto 4, 3) := by decide +kernel
theorem dL_law_2911 : decode cL_law 2911 = .ok (.lconst 0, 1) := by decide +kernel
theorem dL_law_2912 : decode cL_law 2912 = .ok (.lcmp, 1) := by decide +kernel
theorem dL_law_2913 : decode cL_law 2913 = .ok (.ifCond .eq 5, 3) := by decide +kernel
theorem dL_law_2916 : decode cL_law 2916 = .ok (.iconst 0, 1) := by decide +kernel
theorem dL_law_2917 : decode cL_law 2917 = .ok (.ireturn, 1) := by decide +kernel
theorem dL_law_2918 : decode cL_law 2918 = .ok (.goto 1439, 3) := by decide +kernel
theorem dL_law_2921 : decode cL_law 2921 = .ok (.aload_n 1, 1) := by decide +kernel
theorem dL_law_2922 : decode cL_law 2922 = .ok (.aload_n 0, 1) := by decide +kernel
theorem dL_law_2923 : decode cL_law 2923 = .ok (.iload 5, 2) := by decide +kernel
theorem dL_law_2925 : decode cL_law 2925 = .ok (.iconst 1, 1) := by decide +kernel
theorem dL_law_2926 : decode cL_law 2926 = .ok (.iadd, 1) := by decide +kernel
theorem dL_law_2927 : decode cL_law 2927 = .ok (.iaload, 1) := by decide +kernel
theorem dL_law_2928 : decode cL_law 2928 = .ok (.aload_n 0, 1) := by decide +kernel
theorem dL_law_2929 : decode cL_law 2929 = .ok (.iload 5, 2) := by decide +kernel
theorem dL_law_2931 : decode cL_law 2931 = .ok (.iconst 2, 1) := by decide +kernel
theorem dL_law_2932 : decode cL_law 2932 = .ok (.iadd, 1) := by decide +kernel
theorem dL_law_2933 : decode cL_law 2933 = .ok (.iaload, 1) := by decide +kernel
theorem dL_law_2934 : decode cL_law 2934 = .ok (.aload_n 3, 1) := by decide +kernel
theorem dL_law_2935 : decode cL_law 2935 = .ok (.invokestatic 344, 3) := by decide +kernel
theorem dL_law_2938 : decode cL_law 2938 = .ok (.istore 6, 2) := by decide +kernel
theorem dL_law_2940 : decode cL_law 2940 = .ok (.aload_n 2, 1) := by decide +kernel
theorem dL_law_2941 : decode cL_law 2941 = .ok (.aload_n 0, 1) := by decide +kernel
theorem dL_law_2942 : decode cL_law 2942 = .ok (.iload 5, 2) := by decide +kernel
theorem dL_law_2944 : decode cL_law 2944 = .ok (.iconst 1, 1) := by decide +kernel
theorem dL_law_2945 : decode cL_law 2945 = .ok (.iadd, 1) := by decide +kernel
theorem dL_law_2946 : decode cL_law 2946 = .ok (.iaload, 1) := by decide +kernel
theorem dL_law_2947 : decode cL_law 2947 = .ok (.aload_n 0, 1) := by decide +kernel
theorem dL_law_2948 : decode cL_law 2948 = .ok (.iload 5, 2) := by decide +kernel
theorem dL_law_2950 : decode cL_law 2950 = .ok (.iconst 2, 1) := by decide +kernel
theorem dL_law_2951 : decode cL_law 2951 = .ok (.iadd, 1) := by decide +kernel
theorem dL_law_2952 : decode cL_law 2952 = .ok (.iaload, 1) := by decide +kernel
theorem dL_law_2953 : decode cL_law 2953 = .ok (.invokevirtual 346, 3) := by decide +kernel
theorem dL_law_2956 : decode cL_law 2956 = .ok (.istore 7, 2) := by decide +kernel
theorem dL_law_2958 : decode cL_law 2958 = .ok (.aload_n 2, 1) := by decide +kernel
theorem dL_law_2959 : decode cL_law 2959 = .ok (.invokevirtual 206, 3) := by decide +kernel
theorem dL_law_2962 : decode cL_law 2962 = .ok (.iload 6, 2) := by decide +kernel
theorem dL_law_2964 : decode cL_law 2964 = .ok (.if_icmp .eq 5, 3) := by decide +kernel
theorem dL_law_2967 : decode cL_law 2967 = .ok (.iconst 0, 1) := by decide +kernel
theorem dL_law_2968 : decode cL_law 2968 = .ok (.ireturn, 1) := by decide +kernel
theorem dL_law_2969 : decode cL_law 2969 = .ok (.iload 6, 2) := by decide +kernel
theorem dL_law_2971 : decode cL_law 2971 = .ok (.ifCond .ne 15, 3) := by decide +kernel
theorem dL_law_2974 : decode cL_law 2974 = .ok (.aload_n 3, 1) := by decide +kernel
theorem dL_law_2975 : decode cL_law 2975 = .ok (.iconst 0, 1) := by decide +kernel
theorem dL_law_2976 : decode cL_law 2976 = .ok (.laload, 1) := by decide +kernel
theorem dL_law_2977 : decode cL_law 2977 = .ok (.iload 7, 2) := by decide +kernel
theorem dL_law_2979 : decode cL_law 2979 = .ok (.i2l, 1) := by decide +kernel
theorem dL_law_2980 : decode cL_law 2980 = .ok (.lcmp, 1) := by decide +kernel
theorem dL_law_2981 : decode cL_law 2981 = .ok (.ifCond .eq 5, 3) := by decide +kernel
theorem dL_law_2984 : decode cL_law 2984 = .ok (.iconst 0, 1) := by decide +kernel
theorem dL_law_2985 : decode cL_law 2985 = .ok (.ireturn, 1) := by decide +kernel
theorem dL_law_2986 : decode cL_law 2986 = .ok (.goto 1371, 3) := by decide +kernel
theorem dL_law_2989 : decode cL_law 2989 = .ok (.aload_n 1, 1) := by decide +kernel
theorem dL_law_2990 : decode cL_law 2990 = .ok (.aload_n 0, 1) := by decide +kernel
theorem dL_law_2991 : decode cL_law 2991 = .ok (.iload 5, 2) := by decide +kernel
theorem dL_law_2993 : decode cL_law 2993 = .ok (.iconst 1, 1) := by decide +kernel
theorem dL_law_2994 : decode cL_law 2994 = .ok (.iadd, 1) := by decide +kernel
theorem dL_law_2995 : decode cL_law 2995 = .ok (.iaload, 1) := by decide +kernel
theorem dL_law_2996 : decode cL_law 2996 = .ok (.aload_n 0, 1) := by decide +kernel
theorem dL_law_2997 : decode cL_law 2997 = .ok (.iload 5, 2) := by decide +kernel
theorem dL_law_2999 : decode cL_law 2999 = .ok (.iconst 2, 1) := by decide +kernel
theorem dL_law_3000 : decode cL_law 3000 = .ok (.iadd, 1) := by decide +kernel
theorem dL_law_3001 : decode cL_law 3001 = .ok (.iaload, 1) := by decide +kernel
theorem dL_law_3002 : decode cL_law 3002 = .ok (.aload 4, 2) := by decide +kernel
theorem dL_law_3004 : decode cL_law 3004 = .ok (.invokestatic 347, 3) := by decide +kernel
theorem dL_law_3007 : decode cL_law 3007 = .ok (.istore 6, 2) := by decide +kernel
theorem dL_law_3009 : decode cL_law 3009 = .ok (.aload_n 2, 1) := by decide +kernel
theorem dL_law_3010 : decode cL_law 3010 = .ok (.aload_n 0, 1) := by decide +kernel
theorem dL_law_3011 : decode cL_law 3011 = .ok (.iload 5, 2) := by decide +kernel
theorem dL_law_3013 : decode cL_law 3013 = .ok (.iconst 1, 1) := by decide +kernel
theorem dL_law_3014 : decode cL_law 3014 = .ok (.iadd, 1) := by decide +kernel
theorem dL_law_3015 : decode cL_law 3015 = .ok (.iaload, 1) := by decide +kernel
theorem dL_law_3016 : decode cL_law 3016 = .ok (.aload_n 0, 1) := by decide +kernel
theorem dL_law_3017 : decode cL_law 3017 = .ok (.iload 5, 2) := by decide +kernel
theorem dL_law_3019 : decode cL_law 3019 = .ok (.iconst 2, 1) := by decide +kernel
theorem dL_law_3020 : decode cL_law 3020 = .ok (.iadd, 1) := by decide +kernel
theorem dL_law_3021 : decode cL_law 3021 = .ok (.iaload, 1) := by decide +kernel
theorem dL_law_3022 : decode cL_law 3022 = .ok (.invokevirtual 350, 3) := by decide +kernel
theorem dL_law_3025 : decode cL_law 3025 = .ok (.fstore 7, 2) := by decide +kernel
theorem dL_law_3027 : decode cL_law 3027 = .ok (.aload_n 2, 1) := by decide +kernel
theorem dL_law_3028 : decode cL_law 3028 = .ok (.invokevirtual 206, 3) := by decide +kernel
theorem dL_law_3031 : decode cL_law 3031 = .ok (.iload 6, 2) := by decide +kernel
theorem dL_law_3033 : decode cL_law 3033 = .ok (.if_icmp .eq 5, 3) := by decide +kernel
theorem dL_law_3036 : decode cL_law 3036 = .ok (.iconst 0, 1) := by decide +kernel
theorem dL_law_3037 : decode cL_law 3037 = .ok (.ireturn, 1) := by decide +kernel
theorem dL_law_3038 : decode cL_law 3038 = .ok (.iload 6, 2) := by decide +kernel
theorem dL_law_3040 : decode cL_law 3040 = .ok (.ifCond .ne 36, 3) := by decide +kernel
theorem dL_law_3043 : decode cL_law 3043 = .ok (.aload 4, 2) := by decide +kernel
theorem dL_law_3045 : decode cL_law 3045 = .ok (.iconst 0, 1) := by decide +kernel
theorem dL_law_3046 : decode cL_law 3046 = .ok (.daload, 1) := by decide +kernel
theorem dL_law_3047 : decode cL_law 3047 = .ok (.fload 7, 2) := by decide +kernel
theorem dL_law_3049 : decode cL_law 3049 = .ok (.f2d, 1) := by decide +kernel
theorem dL_law_3050 : decode cL_law 3050 = .ok (.dcmp .l, 1) := by decide +kernel
theorem dL_law_3051 : decode cL_law 3051 = .ok (.ifCond .eq 25, 3) := by decide +kernel
theorem dL_law_3054 : decode cL_law 3054 = .ok (.aload 4, 2) := by decide +kernel
theorem dL_law_3056 : decode cL_law 3056 = .ok (.iconst 0, 1) := by decide +kernel
theorem dL_law_3057 : decode cL_law 3057 = .ok (.daload, 1) := by decide +kernel
theorem dL_law_3058 : decode cL_law 3058 = .ok (.aload 4, 2) := by decide +kernel
theorem dL_law_3060 : decode cL_law 3060 = .ok (.iconst 0, 1) := by decide +kernel
theorem dL_law_3061 : decode cL_law 3061 = .ok (.daload, 1) := by decide +kernel
theorem dL_law_3062 : decode cL_law 3062 = .ok (.dcmp .l, 1) := by decide +kernel
theorem dL_law_3063 : decode cL_law 3063 = .ok (.ifCond .eq 11, 3) := by decide +kernel
theorem dL_law_3066 : decode cL_law 3066 = .ok (.fload 7, 2) := by decide +kernel
theorem dL_law_3068 : decode cL_law 3068 = .ok (.fload 7, 2) := by decide +kernel
theorem dL_law_3070 : decode cL_law 3070 = .ok (.fcmp .l, 1) := by decide +kernel
theorem dL_law_3071 : decode cL_law 3071 = .ok (.ifCond .ne 5, 3) := by decide +kernel
theorem dL_law_3074 : decode cL_law 3074 = .ok (.iconst 0, 1) := by decide +kernel
theorem dL_law_3075 : decode cL_law 3075 = .ok (.ireturn, 1) := by decide +kernel
theorem dL_law_3076 : decode cL_law 3076 = .ok (.goto 1281, 3) := by decide +kernel
theorem dL_law_3079 : decode cL_law 3079 = .ok (.aload_n 1, 1) := by decide +kernel
theorem dL_law_3080 : decode cL_law 3080 = .ok (.aload_n 0, 1) := by decide +kernel
theorem dL_law_3081 : decode cL_law 3081 = .ok (.iload 5, 2) := by decide +kernel
theorem dL_law_3083 : decode cL_law 3083 = .ok (.iconst 1, 1) := by decide +kernel
theorem dL_law_3084 : decode cL_law 3084 = .ok (.iadd, 1) := by decide +kernel
theorem dL_law_3085 : decode cL_law 3085 = .ok (.iaload, 1) := by decide +kernel
theorem dL_law_3086 : decode cL_law 3086 = .ok (.aload_n 3, 1) := by decide +kernel
theorem dL_law_3087 : decode cL_law 3087 = .ok (.invokestatic 351, 3) := by decide +kernel
theorem dL_law_3090 : decode cL_law 3090 = .ok (.istore 6, 2) := by decide +kernel
theorem dL_law_3092 : decode cL_law 3092 = .ok (.aload_n 2, 1) := by decide +kernel
theorem dL_law_3093 : decode cL_law 3093 = .ok (.aload_n 0, 1) := by decide +kernel
theorem dL_law_3094 : decode cL_law 3094 = .ok (.iload 5, 2) := by decide +kernel
theorem dL_law_3096 : decode cL_law 3096 = .ok (.iconst 1, 1) := by decide +kernel
theorem dL_law_3097 : decode cL_law 3097 = .ok (.iadd, 1) := by decide +kernel
theorem dL_law_3098 : decode cL_law 3098 = .ok (.iaload, 1) := by decide +kernel
theorem dL_law_3099 : decode cL_law 3099 = .ok (.invokevirtual 353, 3) := by decide +kernel
theorem dL_law_3102 : decode cL_law 3102 = .ok (.istore 7, 2) := by decide +kernel
theorem dL_law_3104 : decode cL_law 3104 = .ok (.aload_n 2, 1) := by decide +kernel
theorem dL_law_3105 : decode cL_law 3105 = .ok (.invokevirtual 206, 3) := by decide +kernel
theorem dL_law_3108 : decode cL_law 3108 = .ok (.iload 6, 2) := by decide +kernel
theorem dL_law_3110 : decode cL_law 3110 = .ok (.if_icmp .eq 5, 3) := by decide +kernel
theorem dL_law_3113 : decode cL_law 3113 = .ok (.iconst 0, 1) := by decide +kernel
theorem dL_law_3114 : decode cL_law 3114 = .ok (.ireturn, 1) := by decide +kernel
theorem dL_law_3115 : decode cL_law 3115 = .ok (.iload 6, 2) := by decide +kernel
theorem dL_law_3117 : decode cL_law 3117 = .ok (.ifCond .ne 15, 3) := by decide +kernel
theorem dL_law_3120 : decode cL_law 3120 = .ok (.aload_n 3, 1) := by decide +kernel
theorem dL_law_3121 : decode cL_law 3121 = .ok (.iconst 0, 1) := by decide +kernel
theorem dL_law_3122 : decode cL_law 3122 = .ok (.laload, 1) := by decide +kernel
theorem dL_law_3123 : decode cL_law 3123 = .ok (.iload 7, 2) := by decide +kernel
theorem dL_law_3125 : decode cL_law 3125 = .ok (.i2l, 1) := by decide +kernel
theorem dL_law_3126 : decode cL_law 3126 = .ok (.lcmp, 1) := by decide +kernel
theorem dL_law_3127 : decode cL_law 3127 = .ok (.ifCond .eq 5, 3) := by decide +kernel
theorem dL_law_3130 : decode cL_law 3130 = .ok (.iconst 0, 1) := by decide +kernel
theorem dL_law_3131 : decode cL_law 3131 = .ok (.ireturn, 1) := by decide +kernel
theorem dL_law_3132 : decode cL_law 3132 = .ok (.goto 1225, 3) := by decide +kernel
theorem dL_law_3135 : decode cL_law 3135 = .ok (.aload_n 1, 1) := by decide +kernel
theorem dL_law_3136 : decode cL_law 3136 = .ok (.aload_n 0, 1) := by decide +kernel
theorem dL_law_3137 : decode cL_law 3137 = .ok (.iload 5, 2) := by decide +kernel
theorem dL_law_3139 : decode cL_law 3139 = .ok (.iconst 1, 1) := by decide +kernel
theorem dL_law_3140 : decode cL_law 3140 = .ok (.iadd, 1) := by decide +kernel
theorem dL_law_3141 : decode cL_law 3141 = .ok (.iaload, 1) := by decide +kernel
theorem dL_law_3142 : decode cL_law 3142 = .ok (.aload_n 3, 1) := by decide +kernel
theorem dL_law_3143 : decode cL_law 3143 = .ok (.invokestatic 354, 3) := by decide +kernel
theorem dL_law_3146 : decode cL_law 3146 = .ok (.istore 6, 2) := by decide +kernel
theorem dL_law_3148 : decode cL_law 3148 = .ok (.aload_n 2, 1) := by decide +kernel
theorem dL_law_3149 : decode cL_law 3149 = .ok (.aload_n 0, 1) := by decide +kernel
theorem dL_law_3150 : decode cL_law 3150 = .ok (.iload 5, 2) := by decide +kernel
theorem dL_law_3152 : decode cL_law 3152 = .ok (.iconst 1, 1) := by decide +kernel
theorem dL_law_3153 : decode cL_law 3153 = .ok (.iadd, 1) := by decide +kernel
theorem dL_law_3154 : decode cL_law 3154 = .ok (.iaload, 1) := by decide +kernel
theorem dL_law_3155 : decode cL_law 3155 = .ok (.invokevirtual 356, 3) := by decide +kernel
theorem dL_law_3158 : decode cL_law 3158 = .ok (.istore 7, 2) := by decide +kernel
theorem dL_law_3160 : decode cL_law 3160 = .ok (.aload_n 2, 1) := by decide +kernel
theorem dL_law_3161 : decode cL_law 3161 = .ok (.invokevirtual 206, 3) := by decide +kernel
theorem dL_law_3164 : decode cL_law 3164 = .ok (.iload 6, 2) := by decide +kernel
theorem dL_law_3166 : decode cL_law 3166 = .ok (.if_icmp .eq 5, 3) := by decide +kernel
theorem dL_law_3169 : decode cL_law 3169 = .ok (.iconst 0, 1) := by decide +kernel
theorem dL_law_3170 : decode cL_law 3170 = .ok (.ireturn, 1) := by decide +kernel
theorem dL_law_3171 : decode cL_law 3171 = .ok (.iload 6, 2) := by decide +kernel
theorem dL_law_3173 : decode cL_law 3173 = .ok (.ifCond .ne 15, 3) := by decide +kernel
theorem dL_law_3176 : decode cL_law 3176 = .ok (.aload_n 3, 1) := by decide +kernel
theorem dL_law_3177 : decode cL_law 3177 = .ok (.iconst 0, 1) := by decide +kernel
theorem dL_law_3178 : decode cL_law 3178 = .ok (.laload, 1) := by decide +kernel
theorem dL_law_3179 : decode cL_law 3179 = .ok (.iload 7, 2) := by decide +kernel
theorem dL_law_3181 : decode cL_law 3181 = .ok (.i2l, 1) := by decide +kernel
theorem dL_law_3182 : decode cL_law 3182 = .ok (.lcmp, 1) := by decide +kernel
theorem dL_law_3183 : decode cL_law 3183 = .ok (.ifCond .eq 5, 3) := by decide +kernel
theorem dL_law_3186 : decode cL_law 3186 = .ok (.iconst 0, 1) := by decide +kernel
theorem dL_law_3187 : decode cL_law 3187 = .ok (.ireturn, 1) := by decide +kernel
theorem dL_law_3188 : decode cL_law 3188 = .ok (.goto 1169, 3) := by decide +kernel
theorem dL_law_3191 : decode cL_law 3191 = .ok (.aload_n 1, 1) := by decide +kernel
theorem dL_law_3192 : decode cL_law 3192 = .ok (.aload_n 0, 1) := by decide +kernel
theorem dL_law_3193 : decode cL_law 3193 = .ok (.iload 5, 2) := by decide +kernel
theorem dL_law_3195 : decode cL_law 3195 = .ok (.iconst 1, 1) := by decide +kernel
theorem dL_law_3196 : decode cL_law 3196 = .ok (.iadd, 1) := by decide +kernel
theorem dL_law_3197 : decode cL_law 3197 = .ok (.iaload, 1) := by decide +kernel
theorem dL_law_3198 : decode cL_law 3198 = .ok (.aload_n 3, 1) := by decide +kernel
theorem dL_law_3199 : decode cL_law 3199 = .ok (.invokestatic 357, 3) := by decide +kernel
theorem dL_law_3202 : decode cL_law 3202 = .ok (.istore 6, 2) := by decide +kernel
theorem dL_law_3204 : decode cL_law 3204 = .ok (.aload_n 2, 1) := by decide +kernel
theorem dL_law_3205 : decode cL_law 3205 = .ok (.aload_n 0, 1) := by decide +kernel
theorem dL_law_3206 : decode cL_law 3206 = .ok (.iload 5, 2) := by decide +kernel
theorem dL_law_3208 : decode cL_law 3208 = .ok (.iconst 1, 1) := by decide +kernel
theorem dL_law_3209 : decode cL_law 3209 = .ok (.iadd, 1) := by decide +kernel
theorem dL_law_3210 : decode cL_law 3210 = .ok (.iaload, 1) := by decide +kernel
theorem dL_law_3211 : decode cL_law 3211 = .ok (.invokevirtual 359, 3) := by decide +kernel
theorem dL_law_3214 : decode cL_law 3214 = .ok (.istore 7, 2) := by decide +kernel
theorem dL_law_3216 : decode cL_law 3216 = .ok (.aload_n 2, 1) := by decide +kernel
theorem dL_law_3217 : decode cL_law 3217 = .ok (.invokevirtual 206, 3) := by decide +kernel
theorem dL_law_3220 : decode cL_law 3220 = .ok (.iload 6, 2) := by decide +kernel
theorem dL_law_3222 : decode cL_law 3222 = .ok (.if_icmp .eq 5, 3) := by decide +kernel
theorem dL_law_3225 : decode cL_law 3225 = .ok (.iconst 0, 1) := by decide +kernel
theorem dL_law_3226 : decode cL_law 3226 = .ok (.ireturn, 1) := by decide +kernel
theorem dL_law_3227 : decode cL_law 3227 = .ok (.iload 6, 2) := by decide +kernel
theorem dL_law_3229 : decode cL_law 3229 = .ok (.ifCond .ne 15, 3) := by decide +kernel
theorem dL_law_3232 : decode cL_law 3232 = .ok (.aload_n 3, 1) := by decide +kernel
theorem dL_law_3233 : decode cL_law 3233 = .ok (.iconst 0, 1) := by decide +kernel
theorem dL_law_3234 : decode cL_law 3234 = .ok (.laload, 1) := by decide +kernel
theorem dL_law_3235 : decode cL_law 3235 = .ok (.iload 7, 2) := by decide +kernel
theorem dL_law_3237 : decode cL_law 3237 = .ok (.i2l, 1) := by decide +kernel
theorem dL_law_3238 : decode cL_law 3238 = .ok (.lcmp, 1) := by decide +kernel
theorem dL_law_3239 : decode cL_law 3239 = .ok (.ifCond .eq 5, 3) := by decide +kernel
theorem dL_law_3242 : decode cL_law 3242 = .ok (.iconst 0, 1) := by decide +kernel
theorem dL_law_3243 : decode cL_law 3243 = .ok (.ireturn, 1) := by decide +kernel
theorem dL_law_3244 : decode cL_law 3244 = .ok (.goto 1113, 3) := by decide +kernel
theorem dL_law_3247 : decode cL_law 3247 = .ok (.aload_n 1, 1) := by decide +kernel
theorem dL_law_3248 : decode cL_law 3248 = .ok (.aload_n 0, 1) := by decide +kernel
theorem dL_law_3249 : decode cL_law 3249 = .ok (.iload 5, 2) := by decide +kernel
theorem dL_law_3251 : decode cL_law 3251 = .ok (.iconst 1, 1) := by decide +kernel
theorem dL_law_3252 : decode cL_law 3252 = .ok (.iadd, 1) := by decide +kernel
theorem dL_law_3253 : decode cL_law 3253 = .ok (.iaload, 1) := by decide +kernel
theorem dL_law_3254 : decode cL_law 3254 = .ok (.aload_n 0, 1) := by decide +kernel
theorem dL_law_3255 : decode cL_law 3255 = .ok (.iload 5, 2) := by decide +kernel
theorem dL_law_3257 : decode cL_law 3257 = .ok (.iconst 2, 1) := by decide +kernel
theorem dL_law_3258 : decode cL_law 3258 = .ok (.iadd, 1) := by decide +kernel
theorem dL_law_3259 : decode cL_law 3259 = .ok (.iaload, 1) := by decide +kernel
theorem dL_law_3260 : decode cL_law 3260 = .ok (.aload_n 0, 1) := by decide +kernel
theorem dL_law_3261 : decode cL_law 3261 = .ok (.iload 5, 2) := by decide +kernel
theorem dL_law_3263 : decode cL_law 3263 = .ok (.iconst 3, 1) := by decide +kernel
theorem dL_law_3264 : decode cL_law 3264 = .ok (.iadd, 1) := by decide +kernel
theorem dL_law_3265 : decode cL_law 3265 = .ok (.iaload, 1) := by decide +kernel
theorem dL_law_3266 : decode cL_law 3266 = .ok (.aload_n 3, 1) := by decide +kernel
theorem dL_law_3267 : decode cL_law 3267 = .ok (.invokestatic 360, 3) := by decide +kernel
theorem dL_law_3270 : decode cL_law 3270 = .ok (.istore 6, 2) := by decide +kernel
theorem dL_law_3272 : decode cL_law 3272 = .ok (.aload_n 2, 1) := by decide +kernel
theorem dL_law_3273 : decode cL_law 3273 = .ok (.aload_n 0, 1) := by decide +kernel
theorem dL_law_3274 : decode cL_law 3274 = .ok (.iload 5, 2) := by decide +kernel
theorem dL_law_3276 : decode cL_law 3276 = .ok (.iconst 1, 1) := by decide +kernel
theorem dL_law_3277 : decode cL_law 3277 = .ok (.iadd, 1) := by decide +kernel
theorem dL_law_3278 : decode cL_law 3278 = .ok (.iaload, 1) := by decide +kernel
theorem dL_law_3279 : decode cL_law 3279 = .ok (.aload_n 0, 1) := by decide +kernel
theorem dL_law_3280 : decode cL_law 3280 = .ok (.iload 5, 2) := by decide +kernel
theorem dL_law_3282 : decode cL_law 3282 = .ok (.iconst 2, 1) := by decide +kernel
theorem dL_law_3283 : decode cL_law 3283 = .ok (.iadd, 1) := by decide +kernel
theorem dL_law_3284 : decode cL_law 3284 = .ok (.iaload, 1) := by decide +kernel
theorem dL_law_3285 : decode cL_law 3285 = .ok (.aload_n 0, 1) := by decide +kernel
theorem dL_law_3286 : decode cL_law 3286 = .ok (.iload 5, 2) := by decide +kernel
theorem dL_law_3288 : decode cL_law 3288 = .ok (.iconst 3, 1) := by decide +kernel
theorem dL_law_3289 : decode cL_law 3289 = .ok (.iadd, 1) := by decide +kernel
theorem dL_law_3290 : decode cL_law 3290 = .ok (.iaload, 1) := by decide +kernel
theorem dL_law_3291 : decode cL_law 3291 = .ok (.invokevirtual 362, 3) := by decide +kernel
theorem dL_law_3294 : decode cL_law 3294 = .ok (.istore 7, 2) := by decide +kernel
theorem dL_law_3296 : decode cL_law 3296 = .ok (.aload_n 2, 1) := by decide +kernel
theorem dL_law_3297 : decode cL_law 3297 = .ok (.invokevirtual 206, 3) := by decide +kernel
theorem dL_law_3300 : decode cL_law 3300 = .ok (.iload 6, 2) := by decide +kernel
theorem dL_law_3302 : decode cL_law 3302 = .ok (.if_icmp .eq 5, 3) := by decide +kernel
theorem dL_law_3305 : decode cL_law 3305 = .ok (.iconst 0, 1) := by decide +kernel
theorem dL_law_3306 : decode cL_law 3306 = .ok (.ireturn, 1) := by decide +kernel
theorem dL_law_3307 : decode cL_law 3307 = .ok (.iload 6, 2) := by decide +kernel
theorem dL_law_3309 : decode cL_law 3309 = .ok (.ifCond .ne 15, 3) := by decide +kernel
theorem dL_law_3312 : decode cL_law 3312 = .ok (.aload_n 3, 1) := by decide +kernel
theorem dL_law_3313 : decode cL_law 3313 = .ok (.iconst 0, 1) := by decide +kernel
theorem dL_law_3314 : decode cL_law 3314 = .ok (.laload, 1) := by decide +kernel
theorem dL_law_3315 : decode cL_law 3315 = .ok (.iload 7, 2) := by decide +kernel
theorem dL_law_3317 : decode cL_law 3317 = .ok (.i2l, 1) := by decide +kernel
theorem dL_law_3318 : decode cL_law 3318 = .ok (.lcmp, 1) := by decide +kernel
theorem dL_law_3319 : decode cL_law 3319 = .ok (.ifCond .eq 5, 3) := by decide +kernel
theorem dL_law_3322 : decode cL_law 3322 = .ok (.iconst 0, 1) := by decide +kernel
theorem dL_law_3323 : decode cL_law 3323 = .ok (.ireturn, 1) := by decide +kernel
theorem dL_law_3324 : decode cL_law 3324 = .ok (.goto 1033, 3) := by decide +kernel
theorem dL_law_3327 : decode cL_law 3327 = .ok (.aload_n 1, 1) := by decide +kernel
theorem dL_law_3328 : decode cL_law 3328 = .ok (.aload_n 0, 1) := by decide +kernel
theorem dL_law_3329 : decode cL_law 3329 = .ok (.iload 5, 2) := by decide +kernel
theorem dL_law_3331 : decode cL_law 3331 = .ok (.iconst 1, 1) := by decide +kernel
theorem dL_law_3332 : decode cL_law 3332 = .ok (.iadd, 1) := by decide +kernel
theorem dL_law_3333 : decode cL_law 3333 = .ok (.iaload, 1) := by decide +kernel
theorem dL_law_3334 : decode cL_law 3334 = .ok (.aload_n 0, 1) := by decide +kernel
theorem dL_law_3335 : decode cL_law 3335 = .ok (.iload 5, 2) := by decide +kernel
theorem dL_law_3337 : decode cL_law 3337 = .ok (.iconst 2, 1) := by decide +kernel
theorem dL_law_3338 : decode cL_law 3338 = .ok (.iadd, 1) := by decide +kernel
theorem dL_law_3339 : decode cL_law 3339 = .ok (.iaload, 1) := by decide +kernel
theorem dL_law_3340 : decode cL_law 3340 = .ok (.aload_n 0, 1) := by decide +kernel
theorem dL_law_3341 : decode cL_law 3341 = .ok (.iload 5, 2) := by decide +kernel
theorem dL_law_3343 : decode cL_law 3343 = .ok (.iconst 3, 1) := by decide +kernel
theorem dL_law_3344 : decode cL_law 3344 = .ok (.iadd, 1) := by decide +kernel
theorem dL_law_3345 : decode cL_law 3345 = .ok (.iaload, 1) := by decide +kernel
theorem dL_law_3346 : decode cL_law 3346 = .ok (.aload_n 0, 1) := by decide +kernel
theorem dL_law_3347 : decode cL_law 3347 = .ok (.iload 5, 2) := by decide +kernel
theorem dL_law_3349 : decode cL_law 3349 = .ok (.iconst 4, 1) := by decide +kernel
theorem dL_law_3350 : decode cL_law 3350 = .ok (.iadd, 1) := by decide +kernel
theorem dL_law_3351 : decode cL_law 3351 = .ok (.iaload, 1) := by decide +kernel
theorem dL_law_3352 : decode cL_law 3352 = .ok (.aload_n 3, 1) := by decide +kernel
theorem dL_law_3353 : decode cL_law 3353 = .ok (.invokestatic 363, 3) := by decide +kernel
theorem dL_law_3356 : decode cL_law 3356 = .ok (.istore 6, 2) := by decide +kernel
theorem dL_law_3358 : decode cL_law 3358 = .ok (.aload_n 2, 1) := by decide +kernel
theorem dL_law_3359 : decode cL_law 3359 = .ok (.aload_n 0, 1) := by decide +kernel
theorem dL_law_3360 : decode cL_law 3360 = .ok (.iload 5, 2) := by decide +kernel
theorem dL_law_3362 : decode cL_law 3362 = .ok (.iconst 1, 1) := by decide +kernel
theorem dL_law_3363 : decode cL_law 3363 = .ok (.iadd, 1) := by decide +kernel
theorem dL_law_3364 : decode cL_law 3364 = .ok (.iaload, 1) := by decide +kernel
theorem dL_law_3365 : decode cL_law 3365 = .ok (.aload_n 0, 1) := by decide +kernel
theorem dL_law_3366 : decode cL_law 3366 = .ok (.iload 5, 2) := by decide +kernel
theorem dL_law_3368 : decode cL_law 3368 = .ok (.iconst 2, 1) := by decide +kernel
theorem dL_law_3369 : decode cL_law 3369 = .ok (.iadd, 1) := by decide +kernel
theorem dL_law_3370 : decode cL_law 3370 = .ok (.iaload, 1) := by decide +kernel
theorem dL_law_3371 : decode cL_law 3371 = .ok (.aload_n 0, 1) := by decide +kernel
theorem dL_law_3372 : decode cL_law 3372 = .ok (.iload 5, 2) := by decide +kernel
theorem dL_law_3374 : decode cL_law 3374 = .ok (.iconst 3, 1) := by decide +kernel
theorem dL_law_3375 : decode cL_law 3375 = .ok (.iadd, 1) := by decide +kernel
theorem dL_law_3376 : decode cL_law 3376 = .ok (.iaload, 1) := by decide +kernel
theorem dL_law_3377 : decode cL_law 3377 = .ok (.aload_n 0, 1) := by decide +kernel
theorem dL_law_3378 : decode cL_law 3378 = .ok (.iload 5, 2) := by decide +kernel
theorem dL_law_3380 : decode cL_law 3380 = .ok (.iconst 4, 1) := by decide +kernel
theorem dL_law_3381 : decode cL_law 3381 = .ok (.iadd, 1) := by decide +kernel
theorem dL_law_3382 : decode cL_law 3382 = .ok (.iaload, 1) := by decide +kernel
theorem dL_law_3383 : decode cL_law 3383 = .ok (.invokevirtual 365, 3) := by decide +kernel
theorem dL_law_3386 : decode cL_law 3386 = .ok (.istore 7, 2) := by decide +kernel
theorem dL_law_3388 : decode cL_law 3388 = .ok (.aload_n 2, 1) := by decide +kernel
theorem dL_law_3389 : decode cL_law 3389 = .ok (.invokevirtual 206, 3) := by decide +kernel
theorem dL_law_3392 : decode cL_law 3392 = .ok (.iload 6, 2) := by decide +kernel
theorem dL_law_3394 : decode cL_law 3394 = .ok (.if_icmp .eq 5, 3) := by decide +kernel
theorem dL_law_3397 : decode cL_law 3397 = .ok (.iconst 0, 1) := by decide +kernel
theorem dL_law_3398 : decode cL_law 3398 = .ok (.ireturn, 1) := by decide +kernel
theorem dL_law_3399 : decode cL_law 3399 = .ok (.iload 6, 2) := by decide +kernel
theorem dL_law_3401 : decode cL_law 3401 = .ok (.ifCond .ne 15, 3) := by decide +kernel
theorem dL_law_3404 : decode cL_law 3404 = .ok (.aload_n 3, 1) := by decide +kernel
theorem dL_law_3405 : decode cL_law 3405 = .ok (.iconst 0, 1) := by decide +kernel
theorem dL_law_3406 : decode cL_law 3406 = .ok (.laload, 1) := by decide +kernel
theorem dL_law_3407 : decode cL_law 3407 = .ok (.iload 7, 2) := by decide +kernel
theorem dL_law_3409 : decode cL_law 3409 = .ok (.i2l, 1) := by decide +kernel
theorem dL_law_3410 : decode cL_law 3410 = .ok (.lcmp, 1) := by decide +kernel
theorem dL_law_3411 : decode cL_law 3411 = .ok (.ifCond .eq 5, 3) := by decide +kernel
theorem dL_law_3414 : decode cL_law 3414 = .ok (.iconst 0, 1) := by decide +kernel
theorem dL_law_3415 : decode cL_law 3415 = .ok (.ireturn, 1) := by decide +kernel
theorem dL_law_3416 : decode cL_law 3416 = .ok (.goto 941, 3) := by decide +kernel
theorem dL_law_3419 : decode cL_law 3419 = .ok (.aload_n 1, 1) := by decide +kernel
theorem dL_law_3420 : decode cL_law 3420 = .ok (.aload_n 0, 1) := by decide +kernel
theorem dL_law_3421 : decode cL_law 3421 = .ok (.iload 5, 2) := by decide +kernel
theorem dL_law_3423 : decode cL_law 3423 = .ok (.iconst 1, 1) := by decide +kernel
theorem dL_law_3424 : decode cL_law 3424 = .ok (.iadd, 1) := by decide +kernel
theorem dL_law_3425 : decode cL_law 3425 = .ok (.iaload, 1) := by decide +kernel
theorem dL_law_3426 : decode cL_law 3426 = .ok (.aload_n 0, 1) := by decide +kernel
theorem dL_law_3427 : decode cL_law 3427 = .ok (.iload 5, 2) := by decide +kernel
theorem dL_law_3429 : decode cL_law 3429 = .ok (.iconst 2, 1) := by decide +kernel
theorem dL_law_3430 : decode cL_law 3430 = .ok (.iadd, 1) := by decide +kernel
theorem dL_law_3431 : decode cL_law 3431 = .ok (.iaload, 1) := by decide +kernel
theorem dL_law_3432 : decode cL_law 3432 = .ok (.aload_n 0, 1) := by decide +kernel
theorem dL_law_3433 : decode cL_law 3433 = .ok (.iload 5, 2) := by decide +kernel
theorem dL_law_3435 : decode cL_law 3435 = .ok (.iconst 3, 1) := by decide +kernel
theorem dL_law_3436 : decode cL_law 3436 = .ok (.iadd, 1) := by decide +kernel
theorem dL_law_3437 : decode cL_law 3437 = .ok (.iaload, 1) := by decide +kernel
theorem dL_law_3438 : decode cL_law 3438 = .ok (.aload_n 0, 1) := by decide +kernel
theorem dL_law_3439 : decode cL_law 3439 = .ok (.iload 5, 2) := by decide +kernel
theorem dL_law_3441 : decode cL_law 3441 = .ok (.iconst 4, 1) := by decide +kernel
theorem dL_law_3442 : decode cL_law 3442 = .ok (.iadd, 1) := by decide +kernel
theorem dL_law_3443 : decode cL_law 3443 = .ok (.iaload, 1) := by decide +kernel
theorem dL_law_3444 : decode cL_law 3444 = .ok (.aload_n 3, 1) := by decide +kernel
theorem dL_law_3445 : decode cL_law 3445 = .ok (.invokestatic 366, 3) := by decide +kernel
theorem dL_law_3448 : decode cL_law 3448 = .ok (.istore 6, 2) := by decide +kernel
theorem dL_law_3450 : decode cL_law 3450 = .ok (.aload_n 2, 1) := by decide +kernel
theorem dL_law_3451 : decode cL_law 3451 = .ok (.aload_n 0, 1) := by decide +kernel
theorem dL_law_3452 : decode cL_law 3452 = .ok (.iload 5, 2) := by decide +kernel
theorem dL_law_3454 : decode cL_law 3454 = .ok (.iconst 1, 1) := by decide +kernel
theorem dL_law_3455 : decode cL_law 3455 = .ok (.iadd, 1) := by decide +kernel
theorem dL_law_3456 : decode cL_law 3456 = .ok (.iaload, 1) := by decide +kernel
theorem dL_law_3457 : decode cL_law 3457 = .ok (.aload_n 0, 1) := by decide +kernel
theorem dL_law_3458 : decode cL_law 3458 = .ok (.iload 5, 2) := by decide +kernel
theorem dL_law_3460 : decode cL_law 3460 = .ok (.iconst 2, 1) := by decide +kernel
theorem dL_law_3461 : decode cL_law 3461 = .ok (.iadd, 1) := by decide +kernel
theorem dL_law_3462 : decode cL_law 3462 = .ok (.iaload, 1) := by decide +kernel
theorem dL_law_3463 : decode cL_law 3463 = .ok (.aload_n 0, 1) := by decide +kernel
theorem dL_law_3464 : decode cL_law 3464 = .ok (.iload 5, 2) := by decide +kernel
theorem dL_law_3466 : decode cL_law 3466 = .ok (.iconst 3, 1) := by decide +kernel
theorem dL_law_3467 : decode cL_law 3467 = .ok (.iadd, 1) := by decide +kernel
theorem dL_law_3468 : decode cL_law 3468 = .ok (.iaload, 1) := by decide +kernel
theorem dL_law_3469 : decode cL_law 3469 = .ok (.aload_n 0, 1) := by decide +kernel
theorem dL_law_3470 : decode cL_law 3470 = .ok (.iload 5, 2) := by decide +kernel
theorem dL_law_3472 : decode cL_law 3472 = .ok (.iconst 4, 1) := by decide +kernel
theorem dL_law_3473 : decode cL_law 3473 = .ok (.iadd, 1) := by decide +kernel
theorem dL_law_3474 : decode cL_law 3474 = .ok (.iaload, 1) := by decide +kernel
theorem dL_law_3475 : decode cL_law 3475 = .ok (.invokevirtual 368, 3) := by decide +kernel
theorem dL_law_3478 : decode cL_law 3478 = .ok (.istore 7, 2) := by decide +kernel
theorem dL_law_3480 : decode cL_law 3480 = .ok (.aload_n 2, 1) := by decide +kernel
theorem dL_law_3481 : decode cL_law 3481 = .ok (.invokevirtual 206, 3) := by decide +kernel
theorem dL_law_3484 : decode cL_law 3484 = .ok (.iload 6, 2) := by decide +kernel
theorem dL_law_3486 : decode cL_law 3486 = .ok (.if_icmp .eq 5, 3) := by decide +kernel
theorem dL_law_3489 : decode cL_law 3489 = .ok (.iconst 0, 1) := by decide +kernel
theorem dL_law_3490 : decode cL_law 3490 = .ok (.ireturn, 1) := by decide +kernel
theorem dL_law_3491 : decode cL_law 3491 = .ok (.iload 6, 2) := by decide +kernel
theorem dL_law_3493 : decode cL_law 3493 = .ok (.ifCond .ne 15, 3) := by decide +kernel
theorem dL_law_3496 : decode cL_law 3496 = .ok (.aload_n 3, 1) := by decide +kernel
theorem dL_law_3497 : decode cL_law 3497 = .ok (.iconst 0, 1) := by decide +kernel
theorem dL_law_3498 : decode cL_law 3498 = .ok (.laload, 1) := by decide +kernel
theorem dL_law_3499 : decode cL_law 3499 = .ok (.iload 7, 2) := by decide +kernel
theorem dL_law_3501 : decode cL_law 3501 = .ok (.i2l, 1) := by decide +kernel
theorem dL_law_3502 : decode cL_law 3502 = .ok (.lcmp, 1) := by decide +kernel
theorem dL_law_3503 : decode cL_law 3503 = .ok (.ifCond .eq 5, 3) := by decide +kernel
theorem dL_law_3506 : decode cL_law 3506 = .ok (.iconst 0, 1) := by decide +kernel
theorem dL_law_3507 : decode cL_law 3507 = .ok (.ireturn, 1) := by decide +kernel
theorem dL_law_3508 : decode cL_law 3508 = .ok (.goto 849, 3) := by decide +kernel
theorem dL_law_3511 : decode cL_law 3511 = .ok (.aload_n 1, 1) := by decide +kernel
theorem dL_law_3512 : decode cL_law 3512 = .ok (.aload_n 0, 1) := by decide +kernel
theorem dL_law_3513 : decode cL_law 3513 = .ok (.iload 5, 2) := by decide +kernel
theorem dL_law_3515 : decode cL_law 3515 = .ok (.iconst 1, 1) := by decide +kernel
theorem dL_law_3516 : decode cL_law 3516 = .ok (.iadd, 1) := by decide +kernel
theorem dL_law_3517 : decode cL_law 3517 = .ok (.iaload, 1) := by decide +kernel
theorem dL_law_3518 : decode cL_law 3518 = .ok (.aload_n 0, 1) := by decide +kernel
theorem dL_law_3519 : decode cL_law 3519 = .ok (.iload 5, 2) := by decide +kernel
theorem dL_law_3521 : decode cL_law 3521 = .ok (.iconst 2, 1) := by decide +kernel
theorem dL_law_3522 : decode cL_law 3522 = .ok (.iadd, 1) := by decide +kernel
theorem dL_law_3523 : decode cL_law 3523 = .ok (.iaload, 1) := by decide +kernel
theorem dL_law_3524 : decode cL_law 3524 = .ok (.aload_n 0, 1) := by decide +kernel
theorem dL_law_3525 : decode cL_law 3525 = .ok (.iload 5, 2) := by decide +kernel
theorem dL_law_3527 : decode cL_law 3527 = .ok (.iconst 3, 1) := by decide +kernel
theorem dL_law_3528 : decode cL_law 3528 = .ok (.iadd, 1) := by decide +kernel
theorem dL_law_3529 : decode cL_law 3529 = .ok (.iaload, 1) := by decide +kernel
theorem dL_law_3530 : decode cL_law 3530 = .ok (.aload_n 0, 1) := by decide +kernel
theorem dL_law_3531 : decode cL_law 3531 = .ok (.iload 5, 2) := by decide +kernel
theorem dL_law_3533 : decode cL_law 3533 = .ok (.iconst 4, 1) := by decide +kernel
theorem dL_law_3534 : decode cL_law 3534 = .ok (.iadd, 1) := by decide +kernel
theorem dL_law_3535 : decode cL_law 3535 = .ok (.iaload, 1) := by decide +kernel
theorem dL_law_3536 : decode cL_law 3536 = .ok (.aload_n 3, 1) := by decide +kernel
theorem dL_law_3537 : decode cL_law 3537 = .ok (.invokestatic 369, 3) := by decide +kernel
theorem dL_law_3540 : decode cL_law 3540 = .ok (.istore 6, 2) := by decide +kernel
theorem dL_law_3542 : decode cL_law 3542 = .ok (.aload_n 2, 1) := by decide +kernel
theorem dL_law_3543 : decode cL_law 3543 = .ok (.aload_n 0, 1) := by decide +kernel
theorem dL_law_3544 : decode cL_law 3544 = .ok (.iload 5, 2) := by decide +kernel
theorem dL_law_3546 : decode cL_law 3546 = .ok (.iconst 1, 1) := by decide +kernel
theorem dL_law_3547 : decode cL_law 3547 = .ok (.iadd, 1) := by decide +kernel
theorem dL_law_3548 : decode cL_law 3548 = .ok (.iaload, 1) := by decide +kernel
theorem dL_law_3549 : decode cL_law 3549 = .ok (.aload_n 0, 1) := by decide +kernel
theorem dL_law_3550 : decode cL_law 3550 = .ok (.iload 5, 2) := by decide +kernel
theorem dL_law_3552 : decode cL_law 3552 = .ok (.iconst 2, 1) := by decide +kernel
theorem dL_law_3553 : decode cL_law 3553 = .ok (.iadd, 1) := by decide +kernel
theorem dL_law_3554 : decode cL_law 3554 = .ok (.iaload, 1) := by decide +kernel
theorem dL_law_3555 : decode cL_law 3555 = .ok (.aload_n 0, 1) := by decide +kernel
theorem dL_law_3556 : decode cL_law 3556 = .ok (.iload 5, 2) := by decide +kernel
theorem dL_law_3558 : decode cL_law 3558 = .ok (.iconst 3, 1) := by decide +kernel
theorem dL_law_3559 : decode cL_law 3559 = .ok (.iadd, 1) := by decide +kernel
theorem dL_law_3560 : decode cL_law 3560 = .ok (.iaload, 1) := by decide +kernel
theorem dL_law_3561 : decode cL_law 3561 = .ok (.aload_n 0, 1) := by decide +kernel
theorem dL_law_3562 : decode cL_law 3562 = .ok (.iload 5, 2) := by decide +kernel
theorem dL_law_3564 : decode cL_law 3564 = .ok (.iconst 4, 1) := by decide +kernel
theorem dL_law_3565 : decode cL_law 3565 = .ok (.iadd, 1) := by decide +kernel
theorem dL_law_3566 : decode cL_law 3566 = .ok (.iaload, 1) := by decide +kernel
theorem dL_law_3567 : decode cL_law 3567 = .ok (.invokevirtual 371, 3) := by decide +kernel
theorem dL_law_3570 : decode cL_law 3570 = .ok (.lstore 7, 2) := by decide +kernel
theorem dL_law_3572 : decode cL_law 3572 = .ok (.aload_n 2, 1) := by decide +kernel
theorem dL_law_3573 : decode cL_law 3573 = .ok (.invokevirtual 206, 3) := by decide +kernel
theorem dL_law_3576 : decode cL_law 3576 = .ok (.iload 6, 2) := by decide +kernel
theorem dL_law_3578 : decode cL_law 3578 = .ok (.if_icmp .eq 5, 3) := by decide +kernel
theorem dL_law_3581 : decode cL_law 3581 = .ok (.iconst 0, 1) := by decide +kernel
theorem dL_law_3582 : decode cL_law 3582 = .ok (.ireturn, 1) := by decide +kernel
theorem dL_law_3583 : decode cL_law 3583 = .ok (.iload 6, 2) := by decide +kernel
theorem dL_law_3585 : decode cL_law 3585 = .ok (.ifCond .ne 14, 3) := by decide +kernel
theorem dL_law_3588 : decode cL_law 3588 = .ok (.aload_n 3, 1) := by decide +kernel
theorem dL_law_3589 : decode cL_law 3589 = .ok (.iconst 0, 1) := by decide +kernel
theorem dL_law_3590 : decode cL_law 3590 = .ok (.laload, 1) := by decide +kernel
theorem dL_law_3591 : decode cL_law 3591 = .ok (.lload 7, 2) := by decide +kernel
theorem dL_law_3593 : decode cL_law 3593 = .ok (.lcmp, 1) := by decide +kernel
theorem dL_law_3594 : decode cL_law 3594 = .ok (.ifCond .eq 5, 3) := by decide +kernel
theorem dL_law_3597 : decode cL_law 3597 = .ok (.iconst 0, 1) := by decide +kernel
theorem dL_law_3598 : decode cL_law 3598 = .ok (.ireturn, 1) := by decide +kernel
theorem dL_law_3599 : decode cL_law 3599 = .ok (.goto 758, 3) := by decide +kernel
theorem dL_law_3602 : decode cL_law 3602 = .ok (.aload_n 1, 1) := by decide +kernel
theorem dL_law_3603 : decode cL_law 3603 = .ok (.aload_n 0, 1) := by decide +kernel
theorem dL_law_3604 : decode cL_law 3604 = .ok (.iload 5, 2) := by decide +kernel
theorem dL_law_3606 : decode cL_law 3606 = .ok (.iconst 1, 1) := by decide +kernel
theorem dL_law_3607 : decode cL_law 3607 = .ok (.iadd, 1) := by decide +kernel
theorem dL_law_3608 : decode cL_law 3608 = .ok (.iaload, 1) := by decide +kernel
theorem dL_law_3609 : decode cL_law 3609 = .ok (.aload_n 0, 1) := by decide +kernel
theorem dL_law_3610 : decode cL_law 3610 = .ok (.iload 5, 2) := by decide +kernel
theorem dL_law_3612 : decode cL_law 3612 = .ok (.iconst 2, 1) := by decide +kernel
theorem dL_law_3613 : decode cL_law 3613 = .ok (.iadd, 1) := by decide +kernel
theorem dL_law_3614 : decode cL_law 3614 = .ok (.iaload, 1) := by decide +kernel
theorem dL_law_3615 : decode cL_law 3615 = .ok (.aload_n 0, 1) := by decide +kernel
theorem dL_law_3616 : decode cL_law 3616 = .ok (.iload 5, 2) := by decide +kernel
theorem dL_law_3618 : decode cL_law 3618 = .ok (.iconst 3, 1) := by decide +kernel
theorem dL_law_3619 : decode cL_law 3619 = .ok (.iadd, 1) := by decide +kernel
theorem dL_law_3620 : decode cL_law 3620 = .ok (.iaload, 1) := by decide +kernel
theorem dL_law_3621 : decode cL_law 3621 = .ok (.aload_n 3, 1) := by decide +kernel
theorem dL_law_3622 : decode cL_law 3622 = .ok (.invokestatic 372, 3) := by decide +kernel
theorem dL_law_3625 : decode cL_law 3625 = .ok (.istore 6, 2) := by decide +kernel
theorem dL_law_3627 : decode cL_law 3627 = .ok (.aload_n 2, 1) := by decide +kernel
theorem dL_law_3628 : decode cL_law 3628 = .ok (.aload_n 0, 1) := by decide +kernel
theorem dL_law_3629 : decode cL_law 3629 = .ok (.iload 5, 2) := by decide +kernel
theorem dL_law_3631 : decode cL_law 3631 = .ok (.iconst 1, 1) := by decide +kernel
theorem dL_law_3632 : decode cL_law 3632 = .ok (.iadd, 1) := by decide +kernel
theorem dL_law_3633 : decode cL_law 3633 = .ok (.iaload, 1) := by decide +kernel
theorem dL_law_3634 : decode cL_law 3634 = .ok (.aload_n 0, 1) := by decide +kernel
theorem dL_law_3635 : decode cL_law 3635 = .ok (.iload 5, 2) := by decide +kernel
theorem dL_law_3637 : decode cL_law 3637 = .ok (.iconst 2, 1) := by decide +kernel
theorem dL_law_3638 : decode cL_law 3638 = .ok (.iadd, 1) := by decide +kernel
theorem dL_law_3639 : decode cL_law 3639 = .ok (.iaload, 1) := by decide +kernel
theorem dL_law_3640 : decode cL_law 3640 = .ok (.aload_n 0, 1) := by decide +kernel
theorem dL_law_3641 : decode cL_law 3641 = .ok (.iload 5, 2) := by decide +kernel
theorem dL_law_3643 : decode cL_law 3643 = .ok (.iconst 3, 1) := by decide +kernel
theorem dL_law_3644 : decode cL_law 3644 = .ok (.iadd, 1) := by decide +kernel
theorem dL_law_3645 : decode cL_law 3645 = .ok (.iaload, 1) := by decide +kernel
theorem dL_law_3646 : decode cL_law 3646 = .ok (.invokevirtual 374, 3) := by decide +kernel
theorem dL_law_3649 : decode cL_law 3649 = .ok (.istore 7, 2) := by decide +kernel
theorem dL_law_3651 : decode cL_law 3651 = .ok (.aload_n 2, 1) := by decide +kernel
theorem dL_law_3652 : decode cL_law 3652 = .ok (.invokevirtual 206, 3) := by decide +kernel
theorem dL_law_3655 : decode cL_law 3655 = .ok (.iload 6, 2) := by decide +kernel
theorem dL_law_3657 : decode cL_law 3657 = .ok (.if_icmp .eq 5, 3) := by decide +kernel
theorem dL_law_3660 : decode cL_law 3660 = .ok (.iconst 0, 1) := by decide +kernel
theorem dL_law_3661 : decode cL_law 3661 = .ok (.ireturn, 1) := by decide +kernel
theorem dL_law_3662 : decode cL_law 3662 = .ok (.iload 6, 2) := by decide +kernel
theorem dL_law_3664 : decode cL_law 3664 = .ok (.ifCond .ne 15, 3) := by decide +kernel
theorem dL_law_3667 : decode cL_law 3667 = .ok (.aload_n 3, 1) := by decide +kernel
theorem dL_law_3668 : decode cL_law 3668 = .ok (.iconst 0, 1) := by decide +kernel
theorem dL_law_3669 : decode cL_law 3669 = .ok (.laload, 1) := by decide +kernel
theorem dL_law_3670 : decode cL_law 3670 = .ok (.iload 7, 2) := by decide +kernel
theorem dL_law_3672 : decode cL_law 3672 = .ok (.i2l, 1) := by decide +kernel
theorem dL_law_3673 : decode cL_law 3673 = .ok (.lcmp, 1) := by decide +kernel
theorem dL_law_3674 : decode cL_law 3674 = .ok (.ifCond .eq 5, 3) := by decide +kernel
theorem dL_law_3677 : decode cL_law 3677 = .ok (.iconst 0, 1) := by decide +kernel
theorem dL_law_3678 : decode cL_law 3678 = .ok (.ireturn, 1) := by decide +kernel
theorem dL_law_3679 : decode cL_law 3679 = .ok (.goto 678, 3) := by decide +kernel
theorem dL_law_3682 : decode cL_law 3682 = .ok (.aload_n 1, 1) := by decide +kernel
theorem dL_law_3683 : decode cL_law 3683 = .ok (.aload_n 0, 1) := by decide +kernel
theorem dL_law_3684 : decode cL_law 3684 = .ok (.iload 5, 2) := by decide +kernel
theorem dL_law_3686 : decode cL_law 3686 = .ok (.iconst 1, 1) := by decide +kernel
theorem dL_law_3687 : decode cL_law 3687 = .ok (.iadd, 1) := by decide +kernel
theorem dL_law_3688 : decode cL_law 3688 = .ok (.iaload, 1) := by decide +kernel
theorem dL_law_3689 : decode cL_law 3689 = .ok (.aload_n 3, 1) := by decide +kernel
theorem dL_law_3690 : decode cL_law 3690 = .ok (.invokestatic 375, 3) := by decide +kernel
theorem dL_law_3693 : decode cL_law 3693 = .ok (.istore 6, 2) := by decide +kernel
theorem dL_law_3695 : decode cL_law 3695 = .ok (.aload_n 2, 1) := by decide +kernel
theorem dL_law_3696 : decode cL_law 3696 = .ok (.aload_n 0, 1) := by decide +kernel
theorem dL_law_3697 : decode cL_law 3697 = .ok (.iload 5, 2) := by decide +kernel
theorem dL_law_3699 : decode cL_law 3699 = .ok (.iconst 1, 1) := by decide +kernel
theorem dL_law_3700 : decode cL_law 3700 = .ok (.iadd, 1) := by decide +kernel
theorem dL_law_3701 : decode cL_law 3701 = .ok (.iaload, 1) := by decide +kernel
theorem dL_law_3702 : decode cL_law 3702 = .ok (.invokevirtual 377, 3) := by decide +kernel
theorem dL_law_3705 : decode cL_law 3705 = .ok (.istore 7, 2) := by decide +kernel
theorem dL_law_3707 : decode cL_law 3707 = .ok (.aload_n 2, 1) := by decide +kernel
theorem dL_law_3708 : decode cL_law 3708 = .ok (.invokevirtual 206, 3) := by decide +kernel
theorem dL_law_3711 : decode cL_law 3711 = .ok (.iload 6, 2) := by decide +kernel
theorem dL_law_3713 : decode cL_law 3713 = .ok (.if_icmp .eq 5, 3) := by decide +kernel
theorem dL_law_3716 : decode cL_law 3716 = .ok (.iconst 0, 1) := by decide +kernel
theorem dL_law_3717 : decode cL_law 3717 = .ok (.ireturn, 1) := by decide +kernel
theorem dL_law_3718 : decode cL_law 3718 = .ok (.iload 6, 2) := by decide +kernel
theorem dL_law_3720 : decode cL_law 3720 = .ok (.ifCond .ne 15, 3) := by decide +kernel
theorem dL_law_3723 : decode cL_law 3723 = .ok (.aload_n 3, 1) := by decide +kernel
theorem dL_law_3724 : decode cL_law 3724 = .ok (.iconst 0, 1) := by decide +kernel
theorem dL_law_3725 : decode cL_law 3725 = .ok (.laload, 1) := by decide +kernel
theorem dL_law_3726 : decode cL_law 3726 = .ok (.iload 7, 2) := by decide +kernel
theorem dL_law_3728 : decode cL_law 3728 = .ok (.i2l, 1) := by decide +kernel
theorem dL_law_3729 : decode cL_law 3729 = .ok (.lcmp, 1) := by decide +kernel
theorem dL_law_3730 : decode cL_law 3730 = .ok (.ifCond .eq 5, 3) := by decide +kernel
theorem dL_law_3733 : decode cL_law 3733 = .ok (.iconst 0, 1) := by decide +kernel
theorem dL_law_3734 : decode cL_law 3734 = .ok (.ireturn, 1) := by decide +kernel
theorem dL_law_3735 : decode cL_law 3735 = .ok (.goto 622, 3) := by decide +kernel
theorem dL_law_3738 : decode cL_law 3738 = .ok (.aload_n 1, 1) := by decide +kernel
theorem dL_law_3739 : decode cL_law 3739 = .ok (.aload_n 0, 1) := by decide +kernel
theorem dL_law_3740 : decode cL_law 3740 = .ok (.iload 5, 2) := by decide +kernel
theorem dL_law_3742 : decode cL_law 3742 = .ok (.iconst 1, 1) := by decide +kernel
theorem dL_law_3743 : decode cL_law 3743 = .ok (.iadd, 1) := by decide +kernel
theorem dL_law_3744 : decode cL_law 3744 = .ok (.iaload, 1) := by decide +kernel
theorem dL_law_3745 : decode cL_law 3745 = .ok (.aload_n 0, 1) := by decide +kernel
theorem dL_law_3746 : decode cL_law 3746 = .ok (.iload 5, 2) := by decide +kernel
theorem dL_law_3748 : decode cL_law 3748 = .ok (.iconst 2, 1) := by decide +kernel
theorem dL_law_3749 : decode cL_law 3749 = .ok (.iadd, 1) := by decide +kernel
theorem dL_law_3750 : decode cL_law 3750 = .ok (.iaload, 1) := by decide +kernel
theorem dL_law_3751 : decode cL_law 3751 = .ok (.ifCond .eq 7, 3) := by decide +kernel
theorem dL_law_3754 : decode cL_law 3754 = .ok (.iconst 1, 1) := by decide +kernel
theorem dL_law_3755 : decode cL_law 3755 = .ok (.goto 4, 3) := by decide +kernel
theorem dL_law_3758 : decode cL_law 3758 = .ok (.iconst 0, 1) := by decide +kernel
theorem dL_law_3759 : decode cL_law 3759 = .ok (.aload_n 3, 1) := by decide +kernel
theorem dL_law_3760 : decode cL_law 3760 = .ok (.invokestatic 378, 3) := by decide +kernel
theorem dL_law_3763 : decode cL_law 3763 = .ok (.istore 6, 2) := by decide +kernel
theorem dL_law_3765 : decode cL_law 3765 = .ok (.aload_n 2, 1) := by decide +kernel
theorem dL_law_3766 : decode cL_law 3766 = .ok (.aload_n 0, 1) := by decide +kernel
theorem dL_law_3767 : decode cL_law 3767 = .ok (.iload 5, 2) := by decide +kernel
theorem dL_law_3769 : decode cL_law 3769 = .ok (.iconst 1, 1) := by decide +kernel
theorem dL_law_3770 : decode cL_law 3770 = .ok (.iadd, 1) := by decide +kernel
theorem dL_law_3771 : decode cL_law 3771 = .ok (.iaload, 1) := by decide +kernel
theorem dL_law_3772 : decode cL_law 3772 = .ok (.aload_n 0, 1) := by decide +kernel
theorem dL_law_3773 : decode cL_law 3773 = .ok (.iload 5, 2) := by decide +kernel
theorem dL_law_3775 : decode cL_law 3775 = .ok (.iconst 2, 1) := by decide +kernel
theorem dL_law_3776 : decode cL_law 3776 = .ok (.iadd, 1) := by decide +kernel
theorem dL_law_3777 : decode cL_law 3777 = .ok (.iaload, 1) := by decide +kernel
theorem dL_law_3778 : decode cL_law 3778 = .ok (.ifCond .eq 7, 3) := by decide +kernel
theorem dL_law_3781 : decode cL_law 3781 = .ok (.iconst 1, 1) := by decide +kernel
theorem dL_law_3782 : decode cL_law 3782 = .ok (.goto 4, 3) := by decide +kernel
theorem dL_law_3785 : decode cL_law 3785 = .ok (.iconst 0, 1) := by decide +kernel
theorem dL_law_3786 : decode cL_law 3786 = .ok (.invokevirtual 381, 3) := by decide +kernel
theorem dL_law_3789 : decode cL_law 3789 = .ok (.istore 7, 2) := by decide +kernel
theorem dL_law_3791 : decode cL_law 3791 = .ok (.aload_n 2, 1) := by decide +kernel
theorem dL_law_3792 : decode cL_law 3792 = .ok (.invokevirtual 206, 3) := by decide +kernel
theorem dL_law_3795 : decode cL_law 3795 = .ok (.iload 6, 2) := by decide +kernel
theorem dL_law_3797 : decode cL_law 3797 = .ok (.if_icmp .eq 5, 3) := by decide +kernel
theorem dL_law_3800 : decode cL_law 3800 = .ok (.iconst 0, 1) := by decide +kernel
theorem dL_law_3801 : decode cL_law 3801 = .ok (.ireturn, 1) := by decide +kernel
theorem dL_law_3802 : decode cL_law 3802 = .ok (.iload 6, 2) := by decide +kernel
theorem dL_law_3804 : decode cL_law 3804 = .ok (.ifCond .ne 22, 3) := by decide +kernel
theorem dL_law_3807 : decode cL_law 3807 = .ok (.aload_n 3, 1) := by decide +kernel
theorem dL_law_3808 : decode cL_law 3808 = .ok (.iconst 0, 1) := by decide +kernel
theorem dL_law_3809 : decode cL_law 3809 = .ok (.laload, 1) := by decide +kernel
theorem dL_law_3810 : decode cL_law 3810 = .ok (.iload 7, 2) := by decide +kernel
theorem dL_law_3812 : decode cL_law 3812 = .ok (.ifCond .eq 7, 3) := by decide +kernel
theorem dL_law_3815 : decode cL_law 3815 = .ok (.lconst 1, 1) := by decide +kernel
theorem dL_law_3816 : decode cL_law 3816 = .ok (.goto 4, 3) := by decide +kernel
theorem dL_law_3819 : decode cL_law 3819 = .ok (.lconst 0, 1) := by decide +kernel
theorem dL_law_3820 : decode cL_law 3820 = .ok (.lcmp, 1) := by decide +kernel
theorem dL_law_3821 : decode cL_law 3821 = .ok (.ifCond .eq 5, 3) := by decide +kernel
theorem dL_law_3824 : decode cL_law 3824 = .ok (.iconst 0, 1) := by decide +kernel
theorem dL_law_3825 : decode cL_law 3825 = .ok (.ireturn, 1) := by decide +kernel
theorem dL_law_3826 : decode cL_law 3826 = .ok (.goto 531, 3) := by decide +kernel
theorem dL_law_3829 : decode cL_law 3829 = .ok (.aload_n 1, 1) := by decide +kernel
theorem dL_law_3830 : decode cL_law 3830 = .ok (.aload_n 0, 1) := by decide +kernel
theorem dL_law_3831 : decode cL_law 3831 = .ok (.iload 5, 2) := by decide +kernel
theorem dL_law_3833 : decode cL_law 3833 = .ok (.iconst 1, 1) := by decide +kernel
theorem dL_law_3834 : decode cL_law 3834 = .ok (.iadd, 1) := by decide +kernel
theorem dL_law_3835 : decode cL_law 3835 = .ok (.iaload, 1) := by decide +kernel
theorem dL_law_3836 : decode cL_law 3836 = .ok (.aload_n 0, 1) := by decide +kernel
theorem dL_law_3837 : decode cL_law 3837 = .ok (.iload 5, 2) := by decide +kernel
theorem dL_law_3839 : decode cL_law 3839 = .ok (.iconst 2, 1) := by decide +kernel
theorem dL_law_3840 : decode cL_law 3840 = .ok (.iadd, 1) := by decide +kernel
theorem dL_law_3841 : decode cL_law 3841 = .ok (.iaload, 1) := by decide +kernel
theorem dL_law_3842 : decode cL_law 3842 = .ok (.aload_n 3, 1) := by decide +kernel
theorem dL_law_3843 : decode cL_law 3843 = .ok (.invokestatic 382, 3) := by decide +kernel
theorem dL_law_3846 : decode cL_law 3846 = .ok (.istore 6, 2) := by decide +kernel
theorem dL_law_3848 : decode cL_law 3848 = .ok (.aload_n 2, 1) := by decide +kernel
theorem dL_law_3849 : decode cL_law 3849 = .ok (.aload_n 0, 1) := by decide +kernel
theorem dL_law_3850 : decode cL_law 3850 = .ok (.iload 5, 2) := by decide +kernel
theorem dL_law_3852 : decode cL_law 3852 = .ok (.iconst 1, 1) := by decide +kernel
theorem dL_law_3853 : decode cL_law 3853 = .ok (.iadd, 1) := by decide +kernel
theorem dL_law_3854 : decode cL_law 3854 = .ok (.iaload, 1) := by decide +kernel
theorem dL_law_3855 : decode cL_law 3855 = .ok (.aload_n 0, 1) := by decide +kernel
theorem dL_law_3856 : decode cL_law 3856 = .ok (.iload 5, 2) := by decide +kernel
theorem dL_law_3858 : decode cL_law 3858 = .ok (.iconst 2, 1) := by decide +kernel
theorem dL_law_3859 : decode cL_law 3859 = .ok (.iadd, 1) := by decide +kernel
theorem dL_law_3860 : decode cL_law 3860 = .ok (.iaload, 1) := by decide +kernel
theorem dL_law_3861 : decode cL_law 3861 = .ok (.invokevirtual 384, 3) := by decide +kernel
theorem dL_law_3864 : decode cL_law 3864 = .ok (.istore 7, 2) := by decide +kernel
theorem dL_law_3866 : decode cL_law 3866 = .ok (.aload_n 2, 1) := by decide +kernel
theorem dL_law_3867 : decode cL_law 3867 = .ok (.invokevirtual 206, 3) := by decide +kernel
theorem dL_law_3870 : decode cL_law 3870 = .ok (.iload 6, 2) := by decide +kernel
theorem dL_law_3872 : decode cL_law 3872 = .ok (.if_icmp .eq 5, 3) := by decide +kernel
theorem dL_law_3875 : decode cL_law 3875 = .ok (.iconst 0, 1) := by decide +kernel
theorem dL_law_3876 : decode cL_law 3876 = .ok (.ireturn, 1) := by decide +kernel
theorem dL_law_3877 : decode cL_law 3877 = .ok (.iload 6, 2) := by decide +kernel
theorem dL_law_3879 : decode cL_law 3879 = .ok (.ifCond .ne 15, 3) := by decide +kernel
theorem dL_law_3882 : decode cL_law 3882 = .ok (.aload_n 3, 1) := by decide +kernel
theorem dL_law_3883 : decode cL_law 3883 = .ok (.iconst 0, 1) := by decide +kernel
theorem dL_law_3884 : decode cL_law 3884 = .ok (.laload, 1) := by decide +kernel
theorem dL_law_3885 : decode cL_law 3885 = .ok (.iload 7, 2) := by decide +kernel
theorem dL_law_3887 : decode cL_law 3887 = .ok (.i2l, 1) := by decide +kernel
theorem dL_law_3888 : decode cL_law 3888 = .ok (.lcmp, 1) := by decide +kernel
theorem dL_law_3889 : decode cL_law 3889 = .ok (.ifCond .eq 5, 3) := by decide +kernel
theorem dL_law_3892 : decode cL_law 3892 = .ok (.iconst 0, 1) := by decide +kernel
theorem dL_law_3893 : decode cL_law 3893 = .ok (.ireturn, 1) := by decide +kernel
theorem dL_law_3894 : decode cL_law 3894 = .ok (.goto 463, 3) := by decide +kernel
theorem dL_law_3897 : decode cL_law 3897 = .ok (.aload_n 1, 1) := by decide +kernel
theorem dL_law_3898 : decode cL_law 3898 = .ok (.aload_n 0, 1) := by decide +kernel
theorem dL_law_3899 : decode cL_law 3899 = .ok (.iload 5, 2) := by decide +kernel
theorem dL_law_3901 : decode cL_law 3901 = .ok (.iconst 1, 1) := by decide +kernel
theorem dL_law_3902 : decode cL_law 3902 = .ok (.iadd, 1) := by decide +kernel
theorem dL_law_3903 : decode cL_law 3903 = .ok (.iaload, 1) := by decide +kernel
theorem dL_law_3904 : decode cL_law 3904 = .ok (.aload_n 0, 1) := by decide +kernel
theorem dL_law_3905 : decode cL_law 3905 = .ok (.iload 5, 2) := by decide +kernel
theorem dL_law_3907 : decode cL_law 3907 = .ok (.iconst 2, 1) := by decide +kernel
theorem dL_law_3908 : decode cL_law 3908 = .ok (.iadd, 1) := by decide +kernel
theorem dL_law_3909 : decode cL_law 3909 = .ok (.iaload, 1) := by decide +kernel
theorem dL_law_3910 : decode cL_law 3910 = .ok (.aload_n 3, 1) := by decide +kernel
theorem dL_law_3911 : decode cL_law 3911 = .ok (.invokestatic 385, 3) := by decide +kernel
theorem dL_law_3914 : decode cL_law 3914 = .ok (.istore 6, 2) := by decide +kernel
theorem dL_law_3916 : decode cL_law 3916 = .ok (.aload_n 2, 1) := by decide +kernel
theorem dL_law_3917 : decode cL_law 3917 = .ok (.aload_n 0, 1) := by decide +kernel
theorem dL_law_3918 : decode cL_law 3918 = .ok (.iload 5, 2) := by decide +kernel
theorem dL_law_3920 : decode cL_law 3920 = .ok (.iconst 1, 1) := by decide +kernel
theorem dL_law_3921 : decode cL_law 3921 = .ok (.iadd, 1) := by decide +kernel
theorem dL_law_3922 : decode cL_law 3922 = .ok (.iaload, 1) := by decide +kernel
theorem dL_law_3923 : decode cL_law 3923 = .ok (.aload_n 0, 1) := by decide +kernel
theorem dL_law_3924 : decode cL_law 3924 = .ok (.iload 5, 2) := by decide +kernel
theorem dL_law_3926 : decode cL_law 3926 = .ok (.iconst 2, 1) := by decide +kernel
theorem dL_law_3927 : decode cL_law 3927 = .ok (.iadd, 1) := by decide +kernel
theorem dL_law_3928 : decode cL_law 3928 = .ok (.iaload, 1) := by decide +kernel
theorem dL_law_3929 : decode cL_law 3929 = .ok (.invokevirtual 387, 3) := by decide +kernel
theorem dL_law_3932 : decode cL_law 3932 = .ok (.istore 7, 2) := by decide +kernel
theorem dL_law_3934 : decode cL_law 3934 = .ok (.aload_n 2, 1) := by decide +kernel
theorem dL_law_3935 : decode cL_law 3935 = .ok (.invokevirtual 206, 3) := by decide +kernel
theorem dL_law_3938 : decode cL_law 3938 = .ok (.iload 6, 2) := by decide +kernel
theorem dL_law_3940 : decode cL_law 3940 = .ok (.if_icmp .eq 5, 3) := by decide +kernel
theorem dL_law_3943 : decode cL_law 3943 = .ok (.iconst 0, 1) := by decide +kernel
theorem dL_law_3944 : decode cL_law 3944 = .ok (.ireturn, 1) := by decide +kernel
theorem dL_law_3945 : decode cL_law 3945 = .ok (.iload 6, 2) := by decide +kernel
theorem dL_law_3947 : decode cL_law 3947 = .ok (.ifCond .ne 15, 3) := by decide +kernel
theorem dL_law_3950 : decode cL_law 3950 = .ok (.aload_n 3, 1) := by decide +kernel
theorem dL_law_3951 : decode cL_law 3951 = .ok (.iconst 0, 1) := by decide +kernel
theorem dL_law_3952 : decode cL_law 3952 = .ok (.laload, 1) := by decide +kernel
theorem dL_law_3953 : decode cL_law 3953 = .ok (.iload 7, 2) := by decide +kernel
theorem dL_law_3955 : decode cL_law 3955 = .ok (.i2l, 1) := by decide +kernel
theorem dL_law_3956 : decode cL_law 3956 = .ok (.lcmp, 1) := by decide +kernel
theorem dL_law_3957 : decode cL_law 3957 = .ok (.ifCond .eq 5, 3) := by decide +kernel
theorem dL_law_3960 : decode cL_law 3960 = .ok (.iconst 0, 1) := by decide +kernel
theorem dL_law_3961 : decode cL_law 3961 = .ok (.ireturn, 1) := by decide +kernel
theorem dL_law_3962 : decode cL_law 3962 = .ok (.goto 395, 3) := by decide +kernel
theorem dL_law_3965 : decode cL_law 3965 = .ok (.aload_n 1, 1) := by decide +kernel
theorem dL_law_3966 : decode cL_law 3966 = .ok (.aload_n 0, 1) := by decide +kernel
theorem dL_law_3967 : decode cL_law 3967 = .ok (.iload 5, 2) := by decide +kernel
theorem dL_law_3969 : decode cL_law 3969 = .ok (.iconst 1, 1) := by decide +kernel
theorem dL_law_3970 : decode cL_law 3970 = .ok (.iadd, 1) := by decide +kernel
theorem dL_law_3971 : decode cL_law 3971 = .ok (.iaload, 1) := by decide +kernel
theorem dL_law_3972 : decode cL_law 3972 = .ok (.aload_n 0, 1) := by decide +kernel
theorem dL_law_3973 : decode cL_law 3973 = .ok (.iload 5, 2) := by decide +kernel
theorem dL_law_3975 : decode cL_law 3975 = .ok (.iconst 2, 1) := by decide +kernel
theorem dL_law_3976 : decode cL_law 3976 = .ok (.iadd, 1) := by decide +kernel
theorem dL_law_3977 : decode cL_law 3977 = .ok (.iaload, 1) := by decide +kernel
theorem dL_law_3978 : decode cL_law 3978 = .ok (.aload_n 0, 1) := by decide +kernel
theorem dL_law_3979 : decode cL_law 3979 = .ok (.iload 5, 2) := by decide +kernel
theorem dL_law_3981 : decode cL_law 3981 = .ok (.iconst 3, 1) := by decide +kernel
theorem dL_law_3982 : decode cL_law 3982 = .ok (.iadd, 1) := by decide +kernel
theorem dL_law_3983 : decode cL_law 3983 = .ok (.iaload, 1) := by decide +kernel
theorem dL_law_3984 : decode cL_law 3984 = .ok (.aload_n 3, 1) := by decide +kernel
theorem dL_law_3985 : decode cL_law 3985 = .ok (.invokestatic 388, 3) := by decide +kernel
theorem dL_law_3988 : decode cL_law 3988 = .ok (.istore 6, 2) := by decide +kernel
theorem dL_law_3990 : decode cL_law 3990 = .ok (.aload_n 2, 1) := by decide +kernel
theorem dL_law_3991 : decode cL_law 3991 = .ok (.aload_n 0, 1) := by decide +kernel
theorem dL_law_3992 : decode cL_law 3992 = .ok (.iload 5, 2) := by decide +kernel
theorem dL_law_3994 : decode cL_law 3994 = .ok (.iconst 1, 1) := by decide +kernel
theorem dL_law_3995 : decode cL_law 3995 = .ok (.iadd, 1) := by decide +kernel
theorem dL_law_3996 : decode cL_law 3996 = .ok (.iaload, 1) := by decide +kernel
theorem dL_law_3997 : decode cL_law 3997 = .ok (.aload_n 0, 1) := by decide +kernel
theorem dL_law_3998 : decode cL_law 3998 = .ok (.iload 5, 2) := by decide +kernel
theorem dL_law_4000 : decode cL_law 4000 = .ok (.iconst 2, 1) := by decide +kernel
theorem dL_law_4001 : decode cL_law 4001 = .ok (.iadd, 1) := by decide +kernel
theorem dL_law_4002 : decode cL_law 4002 = .ok (.iaload, 1) := by decide +kernel
theorem dL_law_4003 : decode cL_law 4003 = .ok (.aload_n 0, 1) := by decide +kernel
theorem dL_law_4004 : decode cL_law 4004 = .ok (.iload 5, 2) := by decide +kernel
theorem dL_law_4006 : decode cL_law 4006 = .ok (.iconst 3, 1) := by decide +kernel
theorem dL_law_4007 : decode cL_law 4007 = .ok (.iadd, 1) := by decide +kernel
theorem dL_law_4008 : decode cL_law 4008 = .ok (.iaload, 1) := by decide +kernel
theorem dL_law_4009 : decode cL_law 4009 = .ok (.invokevirtual 390, 3) := by decide +kernel
theorem dL_law_4012 : decode cL_law 4012 = .ok (.istore 7, 2) := by decide +kernel
theorem dL_law_4014 : decode cL_law 4014 = .ok (.aload_n 2, 1) := by decide +kernel
theorem dL_law_4015 : decode cL_law 4015 = .ok (.invokevirtual 206, 3) := by decide +kernel
theorem dL_law_4018 : decode cL_law 4018 = .ok (.iload 6, 2) := by decide +kernel
theorem dL_law_4020 : decode cL_law 4020 = .ok (.if_icmp .eq 5, 3) := by decide +kernel
theorem dL_law_4023 : decode cL_law 4023 = .ok (.iconst 0, 1) := by decide +kernel
theorem dL_law_4024 : decode cL_law 4024 = .ok (.ireturn, 1) := by decide +kernel
theorem dL_law_4025 : decode cL_law 4025 = .ok (.iload 6, 2) := by decide +kernel
theorem dL_law_4027 : decode cL_law 4027 = .ok (.ifCond .ne 15, 3) := by decide +kernel
theorem dL_law_4030 : decode cL_law 4030 = .ok (.aload_n 3, 1) := by decide +kernel
theorem dL_law_4031 : decode cL_law 4031 = .ok (.iconst 0, 1) := by decide +kernel
theorem dL_law_4032 : decode cL_law 4032 = .ok (.laload, 1) := by decide +kernel
theorem dL_law_4033 : decode cL_law 4033 = .ok (.iload 7, 2) := by decide +kernel
theorem dL_law_4035 : decode cL_law 4035 = .ok (.i2l, 1) := by decide +kernel
theorem dL_law_4036 : decode cL_law 4036 = .ok (.lcmp, 1) := by decide +kernel
theorem dL_law_4037 : decode cL_law 4037 = .ok (.ifCond .eq 5, 3) := by decide +kernel
theorem dL_law_4040 : decode cL_law 4040 = .ok (.iconst 0, 1) := by decide +kernel
theorem dL_law_4041 : decode cL_law 4041 = .ok (.ireturn, 1) := by decide +kernel
theorem dL_law_4042 : decode cL_law 4042 = .ok (.goto 315, 3) := by decide +kernel
theorem dL_law_4045 : decode cL_law 4045 = .ok (.aload_n 1, 1) := by decide +kernel
theorem dL_law_4046 : decode cL_law 4046 = .ok (.aload_n 0, 1) := by decide +kernel
theorem dL_law_4047 : decode cL_law 4047 = .ok (.iload 5, 2) := by decide +kernel
theorem dL_law_4049 : decode cL_law 4049 = .ok (.iconst 1, 1) := by decide +kernel
theorem dL_law_4050 : decode cL_law 4050 = .ok (.iadd, 1) := by decide +kernel
theorem dL_law_4051 : decode cL_law 4051 = .ok (.iaload, 1) := by decide +kernel
theorem dL_law_4052 : decode cL_law 4052 = .ok (.aload_n 0, 1) := by decide +kernel
theorem dL_law_4053 : decode cL_law 4053 = .ok (.iload 5, 2) := by decide +kernel
theorem dL_law_4055 : decode cL_law 4055 = .ok (.iconst 2, 1) := by decide +kernel
theorem dL_law_4056 : decode cL_law 4056 = .ok (.iadd, 1) := by decide +kernel
theorem dL_law_4057 : decode cL_law 4057 = .ok (.iaload, 1) := by decide +kernel
theorem dL_law_4058 : decode cL_law 4058 = .ok (.aload_n 0, 1) := by decide +kernel
theorem dL_law_4059 : decode cL_law 4059 = .ok (.iload 5, 2) := by decide +kernel
theorem dL_law_4061 : decode cL_law 4061 = .ok (.iconst 3, 1) := by decide +kernel
theorem dL_law_4062 : decode cL_law 4062 = .ok (.iadd, 1) := by decide +kernel
theorem dL_law_4063 : decode cL_law 4063 = .ok (.iaload, 1) := by decide +kernel
theorem dL_law_4064 : decode cL_law 4064 = .ok (.aload_n 3, 1) := by decide +kernel
theorem dL_law_4065 : decode cL_law 4065 = .ok (.invokestatic 391, 3) := by decide +kernel
theorem dL_law_4068 : decode cL_law 4068 = .ok (.istore 6, 2) := by decide +kernel
theorem dL_law_4070 : decode cL_law 4070 = .ok (.aload_n 2, 1) := by decide +kernel
theorem dL_law_4071 : decode cL_law 4071 = .ok (.aload_n 0, 1) := by decide +kernel
theorem dL_law_4072 : decode cL_law 4072 = .ok (.iload 5, 2) := by decide +kernel
theorem dL_law_4074 : decode cL_law 4074 = .ok (.iconst 1, 1) := by decide +kernel
theorem dL_law_4075 : decode cL_law 4075 = .ok (.iadd, 1) := by decide +kernel
theorem dL_law_4076 : decode cL_law 4076 = .ok (.iaload, 1) := by decide +kernel
theorem dL_law_4077 : decode cL_law 4077 = .ok (.aload_n 0, 1) := by decide +kernel
theorem dL_law_4078 : decode cL_law 4078 = .ok (.iload 5, 2) := by decide +kernel
theorem dL_law_4080 : decode cL_law 4080 = .ok (.iconst 2, 1) := by decide +kernel
theorem dL_law_4081 : decode cL_law 4081 = .ok (.iadd, 1) := by decide +kernel
theorem dL_law_4082 : decode cL_law 4082 = .ok (.iaload, 1) := by decide +kernel
theorem dL_law_4083 : decode cL_law 4083 = .ok (.aload_n 0, 1) := by decide +kernel
theorem dL_law_4084 : decode cL_law 4084 = .ok (.iload 5, 2) := by decide +kernel
theorem dL_law_4086 : decode cL_law 4086 = .ok (.iconst 3, 1) := by decide +kernel
theorem dL_law_4087 : decode cL_law 4087 = .ok (.iadd, 1) := by decide +kernel
theorem dL_law_4088 : decode cL_law 4088 = .ok (.iaload, 1) := by decide +kernel
theorem dL_law_4089 : decode cL_law 4089 = .ok (.invokevirtual 393, 3) := by decide +kernel
theorem dL_law_4092 : decode cL_law 4092 = .ok (.istore 7, 2) := by decide +kernel
theorem dL_law_4094 : decode cL_law 4094 = .ok (.aload_n 2, 1) := by decide +kernel
theorem dL_law_4095 : decode cL_law 4095 = .ok (.invokevirtual 206, 3) := by decide +kernel
theorem dL_law_4098 : decode cL_law 4098 = .ok (.iload 6, 2) := by decide +kernel
theorem dL_law_4100 : decode cL_law 4100 = .ok (.if_icmp .eq 5, 3) := by decide +kernel
theorem dL_law_4103 : decode cL_law 4103 = .ok (.iconst 0, 1) := by decide +kernel
theorem dL_law_4104 : decode cL_law 4104 = .ok (.ireturn, 1) := by decide +kernel
theorem dL_law_4105 : decode cL_law 4105 = .ok (.iload 6, 2) := by decide +kernel
theorem dL_law_4107 : decode cL_law 4107 = .ok (.ifCond .ne 15, 3) := by decide +kernel
theorem dL_law_4110 : decode cL_law 4110 = .ok (.aload_n 3, 1) := by decide +kernel
theorem dL_law_4111 : decode cL_law 4111 = .ok (.iconst 0, 1) := by decide +kernel
theorem dL_law_4112 : decode cL_law 4112 = .ok (.laload, 1) := by decide +kernel
theorem dL_law_4113 : decode cL_law 4113 = .ok (.iload 7, 2) := by decide +kernel
theorem dL_law_4115 : decode cL_law 4115 = .ok (.i2l, 1) := by decide +kernel
theorem dL_law_4116 : decode cL_law 4116 = .ok (.lcmp, 1) := by decide +kernel
theorem dL_law_4117 : decode cL_law 4117 = .ok (.ifCond .eq 5, 3) := by decide +kernel
theorem dL_law_4120 : decode cL_law 4120 = .ok (.iconst 0, 1) := by decide +kernel
theorem dL_law_4121 : decode cL_law 4121 = .ok (.ireturn, 1) := by decide +kernel
theorem dL_law_4122 : decode cL_law 4122 = .ok (.goto 235, 3) := by decide +kernel
theorem dL_law_4125 : decode cL_law 4125 = .ok (.aload_n 1, 1) := by decide +kernel
theorem dL_law_4126 : decode cL_law 4126 = .ok (.aload_n 0, 1) := by decide +kernel
theorem dL_law_4127 : decode cL_law 4127 = .ok (.iload 5, 2) := by decide +kernel
theorem dL_law_4129 : decode cL_law 4129 = .ok (.iconst 1, 1) := by decide +kernel
theorem dL_law_4130 : decode cL_law 4130 = .ok (.iadd, 1) := by decide +kernel
theorem dL_law_4131 : decode cL_law 4131 = .ok (.iaload, 1) := by decide +kernel
theorem dL_law_4132 : decode cL_law 4132 = .ok (.aload_n 3, 1) := by decide +kernel
theorem dL_law_4133 : decode cL_law 4133 = .ok (.invokestatic 394, 3) := by decide +kernel
theorem dL_law_4136 : decode cL_law 4136 = .ok (.istore 6, 2) := by decide +kernel
theorem dL_law_4138 : decode cL_law 4138 = .ok (.aload_n 2, 1) := by decide +kernel
theorem dL_law_4139 : decode cL_law 4139 = .ok (.aload_n 0, 1) := by decide +kernel
theorem dL_law_4140 : decode cL_law 4140 = .ok (.iload 5, 2) := by decide +kernel
theorem dL_law_4142 : decode cL_law 4142 = .ok (.iconst 1, 1) := by decide +kernel
theorem dL_law_4143 : decode cL_law 4143 = .ok (.iadd, 1) := by decide +kernel
theorem dL_law_4144 : decode cL_law 4144 = .ok (.iaload, 1) := by decide +kernel
theorem dL_law_4145 : decode cL_law 4145 = .ok (.invokevirtual 396, 3) := by decide +kernel
theorem dL_law_4148 : decode cL_law 4148 = .ok (.istore 7, 2) := by decide +kernel
theorem dL_law_4150 : decode cL_law 4150 = .ok (.aload_n 2, 1) := by decide +kernel
theorem dL_law_4151 : decode cL_law 4151 = .ok (.invokevirtual 206, 3) := by decide +kernel
theorem dL_law_4154 : decode cL_law 4154 = .ok (.iload 6, 2) := by decide +kernel
theorem dL_law_4156 : decode cL_law 4156 = .ok (.if_icmp .eq 5, 3) := by decide +kernel
theorem dL_law_4159 : decode cL_law 4159 = .ok (.iconst 0, 1) := by decide +kernel
theorem dL_law_4160 : decode cL_law 4160 = .ok (.ireturn, 1) := by decide +kernel
theorem dL_law_4161 : decode cL_law 4161 = .ok (.iload 6, 2) := by decide +kernel
theorem dL_law_4163 : decode cL_law 4163 = .ok (.ifCond .ne 22, 3) := by decide +kernel
theorem dL_law_4166 : decode cL_law 4166 = .ok (.aload_n 3, 1) := by decide +kernel
theorem dL_law_4167 : decode cL_law 4167 = .ok (.iconst 0, 1) := by decide +kernel
theorem dL_law_4168 : decode cL_law 4168 = .ok (.laload, 1) := by decide +kernel
theorem dL_law_4169 : decode cL_law 4169 = .ok (.iload 7, 2) := by decide +kernel
theorem dL_law_4171 : decode cL_law 4171 = .ok (.ifCond .eq 7, 3) := by decide +kernel
theorem dL_law_4174 : decode cL_law 4174 = .ok (.lconst 1, 1) := by decide +kernel
theorem dL_law_4175 : decode cL_law 4175 = .ok (.goto 4, 3) := by decide +kernel
theorem dL_law_4178 : decode cL_law 4178 = .ok (.lconst 0, 1) := by decide +kernel
theorem dL_law_4179 : decode cL_law 4179 = .ok (.lcmp, 1) := by decide +kernel
theorem dL_law_4180 : decode cL_law 4180 = .ok (.ifCond .eq 5, 3) := by decide +kernel
theorem dL_law_4183 : decode cL_law 4183 = .ok (.iconst 0, 1) := by decide +kernel
theorem dL_law_4184 : decode cL_law 4184 = .ok (.ireturn, 1) := by decide +kernel
theorem dL_law_4185 : decode cL_law 4185 = .ok (.goto 172, 3) := by decide +kernel
theorem dL_law_4188 : decode cL_law 4188 = .ok (.aload_n 1, 1) := by decide +kernel
theorem dL_law_4189 : decode cL_law 4189 = .ok (.aload_n 3, 1) := by decide +kernel
theorem dL_law_4190 : decode cL_law 4190 = .ok (.invokestatic 397, 3) := by decide +kernel
theorem dL_law_4193 : decode cL_law 4193 = .ok (.istore 6, 2) := by decide +kernel
theorem dL_law_4195 : decode cL_law 4195 = .ok (.aload_n 2, 1) := by decide +kernel
theorem dL_law_4196 : decode cL_law 4196 = .ok (.invokevirtual 399, 3) := by decide +kernel
theorem dL_law_4199 : decode cL_law 4199 = .ok (.istore 7, 2) := by decide +kernel
theorem dL_law_4201 : decode cL_law 4201 = .ok (.aload_n 2, 1) := by decide +kernel
theorem dL_law_4202 : decode cL_law 4202 = .ok (.invokevirtual 206, 3) := by decide +kernel
theorem dL_law_4205 : decode cL_law 4205 = .ok (.iload 6, 2) := by decide +kernel
theorem dL_law_4207 : decode cL_law 4207 = .ok (.if_icmp .eq 5, 3) := by decide +kernel
theorem dL_law_4210 : decode cL_law 4210 = .ok (.iconst 0, 1) := by decide +kernel
theorem dL_law_4211 : decode cL_law 4211 = .ok (.ireturn, 1) := by decide +kernel
theorem dL_law_4212 : decode cL_law 4212 = .ok (.iload 6, 2) := by decide +kernel
theorem dL_law_4214 : decode cL_law 4214 = .ok (.ifCond .ne 15, 3) := by decide +kernel
theorem dL_law_4217 : decode cL_law 4217 = .ok (.aload_n 3, 1) := by decide +kernel
theorem dL_law_4218 : decode cL_law 4218 = .ok (.iconst 0, 1) := by decide +kernel
theorem dL_law_4219 : decode cL_law 4219 = .ok (.laload, 1) := by decide +kernel
theorem dL_law_4220 : decode cL_law 4220 = .ok (.iload 7, 2) := by decide +kernel
theorem dL_law_4222 : decode cL_law 4222 = .ok (.i2l, 1) := by decide +kernel
theorem dL_law_4223 : decode cL_law 4223 = .ok (.lcmp, 1) := by decide +kernel
theorem dL_law_4224 : decode cL_law 4224 = .ok (.ifCond .eq 5, 3) := by decide +kernel
theorem dL_law_4227 : decode cL_law 4227 = .ok (.iconst 0, 1) := by decide +kernel
theorem dL_law_4228 : decode cL_law 4228 = .ok (.ireturn, 1) := by decide +kernel
theorem dL_law_4229 : decode cL_law 4229 = .ok (.goto 128, 3) := by decide +kernel
theorem dL_law_4232 : decode cL_law 4232 = .ok (.aload_n 1, 1) := by decide +kernel
theorem dL_law_4233 : decode cL_law 4233 = .ok (.invokevirtual 400, 3) := by decide +kernel
theorem dL_law_4236 : decode cL_law 4236 = .ok (.aload_n 2, 1) := by decide +kernel
theorem dL_law_4237 : decode cL_law 4237 = .ok (.invokevirtual 403, 3) := by decide +kernel
theorem dL_law_4240 : decode cL_law 4240 = .ok (.if_icmp .eq 117, 3) := by decide +kernel
theorem dL_law_4243 : decode cL_law 4243 = .ok (.iconst 0, 1) := by decide +kernel
theorem dL_law_4244 : decode cL_law 4244 = .ok (.ireturn, 1) := by decide +kernel
theorem dL_law_4245 : decode cL_law 4245 = .ok (.aload_n 1, 1) := by decide +kernel
theorem dL_law_4246 : decode cL_law 4246 = .ok (.aload_n 0, 1) := by decide +kernel
theorem dL_law_4247 : decode cL_law 4247 = .ok (.iload 5, 2) := by decide +kernel
theorem dL_law_4249 : decode cL_law 4249 = .ok (.iconst 1, 1) := by decide +kernel
theorem dL_law_4250 : decode cL_law 4250 = .ok (.iadd, 1) := by decide +kernel
theorem dL_law_4251 : decode cL_law 4251 = .ok (.iaload, 1) := by decide +kernel
theorem dL_law_4252 : decode cL_law 4252 = .ok (.aload_n 3, 1) := by decide +kernel
theorem dL_law_4253 : decode cL_law 4253 = .ok (.invokestatic 404, 3) := by decide +kernel
theorem dL_law_4256 : decode cL_law 4256 = .ok (.istore 6, 2) := by decide +kernel
theorem dL_law_4258 : decode cL_law 4258 = .ok (.aload_n 2, 1) := by decide +kernel
theorem dL_law_4259 : decode cL_law 4259 = .ok (.aload_n 0, 1) := by decide +kernel
theorem dL_law_4260 : decode cL_law 4260 = .ok (.iload 5, 2) := by decide +kernel
theorem dL_law_4262 : decode cL_law 4262 = .ok (.iconst 1, 1) := by decide +kernel
theorem dL_law_4263 : decode cL_law 4263 = .ok (.iadd, 1) := by decide +kernel
theorem dL_law_4264 : decode cL_law 4264 = .ok (.iaload, 1) := by decide +kernel
theorem dL_law_4265 : decode cL_law 4265 = .ok (.invokevirtual 406, 3) := by decide +kernel
theorem dL_law_4268 : decode cL_law 4268 = .ok (.istore 7, 2) := by decide +kernel
theorem dL_law_4270 : decode cL_law 4270 = .ok (.aload_n 2, 1) := by decide +kernel
theorem dL_law_4271 : decode cL_law 4271 = .ok (.invokevirtual 206, 3) := by decide +kernel
theorem dL_law_4274 : decode cL_law 4274 = .ok (.iload 6, 2) := by decide +kernel
theorem dL_law_4276 : decode cL_law 4276 = .ok (.if_icmp .eq 5, 3) := by decide +kernel
theorem dL_law_4279 : decode cL_law 4279 = .ok (.iconst 0, 1) := by decide +kernel
theorem dL_law_4280 : decode cL_law 4280 = .ok (.ireturn, 1) := by decide +kernel
theorem dL_law_4281 : decode cL_law 4281 = .ok (.iload 6, 2) := by decide +kernel
theorem dL_law_4283 : decode cL_law 4283 = .ok (.ifCond .ne 15, 3) := by decide +kernel
theorem dL_law_4286 : decode cL_law 4286 = .ok (.aload_n 3, 1) := by decide +kernel
theorem dL_law_4287 : decode cL_law 4287 = .ok (.iconst 0, 1) := by decide +kernel
theorem dL_law_4288 : decode cL_law 4288 = .ok (.laload, 1) := by decide +kernel
theorem dL_law_4289 : decode cL_law 4289 = .ok (.iload 7, 2) := by decide +kernel
theorem dL_law_4291 : decode cL_law 4291 = .ok (.i2l, 1) := by decide +kernel
theorem dL_law_4292 : decode cL_law 4292 = .ok (.lcmp, 1) := by decide +kernel
theorem dL_law_4293 : decode cL_law 4293 = .ok (.ifCond .eq 5, 3) := by decide +kernel
theorem dL_law_4296 : decode cL_law 4296 = .ok (.iconst 0, 1) := by decide +kernel
theorem dL_law_4297 : decode cL_law 4297 = .ok (.ireturn, 1) := by decide +kernel
theorem dL_law_4298 : decode cL_law 4298 = .ok (.goto 59, 3) := by decide +kernel
theorem dL_law_4301 : decode cL_law 4301 = .ok (.aload_n 1, 1) := by decide +kernel
theorem dL_law_4302 : decode cL_law 4302 = .ok (.aload_n 0, 1) := by decide +kernel
theorem dL_law_4303 : decode cL_law 4303 = .ok (.iload 5, 2) := by decide +kernel
theorem dL_law_4305 : decode cL_law 4305 = .ok (.iconst 1, 1) := by decide +kernel
theorem dL_law_4306 : decode cL_law 4306 = .ok (.iadd, 1) := by decide +kernel
theorem dL_law_4307 : decode cL_law 4307 = .ok (.iaload, 1) := by decide +kernel
theorem dL_law_4308 : decode cL_law 4308 = .ok (.aload_n 3, 1) := by decide +kernel
theorem dL_law_4309 : decode cL_law 4309 = .ok (.invokestatic 407, 3) := by decide +kernel
theorem dL_law_4312 : decode cL_law 4312 = .ok (.istore 6, 2) := by decide +kernel
theorem dL_law_4314 : decode cL_law 4314 = .ok (.aload_n 2, 1) := by decide +kernel
theorem dL_law_4315 : decode cL_law 4315 = .ok (.aload_n 0, 1) := by decide +kernel
theorem dL_law_4316 : decode cL_law 4316 = .ok (.iload 5, 2) := by decide +kernel
theorem dL_law_4318 : decode cL_law 4318 = .ok (.iconst 1, 1) := by decide +kernel
theorem dL_law_4319 : decode cL_law 4319 = .ok (.iadd, 1) := by decide +kernel
theorem dL_law_4320 : decode cL_law 4320 = .ok (.iaload, 1) := by decide +kernel
theorem dL_law_4321 : decode cL_law 4321 = .ok (.invokevirtual 409, 3) := by decide +kernel
theorem dL_law_4324 : decode cL_law 4324 = .ok (.istore 7, 2) := by decide +kernel
theorem dL_law_4326 : decode cL_law 4326 = .ok (.aload_n 2, 1) := by decide +kernel
theorem dL_law_4327 : decode cL_law 4327 = .ok (.invokevirtual 206, 3) := by decide +kernel
theorem dL_law_4330 : decode cL_law 4330 = .ok (.iload 6, 2) := by decide +kernel
theorem dL_law_4332 : decode cL_law 4332 = .ok (.if_icmp .eq 5, 3) := by decide +kernel
theorem dL_law_4335 : decode cL_law 4335 = .ok (.iconst 0, 1) := by decide +kernel
theorem dL_law_4336 : decode cL_law 4336 = .ok (.ireturn, 1) := by decide +kernel
theorem dL_law_4337 : decode cL_law 4337 = .ok (.iload 6, 2) := by decide +kernel
theorem dL_law_4339 : decode cL_law 4339 = .ok (.ifCond .ne 15, 3) := by decide +kernel
theorem dL_law_4342 : decode cL_law 4342 = .ok (.aload_n 3, 1) := by decide +kernel
theorem dL_law_4343 : decode cL_law 4343 = .ok (.iconst 0, 1) := by decide +kernel
theorem dL_law_4344 : decode cL_law 4344 = .ok (.laload, 1) := by decide +kernel
theorem dL_law_4345 : decode cL_law 4345 = .ok (.iload 7, 2) := by decide +kernel
theorem dL_law_4347 : decode cL_law 4347 = .ok (.i2l, 1) := by decide +kernel
theorem dL_law_4348 : decode cL_law 4348 = .ok (.lcmp, 1) := by decide +kernel
theorem dL_law_4349 : decode cL_law 4349 = .ok (.ifCond .eq 5, 3) := by decide +kernel
theorem dL_law_4352 : decode cL_law 4352 = .ok (.iconst 0, 1) := by decide +kernel
theorem dL_law_4353 : decode cL_law 4353 = .ok (.ireturn, 1) := by decide +kernel
theorem dL_law_4354 : decode cL_law 4354 = .ok (.goto 3, 3) := by decide +kernel
theorem dL_law_4357 : decode cL_law 4357 = .ok (.iinc 5 6, 3) := by decide +kernel
theorem dL_law_4360 : decode cL_law 4360 = .ok (.goto (-4332), 3) := by decide +kernel
theorem dL_law_4363 : decode cL_law 4363 = .ok (.iconst 1, 1) := by decide +kernel
theorem dL_law_4364 : decode cL_law 4364 = .ok (.ireturn, 1) := by decide +kernel
