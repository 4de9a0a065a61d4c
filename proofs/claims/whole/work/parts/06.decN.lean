theorem d_M_may_298 : decode b_M_may 298 = .ok (.invokestatic 51, 3) := by decide +kernel
theorem d_M_may_301 : decode b_M_may 301 = .ok (.ireturn, 1) := by decide +kernel
theorem d_M_may_302 : decode b_M_may 302 = .ok (.iload_n 1, 1) := by decide +kernel
theorem d_M_may_303 : decode b_M_may 303 = .ok (.iload_n 2, 1) := by decide +kernel
theorem d_M_may_304 : decode b_M_may 304 = .ok (.invokestatic 91, 3) := by decide +kernel
theorem d_M_may_307 : decode b_M_may 307 = .ok (.ireturn, 1) := by decide +kernel
theorem d_M_may_308 : decode b_M_may 308 = .ok (.iload_n 1, 1) := by decide +kernel
theorem d_M_may_309 : decode b_M_may 309 = .ok (.ifCond .ne 17, 3) := by decide +kernel
theorem d_M_may_312 : decode b_M_may 312 = .ok (.iload_n 2, 1) := by decide +kernel
theorem d_M_may_313 : decode b_M_may 313 = .ok (.i2l, 1) := by decide +kernel
theorem d_M_may_314 : decode b_M_may 314 = .ok (.ldc2_w 59, 3) := by decide +kernel
theorem d_M_may_317 : decode b_M_may 317 = .ok (.ldc2_w 61, 3) := by decide +kernel
theorem d_M_may_320 : decode b_M_may 320 = .ok (.invokestatic 51, 3) := by decide +kernel
theorem d_M_may_323 : decode b_M_may 323 = .ok (.goto 10, 3) := by decide +kernel
theorem d_M_may_326 : decode b_M_may 326 = .ok (.iload_n 2, 1) := by decide +kernel
theorem d_M_may_327 : decode b_M_may 327 = .ok (.i2l, 1) := by decide +kernel
theorem d_M_may_328 : decode b_M_may 328 = .ok (.lconst 0, 1) := by decide +kernel
theorem d_M_may_329 : decode b_M_may 329 = .ok (.lconst 1, 1) := by decide +kernel
theorem d_M_may_330 : decode b_M_may 330 = .ok (.invokestatic 51, 3) := by decide +kernel
theorem d_M_may_333 : decode b_M_may 333 = .ok (.ireturn, 1) := by decide +kernel
theorem d_M_may_334 : decode b_M_may 334 = .ok (.iload_n 1, 1) := by decide +kernel
theorem d_M_may_335 : decode b_M_may 335 = .ok (.iload_n 2, 1) := by decide +kernel
theorem d_M_may_336 : decode b_M_may 336 = .ok (.invokestatic 94, 3) := by decide +kernel
theorem d_M_may_339 : decode b_M_may 339 = .ok (.ireturn, 1) := by decide +kernel
theorem d_M_may_340 : decode b_M_may 340 = .ok (.iload_n 1, 1) := by decide +kernel
theorem d_M_may_341 : decode b_M_may 341 = .ok (.iconst 4, 1) := by decide +kernel
theorem d_M_may_342 : decode b_M_may 342 = .ok (.if_icmp .ge 15, 3) := by decide +kernel
theorem d_M_may_345 : decode b_M_may 345 = .ok (.iload_n 2, 1) := by decide +kernel
theorem d_M_may_346 : decode b_M_may 346 = .ok (.i2l, 1) := by decide +kernel
theorem d_M_may_347 : decode b_M_may 347 = .ok (.lconst 0, 1) := by decide +kernel
theorem d_M_may_348 : decode b_M_may 348 = .ok (.ldc2_w 97, 3) := by decide +kernel
theorem d_M_may_351 : decode b_M_may 351 = .ok (.invokestatic 51, 3) := by decide +kernel
theorem d_M_may_354 : decode b_M_may 354 = .ok (.goto 23, 3) := by decide +kernel
theorem d_M_may_357 : decode b_M_may 357 = .ok (.iload_n 2, 1) := by decide +kernel
theorem d_M_may_358 : decode b_M_may 358 = .ok (.i2l, 1) := by decide +kernel
theorem d_M_may_359 : decode b_M_may 359 = .ok (.iload_n 1, 1) := by decide +kernel
theorem d_M_may_360 : decode b_M_may 360 = .ok (.iconst 4, 1) := by decide +kernel
theorem d_M_may_361 : decode b_M_may 361 = .ok (.if_icmp .ne 9, 3) := by decide +kernel
theorem d_M_may_364 : decode b_M_may 364 = .ok (.ldc2_w 59, 3) := by decide +kernel
theorem d_M_may_367 : decode b_M_may 367 = .ok (.goto 4, 3) := by decide +kernel
theorem d_M_may_370 : decode b_M_may 370 = .ok (.lconst 0, 1) := by decide +kernel
theorem d_M_may_371 : decode b_M_may 371 = .ok (.ldc2_w 83, 3) := by decide +kernel
theorem d_M_may_374 : decode b_M_may 374 = .ok (.invokestatic 51, 3) := by decide +kernel
theorem d_M_may_377 : decode b_M_may 377 = .ok (.ireturn, 1) := by decide +kernel
theorem d_M_may_378 : decode b_M_may 378 = .ok (.iload_n 2, 1) := by decide +kernel
theorem d_M_may_379 : decode b_M_may 379 = .ok (.i2l, 1) := by decide +kernel
theorem d_M_may_380 : decode b_M_may 380 = .ok (.ldc2_w 59, 3) := by decide +kernel
theorem d_M_may_383 : decode b_M_may 383 = .ok (.ldc2_w 99, 3) := by decide +kernel
theorem d_M_may_386 : decode b_M_may 386 = .ok (.invokestatic 51, 3) := by decide +kernel
theorem d_M_may_389 : decode b_M_may 389 = .ok (.ireturn, 1) := by decide +kernel
theorem d_M_may_390 : decode b_M_may 390 = .ok (.iload_n 2, 1) := by decide +kernel
theorem d_M_may_391 : decode b_M_may 391 = .ok (.i2l, 1) := by decide +kernel
theorem d_M_may_392 : decode b_M_may 392 = .ok (.lconst 0, 1) := by decide +kernel
theorem d_M_may_393 : decode b_M_may 393 = .ok (.ldc2_w 99, 3) := by decide +kernel
theorem d_M_may_396 : decode b_M_may 396 = .ok (.invokestatic 51, 3) := by decide +kernel
theorem d_M_may_399 : decode b_M_may 399 = .ok (.ireturn, 1) := by decide +kernel
theorem d_M_may_400 : decode b_M_may 400 = .ok (.iload_n 2, 1) := by decide +kernel
theorem d_M_may_401 : decode b_M_may 401 = .ok (.i2l, 1) := by decide +kernel
theorem d_M_may_402 : decode b_M_may 402 = .ok (.lconst 0, 1) := by decide +kernel
theorem d_M_may_403 : decode b_M_may 403 = .ok (.iload_n 1, 1) := by decide +kernel
theorem d_M_may_404 : decode b_M_may 404 = .ok (.ifCond .ne 9, 3) := by decide +kernel
theorem d_M_may_407 : decode b_M_may 407 = .ok (.ldc2_w 65, 3) := by decide +kernel
theorem d_M_may_410 : decode b_M_may 410 = .ok (.goto 4, 3) := by decide +kernel
theorem d_M_may_413 : decode b_M_may 413 = .ok (.lconst 1, 1) := by decide +kernel
theorem d_M_may_414 : decode b_M_may 414 = .ok (.invokestatic 51, 3) := by decide +kernel
theorem d_M_may_417 : decode b_M_may 417 = .ok (.ireturn, 1) := by decide +kernel
theorem d_M_may_418 : decode b_M_may 418 = .ok (.iload_n 2, 1) := by decide +kernel
theorem d_M_may_419 : decode b_M_may 419 = .ok (.i2l, 1) := by decide +kernel
theorem d_M_may_420 : decode b_M_may 420 = .ok (.lconst 0, 1) := by decide +kernel
theorem d_M_may_421 : decode b_M_may 421 = .ok (.iload_n 1, 1) := by decide +kernel
theorem d_M_may_422 : decode b_M_may 422 = .ok (.ifCond .ne 9, 3) := by decide +kernel
theorem d_M_may_425 : decode b_M_may 425 = .ok (.ldc2_w 77, 3) := by decide +kernel
theorem d_M_may_428 : decode b_M_may 428 = .ok (.goto 17, 3) := by decide +kernel
theorem d_M_may_431 : decode b_M_may 431 = .ok (.iload_n 1, 1) := by decide +kernel
theorem d_M_may_432 : decode b_M_may 432 = .ok (.iconst 1, 1) := by decide +kernel
theorem d_M_may_433 : decode b_M_may 433 = .ok (.if_icmp .ne 9, 3) := by decide +kernel
theorem d_M_may_436 : decode b_M_may 436 = .ok (.ldc2_w 67, 3) := by decide +kernel
theorem d_M_may_439 : decode b_M_may 439 = .ok (.goto 6, 3) := by decide +kernel
theorem d_M_may_442 : decode b_M_may 442 = .ok (.ldc2_w 101, 3) := by decide +kernel
theorem d_M_may_445 : decode b_M_may 445 = .ok (.invokestatic 51, 3) := by decide +kernel
theorem d_M_may_448 : decode b_M_may 448 = .ok (.ireturn, 1) := by decide +kernel
theorem d_M_may_449 : decode b_M_may 449 = .ok (.iload_n 1, 1) := by decide +kernel
theorem d_M_may_450 : decode b_M_may 450 = .ok (.iconst 4, 1) := by decide +kernel
theorem d_M_may_451 : decode b_M_may 451 = .ok (.if_icmp .eq 41, 3) := by decide +kernel
theorem d_M_may_454 : decode b_M_may 454 = .ok (.iload_n 2, 1) := by decide +kernel
theorem d_M_may_455 : decode b_M_may 455 = .ok (.i2l, 1) := by decide +kernel
theorem d_M_may_456 : decode b_M_may 456 = .ok (.lconst 0, 1) := by decide +kernel
theorem d_M_may_457 : decode b_M_may 457 = .ok (.iload_n 1, 1) := by decide +kernel
theorem d_M_may_458 : decode b_M_may 458 = .ok (.ifCond .eq 8, 3) := by decide +kernel
theorem d_M_may_461 : decode b_M_may 461 = .ok (.iload_n 1, 1) := by decide +kernel
theorem d_M_may_462 : decode b_M_may 462 = .ok (.iconst 3, 1) := by decide +kernel
theorem d_M_may_463 : decode b_M_may 463 = .ok (.if_icmp .ne 9, 3) := by decide +kernel
theorem d_M_may_466 : decode b_M_may 466 = .ok (.ldc2_w 77, 3) := by decide +kernel
theorem d_M_may_469 : decode b_M_may 469 = .ok (.goto 17, 3) := by decide +kernel
theorem d_M_may_472 : decode b_M_may 472 = .ok (.iload_n 1, 1) := by decide +kernel
theorem d_M_may_473 : decode b_M_may 473 = .ok (.iconst 1, 1) := by decide +kernel
theorem d_M_may_474 : decode b_M_may 474 = .ok (.if_icmp .ne 9, 3) := by decide +kernel
theorem d_M_may_477 : decode b_M_may 477 = .ok (.ldc2_w 67, 3) := by decide +kernel
theorem d_M_may_480 : decode b_M_may 480 = .ok (.goto 6, 3) := by decide +kernel
theorem d_M_may_483 : decode b_M_may 483 = .ok (.ldc2_w 101, 3) := by decide +kernel
theorem d_M_may_486 : decode b_M_may 486 = .ok (.invokestatic 51, 3) := by decide +kernel
theorem d_M_may_489 : decode b_M_may 489 = .ok (.ifCond .eq 7, 3) := by decide +kernel
theorem d_M_may_492 : decode b_M_may 492 = .ok (.iconst 1, 1) := by decide +kernel
theorem d_M_may_493 : decode b_M_may 493 = .ok (.goto 4, 3) := by decide +kernel
theorem d_M_may_496 : decode b_M_may 496 = .ok (.iconst 0, 1) := by decide +kernel
theorem d_M_may_497 : decode b_M_may 497 = .ok (.ireturn, 1) := by decide +kernel
theorem d_M_may_498 : decode b_M_may 498 = .ok (.iload_n 2, 1) := by decide +kernel
theorem d_M_may_499 : decode b_M_may 499 = .ok (.i2l, 1) := by decide +kernel
theorem d_M_may_500 : decode b_M_may 500 = .ok (.lconst 0, 1) := by decide +kernel
theorem d_M_may_501 : decode b_M_may 501 = .ok (.iload_n 1, 1) := by decide +kernel
theorem d_M_may_502 : decode b_M_may 502 = .ok (.ifCond .ne 9, 3) := by decide +kernel
theorem d_M_may_505 : decode b_M_may 505 = .ok (.ldc2_w 61, 3) := by decide +kernel
theorem d_M_may_508 : decode b_M_may 508 = .ok (.goto 4, 3) := by decide +kernel
theorem d_M_may_511 : decode b_M_may 511 = .ok (.lconst 1, 1) := by decide +kernel
theorem d_M_may_512 : decode b_M_may 512 = .ok (.invokestatic 51, 3) := by decide +kernel
theorem d_M_may_515 : decode b_M_may 515 = .ok (.ireturn, 1) := by decide +kernel
theorem d_M_may_516 : decode b_M_may 516 = .ok (.iload_n 1, 1) := by decide +kernel
theorem d_M_may_517 : decode b_M_may 517 = .ok (.iload_n 2, 1) := by decide +kernel
theorem d_M_may_518 : decode b_M_may 518 = .ok (.invokestatic 103, 3) := by decide +kernel
theorem d_M_may_521 : decode b_M_may 521 = .ok (.ireturn, 1) := by decide +kernel
theorem d_M_may_522 : decode b_M_may 522 = .ok (.iload_n 1, 1) := by decide +kernel
theorem d_M_may_523 : decode b_M_may 523 = .ok (.iconst 1, 1) := by decide +kernel
theorem d_M_may_524 : decode b_M_may 524 = .ok (.if_icmp .gt 25, 3) := by decide +kernel
theorem d_M_may_527 : decode b_M_may 527 = .ok (.iload_n 2, 1) := by decide +kernel
theorem d_M_may_528 : decode b_M_may 528 = .ok (.i2l, 1) := by decide +kernel
theorem d_M_may_529 : decode b_M_may 529 = .ok (.lconst 0, 1) := by decide +kernel
theorem d_M_may_530 : decode b_M_may 530 = .ok (.iload_n 1, 1) := by decide +kernel
theorem d_M_may_531 : decode b_M_may 531 = .ok (.ifCond .ne 9, 3) := by decide +kernel
theorem d_M_may_534 : decode b_M_may 534 = .ok (.ldc2_w 67, 3) := by decide +kernel
theorem d_M_may_537 : decode b_M_may 537 = .ok (.goto 6, 3) := by decide +kernel
theorem d_M_may_540 : decode b_M_may 540 = .ok (.ldc2_w 89, 3) := by decide +kernel
theorem d_M_may_543 : decode b_M_may 543 = .ok (.invokestatic 51, 3) := by decide +kernel
theorem d_M_may_546 : decode b_M_may 546 = .ok (.ifCond .eq 7, 3) := by decide +kernel
theorem d_M_may_549 : decode b_M_may 549 = .ok (.iconst 1, 1) := by decide +kernel
theorem d_M_may_550 : decode b_M_may 550 = .ok (.goto 4, 3) := by decide +kernel
theorem d_M_may_553 : decode b_M_may 553 = .ok (.iconst 0, 1) := by decide +kernel
theorem d_M_may_554 : decode b_M_may 554 = .ok (.ireturn, 1) := by decide +kernel
theorem d_M_may_555 : decode b_M_may 555 = .ok (.iload_n 2, 1) := by decide +kernel
theorem d_M_may_556 : decode b_M_may 556 = .ok (.i2l, 1) := by decide +kernel
theorem d_M_may_557 : decode b_M_may 557 = .ok (.lconst 0, 1) := by decide +kernel
theorem d_M_may_558 : decode b_M_may 558 = .ok (.ldc2_w 67, 3) := by decide +kernel
theorem d_M_may_561 : decode b_M_may 561 = .ok (.invokestatic 51, 3) := by decide +kernel
theorem d_M_may_564 : decode b_M_may 564 = .ok (.ireturn, 1) := by decide +kernel
theorem d_M_may_565 : decode b_M_may 565 = .ok (.iload_n 2, 1) := by decide +kernel
theorem d_M_may_566 : decode b_M_may 566 = .ok (.i2l, 1) := by decide +kernel
theorem d_M_may_567 : decode b_M_may 567 = .ok (.lconst 0, 1) := by decide +kernel
theorem d_M_may_568 : decode b_M_may 568 = .ok (.ldc2_w 65, 3) := by decide +kernel
theorem d_M_may_571 : decode b_M_may 571 = .ok (.invokestatic 51, 3) := by decide +kernel
theorem d_M_may_574 : decode b_M_may 574 = .ok (.ireturn, 1) := by decide +kernel
theorem d_M_may_575 : decode b_M_may 575 = .ok (.iload_n 1, 1) := by decide +kernel
theorem d_M_may_576 : decode b_M_may 576 = .ok (.ifCond .gt 15, 3) := by decide +kernel
theorem d_M_may_579 : decode b_M_may 579 = .ok (.iload_n 2, 1) := by decide +kernel
theorem d_M_may_580 : decode b_M_may 580 = .ok (.i2l, 1) := by decide +kernel
theorem d_M_may_581 : decode b_M_may 581 = .ok (.lconst 0, 1) := by decide +kernel
theorem d_M_may_582 : decode b_M_may 582 = .ok (.ldc2_w 65, 3) := by decide +kernel
theorem d_M_may_585 : decode b_M_may 585 = .ok (.invokestatic 51, 3) := by decide +kernel
theorem d_M_may_588 : decode b_M_may 588 = .ok (.ifCond .eq 7, 3) := by decide +kernel
theorem d_M_may_591 : decode b_M_may 591 = .ok (.iconst 1, 1) := by decide +kernel
theorem d_M_may_592 : decode b_M_may 592 = .ok (.goto 4, 3) := by decide +kernel
theorem d_M_may_595 : decode b_M_may 595 = .ok (.iconst 0, 1) := by decide +kernel
theorem d_M_may_596 : decode b_M_may 596 = .ok (.ireturn, 1) := by decide +kernel
theorem d_M_isViews_0 : decode b_M_isViews 0 = .ok (.iload_n 0, 1) := by decide +kernel
theorem d_M_isViews_1 : decode b_M_isViews 1 = .ok (.iconst 2, 1) := by decide +kernel
theorem d_M_isViews_2 : decode b_M_isViews 2 = .ok (.if_icmp .ge 17, 3) := by decide +kernel
theorem d_M_isViews_5 : decode b_M_isViews 5 = .ok (.iload_n 1, 1) := by decide +kernel
theorem d_M_isViews_6 : decode b_M_isViews 6 = .ok (.i2l, 1) := by decide +kernel
theorem d_M_isViews_7 : decode b_M_isViews 7 = .ok (.ldc2_w 47, 3) := by decide +kernel
theorem d_M_isViews_10 : decode b_M_isViews 10 = .ok (.ldc2_w 49, 3) := by decide +kernel
theorem d_M_isViews_13 : decode b_M_isViews 13 = .ok (.invokestatic 51, 3) := by decide +kernel
theorem d_M_isViews_16 : decode b_M_isViews 16 = .ok (.goto 29, 3) := by decide +kernel
theorem d_M_isViews_19 : decode b_M_isViews 19 = .ok (.iload_n 0, 1) := by decide +kernel
theorem d_M_isViews_20 : decode b_M_isViews 20 = .ok (.iconst 4, 1) := by decide +kernel
theorem d_M_isViews_21 : decode b_M_isViews 21 = .ok (.if_icmp .ge 15, 3) := by decide +kernel
theorem d_M_isViews_24 : decode b_M_isViews 24 = .ok (.iload_n 1, 1) := by decide +kernel
theorem d_M_isViews_25 : decode b_M_isViews 25 = .ok (.i2l, 1) := by decide +kernel
theorem d_M_isViews_26 : decode b_M_isViews 26 = .ok (.lconst 1, 1) := by decide +kernel
theorem d_M_isViews_27 : decode b_M_isViews 27 = .ok (.ldc2_w 55, 3) := by decide +kernel
theorem d_M_isViews_30 : decode b_M_isViews 30 = .ok (.invokestatic 51, 3) := by decide +kernel
theorem d_M_isViews_33 : decode b_M_isViews 33 = .ok (.goto 12, 3) := by decide +kernel
theorem d_M_isViews_36 : decode b_M_isViews 36 = .ok (.iload_n 1, 1) := by decide +kernel
theorem d_M_isViews_37 : decode b_M_isViews 37 = .ok (.i2l, 1) := by decide +kernel
theorem d_M_isViews_38 : decode b_M_isViews 38 = .ok (.lconst 0, 1) := by decide +kernel
theorem d_M_isViews_39 : decode b_M_isViews 39 = .ok (.ldc2_w 57, 3) := by decide +kernel
theorem d_M_isViews_42 : decode b_M_isViews 42 = .ok (.invokestatic 51, 3) := by decide +kernel
theorem d_M_isViews_45 : decode b_M_isViews 45 = .ok (.ireturn, 1) := by decide +kernel
theorem d_M_isTextures_0 : decode b_M_isTextures 0 = .ok (.iload_n 0, 1) := by decide +kernel
theorem d_M_isTextures_1 : decode b_M_isTextures 1 = .ok (.ifCond .ne 15, 3) := by decide +kernel
theorem d_M_isTextures_4 : decode b_M_isTextures 4 = .ok (.iload_n 1, 1) := by decide +kernel
theorem d_M_isTextures_5 : decode b_M_isTextures 5 = .ok (.i2l, 1) := by decide +kernel
theorem d_M_isTextures_6 : decode b_M_isTextures 6 = .ok (.lconst 0, 1) := by decide +kernel
theorem d_M_isTextures_7 : decode b_M_isTextures 7 = .ok (.ldc2_w 65, 3) := by decide +kernel
theorem d_M_isTextures_10 : decode b_M_isTextures 10 = .ok (.invokestatic 51, 3) := by decide +kernel
theorem d_M_isTextures_13 : decode b_M_isTextures 13 = .ok (.goto 63, 3) := by decide +kernel
theorem d_M_isTextures_16 : decode b_M_isTextures 16 = .ok (.iload_n 0, 1) := by decide +kernel
theorem d_M_isTextures_17 : decode b_M_isTextures 17 = .ok (.iconst 1, 1) := by decide +kernel
theorem d_M_isTextures_18 : decode b_M_isTextures 18 = .ok (.if_icmp .ne 15, 3) := by decide +kernel
theorem d_M_isTextures_21 : decode b_M_isTextures 21 = .ok (.iload_n 1, 1) := by decide +kernel
theorem d_M_isTextures_22 : decode b_M_isTextures 22 = .ok (.i2l, 1) := by decide +kernel
theorem d_M_isTextures_23 : decode b_M_isTextures 23 = .ok (.lconst 0, 1) := by decide +kernel
theorem d_M_isTextures_24 : decode b_M_isTextures 24 = .ok (.ldc2_w 67, 3) := by decide +kernel
theorem d_M_isTextures_27 : decode b_M_isTextures 27 = .ok (.invokestatic 51, 3) := by decide +kernel
theorem d_M_isTextures_30 : decode b_M_isTextures 30 = .ok (.goto 46, 3) := by decide +kernel
theorem d_M_isTextures_33 : decode b_M_isTextures 33 = .ok (.iload_n 0, 1) := by decide +kernel
theorem d_M_isTextures_34 : decode b_M_isTextures 34 = .ok (.iconst 4, 1) := by decide +kernel
theorem d_M_isTextures_35 : decode b_M_isTextures 35 = .ok (.if_icmp .ge 15, 3) := by decide +kernel
theorem d_M_isTextures_38 : decode b_M_isTextures 38 = .ok (.iload_n 1, 1) := by decide +kernel
theorem d_M_isTextures_39 : decode b_M_isTextures 39 = .ok (.i2l, 1) := by decide +kernel
theorem d_M_isTextures_40 : decode b_M_isTextures 40 = .ok (.lconst 0, 1) := by decide +kernel
theorem d_M_isTextures_41 : decode b_M_isTextures 41 = .ok (.ldc2_w 69, 3) := by decide +kernel
theorem d_M_isTextures_44 : decode b_M_isTextures 44 = .ok (.invokestatic 51, 3) := by decide +kernel
theorem d_M_isTextures_47 : decode b_M_isTextures 47 = .ok (.goto 29, 3) := by decide +kernel
theorem d_M_isTextures_50 : decode b_M_isTextures 50 = .ok (.iload_n 0, 1) := by decide +kernel
theorem d_M_isTextures_51 : decode b_M_isTextures 51 = .ok (.iconst 4, 1) := by decide +kernel
theorem d_M_isTextures_52 : decode b_M_isTextures 52 = .ok (.if_icmp .ne 15, 3) := by decide +kernel
theorem d_M_isTextures_55 : decode b_M_isTextures 55 = .ok (.iload_n 1, 1) := by decide +kernel
theorem d_M_isTextures_56 : decode b_M_isTextures 56 = .ok (.i2l, 1) := by decide +kernel
theorem d_M_isTextures_57 : decode b_M_isTextures 57 = .ok (.lconst 1, 1) := by decide +kernel
theorem d_M_isTextures_58 : decode b_M_isTextures 58 = .ok (.ldc2_w 71, 3) := by decide +kernel
theorem d_M_isTextures_61 : decode b_M_isTextures 61 = .ok (.invokestatic 51, 3) := by decide +kernel
theorem d_M_isTextures_64 : decode b_M_isTextures 64 = .ok (.goto 12, 3) := by decide +kernel
theorem d_M_isTextures_67 : decode b_M_isTextures 67 = .ok (.iload_n 1, 1) := by decide +kernel
theorem d_M_isTextures_68 : decode b_M_isTextures 68 = .ok (.i2l, 1) := by decide +kernel
theorem d_M_isTextures_69 : decode b_M_isTextures 69 = .ok (.lconst 0, 1) := by decide +kernel
theorem d_M_isTextures_70 : decode b_M_isTextures 70 = .ok (.ldc2_w 61, 3) := by decide +kernel
theorem d_M_isTextures_73 : decode b_M_isTextures 73 = .ok (.invokestatic 51, 3) := by decide +kernel
theorem d_M_isTextures_76 : decode b_M_isTextures 76 = .ok (.ireturn, 1) := by decide +kernel
theorem d_M_isStencils_0 : decode b_M_isStencils 0 = .ok (.iload_n 0, 1) := by decide +kernel
theorem d_M_isStencils_1 : decode b_M_isStencils 1 = .ok (.ifCond .ne 13, 3) := by decide +kernel
theorem d_M_isStencils_4 : decode b_M_isStencils 4 = .ok (.iload_n 1, 1) := by decide +kernel
theorem d_M_isStencils_5 : decode b_M_isStencils 5 = .ok (.i2l, 1) := by decide +kernel
theorem d_M_isStencils_6 : decode b_M_isStencils 6 = .ok (.lconst 0, 1) := by decide +kernel
theorem d_M_isStencils_7 : decode b_M_isStencils 7 = .ok (.lconst 1, 1) := by decide +kernel
theorem d_M_isStencils_8 : decode b_M_isStencils 8 = .ok (.invokestatic 51, 3) := by decide +kernel
theorem d_M_isStencils_11 : decode b_M_isStencils 11 = .ok (.goto 48, 3) := by decide +kernel
theorem d_M_isStencils_14 : decode b_M_isStencils 14 = .ok (.iload_n 0, 1) := by decide +kernel
theorem d_M_isStencils_15 : decode b_M_isStencils 15 = .ok (.iconst 1, 1) := by decide +kernel
theorem d_M_isStencils_16 : decode b_M_isStencils 16 = .ok (.if_icmp .ne 17, 3) := by decide +kernel
theorem d_M_isStencils_19 : decode b_M_isStencils 19 = .ok (.iload_n 1, 1) := by decide +kernel
theorem d_M_isStencils_20 : decode b_M_isStencils 20 = .ok (.i2l, 1) := by decide +kernel
theorem d_M_isStencils_21 : decode b_M_isStencils 21 = .ok (.ldc2_w 59, 3) := by decide +kernel
theorem d_M_isStencils_24 : decode b_M_isStencils 24 = .ok (.ldc2_w 61, 3) := by decide +kernel
theorem d_M_isStencils_27 : decode b_M_isStencils 27 = .ok (.invokestatic 51, 3) := by decide +kernel
theorem d_M_isStencils_30 : decode b_M_isStencils 30 = .ok (.goto 29, 3) := by decide +kernel
theorem d_M_isStencils_33 : decode b_M_isStencils 33 = .ok (.iload_n 0, 1) := by decide +kernel
theorem d_M_isStencils_34 : decode b_M_isStencils 34 = .ok (.iconst 5, 1) := by decide +kernel
theorem d_M_isStencils_35 : decode b_M_isStencils 35 = .ok (.if_icmp .ge 15, 3) := by decide +kernel
theorem d_M_isStencils_38 : decode b_M_isStencils 38 = .ok (.iload_n 1, 1) := by decide +kernel
theorem d_M_isStencils_39 : decode b_M_isStencils 39 = .ok (.i2l, 1) := by decide +kernel
theorem d_M_isStencils_40 : decode b_M_isStencils 40 = .ok (.lconst 0, 1) := by decide +kernel
theorem d_M_isStencils_41 : decode b_M_isStencils 41 = .ok (.ldc2_w 63, 3) := by decide +kernel
theorem d_M_isStencils_44 : decode b_M_isStencils 44 = .ok (.invokestatic 51, 3) := by decide +kernel
theorem d_M_isStencils_47 : decode b_M_isStencils 47 = .ok (.goto 12, 3) := by decide +kernel
theorem d_M_isStencils_50 : decode b_M_isStencils 50 = .ok (.iload_n 1, 1) := by decide +kernel
theorem d_M_isStencils_51 : decode b_M_isStencils 51 = .ok (.i2l, 1) := by decide +kernel
theorem d_M_isStencils_52 : decode b_M_isStencils 52 = .ok (.lconst 0, 1) := by decide +kernel
theorem d_M_isStencils_53 : decode b_M_isStencils 53 = .ok (.ldc2_w 61, 3) := by decide +kernel
theorem d_M_isStencils_56 : decode b_M_isStencils 56 = .ok (.invokestatic 51, 3) := by decide +kernel
theorem d_M_isStencils_59 : decode b_M_isStencils 59 = .ok (.ireturn, 1) := by decide +kernel
theorem d_M_isCopys_0 : decode b_M_isCopys 0 = .ok (.iload_n 0, 1) := by decide +kernel
theorem d_M_isCopys_1 : decode b_M_isCopys 1 = .ok (.iconst 2, 1) := by decide +kernel
theorem d_M_isCopys_2 : decode b_M_isCopys 2 = .ok (.if_icmp .ge 15, 3) := by decide +kernel
theorem d_M_isCopys_5 : decode b_M_isCopys 5 = .ok (.iload_n 1, 1) := by decide +kernel
theorem d_M_isCopys_6 : decode b_M_isCopys 6 = .ok (.i2l, 1) := by decide +kernel
theorem d_M_isCopys_7 : decode b_M_isCopys 7 = .ok (.lconst 0, 1) := by decide +kernel
theorem d_M_isCopys_8 : decode b_M_isCopys 8 = .ok (.ldc2_w 73, 3) := by decide +kernel
theorem d_M_isCopys_11 : decode b_M_isCopys 11 = .ok (.invokestatic 51, 3) := by decide +kernel
theorem d_M_isCopys_14 : decode b_M_isCopys 14 = .ok (.goto 46, 3) := by decide +kernel
theorem d_M_isCopys_17 : decode b_M_isCopys 17 = .ok (.iload_n 0, 1) := by decide +kernel
theorem d_M_isCopys_18 : decode b_M_isCopys 18 = .ok (.iconst 4, 1) := by decide +kernel
theorem d_M_isCopys_19 : decode b_M_isCopys 19 = .ok (.if_icmp .ge 15, 3) := by decide +kernel
theorem d_M_isCopys_22 : decode b_M_isCopys 22 = .ok (.iload_n 1, 1) := by decide +kernel
theorem d_M_isCopys_23 : decode b_M_isCopys 23 = .ok (.i2l, 1) := by decide +kernel
theorem d_M_isCopys_24 : decode b_M_isCopys 24 = .ok (.lconst 1, 1) := by decide +kernel
theorem d_M_isCopys_25 : decode b_M_isCopys 25 = .ok (.ldc2_w 75, 3) := by decide +kernel
theorem d_M_isCopys_28 : decode b_M_isCopys 28 = .ok (.invokestatic 51, 3) := by decide +kernel
theorem d_M_isCopys_31 : decode b_M_isCopys 31 = .ok (.goto 29, 3) := by decide +kernel
theorem d_M_isCopys_34 : decode b_M_isCopys 34 = .ok (.iload_n 0, 1) := by decide +kernel
theorem d_M_isCopys_35 : decode b_M_isCopys 35 = .ok (.iconst 4, 1) := by decide +kernel
theorem d_M_isCopys_36 : decode b_M_isCopys 36 = .ok (.if_icmp .ne 15, 3) := by decide +kernel
theorem d_M_isCopys_39 : decode b_M_isCopys 39 = .ok (.iload_n 1, 1) := by decide +kernel
theorem d_M_isCopys_40 : decode b_M_isCopys 40 = .ok (.i2l, 1) := by decide +kernel
theorem d_M_isCopys_41 : decode b_M_isCopys 41 = .ok (.lconst 0, 1) := by decide +kernel
theorem d_M_isCopys_42 : decode b_M_isCopys 42 = .ok (.ldc2_w 67, 3) := by decide +kernel
theorem d_M_isCopys_45 : decode b_M_isCopys 45 = .ok (.invokestatic 51, 3) := by decide +kernel
theorem d_M_isCopys_48 : decode b_M_isCopys 48 = .ok (.goto 12, 3) := by decide +kernel
theorem d_M_isCopys_51 : decode b_M_isCopys 51 = .ok (.iload_n 1, 1) := by decide +kernel
theorem d_M_isCopys_52 : decode b_M_isCopys 52 = .ok (.i2l, 1) := by decide +kernel
theorem d_M_isCopys_53 : decode b_M_isCopys 53 = .ok (.lconst 0, 1) := by decide +kernel
theorem d_M_isCopys_54 : decode b_M_isCopys 54 = .ok (.ldc2_w 77, 3) := by decide +kernel
theorem d_M_isCopys_57 : decode b_M_isCopys 57 = .ok (.invokestatic 51, 3) := by decide +kernel
theorem d_M_isCopys_60 : decode b_M_isCopys 60 = .ok (.ireturn, 1) := by decide +kernel
theorem d_M_liesRight_0 : decode b_M_liesRight 0 = .ok (.aload_n 0, 1) := by decide +kernel
theorem d_M_liesRight_1 : decode b_M_liesRight 1 = .ok (.getfield 35, 3) := by decide +kernel
theorem d_M_liesRight_4 : decode b_M_liesRight 4 = .ok (.iconst 0, 1) := by decide +kernel
theorem d_M_liesRight_5 : decode b_M_liesRight 5 = .ok (.iaload, 1) := by decide +kernel
theorem d_M_liesRight_6 : decode b_M_liesRight 6 = .ok (.istore_n 2, 1) := by decide +kernel
theorem d_M_liesRight_7 : decode b_M_liesRight 7 = .ok (.aload_n 0, 1) := by decide +kernel
theorem d_M_liesRight_8 : decode b_M_liesRight 8 = .ok (.getfield 35, 3) := by decide +kernel
theorem d_M_liesRight_11 : decode b_M_liesRight 11 = .ok (.iconst 1, 1) := by decide +kernel
theorem d_M_liesRight_12 : decode b_M_liesRight 12 = .ok (.iaload, 1) := by decide +kernel
theorem d_M_liesRight_13 : decode b_M_liesRight 13 = .ok (.istore_n 3, 1) := by decide +kernel
theorem d_M_liesRight_14 : decode b_M_liesRight 14 = .ok (.iload_n 1, 1) := by decide +kernel
theorem d_M_liesRight_15 : decode b_M_liesRight 15 = .ok (.tableswitch 219 6 23 #[85, 119, 119, 219, 219, 219, 219, 219, 219, 219, 219, 219, 219, 219, 132, 197, 219, 206], 85) := by decide +kernel
theorem d_M_liesRight_100 : decode b_M_liesRight 100 = .ok (.iload_n 2, 1) := by decide +kernel
theorem d_M_liesRight_101 : decode b_M_liesRight 101 = .ok (.iload_n 3, 1) := by decide +kernel
theorem d_M_liesRight_102 : decode b_M_liesRight 102 = .ok (.iadd, 1) := by decide +kernel
theorem d_M_liesRight_103 : decode b_M_liesRight 103 = .ok (.bipush 32, 2) := by decide +kernel
theorem d_M_liesRight_105 : decode b_M_liesRight 105 = .ok (.if_icmp .gt 27, 3) := by decide +kernel
theorem d_M_liesRight_108 : decode b_M_liesRight 108 = .ok (.aload_n 0, 1) := by decide +kernel
theorem d_M_liesRight_109 : decode b_M_liesRight 109 = .ok (.aload_n 0, 1) := by decide +kernel
theorem d_M_liesRight_110 : decode b_M_liesRight 110 = .ok (.getfield 35, 3) := by decide +kernel
theorem d_M_liesRight_113 : decode b_M_liesRight 113 = .ok (.iconst 2, 1) := by decide +kernel
theorem d_M_liesRight_114 : decode b_M_liesRight 114 = .ok (.iaload, 1) := by decide +kernel
theorem d_M_liesRight_115 : decode b_M_liesRight 115 = .ok (.i2l, 1) := by decide +kernel
theorem d_M_liesRight_116 : decode b_M_liesRight 116 = .ok (.ldc2_w 83, 3) := by decide +kernel
theorem d_M_liesRight_119 : decode b_M_liesRight 119 = .ok (.iload_n 3, 1) := by decide +kernel
theorem d_M_liesRight_120 : decode b_M_liesRight 120 = .ok (.i2l, 1) := by decide +kernel
theorem d_M_liesRight_121 : decode b_M_liesRight 121 = .ok (.lmul, 1) := by decide +kernel
theorem d_M_liesRight_122 : decode b_M_liesRight 122 = .ok (.invokevirtual 156, 3) := by decide +kernel
theorem d_M_liesRight_125 : decode b_M_liesRight 125 = .ok (.ifCond .eq 7, 3) := by decide +kernel
theorem d_M_liesRight_128 : decode b_M_liesRight 128 = .ok (.iconst 1, 1) := by decide +kernel
theorem d_M_liesRight_129 : decode b_M_liesRight 129 = .ok (.goto 4, 3) := by decide +kernel
theorem d_M_liesRight_132 : decode b_M_liesRight 132 = .ok (.iconst 0, 1) := by decide +kernel
theorem d_M_liesRight_133 : decode b_M_liesRight 133 = .ok (.ireturn, 1) := by decide +kernel
theorem d_M_liesRight_134 : decode b_M_liesRight 134 = .ok (.aload_n 0, 1) := by decide +kernel
theorem d_M_liesRight_135 : decode b_M_liesRight 135 = .ok (.iload_n 2, 1) := by decide +kernel
theorem d_M_liesRight_136 : decode b_M_liesRight 136 = .ok (.i2l, 1) := by decide +kernel
theorem d_M_liesRight_137 : decode b_M_liesRight 137 = .ok (.ldc2_w 65, 3) := by decide +kernel
theorem d_M_liesRight_140 : decode b_M_liesRight 140 = .ok (.iload_n 3, 1) := by decide +kernel
theorem d_M_liesRight_141 : decode b_M_liesRight 141 = .ok (.i2l, 1) := by decide +kernel
theorem d_M_liesRight_142 : decode b_M_liesRight 142 = .ok (.lmul, 1) := by decide +kernel
theorem d_M_liesRight_143 : decode b_M_liesRight 143 = .ok (.invokevirtual 156, 3) := by decide +kernel
theorem d_M_liesRight_146 : decode b_M_liesRight 146 = .ok (.ireturn, 1) := by decide +kernel
theorem d_M_liesRight_147 : decode b_M_liesRight 147 = .ok (.iload_n 2, 1) := by decide +kernel
theorem d_M_liesRight_148 : decode b_M_liesRight 148 = .ok (.aload_n 0, 1) := by decide +kernel
theorem d_M_liesRight_149 : decode b_M_liesRight 149 = .ok (.getfield 35, 3) := by decide +kernel
theorem d_M_liesRight_152 : decode b_M_liesRight 152 = .ok (.iconst 2, 1) := by decide +kernel
theorem d_M_liesRight_153 : decode b_M_liesRight 153 = .ok (.iaload, 1) := by decide +kernel
theorem d_M_liesRight_154 : decode b_M_liesRight 154 = .ok (.iadd, 1) := by decide +kernel
theorem d_M_liesRight_155 : decode b_M_liesRight 155 = .ok (.aload_n 0, 1) := by decide +kernel
theorem d_M_liesRight_156 : decode b_M_liesRight 156 = .ok (.getfield 13, 3) := by decide +kernel
theorem d_M_liesRight_159 : decode b_M_liesRight 159 = .ok (.if_icmp .gt 51, 3) := by decide +kernel
theorem d_M_liesRight_162 : decode b_M_liesRight 162 = .ok (.iload_n 3, 1) := by decide +kernel
theorem d_M_liesRight_163 : decode b_M_liesRight 163 = .ok (.aload_n 0, 1) := by decide +kernel
theorem d_M_liesRight_164 : decode b_M_liesRight 164 = .ok (.getfield 35, 3) := by decide +kernel
theorem d_M_liesRight_167 : decode b_M_liesRight 167 = .ok (.iconst 3, 1) := by decide +kernel
theorem d_M_liesRight_168 : decode b_M_liesRight 168 = .ok (.iaload, 1) := by decide +kernel
theorem d_M_liesRight_169 : decode b_M_liesRight 169 = .ok (.iadd, 1) := by decide +kernel
theorem d_M_liesRight_170 : decode b_M_liesRight 170 = .ok (.aload_n 0, 1) := by decide +kernel
theorem d_M_liesRight_171 : decode b_M_liesRight 171 = .ok (.getfield 17, 3) := by decide +kernel
theorem d_M_liesRight_174 : decode b_M_liesRight 174 = .ok (.if_icmp .gt 36, 3) := by decide +kernel
theorem d_M_liesRight_177 : decode b_M_liesRight 177 = .ok (.aload_n 0, 1) := by decide +kernel
theorem d_M_liesRight_178 : decode b_M_liesRight 178 = .ok (.aload_n 0, 1) := by decide +kernel
theorem d_M_liesRight_179 : decode b_M_liesRight 179 = .ok (.getfield 35, 3) := by decide +kernel
theorem d_M_liesRight_182 : decode b_M_liesRight 182 = .ok (.iconst 4, 1) := by decide +kernel
theorem d_M_liesRight_183 : decode b_M_liesRight 183 = .ok (.iaload, 1) := by decide +kernel
theorem d_M_liesRight_184 : decode b_M_liesRight 184 = .ok (.i2l, 1) := by decide +kernel
theorem d_M_liesRight_185 : decode b_M_liesRight 185 = .ok (.aload_n 0, 1) := by decide +kernel
theorem d_M_liesRight_186 : decode b_M_liesRight 186 = .ok (.getfield 35, 3) := by decide +kernel
theorem d_M_liesRight_189 : decode b_M_liesRight 189 = .ok (.iconst 2, 1) := by decide +kernel
theorem d_M_liesRight_190 : decode b_M_liesRight 190 = .ok (.iaload, 1) := by decide +kernel
theorem d_M_liesRight_191 : decode b_M_liesRight 191 = .ok (.i2l, 1) := by decide +kernel
theorem d_M_liesRight_192 : decode b_M_liesRight 192 = .ok (.aload_n 0, 1) := by decide +kernel
theorem d_M_liesRight_193 : decode b_M_liesRight 193 = .ok (.getfield 35, 3) := by decide +kernel
theorem d_M_liesRight_196 : decode b_M_liesRight 196 = .ok (.iconst 3, 1) := by decide +kernel
theorem d_M_liesRight_197 : decode b_M_liesRight 197 = .ok (.iaload, 1) := by decide +kernel
theorem d_M_liesRight_198 : decode b_M_liesRight 198 = .ok (.i2l, 1) := by decide +kernel
theorem d_M_liesRight_199 : decode b_M_liesRight 199 = .ok (.lmul, 1) := by decide +kernel
theorem d_M_liesRight_200 : decode b_M_liesRight 200 = .ok (.invokevirtual 156, 3) := by decide +kernel
theorem d_M_liesRight_203 : decode b_M_liesRight 203 = .ok (.ifCond .eq 7, 3) := by decide +kernel
theorem d_M_liesRight_206 : decode b_M_liesRight 206 = .ok (.iconst 1, 1) := by decide +kernel
theorem d_M_liesRight_207 : decode b_M_liesRight 207 = .ok (.goto 4, 3) := by decide +kernel
theorem d_M_liesRight_210 : decode b_M_liesRight 210 = .ok (.iconst 0, 1) := by decide +kernel
theorem d_M_liesRight_211 : decode b_M_liesRight 211 = .ok (.ireturn, 1) := by decide +kernel
theorem d_M_liesRight_212 : decode b_M_liesRight 212 = .ok (.aload_n 0, 1) := by decide +kernel
theorem d_M_liesRight_213 : decode b_M_liesRight 213 = .ok (.iload_n 2, 1) := by decide +kernel
theorem d_M_liesRight_214 : decode b_M_liesRight 214 = .ok (.i2l, 1) := by decide +kernel
theorem d_M_liesRight_215 : decode b_M_liesRight 215 = .ok (.iload_n 3, 1) := by decide +kernel
theorem d_M_liesRight_216 : decode b_M_liesRight 216 = .ok (.i2l, 1) := by decide +kernel
theorem d_M_liesRight_217 : decode b_M_liesRight 217 = .ok (.invokevirtual 156, 3) := by decide +kernel
theorem d_M_liesRight_220 : decode b_M_liesRight 220 = .ok (.ireturn, 1) := by decide +kernel
theorem d_M_liesRight_221 : decode b_M_liesRight 221 = .ok (.iload_n 2, 1) := by decide +kernel
theorem d_M_liesRight_222 : decode b_M_liesRight 222 = .ok (.sipush 4096, 3) := by decide +kernel
theorem d_M_liesRight_225 : decode b_M_liesRight 225 = .ok (.if_icmp .ge 7, 3) := by decide +kernel
theorem d_M_liesRight_228 : decode b_M_liesRight 228 = .ok (.iconst 1, 1) := by decide +kernel
theorem d_M_liesRight_229 : decode b_M_liesRight 229 = .ok (.goto 4, 3) := by decide +kernel
theorem d_M_liesRight_232 : decode b_M_liesRight 232 = .ok (.iconst 0, 1) := by decide +kernel
theorem d_M_liesRight_233 : decode b_M_liesRight 233 = .ok (.ireturn, 1) := by decide +kernel
theorem d_M_liesRight_234 : decode b_M_liesRight 234 = .ok (.iconst 1, 1) := by decide +kernel
theorem d_M_liesRight_235 : decode b_M_liesRight 235 = .ok (.ireturn, 1) := by decide +kernel
theorem d_M_isInMemory_0 : decode b_M_isInMemory 0 = .ok (.lload_n 3, 1) := by decide +kernel
theorem d_M_isInMemory_1 : decode b_M_isInMemory 1 = .ok (.lconst 0, 1) := by decide +kernel
theorem d_M_isInMemory_2 : decode b_M_isInMemory 2 = .ok (.lcmp, 1) := by decide +kernel
theorem d_M_isInMemory_3 : decode b_M_isInMemory 3 = .ok (.ifCond .eq 13, 3) := by decide +kernel
theorem d_M_isInMemory_6 : decode b_M_isInMemory 6 = .ok (.lload_n 1, 1) := by decide +kernel
theorem d_M_isInMemory_7 : decode b_M_isInMemory 7 = .ok (.lload_n 3, 1) := by decide +kernel
theorem d_M_isInMemory_8 : decode b_M_isInMemory 8 = .ok (.ladd, 1) := by decide +kernel
theorem d_M_isInMemory_9 : decode b_M_isInMemory 9 = .ok (.ldc2_w 101, 3) := by decide +kernel
theorem d_M_isInMemory_12 : decode b_M_isInMemory 12 = .ok (.lcmp, 1) := by decide +kernel
theorem d_M_isInMemory_13 : decode b_M_isInMemory 13 = .ok (.ifCond .gt 7, 3) := by decide +kernel
theorem d_M_isInMemory_16 : decode b_M_isInMemory 16 = .ok (.iconst 1, 1) := by decide +kernel
theorem d_M_isInMemory_17 : decode b_M_isInMemory 17 = .ok (.goto 4, 3) := by decide +kernel
theorem d_M_isInMemory_20 : decode b_M_isInMemory 20 = .ok (.iconst 0, 1) := by decide +kernel
theorem d_M_isInMemory_21 : decode b_M_isInMemory 21 = .ok (.ireturn, 1) := by decide +kernel
theorem d_M_fitsState_0 : decode b_M_fitsState 0 = .ok (.iload_n 1, 1) := by decide +kernel
theorem d_M_fitsState_1 : decode b_M_fitsState 1 = .ok (.tableswitch 136 17 23 #[43, 43, 77, 136, 136, 136, 122], 43) := by decide +kernel
theorem d_M_fitsState_44 : decode b_M_fitsState 44 = .ok (.aload_n 0, 1) := by decide +kernel
theorem d_M_fitsState_45 : decode b_M_fitsState 45 = .ok (.getfield 38, 3) := by decide +kernel
theorem d_M_fitsState_48 : decode b_M_fitsState 48 = .ok (.bipush 7, 2) := by decide +kernel
theorem d_M_fitsState_50 : decode b_M_fitsState 50 = .ok (.iconst 0, 1) := by decide +kernel
theorem d_M_fitsState_51 : decode b_M_fitsState 51 = .ok (.invokestatic 113, 3) := by decide +kernel
theorem d_M_fitsState_54 : decode b_M_fitsState 54 = .ok (.iaload, 1) := by decide +kernel
theorem d_M_fitsState_55 : decode b_M_fitsState 55 = .ok (.ifCond .lt 21, 3) := by decide +kernel
theorem d_M_fitsState_58 : decode b_M_fitsState 58 = .ok (.aload_n 0, 1) := by decide +kernel
theorem d_M_fitsState_59 : decode b_M_fitsState 59 = .ok (.getfield 38, 3) := by decide +kernel
theorem d_M_fitsState_62 : decode b_M_fitsState 62 = .ok (.bipush 8, 2) := by decide +kernel
theorem d_M_fitsState_64 : decode b_M_fitsState 64 = .ok (.iconst 0, 1) := by decide +kernel
theorem d_M_fitsState_65 : decode b_M_fitsState 65 = .ok (.invokestatic 113, 3) := by decide +kernel
theorem d_M_fitsState_68 : decode b_M_fitsState 68 = .ok (.iaload, 1) := by decide +kernel
theorem d_M_fitsState_69 : decode b_M_fitsState 69 = .ok (.ifCond .lt 7, 3) := by decide +kernel
theorem d_M_fitsState_72 : decode b_M_fitsState 72 = .ok (.iconst 1, 1) := by decide +kernel
theorem d_M_fitsState_73 : decode b_M_fitsState 73 = .ok (.goto 4, 3) := by decide +kernel
theorem d_M_fitsState_76 : decode b_M_fitsState 76 = .ok (.iconst 0, 1) := by decide +kernel
theorem d_M_fitsState_77 : decode b_M_fitsState 77 = .ok (.ireturn, 1) := by decide +kernel
theorem d_M_fitsState_78 : decode b_M_fitsState 78 = .ok (.aload_n 0, 1) := by decide +kernel
theorem d_M_fitsState_79 : decode b_M_fitsState 79 = .ok (.getfield 35, 3) := by decide +kernel
theorem d_M_fitsState_82 : decode b_M_fitsState 82 = .ok (.iconst 1, 1) := by decide +kernel
theorem d_M_fitsState_83 : decode b_M_fitsState 83 = .ok (.iaload, 1) := by decide +kernel
theorem d_M_fitsState_84 : decode b_M_fitsState 84 = .ok (.iconst 1, 1) := by decide +kernel
theorem d_M_fitsState_85 : decode b_M_fitsState 85 = .ok (.if_icmp .ne 19, 3) := by decide +kernel
theorem d_M_fitsState_88 : decode b_M_fitsState 88 = .ok (.aload_n 0, 1) := by decide +kernel
theorem d_M_fitsState_89 : decode b_M_fitsState 89 = .ok (.getfield 32, 3) := by decide +kernel
theorem d_M_fitsState_92 : decode b_M_fitsState 92 = .ok (.iconst (-1), 1) := by decide +kernel
theorem d_M_fitsState_93 : decode b_M_fitsState 93 = .ok (.if_icmp .ne 7, 3) := by decide +kernel
theorem d_M_fitsState_96 : decode b_M_fitsState 96 = .ok (.iconst 1, 1) := by decide +kernel
theorem d_M_fitsState_97 : decode b_M_fitsState 97 = .ok (.goto 25, 3) := by decide +kernel
theorem d_M_fitsState_100 : decode b_M_fitsState 100 = .ok (.iconst 0, 1) := by decide +kernel
theorem d_M_fitsState_101 : decode b_M_fitsState 101 = .ok (.goto 21, 3) := by decide +kernel
theorem d_M_fitsState_104 : decode b_M_fitsState 104 = .ok (.aload_n 0, 1) := by decide +kernel
theorem d_M_fitsState_105 : decode b_M_fitsState 105 = .ok (.getfield 32, 3) := by decide +kernel
theorem d_M_fitsState_108 : decode b_M_fitsState 108 = .ok (.aload_n 0, 1) := by decide +kernel
theorem d_M_fitsState_109 : decode b_M_fitsState 109 = .ok (.getfield 35, 3) := by decide +kernel
theorem d_M_fitsState_112 : decode b_M_fitsState 112 = .ok (.iconst 0, 1) := by decide +kernel
theorem d_M_fitsState_113 : decode b_M_fitsState 113 = .ok (.iaload, 1) := by decide +kernel
theorem d_M_fitsState_114 : decode b_M_fitsState 114 = .ok (.if_icmp .ne 7, 3) := by decide +kernel
theorem d_M_fitsState_117 : decode b_M_fitsState 117 = .ok (.iconst 1, 1) := by decide +kernel
theorem d_M_fitsState_118 : decode b_M_fitsState 118 = .ok (.goto 4, 3) := by decide +kernel
theorem d_M_fitsState_121 : decode b_M_fitsState 121 = .ok (.iconst 0, 1) := by decide +kernel
theorem d_M_fitsState_122 : decode b_M_fitsState 122 = .ok (.ireturn, 1) := by decide +kernel
theorem d_M_fitsState_123 : decode b_M_fitsState 123 = .ok (.aload_n 0, 1) := by decide +kernel
theorem d_M_fitsState_124 : decode b_M_fitsState 124 = .ok (.getfield 130, 3) := by decide +kernel
theorem d_M_fitsState_127 : decode b_M_fitsState 127 = .ok (.iconst 4, 1) := by decide +kernel
theorem d_M_fitsState_128 : decode b_M_fitsState 128 = .ok (.if_icmp .ge 7, 3) := by decide +kernel
theorem d_M_fitsState_131 : decode b_M_fitsState 131 = .ok (.iconst 1, 1) := by decide +kernel
theorem d_M_fitsState_132 : decode b_M_fitsState 132 = .ok (.goto 4, 3) := by decide +kernel
theorem d_M_fitsState_135 : decode b_M_fitsState 135 = .ok (.iconst 0, 1) := by decide +kernel
theorem d_M_fitsState_136 : decode b_M_fitsState 136 = .ok (.ireturn, 1) := by decide +kernel
theorem d_M_fitsState_137 : decode b_M_fitsState 137 = .ok (.iconst 1, 1) := by decide +kernel
theorem d_M_fitsState_138 : decode b_M_fitsState 138 = .ok (.ireturn, 1) := by decide +kernel
theorem d_M_perform_0 : decode b_M_perform 0 = .ok (.iload_n 1, 1) := by decide +kernel
theorem d_M_perform_1 : decode b_M_perform 1 = .ok (.lookupswitch 266 #[(0, 51), (6, 205), (19, 136), (21, 163), (23, 100)], 51) := by decide +kernel
theorem d_M_perform_52 : decode b_M_perform 52 = .ok (.aload_n 0, 1) := by decide +kernel
theorem d_M_perform_53 : decode b_M_perform 53 = .ok (.aload_n 0, 1) := by decide +kernel
theorem d_M_perform_54 : decode b_M_perform 54 = .ok (.getfield 130, 3) := by decide +kernel
theorem d_M_perform_57 : decode b_M_perform 57 = .ok (.ifCond .ne 7, 3) := by decide +kernel
theorem d_M_perform_60 : decode b_M_perform 60 = .ok (.iconst 1, 1) := by decide +kernel
theorem d_M_perform_61 : decode b_M_perform 61 = .ok (.goto 4, 3) := by decide +kernel
theorem d_M_perform_64 : decode b_M_perform 64 = .ok (.iconst 0, 1) := by decide +kernel
theorem d_M_perform_65 : decode b_M_perform 65 = .ok (.putfield 133, 3) := by decide +kernel
theorem d_M_perform_68 : decode b_M_perform 68 = .ok (.aload_n 0, 1) := by decide +kernel
theorem d_M_perform_69 : decode b_M_perform 69 = .ok (.getfield 130, 3) := by decide +kernel
theorem d_M_perform_72 : decode b_M_perform 72 = .ok (.ifCond .le 200, 3) := by decide +kernel
theorem d_M_perform_75 : decode b_M_perform 75 = .ok (.aload_n 0, 1) := by decide +kernel
theorem d_M_perform_76 : decode b_M_perform 76 = .ok (.dup, 1) := by decide +kernel
theorem d_M_perform_77 : decode b_M_perform 77 = .ok (.getfield 130, 3) := by decide +kernel
theorem d_M_perform_80 : decode b_M_perform 80 = .ok (.iconst 1, 1) := by decide +kernel
theorem d_M_perform_81 : decode b_M_perform 81 = .ok (.isub, 1) := by decide +kernel
theorem d_M_perform_82 : decode b_M_perform 82 = .ok (.putfield 130, 3) := by decide +kernel
theorem d_M_perform_85 : decode b_M_perform 85 = .ok (.aload_n 0, 1) := by decide +kernel
theorem d_M_perform_86 : decode b_M_perform 86 = .ok (.aload_n 0, 1) := by decide +kernel
theorem d_M_perform_87 : decode b_M_perform 87 = .ok (.getfield 23, 3) := by decide +kernel
theorem d_M_perform_90 : decode b_M_perform 90 = .ok (.aload_n 0, 1) := by decide +kernel
theorem d_M_perform_91 : decode b_M_perform 91 = .ok (.getfield 130, 3) := by decide +kernel
theorem d_M_perform_94 : decode b_M_perform 94 = .ok (.iaload, 1) := by decide +kernel
theorem d_M_perform_95 : decode b_M_perform 95 = .ok (.putfield 127, 3) := by decide +kernel
theorem d_M_perform_98 : decode b_M_perform 98 = .ok (.goto 174, 3) := by decide +kernel
theorem d_M_perform_101 : decode b_M_perform 101 = .ok (.aload_n 0, 1) := by decide +kernel
theorem d_M_perform_102 : decode b_M_perform 102 = .ok (.getfield 23, 3) := by decide +kernel
theorem d_M_perform_105 : decode b_M_perform 105 = .ok (.aload_n 0, 1) := by decide +kernel
theorem d_M_perform_106 : decode b_M_perform 106 = .ok (.getfield 130, 3) := by decide +kernel
theorem d_M_perform_109 : decode b_M_perform 109 = .ok (.aload_n 0, 1) := by decide +kernel
theorem d_M_perform_110 : decode b_M_perform 110 = .ok (.getfield 127, 3) := by decide +kernel
theorem d_M_perform_113 : decode b_M_perform 113 = .ok (.iastore, 1) := by decide +kernel
theorem d_M_perform_114 : decode b_M_perform 114 = .ok (.aload_n 0, 1) := by decide +kernel
theorem d_M_perform_115 : decode b_M_perform 115 = .ok (.dup, 1) := by decide +kernel
theorem d_M_perform_116 : decode b_M_perform 116 = .ok (.getfield 130, 3) := by decide +kernel
theorem d_M_perform_119 : decode b_M_perform 119 = .ok (.iconst 1, 1) := by decide +kernel
theorem d_M_perform_120 : decode b_M_perform 120 = .ok (.iadd, 1) := by decide +kernel
theorem d_M_perform_121 : decode b_M_perform 121 = .ok (.putfield 130, 3) := by decide +kernel
theorem d_M_perform_124 : decode b_M_perform 124 = .ok (.aload_n 0, 1) := by decide +kernel
theorem d_M_perform_125 : decode b_M_perform 125 = .ok (.aload_n 0, 1) := by decide +kernel
theorem d_M_perform_126 : decode b_M_perform 126 = .ok (.getfield 35, 3) := by decide +kernel
theorem d_M_perform_129 : decode b_M_perform 129 = .ok (.iconst 0, 1) := by decide +kernel
theorem d_M_perform_130 : decode b_M_perform 130 = .ok (.iaload, 1) := by decide +kernel
theorem d_M_perform_131 : decode b_M_perform 131 = .ok (.putfield 127, 3) := by decide +kernel
theorem d_M_perform_134 : decode b_M_perform 134 = .ok (.goto 138, 3) := by decide +kernel
theorem d_M_perform_137 : decode b_M_perform 137 = .ok (.aload_n 0, 1) := by decide +kernel
theorem d_M_perform_138 : decode b_M_perform 138 = .ok (.aload_n 0, 1) := by decide +kernel
theorem d_M_perform_139 : decode b_M_perform 139 = .ok (.getfield 35, 3) := by decide +kernel
theorem d_M_perform_142 : decode b_M_perform 142 = .ok (.iconst 1, 1) := by decide +kernel
theorem d_M_perform_143 : decode b_M_perform 143 = .ok (.iaload, 1) := by decide +kernel
theorem d_M_perform_144 : decode b_M_perform 144 = .ok (.iconst 1, 1) := by decide +kernel
theorem d_M_perform_145 : decode b_M_perform 145 = .ok (.if_icmp .ne 12, 3) := by decide +kernel
theorem d_M_perform_148 : decode b_M_perform 148 = .ok (.aload_n 0, 1) := by decide +kernel
theorem d_M_perform_149 : decode b_M_perform 149 = .ok (.getfield 35, 3) := by decide +kernel
theorem d_M_perform_152 : decode b_M_perform 152 = .ok (.iconst 0, 1) := by decide +kernel
theorem d_M_perform_153 : decode b_M_perform 153 = .ok (.iaload, 1) := by decide +kernel
theorem d_M_perform_154 : decode b_M_perform 154 = .ok (.goto 4, 3) := by decide +kernel
theorem d_M_perform_157 : decode b_M_perform 157 = .ok (.iconst (-1), 1) := by decide +kernel
theorem d_M_perform_158 : decode b_M_perform 158 = .ok (.putfield 32, 3) := by decide +kernel
theorem d_M_perform_161 : decode b_M_perform 161 = .ok (.goto 111, 3) := by decide +kernel
theorem d_M_perform_164 : decode b_M_perform 164 = .ok (.iconst 0, 1) := by decide +kernel
theorem d_M_perform_165 : decode b_M_perform 165 = .ok (.istore_n 2, 1) := by decide +kernel
theorem d_M_perform_166 : decode b_M_perform 166 = .ok (.iload_n 2, 1) := by decide +kernel
theorem d_M_perform_167 : decode b_M_perform 167 = .ok (.aload_n 0, 1) := by decide +kernel
theorem d_M_perform_168 : decode b_M_perform 168 = .ok (.getfield 35, 3) := by decide +kernel
theorem d_M_perform_171 : decode b_M_perform 171 = .ok (.iconst 1, 1) := by decide +kernel
theorem d_M_perform_172 : decode b_M_perform 172 = .ok (.iaload, 1) := by decide +kernel
theorem d_M_perform_173 : decode b_M_perform 173 = .ok (.if_icmp .ge 30, 3) := by decide +kernel
theorem d_M_perform_176 : decode b_M_perform 176 = .ok (.aload_n 0, 1) := by decide +kernel
theorem d_M_perform_177 : decode b_M_perform 177 = .ok (.getfield 7, 3) := by decide +kernel
theorem d_M_perform_180 : decode b_M_perform 180 = .ok (.aload_n 0, 1) := by decide +kernel
theorem d_M_perform_181 : decode b_M_perform 181 = .ok (.getfield 35, 3) := by decide +kernel
theorem d_M_perform_184 : decode b_M_perform 184 = .ok (.iconst 0, 1) := by decide +kernel
theorem d_M_perform_185 : decode b_M_perform 185 = .ok (.iaload, 1) := by decide +kernel
theorem d_M_perform_186 : decode b_M_perform 186 = .ok (.iload_n 2, 1) := by decide +kernel
theorem d_M_perform_187 : decode b_M_perform 187 = .ok (.iadd, 1) := by decide +kernel
theorem d_M_perform_188 : decode b_M_perform 188 = .ok (.aload_n 0, 1) := by decide +kernel
theorem d_M_perform_189 : decode b_M_perform 189 = .ok (.getfield 35, 3) := by decide +kernel
theorem d_M_perform_192 : decode b_M_perform 192 = .ok (.iconst 2, 1) := by decide +kernel
theorem d_M_perform_193 : decode b_M_perform 193 = .ok (.iload_n 2, 1) := by decide +kernel
theorem d_M_perform_194 : decode b_M_perform 194 = .ok (.iadd, 1) := by decide +kernel
theorem d_M_perform_195 : decode b_M_perform 195 = .ok (.iaload, 1) := by decide +kernel
theorem d_M_perform_196 : decode b_M_perform 196 = .ok (.iastore, 1) := by decide +kernel
theorem d_M_perform_197 : decode b_M_perform 197 = .ok (.iinc 2 1, 3) := by decide +kernel
theorem d_M_perform_200 : decode b_M_perform 200 = .ok (.goto (-34), 3) := by decide +kernel
theorem d_M_perform_203 : decode b_M_perform 203 = .ok (.goto 69, 3) := by decide +kernel
theorem d_M_perform_206 : decode b_M_perform 206 = .ok (.iconst 0, 1) := by decide +kernel
theorem d_M_perform_207 : decode b_M_perform 207 = .ok (.istore_n 2, 1) := by decide +kernel
theorem d_M_perform_208 : decode b_M_perform 208 = .ok (.iload_n 2, 1) := by decide +kernel
theorem d_M_perform_209 : decode b_M_perform 209 = .ok (.iconst 4, 1) := by decide +kernel
theorem d_M_perform_210 : decode b_M_perform 210 = .ok (.aload_n 0, 1) := by decide +kernel
theorem d_M_perform_211 : decode b_M_perform 211 = .ok (.getfield 35, 3) := by decide +kernel
theorem d_M_perform_214 : decode b_M_perform 214 = .ok (.iconst 1, 1) := by decide +kernel
theorem d_M_perform_215 : decode b_M_perform 215 = .ok (.iaload, 1) := by decide +kernel
theorem d_M_perform_216 : decode b_M_perform 216 = .ok (.imul, 1) := by decide +kernel
theorem d_M_perform_217 : decode b_M_perform 217 = .ok (.if_icmp .ge 47, 3) := by decide +kernel
theorem d_M_perform_220 : decode b_M_perform 220 = .ok (.aload_n 0, 1) := by decide +kernel
theorem d_M_perform_221 : decode b_M_perform 221 = .ok (.getfield 38, 3) := by decide +kernel
theorem d_M_perform_224 : decode b_M_perform 224 = .ok (.iconst 5, 1) := by decide +kernel
theorem d_M_perform_225 : decode b_M_perform 225 = .ok (.aload_n 0, 1) := by decide +kernel
theorem d_M_perform_226 : decode b_M_perform 226 = .ok (.getfield 35, 3) := by decide +kernel
theorem d_M_perform_229 : decode b_M_perform 229 = .ok (.iconst 0, 1) := by decide +kernel
theorem d_M_perform_230 : decode b_M_perform 230 = .ok (.iaload, 1) := by decide +kernel
theorem d_M_perform_231 : decode b_M_perform 231 = .ok (.iload_n 2, 1) := by decide +kernel
theorem d_M_perform_232 : decode b_M_perform 232 = .ok (.iconst 4, 1) := by decide +kernel
theorem d_M_perform_233 : decode b_M_perform 233 = .ok (.idiv, 1) := by decide +kernel
theorem d_M_perform_234 : decode b_M_perform 234 = .ok (.iadd, 1) := by decide +kernel
theorem d_M_perform_235 : decode b_M_perform 235 = .ok (.invokestatic 113, 3) := by decide +kernel
theorem d_M_perform_238 : decode b_M_perform 238 = .ok (.iconst 1, 1) := by decide +kernel
theorem d_M_perform_239 : decode b_M_perform 239 = .ok (.iadd, 1) := by decide +kernel
theorem d_M_perform_240 : decode b_M_perform 240 = .ok (.iload_n 2, 1) := by decide +kernel
theorem d_M_perform_241 : decode b_M_perform 241 = .ok (.iconst 4, 1) := by decide +kernel
theorem d_M_perform_242 : decode b_M_perform 242 = .ok (.irem, 1) := by decide +kernel
theorem d_M_perform_243 : decode b_M_perform 243 = .ok (.iadd, 1) := by decide +kernel
theorem d_M_perform_244 : decode b_M_perform 244 = .ok (.aload_n 0, 1) := by decide +kernel
theorem d_M_perform_245 : decode b_M_perform 245 = .ok (.getfield 7, 3) := by decide +kernel
theorem d_M_perform_248 : decode b_M_perform 248 = .ok (.aload_n 0, 1) := by decide +kernel
theorem d_M_perform_249 : decode b_M_perform 249 = .ok (.getfield 35, 3) := by decide +kernel
theorem d_M_perform_252 : decode b_M_perform 252 = .ok (.iconst 2, 1) := by decide +kernel
theorem d_M_perform_253 : decode b_M_perform 253 = .ok (.iaload, 1) := by decide +kernel
theorem d_M_perform_254 : decode b_M_perform 254 = .ok (.iload_n 2, 1) := by decide +kernel
theorem d_M_perform_255 : decode b_M_perform 255 = .ok (.iadd, 1) := by decide +kernel
theorem d_M_perform_256 : decode b_M_perform 256 = .ok (.iaload, 1) := by decide +kernel
theorem d_M_perform_257 : decode b_M_perform 257 = .ok (.iastore, 1) := by decide +kernel
theorem d_M_perform_258 : decode b_M_perform 258 = .ok (.iinc 2 1, 3) := by decide +kernel
theorem d_M_perform_261 : decode b_M_perform 261 = .ok (.goto (-53), 3) := by decide +kernel
theorem d_M_perform_264 : decode b_M_perform 264 = .ok (.goto 8, 3) := by decide +kernel
theorem d_M_perform_267 : decode b_M_perform 267 = .ok (.aload_n 0, 1) := by decide +kernel
theorem d_M_perform_268 : decode b_M_perform 268 = .ok (.iload_n 1, 1) := by decide +kernel
theorem d_M_perform_269 : decode b_M_perform 269 = .ok (.invokevirtual 183, 3) := by decide +kernel
theorem d_M_perform_272 : decode b_M_perform 272 = .ok (.return_, 1) := by decide +kernel
theorem d_M_keep_0 : decode b_M_keep 0 = .ok (.iload_n 1, 1) := by decide +kernel
theorem d_M_keep_1 : decode b_M_keep 1 = .ok (.invokestatic 110, 3) := by decide +kernel
theorem d_M_keep_4 : decode b_M_keep 4 = .ok (.ifCond .ne 4, 3) := by decide +kernel
theorem d_M_keep_7 : decode b_M_keep 7 = .ok (.return_, 1) := by decide +kernel
theorem d_M_keep_8 : decode b_M_keep 8 = .ok (.iload_n 1, 1) := by decide +kernel
theorem d_M_keep_9 : decode b_M_keep 9 = .ok (.iload_n 1, 1) := by decide +kernel
theorem d_M_keep_10 : decode b_M_keep 10 = .ok (.invokestatic 110, 3) := by decide +kernel
theorem d_M_keep_13 : decode b_M_keep 13 = .ok (.iconst 1, 1) := by decide +kernel
theorem d_M_keep_14 : decode b_M_keep 14 = .ok (.if_icmp .le 12, 3) := by decide +kernel
theorem d_M_keep_17 : decode b_M_keep 17 = .ok (.aload_n 0, 1) := by decide +kernel
theorem d_M_keep_18 : decode b_M_keep 18 = .ok (.getfield 35, 3) := by decide +kernel
theorem d_M_keep_21 : decode b_M_keep 21 = .ok (.iconst 0, 1) := by decide +kernel
theorem d_M_keep_22 : decode b_M_keep 22 = .ok (.iaload, 1) := by decide +kernel
theorem d_M_keep_23 : decode b_M_keep 23 = .ok (.goto 4, 3) := by decide +kernel
theorem d_M_keep_26 : decode b_M_keep 26 = .ok (.iconst 0, 1) := by decide +kernel
theorem d_M_keep_27 : decode b_M_keep 27 = .ok (.invokestatic 113, 3) := by decide +kernel
theorem d_M_keep_30 : decode b_M_keep 30 = .ok (.istore_n 2, 1) := by decide +kernel
theorem d_M_keep_31 : decode b_M_keep 31 = .ok (.iconst 0, 1) := by decide +kernel
theorem d_M_keep_32 : decode b_M_keep 32 = .ok (.istore_n 3, 1) := by decide +kernel
theorem d_M_keep_33 : decode b_M_keep 33 = .ok (.iload_n 3, 1) := by decide +kernel
theorem d_M_keep_34 : decode b_M_keep 34 = .ok (.aload_n 0, 1) := by decide +kernel
theorem d_M_keep_35 : decode b_M_keep 35 = .ok (.getfield 143, 3) := by decide +kernel
theorem d_M_keep_38 : decode b_M_keep 38 = .ok (.if_icmp .ge 23, 3) := by decide +kernel
theorem d_M_keep_41 : decode b_M_keep 41 = .ok (.aload_n 0, 1) := by decide +kernel
theorem d_M_keep_42 : decode b_M_keep 42 = .ok (.getfield 38, 3) := by decide +kernel
theorem d_M_keep_45 : decode b_M_keep 45 = .ok (.iload_n 2, 1) := by decide +kernel
theorem d_M_keep_46 : decode b_M_keep 46 = .ok (.iload_n 3, 1) := by decide +kernel
theorem d_M_keep_47 : decode b_M_keep 47 = .ok (.iadd, 1) := by decide +kernel
theorem d_M_keep_48 : decode b_M_keep 48 = .ok (.aload_n 0, 1) := by decide +kernel
theorem d_M_keep_49 : decode b_M_keep 49 = .ok (.getfield 35, 3) := by decide +kernel
theorem d_M_keep_52 : decode b_M_keep 52 = .ok (.iload_n 3, 1) := by decide +kernel
theorem d_M_keep_53 : decode b_M_keep 53 = .ok (.iaload, 1) := by decide +kernel
theorem d_M_keep_54 : decode b_M_keep 54 = .ok (.iastore, 1) := by decide +kernel
theorem d_M_keep_55 : decode b_M_keep 55 = .ok (.iinc 3 1, 3) := by decide +kernel
theorem d_M_keep_58 : decode b_M_keep 58 = .ok (.goto (-25), 3) := by decide +kernel
theorem d_M_keep_61 : decode b_M_keep 61 = .ok (.return_, 1) := by decide +kernel
theorem d_M_argument_0 : decode b_M_argument 0 = .ok (.aload_n 0, 1) := by decide +kernel
theorem d_M_argument_1 : decode b_M_argument 1 = .ok (.iload_n 1, 1) := by decide +kernel
theorem d_M_argument_2 : decode b_M_argument 2 = .ok (.i2l, 1) := by decide +kernel
theorem d_M_argument_3 : decode b_M_argument 3 = .ok (.lconst 0, 1) := by decide +kernel
theorem d_M_argument_4 : decode b_M_argument 4 = .ok (.aload_n 0, 1) := by decide +kernel
theorem d_M_argument_5 : decode b_M_argument 5 = .ok (.getfield 143, 3) := by decide +kernel
theorem d_M_argument_8 : decode b_M_argument 8 = .ok (.iconst 1, 1) := by decide +kernel
theorem d_M_argument_9 : decode b_M_argument 9 = .ok (.isub, 1) := by decide +kernel
theorem d_M_argument_10 : decode b_M_argument 10 = .ok (.i2l, 1) := by decide +kernel
theorem d_M_argument_11 : decode b_M_argument 11 = .ok (.invokestatic 51, 3) := by decide +kernel
theorem d_M_argument_14 : decode b_M_argument 14 = .ok (.ifCond .ne 7, 3) := by decide +kernel
theorem d_M_argument_17 : decode b_M_argument 17 = .ok (.iconst 1, 1) := by decide +kernel
theorem d_M_argument_18 : decode b_M_argument 18 = .ok (.goto 4, 3) := by decide +kernel
theorem d_M_argument_21 : decode b_M_argument 21 = .ok (.iconst 0, 1) := by decide +kernel
theorem d_M_argument_22 : decode b_M_argument 22 = .ok (.invokevirtual 120, 3) := by decide +kernel
theorem d_M_argument_25 : decode b_M_argument 25 = .ok (.ifCond .eq 5, 3) := by decide +kernel
theorem d_M_argument_28 : decode b_M_argument 28 = .ok (.iconst 0, 1) := by decide +kernel
theorem d_M_argument_29 : decode b_M_argument 29 = .ok (.ireturn, 1) := by decide +kernel
theorem d_M_argument_30 : decode b_M_argument 30 = .ok (.aload_n 0, 1) := by decide +kernel
theorem d_M_argument_31 : decode b_M_argument 31 = .ok (.getfield 35, 3) := by decide +kernel
theorem d_M_argument_34 : decode b_M_argument 34 = .ok (.iload_n 1, 1) := by decide +kernel
theorem d_M_argument_35 : decode b_M_argument 35 = .ok (.iaload, 1) := by decide +kernel
theorem d_M_argument_36 : decode b_M_argument 36 = .ok (.ireturn, 1) := by decide +kernel
theorem d_M_kept_0 : decode b_M_kept 0 = .ok (.iload_n 1, 1) := by decide +kernel
theorem d_M_kept_1 : decode b_M_kept 1 = .ok (.i2l, 1) := by decide +kernel
theorem d_M_kept_2 : decode b_M_kept 2 = .ok (.lconst 0, 1) := by decide +kernel
theorem d_M_kept_3 : decode b_M_kept 3 = .ok (.ldc2_w 160, 3) := by decide +kernel
theorem d_M_kept_6 : decode b_M_kept 6 = .ok (.invokestatic 51, 3) := by decide +kernel
theorem d_M_kept_9 : decode b_M_kept 9 = .ok (.ifCond .eq 31, 3) := by decide +kernel
theorem d_M_kept_12 : decode b_M_kept 12 = .ok (.iload_n 2, 1) := by decide +kernel
theorem d_M_kept_13 : decode b_M_kept 13 = .ok (.ifCond .lt 27, 3) := by decide +kernel
theorem d_M_kept_16 : decode b_M_kept 16 = .ok (.iload_n 2, 1) := by decide +kernel
theorem d_M_kept_17 : decode b_M_kept 17 = .ok (.iload_n 1, 1) := by decide +kernel
theorem d_M_kept_18 : decode b_M_kept 18 = .ok (.invokestatic 110, 3) := by decide +kernel
theorem d_M_kept_21 : decode b_M_kept 21 = .ok (.if_icmp .ge 19, 3) := by decide +kernel
theorem d_M_kept_24 : decode b_M_kept 24 = .ok (.iload_n 3, 1) := by decide +kernel
theorem d_M_kept_25 : decode b_M_kept 25 = .ok (.ifCond .lt 15, 3) := by decide +kernel
theorem d_M_kept_28 : decode b_M_kept 28 = .ok (.iload_n 3, 1) := by decide +kernel
theorem d_M_kept_29 : decode b_M_kept 29 = .ok (.iload_n 1, 1) := by decide +kernel
theorem d_M_kept_30 : decode b_M_kept 30 = .ok (.invokestatic 106, 3) := by decide +kernel
theorem d_M_kept_33 : decode b_M_kept 33 = .ok (.if_icmp .ge 7, 3) := by decide +kernel
theorem d_M_kept_36 : decode b_M_kept 36 = .ok (.iconst 1, 1) := by decide +kernel
theorem d_M_kept_37 : decode b_M_kept 37 = .ok (.goto 4, 3) := by decide +kernel
theorem d_M_kept_40 : decode b_M_kept 40 = .ok (.iconst 0, 1) := by decide +kernel
theorem d_M_kept_41 : decode b_M_kept 41 = .ok (.istore 4, 2) := by decide +kernel
theorem d_M_kept_43 : decode b_M_kept 43 = .ok (.aload_n 0, 1) := by decide +kernel
theorem d_M_kept_44 : decode b_M_kept 44 = .ok (.iload 4, 2) := by decide +kernel
theorem d_M_kept_46 : decode b_M_kept 46 = .ok (.ifCond .ne 7, 3) := by decide +kernel
theorem d_M_kept_49 : decode b_M_kept 49 = .ok (.iconst 1, 1) := by decide +kernel
theorem d_M_kept_50 : decode b_M_kept 50 = .ok (.goto 4, 3) := by decide +kernel
theorem d_M_kept_53 : decode b_M_kept 53 = .ok (.iconst 0, 1) := by decide +kernel
theorem d_M_kept_54 : decode b_M_kept 54 = .ok (.invokevirtual 120, 3) := by decide +kernel
theorem d_M_kept_57 : decode b_M_kept 57 = .ok (.ifCond .eq 5, 3) := by decide +kernel
theorem d_M_kept_60 : decode b_M_kept 60 = .ok (.iconst 0, 1) := by decide +kernel
theorem d_M_kept_61 : decode b_M_kept 61 = .ok (.ireturn, 1) := by decide +kernel
theorem d_M_kept_62 : decode b_M_kept 62 = .ok (.aload_n 0, 1) := by decide +kernel
theorem d_M_kept_63 : decode b_M_kept 63 = .ok (.getfield 38, 3) := by decide +kernel
theorem d_M_kept_66 : decode b_M_kept 66 = .ok (.iload_n 1, 1) := by decide +kernel
theorem d_M_kept_67 : decode b_M_kept 67 = .ok (.iload_n 2, 1) := by decide +kernel
theorem d_M_kept_68 : decode b_M_kept 68 = .ok (.invokestatic 113, 3) := by decide +kernel
theorem d_M_kept_71 : decode b_M_kept 71 = .ok (.iload_n 3, 1) := by decide +kernel
theorem d_M_kept_72 : decode b_M_kept 72 = .ok (.iadd, 1) := by decide +kernel
theorem d_M_kept_73 : decode b_M_kept 73 = .ok (.iaload, 1) := by decide +kernel
theorem d_M_kept_74 : decode b_M_kept 74 = .ok (.ireturn, 1) := by decide +kernel
theorem d_M_about_0 : decode b_M_about 0 = .ok (.aload_n 0, 1) := by decide +kernel
theorem d_M_about_1 : decode b_M_about 1 = .ok (.iload_n 1, 1) := by decide +kernel
theorem d_M_about_2 : decode b_M_about 2 = .ok (.i2l, 1) := by decide +kernel
theorem d_M_about_3 : decode b_M_about 3 = .ok (.lconst 0, 1) := by decide +kernel
theorem d_M_about_4 : decode b_M_about 4 = .ok (.ldc2_w 186, 3) := by decide +kernel
theorem d_M_about_7 : decode b_M_about 7 = .ok (.invokestatic 51, 3) := by decide +kernel
theorem d_M_about_10 : decode b_M_about 10 = .ok (.ifCond .ne 7, 3) := by decide +kernel
theorem d_M_about_13 : decode b_M_about 13 = .ok (.iconst 1, 1) := by decide +kernel
theorem d_M_about_14 : decode b_M_about 14 = .ok (.goto 4, 3) := by decide +kernel
theorem d_M_about_17 : decode b_M_about 17 = .ok (.iconst 0, 1) := by decide +kernel
theorem d_M_about_18 : decode b_M_about 18 = .ok (.invokevirtual 120, 3) := by decide +kernel
theorem d_M_about_21 : decode b_M_about 21 = .ok (.ifCond .eq 5, 3) := by decide +kernel
theorem d_M_about_24 : decode b_M_about 24 = .ok (.iconst 0, 1) := by decide +kernel
theorem d_M_about_25 : decode b_M_about 25 = .ok (.ireturn, 1) := by decide +kernel
theorem d_M_about_26 : decode b_M_about 26 = .ok (.iload_n 1, 1) := by decide +kernel
theorem d_M_about_27 : decode b_M_about 27 = .ok (.tableswitch 75 0 5 #[37, 50, 55, 60, 65, 70], 37) := by decide +kernel
theorem d_M_about_64 : decode b_M_about 64 = .ok (.aload_n 0, 1) := by decide +kernel
theorem d_M_about_65 : decode b_M_about 65 = .ok (.getfield 133, 3) := by decide +kernel
theorem d_M_about_68 : decode b_M_about 68 = .ok (.ifCond .eq 7, 3) := by decide +kernel
theorem d_M_about_71 : decode b_M_about 71 = .ok (.iconst 1, 1) := by decide +kernel
theorem d_M_about_72 : decode b_M_about 72 = .ok (.goto 4, 3) := by decide +kernel
theorem d_M_about_75 : decode b_M_about 75 = .ok (.iconst 0, 1) := by decide +kernel
theorem d_M_about_76 : decode b_M_about 76 = .ok (.ireturn, 1) := by decide +kernel
theorem d_M_about_77 : decode b_M_about 77 = .ok (.aload_n 0, 1) := by decide +kernel
theorem d_M_about_78 : decode b_M_about 78 = .ok (.getfield 137, 3) := by decide +kernel
theorem d_M_about_81 : decode b_M_about 81 = .ok (.ireturn, 1) := by decide +kernel
theorem d_M_about_82 : decode b_M_about 82 = .ok (.aload_n 0, 1) := by decide +kernel
theorem d_M_about_83 : decode b_M_about 83 = .ok (.getfield 26, 3) := by decide +kernel
theorem d_M_about_86 : decode b_M_about 86 = .ok (.ireturn, 1) := by decide +kernel
theorem d_M_about_87 : decode b_M_about 87 = .ok (.aload_n 0, 1) := by decide +kernel
theorem d_M_about_88 : decode b_M_about 88 = .ok (.getfield 29, 3) := by decide +kernel
theorem d_M_about_91 : decode b_M_about 91 = .ok (.ireturn, 1) := by decide +kernel
theorem d_M_about_92 : decode b_M_about 92 = .ok (.aload_n 0, 1) := by decide +kernel
theorem d_M_about_93 : decode b_M_about 93 = .ok (.getfield 140, 3) := by decide +kernel
theorem d_M_about_96 : decode b_M_about 96 = .ok (.ireturn, 1) := by decide +kernel
theorem d_M_about_97 : decode b_M_about 97 = .ok (.aload_n 0, 1) := by decide +kernel
theorem d_M_about_98 : decode b_M_about 98 = .ok (.getfield 32, 3) := by decide +kernel
theorem d_M_about_101 : decode b_M_about 101 = .ok (.ireturn, 1) := by decide +kernel
theorem d_M_about_102 : decode b_M_about 102 = .ok (.aload_n 0, 1) := by decide +kernel
theorem d_M_about_103 : decode b_M_about 103 = .ok (.getfield 124, 3) := by decide +kernel
theorem d_M_about_106 : decode b_M_about 106 = .ok (.ireturn, 1) := by decide +kernel
