/-! the law's instructions, 0 -/
theorem dW_0 : decode code 0 = .ok (.new 8, 3) := by decide +kernel
theorem dW_3 : decode code 3 = .ok (.dup, 1) := by decide +kernel
theorem dW_4 : decode code 4 = .ok (.invokespecial 134, 3) := by decide +kernel
theorem dW_7 : decode code 7 = .ok (.astore_n 1, 1) := by decide +kernel
theorem dW_8 : decode code 8 = .ok (.new 135, 3) := by decide +kernel
theorem dW_11 : decode code 11 = .ok (.dup, 1) := by decide +kernel
theorem dW_12 : decode code 12 = .ok (.invokespecial 137, 3) := by decide +kernel
theorem dW_15 : decode code 15 = .ok (.astore_n 2, 1) := by decide +kernel
theorem dW_16 : decode code 16 = .ok (.iconst 1, 1) := by decide +kernel
theorem dW_17 : decode code 17 = .ok (.newarray .long, 2) := by decide +kernel
theorem dW_19 : decode code 19 = .ok (.astore_n 3, 1) := by decide +kernel
theorem dW_20 : decode code 20 = .ok (.iconst 1, 1) := by decide +kernel
theorem dW_21 : decode code 21 = .ok (.newarray .double, 2) := by decide +kernel
theorem dW_23 : decode code 23 = .ok (.astore 4, 2) := by decide +kernel
theorem dW_25 : decode code 25 = .ok (.iconst 0, 1) := by decide +kernel
theorem dW_26 : decode code 26 = .ok (.istore 5, 2) := by decide +kernel
theorem dW_28 : decode code 28 = .ok (.iload 5, 2) := by decide +kernel
theorem dW_30 : decode code 30 = .ok (.aload_n 0, 1) := by decide +kernel
theorem dW_31 : decode code 31 = .ok (.arraylength, 1) := by decide +kernel
theorem dW_32 : decode code 32 = .ok (.bipush 6, 2) := by decide +kernel
theorem dW_34 : decode code 34 = .ok (.isub, 1) := by decide +kernel
theorem dW_35 : decode code 35 = .ok (.if_icmp .gt 2879, 3) := by decide +kernel
theorem dW_38 : decode code 38 = .ok (.aload_n 0, 1) := by decide +kernel
theorem dW_39 : decode code 39 = .ok (.iload 5, 2) := by decide +kernel
theorem dW_41 : decode code 41 = .ok (.iaload, 1) := by decide +kernel
theorem dW_42 : decode code 42 = .ok (.bipush 63, 2) := by decide +kernel
theorem dW_44 : decode code 44 = .ok (.iand, 1) := by decide +kernel
theorem dW_45 : decode code 45 = .ok (.tableswitch 2863 0 57 #[247, 351, 407, 420, 433, 446, 459, 472, 485, 498, 585, 641, 709, 789, 845, 901, 914, 970, 1026, 1082, 1138, 1194, 1257, 1313, 1326, 1339, 1352, 1393, 1407, 1420, 1433, 1446, 1459, 1536, 1614, 1627, 1640, 1696, 1752, 1808, 1888, 1968, 2036, 2104, 2172, 2228, 2296, 2364, 2420, 2476, 2532, 2588, 2656, 2669, 2694, 2707, 2751, 2807], 247) := by decide +kernel
theorem dW_292 : decode code 292 = .ok (.aload_n 1, 1) := by decide +kernel
theorem dW_293 : decode code 293 = .ok (.aload_n 0, 1) := by decide +kernel
theorem dW_294 : decode code 294 = .ok (.iload 5, 2) := by decide +kernel
theorem dW_296 : decode code 296 = .ok (.iconst 1, 1) := by decide +kernel
theorem dW_297 : decode code 297 = .ok (.iadd, 1) := by decide +kernel
theorem dW_298 : decode code 298 = .ok (.iaload, 1) := by decide +kernel
theorem dW_299 : decode code 299 = .ok (.aload_n 0, 1) := by decide +kernel
theorem dW_300 : decode code 300 = .ok (.iload 5, 2) := by decide +kernel
theorem dW_302 : decode code 302 = .ok (.iconst 2, 1) := by decide +kernel
theorem dW_303 : decode code 303 = .ok (.iadd, 1) := by decide +kernel
theorem dW_304 : decode code 304 = .ok (.iaload, 1) := by decide +kernel
theorem dW_305 : decode code 305 = .ok (.aload_n 0, 1) := by decide +kernel
theorem dW_306 : decode code 306 = .ok (.iload 5, 2) := by decide +kernel
theorem dW_308 : decode code 308 = .ok (.iconst 3, 1) := by decide +kernel
theorem dW_309 : decode code 309 = .ok (.iadd, 1) := by decide +kernel
theorem dW_310 : decode code 310 = .ok (.iaload, 1) := by decide +kernel
theorem dW_311 : decode code 311 = .ok (.aload_n 0, 1) := by decide +kernel
theorem dW_312 : decode code 312 = .ok (.iload 5, 2) := by decide +kernel
theorem dW_314 : decode code 314 = .ok (.iconst 4, 1) := by decide +kernel
theorem dW_315 : decode code 315 = .ok (.iadd, 1) := by decide +kernel
theorem dW_316 : decode code 316 = .ok (.iaload, 1) := by decide +kernel
theorem dW_317 : decode code 317 = .ok (.aload_n 0, 1) := by decide +kernel
theorem dW_318 : decode code 318 = .ok (.iload 5, 2) := by decide +kernel
theorem dW_320 : decode code 320 = .ok (.iconst 5, 1) := by decide +kernel
theorem dW_321 : decode code 321 = .ok (.iadd, 1) := by decide +kernel
theorem dW_322 : decode code 322 = .ok (.iaload, 1) := by decide +kernel
theorem dW_323 : decode code 323 = .ok (.aload_n 3, 1) := by decide +kernel
theorem dW_324 : decode code 324 = .ok (.invokestatic 138, 3) := by decide +kernel
theorem dW_327 : decode code 327 = .ok (.istore 6, 2) := by decide +kernel
theorem dW_329 : decode code 329 = .ok (.aload_n 2, 1) := by decide +kernel
theorem dW_330 : decode code 330 = .ok (.aload_n 0, 1) := by decide +kernel
theorem dW_331 : decode code 331 = .ok (.iload 5, 2) := by decide +kernel
theorem dW_333 : decode code 333 = .ok (.iconst 1, 1) := by decide +kernel
theorem dW_334 : decode code 334 = .ok (.iadd, 1) := by decide +kernel
theorem dW_335 : decode code 335 = .ok (.iaload, 1) := by decide +kernel
theorem dW_336 : decode code 336 = .ok (.aload_n 0, 1) := by decide +kernel
theorem dW_337 : decode code 337 = .ok (.iload 5, 2) := by decide +kernel
theorem dW_339 : decode code 339 = .ok (.iconst 2, 1) := by decide +kernel
theorem dW_340 : decode code 340 = .ok (.iadd, 1) := by decide +kernel
theorem dW_341 : decode code 341 = .ok (.iaload, 1) := by decide +kernel
theorem dW_342 : decode code 342 = .ok (.aload_n 0, 1) := by decide +kernel
theorem dW_343 : decode code 343 = .ok (.iload 5, 2) := by decide +kernel
theorem dW_345 : decode code 345 = .ok (.iconst 3, 1) := by decide +kernel
theorem dW_346 : decode code 346 = .ok (.iadd, 1) := by decide +kernel
theorem dW_347 : decode code 347 = .ok (.iaload, 1) := by decide +kernel
theorem dW_348 : decode code 348 = .ok (.aload_n 0, 1) := by decide +kernel
theorem dW_349 : decode code 349 = .ok (.iload 5, 2) := by decide +kernel
theorem dW_351 : decode code 351 = .ok (.iconst 4, 1) := by decide +kernel
theorem dW_352 : decode code 352 = .ok (.iadd, 1) := by decide +kernel
theorem dW_353 : decode code 353 = .ok (.iaload, 1) := by decide +kernel
theorem dW_354 : decode code 354 = .ok (.aload_n 0, 1) := by decide +kernel
theorem dW_355 : decode code 355 = .ok (.iload 5, 2) := by decide +kernel
theorem dW_357 : decode code 357 = .ok (.iconst 5, 1) := by decide +kernel
theorem dW_358 : decode code 358 = .ok (.iadd, 1) := by decide +kernel
theorem dW_359 : decode code 359 = .ok (.iaload, 1) := by decide +kernel
theorem dW_360 : decode code 360 = .ok (.invokevirtual 143, 3) := by decide +kernel
theorem dW_363 : decode code 363 = .ok (.istore 7, 2) := by decide +kernel
theorem dW_365 : decode code 365 = .ok (.aload_n 2, 1) := by decide +kernel
theorem dW_366 : decode code 366 = .ok (.invokevirtual 144, 3) := by decide +kernel
theorem dW_369 : decode code 369 = .ok (.iload 6, 2) := by decide +kernel
theorem dW_371 : decode code 371 = .ok (.if_icmp .eq 5, 3) := by decide +kernel
theorem dW_376 : decode code 376 = .ok (.iload 6, 2) := by decide +kernel
theorem dW_378 : decode code 378 = .ok (.ifCond .ne 15, 3) := by decide +kernel
theorem dW_381 : decode code 381 = .ok (.aload_n 3, 1) := by decide +kernel
theorem dW_382 : decode code 382 = .ok (.iconst 0, 1) := by decide +kernel
theorem dW_383 : decode code 383 = .ok (.laload, 1) := by decide +kernel
theorem dW_384 : decode code 384 = .ok (.iload 7, 2) := by decide +kernel
theorem dW_386 : decode code 386 = .ok (.i2l, 1) := by decide +kernel
theorem dW_387 : decode code 387 = .ok (.lcmp, 1) := by decide +kernel
theorem dW_388 : decode code 388 = .ok (.ifCond .eq 5, 3) := by decide +kernel
theorem dW_393 : decode code 393 = .ok (.goto 2515, 3) := by decide +kernel
theorem dW_396 : decode code 396 = .ok (.aload_n 1, 1) := by decide +kernel
theorem dW_397 : decode code 397 = .ok (.aload_n 0, 1) := by decide +kernel
theorem dW_398 : decode code 398 = .ok (.iload 5, 2) := by decide +kernel
theorem dW_400 : decode code 400 = .ok (.iconst 1, 1) := by decide +kernel
theorem dW_401 : decode code 401 = .ok (.iadd, 1) := by decide +kernel
theorem dW_402 : decode code 402 = .ok (.iaload, 1) := by decide +kernel
theorem dW_403 : decode code 403 = .ok (.aload_n 3, 1) := by decide +kernel
theorem dW_404 : decode code 404 = .ok (.invokestatic 147, 3) := by decide +kernel
theorem dW_407 : decode code 407 = .ok (.istore 6, 2) := by decide +kernel
theorem dW_409 : decode code 409 = .ok (.aload_n 2, 1) := by decide +kernel
theorem dW_410 : decode code 410 = .ok (.aload_n 0, 1) := by decide +kernel
theorem dW_411 : decode code 411 = .ok (.iload 5, 2) := by decide +kernel
theorem dW_413 : decode code 413 = .ok (.iconst 1, 1) := by decide +kernel
theorem dW_414 : decode code 414 = .ok (.iadd, 1) := by decide +kernel
theorem dW_415 : decode code 415 = .ok (.iaload, 1) := by decide +kernel
theorem dW_416 : decode code 416 = .ok (.invokevirtual 150, 3) := by decide +kernel
theorem dW_419 : decode code 419 = .ok (.istore 7, 2) := by decide +kernel
theorem dW_421 : decode code 421 = .ok (.aload_n 2, 1) := by decide +kernel
theorem dW_422 : decode code 422 = .ok (.invokevirtual 144, 3) := by decide +kernel
theorem dW_425 : decode code 425 = .ok (.iload 6, 2) := by decide +kernel
theorem dW_427 : decode code 427 = .ok (.if_icmp .eq 5, 3) := by decide +kernel
theorem dW_432 : decode code 432 = .ok (.iload 6, 2) := by decide +kernel
theorem dW_434 : decode code 434 = .ok (.ifCond .ne 15, 3) := by decide +kernel
theorem dW_437 : decode code 437 = .ok (.aload_n 3, 1) := by decide +kernel
theorem dW_438 : decode code 438 = .ok (.iconst 0, 1) := by decide +kernel
theorem dW_439 : decode code 439 = .ok (.laload, 1) := by decide +kernel
theorem dW_440 : decode code 440 = .ok (.iload 7, 2) := by decide +kernel
theorem dW_442 : decode code 442 = .ok (.i2l, 1) := by decide +kernel
theorem dW_443 : decode code 443 = .ok (.lcmp, 1) := by decide +kernel
theorem dW_444 : decode code 444 = .ok (.ifCond .eq 5, 3) := by decide +kernel
theorem dW_449 : decode code 449 = .ok (.goto 2459, 3) := by decide +kernel
theorem dW_452 : decode code 452 = .ok (.aload_n 1, 1) := by decide +kernel
theorem dW_453 : decode code 453 = .ok (.invokevirtual 151, 3) := by decide +kernel
theorem dW_456 : decode code 456 = .ok (.aload_n 2, 1) := by decide +kernel
theorem dW_457 : decode code 457 = .ok (.invokevirtual 154, 3) := by decide +kernel
theorem dW_460 : decode code 460 = .ok (.if_icmp .eq 2448, 3) := by decide +kernel
theorem dW_465 : decode code 465 = .ok (.aload_n 1, 1) := by decide +kernel
theorem dW_466 : decode code 466 = .ok (.invokevirtual 155, 3) := by decide +kernel
theorem dW_469 : decode code 469 = .ok (.aload_n 2, 1) := by decide +kernel
theorem dW_470 : decode code 470 = .ok (.invokevirtual 158, 3) := by decide +kernel
theorem dW_473 : decode code 473 = .ok (.if_icmp .eq 2435, 3) := by decide +kernel
theorem dW_478 : decode code 478 = .ok (.aload_n 1, 1) := by decide +kernel
theorem dW_479 : decode code 479 = .ok (.invokevirtual 159, 3) := by decide +kernel
theorem dW_482 : decode code 482 = .ok (.aload_n 2, 1) := by decide +kernel
theorem dW_483 : decode code 483 = .ok (.invokevirtual 162, 3) := by decide +kernel
theorem dW_486 : decode code 486 = .ok (.if_icmp .eq 2422, 3) := by decide +kernel
theorem dW_491 : decode code 491 = .ok (.aload_n 1, 1) := by decide +kernel
theorem dW_492 : decode code 492 = .ok (.invokevirtual 163, 3) := by decide +kernel
theorem dW_495 : decode code 495 = .ok (.aload_n 2, 1) := by decide +kernel
theorem dW_496 : decode code 496 = .ok (.invokevirtual 166, 3) := by decide +kernel
theorem dW_499 : decode code 499 = .ok (.if_icmp .eq 2409, 3) := by decide +kernel
theorem dW_504 : decode code 504 = .ok (.aload_n 1, 1) := by decide +kernel
theorem dW_505 : decode code 505 = .ok (.invokevirtual 167, 3) := by decide +kernel
theorem dW_508 : decode code 508 = .ok (.aload_n 2, 1) := by decide +kernel
theorem dW_509 : decode code 509 = .ok (.invokevirtual 170, 3) := by decide +kernel
theorem dW_512 : decode code 512 = .ok (.if_icmp .eq 2396, 3) := by decide +kernel
theorem dW_517 : decode code 517 = .ok (.aload_n 1, 1) := by decide +kernel
theorem dW_518 : decode code 518 = .ok (.invokevirtual 171, 3) := by decide +kernel
theorem dW_521 : decode code 521 = .ok (.aload_n 2, 1) := by decide +kernel
theorem dW_522 : decode code 522 = .ok (.invokevirtual 174, 3) := by decide +kernel
theorem dW_525 : decode code 525 = .ok (.if_icmp .eq 2383, 3) := by decide +kernel
theorem dW_530 : decode code 530 = .ok (.aload_n 1, 1) := by decide +kernel
theorem dW_531 : decode code 531 = .ok (.invokevirtual 175, 3) := by decide +kernel
theorem dW_534 : decode code 534 = .ok (.aload_n 2, 1) := by decide +kernel
theorem dW_535 : decode code 535 = .ok (.invokevirtual 178, 3) := by decide +kernel
theorem dW_538 : decode code 538 = .ok (.if_icmp .eq 2370, 3) := by decide +kernel
theorem dW_543 : decode code 543 = .ok (.aload_n 1, 1) := by decide +kernel
theorem dW_544 : decode code 544 = .ok (.aload_n 0, 1) := by decide +kernel
theorem dW_545 : decode code 545 = .ok (.iload 5, 2) := by decide +kernel
theorem dW_547 : decode code 547 = .ok (.iconst 1, 1) := by decide +kernel
theorem dW_548 : decode code 548 = .ok (.iadd, 1) := by decide +kernel
theorem dW_549 : decode code 549 = .ok (.iaload, 1) := by decide +kernel
theorem dW_550 : decode code 550 = .ok (.aload_n 0, 1) := by decide +kernel
theorem dW_551 : decode code 551 = .ok (.iload 5, 2) := by decide +kernel
theorem dW_553 : decode code 553 = .ok (.iconst 2, 1) := by decide +kernel
theorem dW_554 : decode code 554 = .ok (.iadd, 1) := by decide +kernel
theorem dW_555 : decode code 555 = .ok (.iaload, 1) := by decide +kernel
theorem dW_556 : decode code 556 = .ok (.aload_n 0, 1) := by decide +kernel
theorem dW_557 : decode code 557 = .ok (.iload 5, 2) := by decide +kernel
theorem dW_559 : decode code 559 = .ok (.iconst 3, 1) := by decide +kernel
theorem dW_560 : decode code 560 = .ok (.iadd, 1) := by decide +kernel
theorem dW_561 : decode code 561 = .ok (.iaload, 1) := by decide +kernel
theorem dW_562 : decode code 562 = .ok (.aload_n 3, 1) := by decide +kernel
theorem dW_563 : decode code 563 = .ok (.invokestatic 179, 3) := by decide +kernel
theorem dW_566 : decode code 566 = .ok (.istore 6, 2) := by decide +kernel
theorem dW_568 : decode code 568 = .ok (.aload_n 2, 1) := by decide +kernel
theorem dW_569 : decode code 569 = .ok (.aload_n 0, 1) := by decide +kernel
theorem dW_570 : decode code 570 = .ok (.iload 5, 2) := by decide +kernel
theorem dW_572 : decode code 572 = .ok (.iconst 1, 1) := by decide +kernel
theorem dW_573 : decode code 573 = .ok (.iadd, 1) := by decide +kernel
theorem dW_574 : decode code 574 = .ok (.iaload, 1) := by decide +kernel
theorem dW_575 : decode code 575 = .ok (.aload_n 0, 1) := by decide +kernel
theorem dW_576 : decode code 576 = .ok (.iload 5, 2) := by decide +kernel
theorem dW_578 : decode code 578 = .ok (.iconst 2, 1) := by decide +kernel
theorem dW_579 : decode code 579 = .ok (.iadd, 1) := by decide +kernel
theorem dW_580 : decode code 580 = .ok (.iaload, 1) := by decide +kernel
theorem dW_581 : decode code 581 = .ok (.aload_n 0, 1) := by decide +kernel
theorem dW_582 : decode code 582 = .ok (.iload 5, 2) := by decide +kernel
theorem dW_584 : decode code 584 = .ok (.iconst 3, 1) := by decide +kernel
theorem dW_585 : decode code 585 = .ok (.iadd, 1) := by decide +kernel
theorem dW_586 : decode code 586 = .ok (.iaload, 1) := by decide +kernel
theorem dW_587 : decode code 587 = .ok (.invokevirtual 182, 3) := by decide +kernel
theorem dW_590 : decode code 590 = .ok (.istore 7, 2) := by decide +kernel
theorem dW_592 : decode code 592 = .ok (.aload_n 2, 1) := by decide +kernel
theorem dW_593 : decode code 593 = .ok (.invokevirtual 144, 3) := by decide +kernel
theorem dW_596 : decode code 596 = .ok (.iload 6, 2) := by decide +kernel
theorem dW_598 : decode code 598 = .ok (.if_icmp .eq 5, 3) := by decide +kernel
theorem dW_603 : decode code 603 = .ok (.iload 6, 2) := by decide +kernel
theorem dW_605 : decode code 605 = .ok (.ifCond .ne 22, 3) := by decide +kernel
theorem dW_608 : decode code 608 = .ok (.aload_n 3, 1) := by decide +kernel
theorem dW_609 : decode code 609 = .ok (.iconst 0, 1) := by decide +kernel
theorem dW_610 : decode code 610 = .ok (.laload, 1) := by decide +kernel
theorem dW_611 : decode code 611 = .ok (.iload 7, 2) := by decide +kernel
theorem dW_613 : decode code 613 = .ok (.ifCond .eq 7, 3) := by decide +kernel
theorem dW_616 : decode code 616 = .ok (.lconst 1, 1) := by decide +kernel
theorem dW_617 : decode code 617 = .ok (.goto 4, 3) := by decide +kernel
theorem dW_620 : decode code 620 = .ok (.lconst 0, 1) := by decide +kernel
theorem dW_621 : decode code 621 = .ok (.lcmp, 1) := by decide +kernel
theorem dW_622 : decode code 622 = .ok (.ifCond .eq 5, 3) := by decide +kernel
theorem dW_627 : decode code 627 = .ok (.goto 2281, 3) := by decide +kernel
theorem dW_630 : decode code 630 = .ok (.aload_n 1, 1) := by decide +kernel
