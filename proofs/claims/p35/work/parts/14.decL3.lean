/-! decode rows (printed) -/
set_option maxRecDepth 100000 in
theorem dL_run_376 : decode cL_run 376 = .ok (.istore 9, 2) := by decide +kernel
set_option maxRecDepth 100000 in
theorem dL_run_378 : decode cL_run 378 = .ok (.aload 7, 2) := by decide +kernel
set_option maxRecDepth 100000 in
theorem dL_run_380 : decode cL_run 380 = .ok (.bipush 20, 2) := by decide +kernel
set_option maxRecDepth 100000 in
theorem dL_run_382 : decode cL_run 382 = .ok (.iload 16, 2) := by decide +kernel
set_option maxRecDepth 100000 in
theorem dL_run_384 : decode cL_run 384 = .ok (.aload 7, 2) := by decide +kernel
set_option maxRecDepth 100000 in
theorem dL_run_386 : decode cL_run 386 = .ok (.bipush 20, 2) := by decide +kernel
set_option maxRecDepth 100000 in
theorem dL_run_388 : decode cL_run 388 = .ok (.iaload, 1) := by decide +kernel
set_option maxRecDepth 100000 in
theorem dL_run_389 : decode cL_run 389 = .ok (.if_icmp .ge 8, 3) := by decide +kernel
set_option maxRecDepth 100000 in
theorem dL_run_392 : decode cL_run 392 = .ok (.iload 16, 2) := by decide +kernel
set_option maxRecDepth 100000 in
theorem dL_run_394 : decode cL_run 394 = .ok (.goto 8, 3) := by decide +kernel
set_option maxRecDepth 100000 in
theorem dL_run_397 : decode cL_run 397 = .ok (.aload 7, 2) := by decide +kernel
set_option maxRecDepth 100000 in
theorem dL_run_399 : decode cL_run 399 = .ok (.bipush 20, 2) := by decide +kernel
set_option maxRecDepth 100000 in
theorem dL_run_401 : decode cL_run 401 = .ok (.iaload, 1) := by decide +kernel
set_option maxRecDepth 100000 in
theorem dL_run_402 : decode cL_run 402 = .ok (.iastore, 1) := by decide +kernel
set_option maxRecDepth 100000 in
theorem dL_run_403 : decode cL_run 403 = .ok (.aload 7, 2) := by decide +kernel
set_option maxRecDepth 100000 in
theorem dL_run_405 : decode cL_run 405 = .ok (.bipush 21, 2) := by decide +kernel
set_option maxRecDepth 100000 in
theorem dL_run_407 : decode cL_run 407 = .ok (.iload 16, 2) := by decide +kernel
set_option maxRecDepth 100000 in
theorem dL_run_409 : decode cL_run 409 = .ok (.aload 7, 2) := by decide +kernel
set_option maxRecDepth 100000 in
theorem dL_run_411 : decode cL_run 411 = .ok (.bipush 21, 2) := by decide +kernel
set_option maxRecDepth 100000 in
theorem dL_run_413 : decode cL_run 413 = .ok (.iaload, 1) := by decide +kernel
set_option maxRecDepth 100000 in
theorem dL_run_414 : decode cL_run 414 = .ok (.if_icmp .le 8, 3) := by decide +kernel
set_option maxRecDepth 100000 in
theorem dL_run_417 : decode cL_run 417 = .ok (.iload 16, 2) := by decide +kernel
set_option maxRecDepth 100000 in
theorem dL_run_419 : decode cL_run 419 = .ok (.goto 8, 3) := by decide +kernel
set_option maxRecDepth 100000 in
theorem dL_run_422 : decode cL_run 422 = .ok (.aload 7, 2) := by decide +kernel
set_option maxRecDepth 100000 in
theorem dL_run_424 : decode cL_run 424 = .ok (.bipush 21, 2) := by decide +kernel
set_option maxRecDepth 100000 in
theorem dL_run_426 : decode cL_run 426 = .ok (.iaload, 1) := by decide +kernel
set_option maxRecDepth 100000 in
theorem dL_run_427 : decode cL_run 427 = .ok (.iastore, 1) := by decide +kernel
set_option maxRecDepth 100000 in
theorem dL_run_428 : decode cL_run 428 = .ok (.iload_n 2, 1) := by decide +kernel
set_option maxRecDepth 100000 in
theorem dL_run_429 : decode cL_run 429 = .ok (.iconst 3, 1) := by decide +kernel
set_option maxRecDepth 100000 in
theorem dL_run_430 : decode cL_run 430 = .ok (.if_icmp .ne 51, 3) := by decide +kernel
set_option maxRecDepth 100000 in
theorem dL_run_433 : decode cL_run 433 = .ok (.iload 15, 2) := by decide +kernel
set_option maxRecDepth 100000 in
theorem dL_run_435 : decode cL_run 435 = .ok (.ifCond .eq 46, 3) := by decide +kernel
set_option maxRecDepth 100000 in
theorem dL_run_438 : decode cL_run 438 = .ok (.iload_n 3, 1) := by decide +kernel
set_option maxRecDepth 100000 in
theorem dL_run_439 : decode cL_run 439 = .ok (.aload_n 0, 1) := by decide +kernel
set_option maxRecDepth 100000 in
theorem dL_run_440 : decode cL_run 440 = .ok (.iconst 0, 1) := by decide +kernel
set_option maxRecDepth 100000 in
theorem dL_run_441 : decode cL_run 441 = .ok (.iaload, 1) := by decide +kernel
set_option maxRecDepth 100000 in
theorem dL_run_442 : decode cL_run 442 = .ok (.if_icmp .ge 39, 3) := by decide +kernel
set_option maxRecDepth 100000 in
theorem dL_run_445 : decode cL_run 445 = .ok (.aload 8, 2) := by decide +kernel
set_option maxRecDepth 100000 in
theorem dL_run_447 : decode cL_run 447 = .ok (.iload_n 3, 1) := by decide +kernel
set_option maxRecDepth 100000 in
theorem dL_run_448 : decode cL_run 448 = .ok (.iaload, 1) := by decide +kernel
set_option maxRecDepth 100000 in
theorem dL_run_449 : decode cL_run 449 = .ok (.iload 4, 2) := by decide +kernel
set_option maxRecDepth 100000 in
theorem dL_run_451 : decode cL_run 451 = .ok (.if_icmp .ge 10, 3) := by decide +kernel
set_option maxRecDepth 100000 in
theorem dL_run_454 : decode cL_run 454 = .ok (.aload 8, 2) := by decide +kernel
set_option maxRecDepth 100000 in
theorem dL_run_456 : decode cL_run 456 = .ok (.iload_n 3, 1) := by decide +kernel
set_option maxRecDepth 100000 in
theorem dL_run_457 : decode cL_run 457 = .ok (.iaload, 1) := by decide +kernel
set_option maxRecDepth 100000 in
theorem dL_run_458 : decode cL_run 458 = .ok (.goto 5, 3) := by decide +kernel
set_option maxRecDepth 100000 in
theorem dL_run_461 : decode cL_run 461 = .ok (.iload 4, 2) := by decide +kernel
set_option maxRecDepth 100000 in
theorem dL_run_463 : decode cL_run 463 = .ok (.istore 17, 2) := by decide +kernel
set_option maxRecDepth 100000 in
theorem dL_run_465 : decode cL_run 465 = .ok (.aload 8, 2) := by decide +kernel
set_option maxRecDepth 100000 in
theorem dL_run_467 : decode cL_run 467 = .ok (.iload_n 3, 1) := by decide +kernel
set_option maxRecDepth 100000 in
theorem dL_run_468 : decode cL_run 468 = .ok (.dup2, 1) := by decide +kernel
set_option maxRecDepth 100000 in
theorem dL_run_469 : decode cL_run 469 = .ok (.iaload, 1) := by decide +kernel
set_option maxRecDepth 100000 in
theorem dL_run_470 : decode cL_run 470 = .ok (.iload 17, 2) := by decide +kernel
set_option maxRecDepth 100000 in
theorem dL_run_472 : decode cL_run 472 = .ok (.isub, 1) := by decide +kernel
set_option maxRecDepth 100000 in
theorem dL_run_473 : decode cL_run 473 = .ok (.iastore, 1) := by decide +kernel
set_option maxRecDepth 100000 in
theorem dL_run_474 : decode cL_run 474 = .ok (.iload 12, 2) := by decide +kernel
set_option maxRecDepth 100000 in
theorem dL_run_476 : decode cL_run 476 = .ok (.iload 17, 2) := by decide +kernel
set_option maxRecDepth 100000 in
theorem dL_run_478 : decode cL_run 478 = .ok (.iadd, 1) := by decide +kernel
set_option maxRecDepth 100000 in
theorem dL_run_479 : decode cL_run 479 = .ok (.istore 12, 2) := by decide +kernel
set_option maxRecDepth 100000 in
theorem dL_run_481 : decode cL_run 481 = .ok (.iload 10, 2) := by decide +kernel
set_option maxRecDepth 100000 in
theorem dL_run_483 : decode cL_run 483 = .ok (.aload_n 0, 1) := by decide +kernel
set_option maxRecDepth 100000 in
theorem dL_run_484 : decode cL_run 484 = .ok (.iconst 4, 1) := by decide +kernel
set_option maxRecDepth 100000 in
theorem dL_run_485 : decode cL_run 485 = .ok (.iaload, 1) := by decide +kernel
set_option maxRecDepth 100000 in
theorem dL_run_486 : decode cL_run 486 = .ok (.if_icmp .ge 32, 3) := by decide +kernel
set_option maxRecDepth 100000 in
theorem dL_run_489 : decode cL_run 489 = .ok (.iload 9, 2) := by decide +kernel
set_option maxRecDepth 100000 in
theorem dL_run_491 : decode cL_run 491 = .ok (.aload_n 0, 1) := by decide +kernel
set_option maxRecDepth 100000 in
theorem dL_run_492 : decode cL_run 492 = .ok (.iconst 1, 1) := by decide +kernel
set_option maxRecDepth 100000 in
theorem dL_run_493 : decode cL_run 493 = .ok (.iaload, 1) := by decide +kernel
set_option maxRecDepth 100000 in
theorem dL_run_494 : decode cL_run 494 = .ok (.idiv, 1) := by decide +kernel
set_option maxRecDepth 100000 in
theorem dL_run_495 : decode cL_run 495 = .ok (.aload_n 0, 1) := by decide +kernel
set_option maxRecDepth 100000 in
theorem dL_run_496 : decode cL_run 496 = .ok (.bipush 14, 2) := by decide +kernel
set_option maxRecDepth 100000 in
theorem dL_run_498 : decode cL_run 498 = .ok (.iload 10, 2) := by decide +kernel
set_option maxRecDepth 100000 in
theorem dL_run_500 : decode cL_run 500 = .ok (.iadd, 1) := by decide +kernel
set_option maxRecDepth 100000 in
theorem dL_run_501 : decode cL_run 501 = .ok (.iaload, 1) := by decide +kernel
set_option maxRecDepth 100000 in
theorem dL_run_502 : decode cL_run 502 = .ok (.if_icmp .lt 16, 3) := by decide +kernel
set_option maxRecDepth 100000 in
theorem dL_run_505 : decode cL_run 505 = .ok (.aload 7, 2) := by decide +kernel
set_option maxRecDepth 100000 in
theorem dL_run_507 : decode cL_run 507 = .ok (.iload 10, 2) := by decide +kernel
set_option maxRecDepth 100000 in
theorem dL_run_509 : decode cL_run 509 = .ok (.iload 14, 2) := by decide +kernel
set_option maxRecDepth 100000 in
theorem dL_run_511 : decode cL_run 511 = .ok (.iastore, 1) := by decide +kernel
set_option maxRecDepth 100000 in
theorem dL_run_512 : decode cL_run 512 = .ok (.iinc 10 1, 3) := by decide +kernel
set_option maxRecDepth 100000 in
theorem dL_run_515 : decode cL_run 515 = .ok (.goto (-34), 3) := by decide +kernel
set_option maxRecDepth 100000 in
theorem dL_run_518 : decode cL_run 518 = .ok (.iload 10, 2) := by decide +kernel
set_option maxRecDepth 100000 in
theorem dL_run_520 : decode cL_run 520 = .ok (.aload_n 0, 1) := by decide +kernel
set_option maxRecDepth 100000 in
theorem dL_run_521 : decode cL_run 521 = .ok (.iconst 4, 1) := by decide +kernel
set_option maxRecDepth 100000 in
theorem dL_run_522 : decode cL_run 522 = .ok (.iaload, 1) := by decide +kernel
set_option maxRecDepth 100000 in
theorem dL_run_523 : decode cL_run 523 = .ok (.if_icmp .ne 21, 3) := by decide +kernel
set_option maxRecDepth 100000 in
theorem dL_run_526 : decode cL_run 526 = .ok (.iload 9, 2) := by decide +kernel
set_option maxRecDepth 100000 in
theorem dL_run_528 : decode cL_run 528 = .ok (.aload_n 0, 1) := by decide +kernel
set_option maxRecDepth 100000 in
theorem dL_run_529 : decode cL_run 529 = .ok (.iconst 1, 1) := by decide +kernel
set_option maxRecDepth 100000 in
theorem dL_run_530 : decode cL_run 530 = .ok (.iaload, 1) := by decide +kernel
set_option maxRecDepth 100000 in
theorem dL_run_531 : decode cL_run 531 = .ok (.idiv, 1) := by decide +kernel
set_option maxRecDepth 100000 in
theorem dL_run_532 : decode cL_run 532 = .ok (.aload_n 0, 1) := by decide +kernel
set_option maxRecDepth 100000 in
theorem dL_run_533 : decode cL_run 533 = .ok (.iconst 2, 1) := by decide +kernel
set_option maxRecDepth 100000 in
theorem dL_run_534 : decode cL_run 534 = .ok (.iaload, 1) := by decide +kernel
set_option maxRecDepth 100000 in
theorem dL_run_535 : decode cL_run 535 = .ok (.if_icmp .lt 9, 3) := by decide +kernel
set_option maxRecDepth 100000 in
theorem dL_run_538 : decode cL_run 538 = .ok (.iconst 0, 1) := by decide +kernel
set_option maxRecDepth 100000 in
theorem dL_run_539 : decode cL_run 539 = .ok (.istore 9, 2) := by decide +kernel
set_option maxRecDepth 100000 in
theorem dL_run_541 : decode cL_run 541 = .ok (.iinc 13 1, 3) := by decide +kernel
set_option maxRecDepth 100000 in
theorem dL_run_544 : decode cL_run 544 = .ok (.iload 14, 2) := by decide +kernel
set_option maxRecDepth 100000 in
theorem dL_run_546 : decode cL_run 546 = .ok (.iload 6, 2) := by decide +kernel
set_option maxRecDepth 100000 in
theorem dL_run_548 : decode cL_run 548 = .ok (.if_icmp .ne 78, 3) := by decide +kernel
set_option maxRecDepth 100000 in
theorem dL_run_551 : decode cL_run 551 = .ok (.iconst 0, 1) := by decide +kernel
set_option maxRecDepth 100000 in
theorem dL_run_552 : decode cL_run 552 = .ok (.istore 17, 2) := by decide +kernel
set_option maxRecDepth 100000 in
theorem dL_run_554 : decode cL_run 554 = .ok (.iload 17, 2) := by decide +kernel
set_option maxRecDepth 100000 in
theorem dL_run_556 : decode cL_run 556 = .ok (.iconst 3, 1) := by decide +kernel
set_option maxRecDepth 100000 in
theorem dL_run_557 : decode cL_run 557 = .ok (.if_icmp .ge 34, 3) := by decide +kernel
set_option maxRecDepth 100000 in
theorem dL_run_560 : decode cL_run 560 = .ok (.aload 7, 2) := by decide +kernel
set_option maxRecDepth 100000 in
theorem dL_run_562 : decode cL_run 562 = .ok (.bipush 12, 2) := by decide +kernel
set_option maxRecDepth 100000 in
theorem dL_run_564 : decode cL_run 564 = .ok (.iload 17, 2) := by decide +kernel
set_option maxRecDepth 100000 in
theorem dL_run_566 : decode cL_run 566 = .ok (.iadd, 1) := by decide +kernel
set_option maxRecDepth 100000 in
theorem dL_run_567 : decode cL_run 567 = .ok (.iload 17, 2) := by decide +kernel
set_option maxRecDepth 100000 in
theorem dL_run_569 : decode cL_run 569 = .ok (.aload_n 0, 1) := by decide +kernel
set_option maxRecDepth 100000 in
theorem dL_run_570 : decode cL_run 570 = .ok (.iconst 0, 1) := by decide +kernel
set_option maxRecDepth 100000 in
theorem dL_run_571 : decode cL_run 571 = .ok (.iaload, 1) := by decide +kernel
set_option maxRecDepth 100000 in
theorem dL_run_572 : decode cL_run 572 = .ok (.if_icmp .ge 11, 3) := by decide +kernel
set_option maxRecDepth 100000 in
theorem dL_run_575 : decode cL_run 575 = .ok (.aload 8, 2) := by decide +kernel
set_option maxRecDepth 100000 in
theorem dL_run_577 : decode cL_run 577 = .ok (.iload 17, 2) := by decide +kernel
set_option maxRecDepth 100000 in
theorem dL_run_579 : decode cL_run 579 = .ok (.iaload, 1) := by decide +kernel
set_option maxRecDepth 100000 in
theorem dL_run_580 : decode cL_run 580 = .ok (.goto 4, 3) := by decide +kernel
set_option maxRecDepth 100000 in
theorem dL_run_583 : decode cL_run 583 = .ok (.iconst (-1), 1) := by decide +kernel
set_option maxRecDepth 100000 in
theorem dL_run_584 : decode cL_run 584 = .ok (.iastore, 1) := by decide +kernel
set_option maxRecDepth 100000 in
theorem dL_run_585 : decode cL_run 585 = .ok (.iinc 17 1, 3) := by decide +kernel
set_option maxRecDepth 100000 in
theorem dL_run_588 : decode cL_run 588 = .ok (.goto (-34), 3) := by decide +kernel
set_option maxRecDepth 100000 in
theorem dL_run_591 : decode cL_run 591 = .ok (.aload 7, 2) := by decide +kernel
set_option maxRecDepth 100000 in
theorem dL_run_593 : decode cL_run 593 = .ok (.bipush 15, 2) := by decide +kernel
set_option maxRecDepth 100000 in
theorem dL_run_595 : decode cL_run 595 = .ok (.iload 9, 2) := by decide +kernel
set_option maxRecDepth 100000 in
theorem dL_run_597 : decode cL_run 597 = .ok (.iastore, 1) := by decide +kernel
set_option maxRecDepth 100000 in
theorem dL_run_598 : decode cL_run 598 = .ok (.aload 7, 2) := by decide +kernel
set_option maxRecDepth 100000 in
theorem dL_run_600 : decode cL_run 600 = .ok (.bipush 16, 2) := by decide +kernel
set_option maxRecDepth 100000 in
theorem dL_run_602 : decode cL_run 602 = .ok (.iload 10, 2) := by decide +kernel
set_option maxRecDepth 100000 in
theorem dL_run_604 : decode cL_run 604 = .ok (.iastore, 1) := by decide +kernel
set_option maxRecDepth 100000 in
theorem dL_run_605 : decode cL_run 605 = .ok (.aload 7, 2) := by decide +kernel
set_option maxRecDepth 100000 in
theorem dL_run_607 : decode cL_run 607 = .ok (.bipush 17, 2) := by decide +kernel
set_option maxRecDepth 100000 in
theorem dL_run_609 : decode cL_run 609 = .ok (.iload 11, 2) := by decide +kernel
set_option maxRecDepth 100000 in
theorem dL_run_611 : decode cL_run 611 = .ok (.iastore, 1) := by decide +kernel
set_option maxRecDepth 100000 in
theorem dL_run_612 : decode cL_run 612 = .ok (.aload 7, 2) := by decide +kernel
set_option maxRecDepth 100000 in
theorem dL_run_614 : decode cL_run 614 = .ok (.bipush 18, 2) := by decide +kernel
set_option maxRecDepth 100000 in
theorem dL_run_616 : decode cL_run 616 = .ok (.iload 12, 2) := by decide +kernel
set_option maxRecDepth 100000 in
theorem dL_run_618 : decode cL_run 618 = .ok (.iastore, 1) := by decide +kernel
set_option maxRecDepth 100000 in
theorem dL_run_619 : decode cL_run 619 = .ok (.aload 7, 2) := by decide +kernel
set_option maxRecDepth 100000 in
theorem dL_run_621 : decode cL_run 621 = .ok (.bipush 19, 2) := by decide +kernel
set_option maxRecDepth 100000 in
theorem dL_run_623 : decode cL_run 623 = .ok (.iload 13, 2) := by decide +kernel
set_option maxRecDepth 100000 in
theorem dL_run_625 : decode cL_run 625 = .ok (.iastore, 1) := by decide +kernel
set_option maxRecDepth 100000 in
theorem dL_run_626 : decode cL_run 626 = .ok (.iinc 14 1, 3) := by decide +kernel
set_option maxRecDepth 100000 in
theorem dL_run_629 : decode cL_run 629 = .ok (.goto (-530), 3) := by decide +kernel
set_option maxRecDepth 100000 in
theorem dL_run_632 : decode cL_run 632 = .ok (.return_, 1) := by decide +kernel
set_option maxRecDepth 100000 in
theorem dL_size_0 : decode cL_size 0 = .ok (.iload_n 0, 1) := by decide +kernel
set_option maxRecDepth 100000 in
theorem dL_size_1 : decode cL_size 1 = .ok (.ifCond .ge 8, 3) := by decide +kernel
set_option maxRecDepth 100000 in
theorem dL_size_4 : decode cL_size 4 = .ok (.iload_n 0, 1) := by decide +kernel
set_option maxRecDepth 100000 in
theorem dL_size_5 : decode cL_size 5 = .ok (.ineg, 1) := by decide +kernel
set_option maxRecDepth 100000 in
theorem dL_size_6 : decode cL_size 6 = .ok (.goto 4, 3) := by decide +kernel
set_option maxRecDepth 100000 in
theorem dL_size_9 : decode cL_size 9 = .ok (.iload_n 0, 1) := by decide +kernel
set_option maxRecDepth 100000 in
theorem dL_size_10 : decode cL_size 10 = .ok (.ireturn, 1) := by decide +kernel
set_option maxRecDepth 100000 in
theorem dL_law_0 : decode cL_law 0 = .ok (.new 9, 3) := by decide +kernel
set_option maxRecDepth 100000 in
theorem dL_law_3 : decode cL_law 3 = .ok (.dup, 1) := by decide +kernel
set_option maxRecDepth 100000 in
theorem dL_law_4 : decode cL_law 4 = .ok (.invokespecial 36, 3) := by decide +kernel
set_option maxRecDepth 100000 in
theorem dL_law_7 : decode cL_law 7 = .ok (.astore_n 1, 1) := by decide +kernel
set_option maxRecDepth 100000 in
theorem dL_law_8 : decode cL_law 8 = .ok (.bipush 26, 2) := by decide +kernel
set_option maxRecDepth 100000 in
theorem dL_law_10 : decode cL_law 10 = .ok (.newarray .int, 2) := by decide +kernel
set_option maxRecDepth 100000 in
theorem dL_law_12 : decode cL_law 12 = .ok (.astore_n 2, 1) := by decide +kernel
set_option maxRecDepth 100000 in
theorem dL_law_13 : decode cL_law 13 = .ok (.aload_n 1, 1) := by decide +kernel
set_option maxRecDepth 100000 in
theorem dL_law_14 : decode cL_law 14 = .ok (.aload_n 0, 1) := by decide +kernel
set_option maxRecDepth 100000 in
theorem dL_law_15 : decode cL_law 15 = .ok (.iconst 0, 1) := by decide +kernel
set_option maxRecDepth 100000 in
theorem dL_law_16 : decode cL_law 16 = .ok (.invokestatic 37, 3) := by decide +kernel
set_option maxRecDepth 100000 in
theorem dL_law_19 : decode cL_law 19 = .ok (.aload_n 0, 1) := by decide +kernel
set_option maxRecDepth 100000 in
theorem dL_law_20 : decode cL_law 20 = .ok (.iconst 1, 1) := by decide +kernel
set_option maxRecDepth 100000 in
theorem dL_law_21 : decode cL_law 21 = .ok (.invokestatic 37, 3) := by decide +kernel
set_option maxRecDepth 100000 in
theorem dL_law_24 : decode cL_law 24 = .ok (.aload_n 0, 1) := by decide +kernel
set_option maxRecDepth 100000 in
theorem dL_law_25 : decode cL_law 25 = .ok (.iconst 2, 1) := by decide +kernel
set_option maxRecDepth 100000 in
theorem dL_law_26 : decode cL_law 26 = .ok (.invokestatic 37, 3) := by decide +kernel
set_option maxRecDepth 100000 in
theorem dL_law_29 : decode cL_law 29 = .ok (.iconst 0, 1) := by decide +kernel
set_option maxRecDepth 100000 in
theorem dL_law_30 : decode cL_law 30 = .ok (.aload_n 2, 1) := by decide +kernel
set_option maxRecDepth 100000 in
theorem dL_law_31 : decode cL_law 31 = .ok (.invokestatic 41, 3) := by decide +kernel
set_option maxRecDepth 100000 in
theorem dL_law_34 : decode cL_law 34 = .ok (.ifCond .ne 5, 3) := by decide +kernel
set_option maxRecDepth 100000 in
theorem dL_law_37 : decode cL_law 37 = .ok (.iconst 0, 1) := by decide +kernel
set_option maxRecDepth 100000 in
theorem dL_law_38 : decode cL_law 38 = .ok (.ireturn, 1) := by decide +kernel
set_option maxRecDepth 100000 in
theorem dL_law_39 : decode cL_law 39 = .ok (.iconst 4, 1) := by decide +kernel
set_option maxRecDepth 100000 in
theorem dL_law_40 : decode cL_law 40 = .ok (.newarray .int, 2) := by decide +kernel
set_option maxRecDepth 100000 in
theorem dL_law_42 : decode cL_law 42 = .ok (.astore_n 3, 1) := by decide +kernel
set_option maxRecDepth 100000 in
theorem dL_law_43 : decode cL_law 43 = .ok (.iconst 4, 1) := by decide +kernel
set_option maxRecDepth 100000 in
theorem dL_law_44 : decode cL_law 44 = .ok (.newarray .int, 2) := by decide +kernel
set_option maxRecDepth 100000 in
theorem dL_law_46 : decode cL_law 46 = .ok (.astore 4, 2) := by decide +kernel
set_option maxRecDepth 100000 in
theorem dL_law_48 : decode cL_law 48 = .ok (.iconst 0, 1) := by decide +kernel
set_option maxRecDepth 100000 in
theorem dL_law_49 : decode cL_law 49 = .ok (.istore 5, 2) := by decide +kernel
set_option maxRecDepth 100000 in
theorem dL_law_51 : decode cL_law 51 = .ok (.iload 5, 2) := by decide +kernel
set_option maxRecDepth 100000 in
theorem dL_law_53 : decode cL_law 53 = .ok (.iconst 4, 1) := by decide +kernel
set_option maxRecDepth 100000 in
theorem dL_law_54 : decode cL_law 54 = .ok (.if_icmp .ge 109, 3) := by decide +kernel
set_option maxRecDepth 100000 in
theorem dL_law_57 : decode cL_law 57 = .ok (.aload_n 0, 1) := by decide +kernel
set_option maxRecDepth 100000 in
theorem dL_law_58 : decode cL_law 58 = .ok (.iconst 3, 1) := by decide +kernel
set_option maxRecDepth 100000 in
theorem dL_law_59 : decode cL_law 59 = .ok (.iload 5, 2) := by decide +kernel
set_option maxRecDepth 100000 in
theorem dL_law_61 : decode cL_law 61 = .ok (.iadd, 1) := by decide +kernel
set_option maxRecDepth 100000 in
theorem dL_law_62 : decode cL_law 62 = .ok (.invokestatic 37, 3) := by decide +kernel
set_option maxRecDepth 100000 in
theorem dL_law_65 : decode cL_law 65 = .ok (.istore 6, 2) := by decide +kernel
set_option maxRecDepth 100000 in
theorem dL_law_67 : decode cL_law 67 = .ok (.aload_n 3, 1) := by decide +kernel
set_option maxRecDepth 100000 in
theorem dL_law_68 : decode cL_law 68 = .ok (.iload 5, 2) := by decide +kernel
set_option maxRecDepth 100000 in
theorem dL_law_70 : decode cL_law 70 = .ok (.iload 6, 2) := by decide +kernel
set_option maxRecDepth 100000 in
theorem dL_law_72 : decode cL_law 72 = .ok (.iconst 3, 1) := by decide +kernel
set_option maxRecDepth 100000 in
theorem dL_law_73 : decode cL_law 73 = .ok (.irem, 1) := by decide +kernel
set_option maxRecDepth 100000 in
theorem dL_law_74 : decode cL_law 74 = .ok (.ifCond .ne 8, 3) := by decide +kernel
set_option maxRecDepth 100000 in
theorem dL_law_77 : decode cL_law 77 = .ok (.bipush 100, 2) := by decide +kernel
set_option maxRecDepth 100000 in
theorem dL_law_79 : decode cL_law 79 = .ok (.goto 13, 3) := by decide +kernel
set_option maxRecDepth 100000 in
theorem dL_law_82 : decode cL_law 82 = .ok (.bipush 50, 2) := by decide +kernel
set_option maxRecDepth 100000 in
theorem dL_law_84 : decode cL_law 84 = .ok (.iload 6, 2) := by decide +kernel
set_option maxRecDepth 100000 in
theorem dL_law_86 : decode cL_law 86 = .ok (.iconst 4, 1) := by decide +kernel
set_option maxRecDepth 100000 in
theorem dL_law_87 : decode cL_law 87 = .ok (.idiv, 1) := by decide +kernel
set_option maxRecDepth 100000 in
theorem dL_law_88 : decode cL_law 88 = .ok (.bipush 101, 2) := by decide +kernel
set_option maxRecDepth 100000 in
theorem dL_law_90 : decode cL_law 90 = .ok (.irem, 1) := by decide +kernel
set_option maxRecDepth 100000 in
theorem dL_law_91 : decode cL_law 91 = .ok (.iadd, 1) := by decide +kernel
set_option maxRecDepth 100000 in
theorem dL_law_92 : decode cL_law 92 = .ok (.iastore, 1) := by decide +kernel
set_option maxRecDepth 100000 in
theorem dL_law_93 : decode cL_law 93 = .ok (.aload 4, 2) := by decide +kernel
set_option maxRecDepth 100000 in
theorem dL_law_95 : decode cL_law 95 = .ok (.iload 5, 2) := by decide +kernel
set_option maxRecDepth 100000 in
theorem dL_law_97 : decode cL_law 97 = .ok (.iload 6, 2) := by decide +kernel
set_option maxRecDepth 100000 in
theorem dL_law_99 : decode cL_law 99 = .ok (.iconst 5, 1) := by decide +kernel
set_option maxRecDepth 100000 in
theorem dL_law_100 : decode cL_law 100 = .ok (.irem, 1) := by decide +kernel
set_option maxRecDepth 100000 in
theorem dL_law_101 : decode cL_law 101 = .ok (.ifCond .ne 8, 3) := by decide +kernel
set_option maxRecDepth 100000 in
theorem dL_law_104 : decode cL_law 104 = .ok (.bipush 48, 2) := by decide +kernel
set_option maxRecDepth 100000 in
theorem dL_law_106 : decode cL_law 106 = .ok (.goto 15, 3) := by decide +kernel
set_option maxRecDepth 100000 in
theorem dL_law_109 : decode cL_law 109 = .ok (.bipush 24, 2) := by decide +kernel
set_option maxRecDepth 100000 in
theorem dL_law_111 : decode cL_law 111 = .ok (.iload 6, 2) := by decide +kernel
set_option maxRecDepth 100000 in
theorem dL_law_113 : decode cL_law 113 = .ok (.sipush 512, 3) := by decide +kernel
set_option maxRecDepth 100000 in
theorem dL_law_116 : decode cL_law 116 = .ok (.idiv, 1) := by decide +kernel
set_option maxRecDepth 100000 in
theorem dL_law_117 : decode cL_law 117 = .ok (.bipush 49, 2) := by decide +kernel
set_option maxRecDepth 100000 in
theorem dL_law_119 : decode cL_law 119 = .ok (.irem, 1) := by decide +kernel
set_option maxRecDepth 100000 in
theorem dL_law_120 : decode cL_law 120 = .ok (.iadd, 1) := by decide +kernel
set_option maxRecDepth 100000 in
theorem dL_law_121 : decode cL_law 121 = .ok (.iastore, 1) := by decide +kernel
set_option maxRecDepth 100000 in
theorem dL_law_122 : decode cL_law 122 = .ok (.aload_n 1, 1) := by decide +kernel
set_option maxRecDepth 100000 in
theorem dL_law_123 : decode cL_law 123 = .ok (.iload 5, 2) := by decide +kernel
set_option maxRecDepth 100000 in
theorem dL_law_125 : decode cL_law 125 = .ok (.iconst 0, 1) := by decide +kernel
set_option maxRecDepth 100000 in
theorem dL_law_126 : decode cL_law 126 = .ok (.aload_n 3, 1) := by decide +kernel
set_option maxRecDepth 100000 in
theorem dL_law_127 : decode cL_law 127 = .ok (.iload 5, 2) := by decide +kernel
set_option maxRecDepth 100000 in
theorem dL_law_129 : decode cL_law 129 = .ok (.iaload, 1) := by decide +kernel
set_option maxRecDepth 100000 in
theorem dL_law_130 : decode cL_law 130 = .ok (.invokevirtual 44, 3) := by decide +kernel
set_option maxRecDepth 100000 in
theorem dL_law_133 : decode cL_law 133 = .ok (.bipush 100, 2) := by decide +kernel
set_option maxRecDepth 100000 in
theorem dL_law_135 : decode cL_law 135 = .ok (.if_icmp .ne 20, 3) := by decide +kernel
set_option maxRecDepth 100000 in
theorem dL_law_138 : decode cL_law 138 = .ok (.aload_n 1, 1) := by decide +kernel
set_option maxRecDepth 100000 in
theorem dL_law_139 : decode cL_law 139 = .ok (.iload 5, 2) := by decide +kernel
set_option maxRecDepth 100000 in
theorem dL_law_141 : decode cL_law 141 = .ok (.iconst 1, 1) := by decide +kernel
set_option maxRecDepth 100000 in
theorem dL_law_142 : decode cL_law 142 = .ok (.aload 4, 2) := by decide +kernel
set_option maxRecDepth 100000 in
theorem dL_law_144 : decode cL_law 144 = .ok (.iload 5, 2) := by decide +kernel
set_option maxRecDepth 100000 in
theorem dL_law_146 : decode cL_law 146 = .ok (.iaload, 1) := by decide +kernel
set_option maxRecDepth 100000 in
theorem dL_law_147 : decode cL_law 147 = .ok (.invokevirtual 44, 3) := by decide +kernel
set_option maxRecDepth 100000 in
theorem dL_law_150 : decode cL_law 150 = .ok (.bipush 48, 2) := by decide +kernel
set_option maxRecDepth 100000 in
theorem dL_law_152 : decode cL_law 152 = .ok (.if_icmp .eq 5, 3) := by decide +kernel
set_option maxRecDepth 100000 in
theorem dL_law_155 : decode cL_law 155 = .ok (.iconst 0, 1) := by decide +kernel
set_option maxRecDepth 100000 in
theorem dL_law_156 : decode cL_law 156 = .ok (.ireturn, 1) := by decide +kernel
set_option maxRecDepth 100000 in
theorem dL_law_157 : decode cL_law 157 = .ok (.iinc 5 1, 3) := by decide +kernel
set_option maxRecDepth 100000 in
theorem dL_law_160 : decode cL_law 160 = .ok (.goto (-109), 3) := by decide +kernel
set_option maxRecDepth 100000 in
theorem dL_law_163 : decode cL_law 163 = .ok (.aload_n 0, 1) := by decide +kernel
set_option maxRecDepth 100000 in
theorem dL_law_164 : decode cL_law 164 = .ok (.bipush 7, 2) := by decide +kernel
set_option maxRecDepth 100000 in
theorem dL_law_166 : decode cL_law 166 = .ok (.invokestatic 37, 3) := by decide +kernel
set_option maxRecDepth 100000 in
theorem dL_law_169 : decode cL_law 169 = .ok (.bipush 6, 2) := by decide +kernel
set_option maxRecDepth 100000 in
theorem dL_law_171 : decode cL_law 171 = .ok (.irem, 1) := by decide +kernel
set_option maxRecDepth 100000 in
theorem dL_law_172 : decode cL_law 172 = .ok (.istore 5, 2) := by decide +kernel
set_option maxRecDepth 100000 in
theorem dL_law_174 : decode cL_law 174 = .ok (.bipush 6, 2) := by decide +kernel
set_option maxRecDepth 100000 in
theorem dL_law_176 : decode cL_law 176 = .ok (.newarray .int, 2) := by decide +kernel
set_option maxRecDepth 100000 in
theorem dL_law_178 : decode cL_law 178 = .ok (.astore 6, 2) := by decide +kernel
set_option maxRecDepth 100000 in
theorem dL_law_180 : decode cL_law 180 = .ok (.bipush 6, 2) := by decide +kernel
set_option maxRecDepth 100000 in
theorem dL_law_182 : decode cL_law 182 = .ok (.newarray .int, 2) := by decide +kernel
set_option maxRecDepth 100000 in
theorem dL_law_184 : decode cL_law 184 = .ok (.astore 7, 2) := by decide +kernel
set_option maxRecDepth 100000 in
theorem dL_law_186 : decode cL_law 186 = .ok (.bipush 6, 2) := by decide +kernel
set_option maxRecDepth 100000 in
theorem dL_law_188 : decode cL_law 188 = .ok (.newarray .int, 2) := by decide +kernel
set_option maxRecDepth 100000 in
theorem dL_law_190 : decode cL_law 190 = .ok (.astore 8, 2) := by decide +kernel
set_option maxRecDepth 100000 in
theorem dL_law_192 : decode cL_law 192 = .ok (.iconst 0, 1) := by decide +kernel
set_option maxRecDepth 100000 in
theorem dL_law_193 : decode cL_law 193 = .ok (.istore 9, 2) := by decide +kernel
set_option maxRecDepth 100000 in
theorem dL_law_195 : decode cL_law 195 = .ok (.iload 9, 2) := by decide +kernel
set_option maxRecDepth 100000 in
theorem dL_law_197 : decode cL_law 197 = .ok (.iload 5, 2) := by decide +kernel
set_option maxRecDepth 100000 in
theorem dL_law_199 : decode cL_law 199 = .ok (.if_icmp .ge 240, 3) := by decide +kernel
set_option maxRecDepth 100000 in
theorem dL_law_202 : decode cL_law 202 = .ok (.aload_n 0, 1) := by decide +kernel
set_option maxRecDepth 100000 in
theorem dL_law_203 : decode cL_law 203 = .ok (.bipush 8, 2) := by decide +kernel
set_option maxRecDepth 100000 in
theorem dL_law_205 : decode cL_law 205 = .ok (.iload 9, 2) := by decide +kernel
set_option maxRecDepth 100000 in
theorem dL_law_207 : decode cL_law 207 = .ok (.iadd, 1) := by decide +kernel
set_option maxRecDepth 100000 in
theorem dL_law_208 : decode cL_law 208 = .ok (.invokestatic 37, 3) := by decide +kernel
set_option maxRecDepth 100000 in
theorem dL_law_211 : decode cL_law 211 = .ok (.istore 10, 2) := by decide +kernel
set_option maxRecDepth 100000 in
theorem dL_law_213 : decode cL_law 213 = .ok (.aload 6, 2) := by decide +kernel
set_option maxRecDepth 100000 in
theorem dL_law_215 : decode cL_law 215 = .ok (.iload 9, 2) := by decide +kernel
