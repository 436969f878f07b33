/-! what each instruction is (printed by program) -/
theorem d_Z_law_435 : decode code 435 = .ok (.ifCond .eq 5, 3) := by decide +kernel
theorem d_Z_law_438 : decode code 438 = .ok (.iconst 0, 1) := by decide +kernel
theorem d_Z_law_439 : decode code 439 = .ok (.ireturn, 1) := by decide +kernel
theorem d_Z_law_440 : decode code 440 = .ok (.goto 660, 3) := by decide +kernel
theorem d_Z_law_443 : decode code 443 = .ok (.aload_n 1, 1) := by decide +kernel
theorem d_Z_law_444 : decode code 444 = .ok (.aload_n 0, 1) := by decide +kernel
theorem d_Z_law_445 : decode code 445 = .ok (.iload 4, 2) := by decide +kernel
theorem d_Z_law_447 : decode code 447 = .ok (.iconst 1, 1) := by decide +kernel
theorem d_Z_law_448 : decode code 448 = .ok (.iadd, 1) := by decide +kernel
theorem d_Z_law_449 : decode code 449 = .ok (.iaload, 1) := by decide +kernel
theorem d_Z_law_450 : decode code 450 = .ok (.aload_n 0, 1) := by decide +kernel
theorem d_Z_law_451 : decode code 451 = .ok (.iload 4, 2) := by decide +kernel
theorem d_Z_law_453 : decode code 453 = .ok (.iconst 2, 1) := by decide +kernel
theorem d_Z_law_454 : decode code 454 = .ok (.iadd, 1) := by decide +kernel
theorem d_Z_law_455 : decode code 455 = .ok (.iaload, 1) := by decide +kernel
theorem d_Z_law_456 : decode code 456 = .ok (.ifCond .eq 7, 3) := by decide +kernel
theorem d_Z_law_459 : decode code 459 = .ok (.iconst 1, 1) := by decide +kernel
theorem d_Z_law_460 : decode code 460 = .ok (.goto 4, 3) := by decide +kernel
theorem d_Z_law_463 : decode code 463 = .ok (.iconst 0, 1) := by decide +kernel
theorem d_Z_law_464 : decode code 464 = .ok (.invokestatic 94, 3) := by decide +kernel
theorem d_Z_law_467 : decode code 467 = .ok (.istore 5, 2) := by decide +kernel
theorem d_Z_law_469 : decode code 469 = .ok (.aload_n 2, 1) := by decide +kernel
theorem d_Z_law_470 : decode code 470 = .ok (.aload_n 0, 1) := by decide +kernel
theorem d_Z_law_471 : decode code 471 = .ok (.iload 4, 2) := by decide +kernel
theorem d_Z_law_473 : decode code 473 = .ok (.iconst 1, 1) := by decide +kernel
theorem d_Z_law_474 : decode code 474 = .ok (.iadd, 1) := by decide +kernel
theorem d_Z_law_475 : decode code 475 = .ok (.iaload, 1) := by decide +kernel
theorem d_Z_law_476 : decode code 476 = .ok (.aload_n 0, 1) := by decide +kernel
theorem d_Z_law_477 : decode code 477 = .ok (.iload 4, 2) := by decide +kernel
theorem d_Z_law_479 : decode code 479 = .ok (.iconst 2, 1) := by decide +kernel
theorem d_Z_law_480 : decode code 480 = .ok (.iadd, 1) := by decide +kernel
theorem d_Z_law_481 : decode code 481 = .ok (.iaload, 1) := by decide +kernel
theorem d_Z_law_482 : decode code 482 = .ok (.ifCond .eq 7, 3) := by decide +kernel
theorem d_Z_law_485 : decode code 485 = .ok (.iconst 1, 1) := by decide +kernel
theorem d_Z_law_486 : decode code 486 = .ok (.goto 4, 3) := by decide +kernel
theorem d_Z_law_489 : decode code 489 = .ok (.iconst 0, 1) := by decide +kernel
theorem d_Z_law_490 : decode code 490 = .ok (.invokevirtual 97, 3) := by decide +kernel
theorem d_Z_law_493 : decode code 493 = .ok (.aload_n 2, 1) := by decide +kernel
theorem d_Z_law_494 : decode code 494 = .ok (.invokevirtual 82, 3) := by decide +kernel
theorem d_Z_law_497 : decode code 497 = .ok (.iload 5, 2) := by decide +kernel
theorem d_Z_law_499 : decode code 499 = .ok (.if_icmp .eq 5, 3) := by decide +kernel
theorem d_Z_law_502 : decode code 502 = .ok (.iconst 0, 1) := by decide +kernel
theorem d_Z_law_503 : decode code 503 = .ok (.ireturn, 1) := by decide +kernel
theorem d_Z_law_504 : decode code 504 = .ok (.goto 596, 3) := by decide +kernel
theorem d_Z_law_507 : decode code 507 = .ok (.aload_n 1, 1) := by decide +kernel
theorem d_Z_law_508 : decode code 508 = .ok (.aload_n 0, 1) := by decide +kernel
theorem d_Z_law_509 : decode code 509 = .ok (.iload 4, 2) := by decide +kernel
theorem d_Z_law_511 : decode code 511 = .ok (.iconst 1, 1) := by decide +kernel
theorem d_Z_law_512 : decode code 512 = .ok (.iadd, 1) := by decide +kernel
theorem d_Z_law_513 : decode code 513 = .ok (.iaload, 1) := by decide +kernel
theorem d_Z_law_514 : decode code 514 = .ok (.aload_n 0, 1) := by decide +kernel
theorem d_Z_law_515 : decode code 515 = .ok (.iload 4, 2) := by decide +kernel
theorem d_Z_law_517 : decode code 517 = .ok (.iconst 2, 1) := by decide +kernel
theorem d_Z_law_518 : decode code 518 = .ok (.iadd, 1) := by decide +kernel
theorem d_Z_law_519 : decode code 519 = .ok (.iaload, 1) := by decide +kernel
theorem d_Z_law_520 : decode code 520 = .ok (.aload_n 3, 1) := by decide +kernel
theorem d_Z_law_521 : decode code 521 = .ok (.invokestatic 98, 3) := by decide +kernel
theorem d_Z_law_524 : decode code 524 = .ok (.istore 5, 2) := by decide +kernel
theorem d_Z_law_526 : decode code 526 = .ok (.aload_n 2, 1) := by decide +kernel
theorem d_Z_law_527 : decode code 527 = .ok (.aload_n 0, 1) := by decide +kernel
theorem d_Z_law_528 : decode code 528 = .ok (.iload 4, 2) := by decide +kernel
theorem d_Z_law_530 : decode code 530 = .ok (.iconst 1, 1) := by decide +kernel
theorem d_Z_law_531 : decode code 531 = .ok (.iadd, 1) := by decide +kernel
theorem d_Z_law_532 : decode code 532 = .ok (.iaload, 1) := by decide +kernel
theorem d_Z_law_533 : decode code 533 = .ok (.aload_n 0, 1) := by decide +kernel
theorem d_Z_law_534 : decode code 534 = .ok (.iload 4, 2) := by decide +kernel
theorem d_Z_law_536 : decode code 536 = .ok (.iconst 2, 1) := by decide +kernel
theorem d_Z_law_537 : decode code 537 = .ok (.iadd, 1) := by decide +kernel
theorem d_Z_law_538 : decode code 538 = .ok (.iaload, 1) := by decide +kernel
theorem d_Z_law_539 : decode code 539 = .ok (.invokevirtual 100, 3) := by decide +kernel
theorem d_Z_law_542 : decode code 542 = .ok (.istore 6, 2) := by decide +kernel
theorem d_Z_law_544 : decode code 544 = .ok (.aload_n 2, 1) := by decide +kernel
theorem d_Z_law_545 : decode code 545 = .ok (.invokevirtual 82, 3) := by decide +kernel
theorem d_Z_law_548 : decode code 548 = .ok (.iload 5, 2) := by decide +kernel
theorem d_Z_law_550 : decode code 550 = .ok (.if_icmp .eq 5, 3) := by decide +kernel
theorem d_Z_law_553 : decode code 553 = .ok (.iconst 0, 1) := by decide +kernel
theorem d_Z_law_554 : decode code 554 = .ok (.ireturn, 1) := by decide +kernel
theorem d_Z_law_555 : decode code 555 = .ok (.iload 5, 2) := by decide +kernel
theorem d_Z_law_557 : decode code 557 = .ok (.ifCond .ne 15, 3) := by decide +kernel
theorem d_Z_law_560 : decode code 560 = .ok (.aload_n 3, 1) := by decide +kernel
theorem d_Z_law_561 : decode code 561 = .ok (.iconst 0, 1) := by decide +kernel
theorem d_Z_law_562 : decode code 562 = .ok (.laload, 1) := by decide +kernel
theorem d_Z_law_563 : decode code 563 = .ok (.iload 6, 2) := by decide +kernel
theorem d_Z_law_565 : decode code 565 = .ok (.i2l, 1) := by decide +kernel
theorem d_Z_law_566 : decode code 566 = .ok (.lcmp, 1) := by decide +kernel
theorem d_Z_law_567 : decode code 567 = .ok (.ifCond .eq 5, 3) := by decide +kernel
theorem d_Z_law_570 : decode code 570 = .ok (.iconst 0, 1) := by decide +kernel
theorem d_Z_law_571 : decode code 571 = .ok (.ireturn, 1) := by decide +kernel
theorem d_Z_law_572 : decode code 572 = .ok (.goto 528, 3) := by decide +kernel
theorem d_Z_law_575 : decode code 575 = .ok (.aload_n 1, 1) := by decide +kernel
theorem d_Z_law_576 : decode code 576 = .ok (.aload_n 0, 1) := by decide +kernel
theorem d_Z_law_577 : decode code 577 = .ok (.iload 4, 2) := by decide +kernel
theorem d_Z_law_579 : decode code 579 = .ok (.iconst 1, 1) := by decide +kernel
theorem d_Z_law_580 : decode code 580 = .ok (.iadd, 1) := by decide +kernel
theorem d_Z_law_581 : decode code 581 = .ok (.iaload, 1) := by decide +kernel
theorem d_Z_law_582 : decode code 582 = .ok (.aload_n 0, 1) := by decide +kernel
theorem d_Z_law_583 : decode code 583 = .ok (.iload 4, 2) := by decide +kernel
theorem d_Z_law_585 : decode code 585 = .ok (.iconst 2, 1) := by decide +kernel
theorem d_Z_law_586 : decode code 586 = .ok (.iadd, 1) := by decide +kernel
theorem d_Z_law_587 : decode code 587 = .ok (.iaload, 1) := by decide +kernel
theorem d_Z_law_588 : decode code 588 = .ok (.aload_n 3, 1) := by decide +kernel
theorem d_Z_law_589 : decode code 589 = .ok (.invokestatic 101, 3) := by decide +kernel
theorem d_Z_law_592 : decode code 592 = .ok (.istore 5, 2) := by decide +kernel
theorem d_Z_law_594 : decode code 594 = .ok (.aload_n 2, 1) := by decide +kernel
theorem d_Z_law_595 : decode code 595 = .ok (.aload_n 0, 1) := by decide +kernel
theorem d_Z_law_596 : decode code 596 = .ok (.iload 4, 2) := by decide +kernel
theorem d_Z_law_598 : decode code 598 = .ok (.iconst 1, 1) := by decide +kernel
theorem d_Z_law_599 : decode code 599 = .ok (.iadd, 1) := by decide +kernel
theorem d_Z_law_600 : decode code 600 = .ok (.iaload, 1) := by decide +kernel
theorem d_Z_law_601 : decode code 601 = .ok (.aload_n 0, 1) := by decide +kernel
theorem d_Z_law_602 : decode code 602 = .ok (.iload 4, 2) := by decide +kernel
theorem d_Z_law_604 : decode code 604 = .ok (.iconst 2, 1) := by decide +kernel
theorem d_Z_law_605 : decode code 605 = .ok (.iadd, 1) := by decide +kernel
theorem d_Z_law_606 : decode code 606 = .ok (.iaload, 1) := by decide +kernel
theorem d_Z_law_607 : decode code 607 = .ok (.invokevirtual 103, 3) := by decide +kernel
theorem d_Z_law_610 : decode code 610 = .ok (.istore 6, 2) := by decide +kernel
theorem d_Z_law_612 : decode code 612 = .ok (.aload_n 2, 1) := by decide +kernel
theorem d_Z_law_613 : decode code 613 = .ok (.invokevirtual 82, 3) := by decide +kernel
theorem d_Z_law_616 : decode code 616 = .ok (.iload 5, 2) := by decide +kernel
theorem d_Z_law_618 : decode code 618 = .ok (.if_icmp .eq 5, 3) := by decide +kernel
