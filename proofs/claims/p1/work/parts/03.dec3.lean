theorem d_La_law_449 : decode code 449 = .ok (.iconst 1, 1) := by decide +kernel
theorem d_La_law_450 : decode code 450 = .ok (.iadd, 1) := by decide +kernel
theorem d_La_law_451 : decode code 451 = .ok (.iaload, 1) := by decide +kernel
theorem d_La_law_452 : decode code 452 = .ok (.aload_n 0, 1) := by decide +kernel
theorem d_La_law_453 : decode code 453 = .ok (.iload 4, 2) := by decide +kernel
theorem d_La_law_455 : decode code 455 = .ok (.iconst 2, 1) := by decide +kernel
theorem d_La_law_456 : decode code 456 = .ok (.iadd, 1) := by decide +kernel
theorem d_La_law_457 : decode code 457 = .ok (.iaload, 1) := by decide +kernel
theorem d_La_law_458 : decode code 458 = .ok (.aload_n 0, 1) := by decide +kernel
theorem d_La_law_459 : decode code 459 = .ok (.iload 4, 2) := by decide +kernel
theorem d_La_law_461 : decode code 461 = .ok (.iconst 3, 1) := by decide +kernel
theorem d_La_law_462 : decode code 462 = .ok (.iadd, 1) := by decide +kernel
theorem d_La_law_463 : decode code 463 = .ok (.iaload, 1) := by decide +kernel
theorem d_La_law_464 : decode code 464 = .ok (.invokevirtual 90, 3) := by decide +kernel
theorem d_La_law_467 : decode code 467 = .ok (.aload_n 2, 1) := by decide +kernel
theorem d_La_law_468 : decode code 468 = .ok (.aload_n 0, 1) := by decide +kernel
theorem d_La_law_469 : decode code 469 = .ok (.iload 4, 2) := by decide +kernel
theorem d_La_law_471 : decode code 471 = .ok (.iconst 1, 1) := by decide +kernel
theorem d_La_law_472 : decode code 472 = .ok (.iadd, 1) := by decide +kernel
theorem d_La_law_473 : decode code 473 = .ok (.iaload, 1) := by decide +kernel
theorem d_La_law_474 : decode code 474 = .ok (.aload_n 0, 1) := by decide +kernel
theorem d_La_law_475 : decode code 475 = .ok (.iload 4, 2) := by decide +kernel
theorem d_La_law_477 : decode code 477 = .ok (.iconst 2, 1) := by decide +kernel
theorem d_La_law_478 : decode code 478 = .ok (.iadd, 1) := by decide +kernel
theorem d_La_law_479 : decode code 479 = .ok (.iaload, 1) := by decide +kernel
theorem d_La_law_480 : decode code 480 = .ok (.aload_n 0, 1) := by decide +kernel
theorem d_La_law_481 : decode code 481 = .ok (.iload 4, 2) := by decide +kernel
theorem d_La_law_483 : decode code 483 = .ok (.iconst 3, 1) := by decide +kernel
theorem d_La_law_484 : decode code 484 = .ok (.iadd, 1) := by decide +kernel
theorem d_La_law_485 : decode code 485 = .ok (.iaload, 1) := by decide +kernel
theorem d_La_law_486 : decode code 486 = .ok (.invokevirtual 94, 3) := by decide +kernel
theorem d_La_law_489 : decode code 489 = .ok (.if_icmp .eq 171, 3) := by decide +kernel
theorem d_La_law_494 : decode code 494 = .ok (.aload_n 1, 1) := by decide +kernel
theorem d_La_law_495 : decode code 495 = .ok (.aload_n 0, 1) := by decide +kernel
theorem d_La_law_496 : decode code 496 = .ok (.iload 4, 2) := by decide +kernel
theorem d_La_law_498 : decode code 498 = .ok (.iconst 1, 1) := by decide +kernel
theorem d_La_law_499 : decode code 499 = .ok (.iadd, 1) := by decide +kernel
theorem d_La_law_500 : decode code 500 = .ok (.iaload, 1) := by decide +kernel
theorem d_La_law_501 : decode code 501 = .ok (.aload_n 3, 1) := by decide +kernel
theorem d_La_law_502 : decode code 502 = .ok (.invokestatic 95, 3) := by decide +kernel
theorem d_La_law_505 : decode code 505 = .ok (.istore 5, 2) := by decide +kernel
theorem d_La_law_507 : decode code 507 = .ok (.aload_n 2, 1) := by decide +kernel
theorem d_La_law_508 : decode code 508 = .ok (.aload_n 0, 1) := by decide +kernel
theorem d_La_law_509 : decode code 509 = .ok (.iload 4, 2) := by decide +kernel
theorem d_La_law_511 : decode code 511 = .ok (.iconst 1, 1) := by decide +kernel
theorem d_La_law_512 : decode code 512 = .ok (.iadd, 1) := by decide +kernel
theorem d_La_law_513 : decode code 513 = .ok (.iaload, 1) := by decide +kernel
theorem d_La_law_514 : decode code 514 = .ok (.invokevirtual 98, 3) := by decide +kernel
theorem d_La_law_517 : decode code 517 = .ok (.lstore 6, 2) := by decide +kernel
theorem d_La_law_519 : decode code 519 = .ok (.aload_n 2, 1) := by decide +kernel
theorem d_La_law_520 : decode code 520 = .ok (.invokevirtual 54, 3) := by decide +kernel
theorem d_La_law_523 : decode code 523 = .ok (.iload 5, 2) := by decide +kernel
theorem d_La_law_525 : decode code 525 = .ok (.if_icmp .eq 5, 3) := by decide +kernel
theorem d_La_law_530 : decode code 530 = .ok (.iload 5, 2) := by decide +kernel
theorem d_La_law_532 : decode code 532 = .ok (.ifCond .ne 14, 3) := by decide +kernel
theorem d_La_law_546 : decode code 546 = .ok (.goto 114, 3) := by decide +kernel
theorem d_La_law_549 : decode code 549 = .ok (.aload_n 1, 1) := by decide +kernel
theorem d_La_law_550 : decode code 550 = .ok (.aload_n 0, 1) := by decide +kernel
theorem d_La_law_551 : decode code 551 = .ok (.iload 4, 2) := by decide +kernel
theorem d_La_law_553 : decode code 553 = .ok (.iconst 1, 1) := by decide +kernel
theorem d_La_law_554 : decode code 554 = .ok (.iadd, 1) := by decide +kernel
theorem d_La_law_555 : decode code 555 = .ok (.iaload, 1) := by decide +kernel
theorem d_La_law_556 : decode code 556 = .ok (.aload_n 3, 1) := by decide +kernel
theorem d_La_law_557 : decode code 557 = .ok (.invokestatic 99, 3) := by decide +kernel
theorem d_La_law_560 : decode code 560 = .ok (.istore 5, 2) := by decide +kernel
theorem d_La_law_562 : decode code 562 = .ok (.aload_n 2, 1) := by decide +kernel
theorem d_La_law_563 : decode code 563 = .ok (.aload_n 0, 1) := by decide +kernel
theorem d_La_law_564 : decode code 564 = .ok (.iload 4, 2) := by decide +kernel
theorem d_La_law_566 : decode code 566 = .ok (.iconst 1, 1) := by decide +kernel
theorem d_La_law_567 : decode code 567 = .ok (.iadd, 1) := by decide +kernel
theorem d_La_law_568 : decode code 568 = .ok (.iaload, 1) := by decide +kernel
theorem d_La_law_569 : decode code 569 = .ok (.invokevirtual 101, 3) := by decide +kernel
theorem d_La_law_572 : decode code 572 = .ok (.lstore 6, 2) := by decide +kernel
theorem d_La_law_574 : decode code 574 = .ok (.aload_n 2, 1) := by decide +kernel
theorem d_La_law_575 : decode code 575 = .ok (.invokevirtual 54, 3) := by decide +kernel
theorem d_La_law_578 : decode code 578 = .ok (.iload 5, 2) := by decide +kernel
theorem d_La_law_580 : decode code 580 = .ok (.if_icmp .eq 5, 3) := by decide +kernel
theorem d_La_law_585 : decode code 585 = .ok (.iload 5, 2) := by decide +kernel
theorem d_La_law_587 : decode code 587 = .ok (.ifCond .ne 14, 3) := by decide +kernel
theorem d_La_law_601 : decode code 601 = .ok (.goto 59, 3) := by decide +kernel
theorem d_La_law_604 : decode code 604 = .ok (.aload_n 1, 1) := by decide +kernel
theorem d_La_law_605 : decode code 605 = .ok (.aload_n 0, 1) := by decide +kernel
theorem d_La_law_606 : decode code 606 = .ok (.iload 4, 2) := by decide +kernel
theorem d_La_law_608 : decode code 608 = .ok (.iconst 1, 1) := by decide +kernel
theorem d_La_law_609 : decode code 609 = .ok (.iadd, 1) := by decide +kernel
theorem d_La_law_610 : decode code 610 = .ok (.iaload, 1) := by decide +kernel
theorem d_La_law_611 : decode code 611 = .ok (.aload_n 3, 1) := by decide +kernel
theorem d_La_law_612 : decode code 612 = .ok (.invokestatic 102, 3) := by decide +kernel
theorem d_La_law_615 : decode code 615 = .ok (.istore 5, 2) := by decide +kernel
theorem d_La_law_617 : decode code 617 = .ok (.aload_n 2, 1) := by decide +kernel
theorem d_La_law_618 : decode code 618 = .ok (.aload_n 0, 1) := by decide +kernel
theorem d_La_law_619 : decode code 619 = .ok (.iload 4, 2) := by decide +kernel
theorem d_La_law_621 : decode code 621 = .ok (.iconst 1, 1) := by decide +kernel
theorem d_La_law_622 : decode code 622 = .ok (.iadd, 1) := by decide +kernel
theorem d_La_law_623 : decode code 623 = .ok (.iaload, 1) := by decide +kernel
theorem d_La_law_624 : decode code 624 = .ok (.invokevirtual 104, 3) := by decide +kernel
theorem d_La_law_627 : decode code 627 = .ok (.istore 6, 2) := by decide +kernel
theorem d_La_law_629 : decode code 629 = .ok (.aload_n 2, 1) := by decide +kernel
theorem d_La_law_630 : decode code 630 = .ok (.invokevirtual 54, 3) := by decide +kernel
theorem d_La_law_633 : decode code 633 = .ok (.iload 5, 2) := by decide +kernel
theorem d_La_law_635 : decode code 635 = .ok (.if_icmp .eq 5, 3) := by decide +kernel
theorem d_La_law_640 : decode code 640 = .ok (.iload 5, 2) := by decide +kernel
theorem d_La_law_642 : decode code 642 = .ok (.ifCond .ne 15, 3) := by decide +kernel
theorem d_La_law_657 : decode code 657 = .ok (.goto 3, 3) := by decide +kernel
theorem d_La_law_660 : decode code 660 = .ok (.iinc 4 4, 3) := by decide +kernel
theorem d_La_law_663 : decode code 663 = .ok (.goto (-640), 3) := by decide +kernel
theorem d_La_law_666 : decode code 666 = .ok (.iconst 1, 1) := by decide +kernel
theorem d_La_law_667 : decode code 667 = .ok (.ireturn, 1) := by decide +kernel
theorem d_La_lower_0 : decode b_La_lower 0 = .ok (.aload_n 2, 1) := by decide +kernel
theorem d_La_lower_1 : decode b_La_lower 1 = .ok (.iconst 0, 1) := by decide +kernel
theorem d_La_lower_2 : decode b_La_lower 2 = .ok (.aload_n 0, 1) := by decide +kernel
theorem d_La_lower_3 : decode b_La_lower 3 = .ok (.iload_n 1, 1) := by decide +kernel
theorem d_La_lower_4 : decode b_La_lower 4 = .ok (.invokevirtual 26, 3) := by decide +kernel
theorem d_La_lower_11 : decode b_La_lower 11 = .ok (.astore_n 3, 1) := by decide +kernel
theorem d_La_lower_12 : decode b_La_lower 12 = .ok (.iconst 1, 1) := by decide +kernel
theorem d_La_lower_13 : decode b_La_lower 13 = .ok (.ireturn, 1) := by decide +kernel
theorem d_La_read_0 : decode b_La_read 0 = .ok (.aload_n 1, 1) := by decide +kernel
theorem d_La_read_1 : decode b_La_read 1 = .ok (.iconst 0, 1) := by decide +kernel
theorem d_La_read_2 : decode b_La_read 2 = .ok (.aload_n 0, 1) := by decide +kernel
theorem d_La_read_3 : decode b_La_read 3 = .ok (.invokevirtual 7, 3) := by decide +kernel
theorem d_La_read_11 : decode b_La_read 11 = .ok (.astore_n 2, 1) := by decide +kernel
theorem d_La_read_12 : decode b_La_read 12 = .ok (.iconst 1, 1) := by decide +kernel
theorem d_La_read_13 : decode b_La_read 13 = .ok (.ireturn, 1) := by decide +kernel
theorem d_La_solve_0 : decode b_La_solve 0 = .ok (.aload_n 1, 1) := by decide +kernel
theorem d_La_solve_1 : decode b_La_solve 1 = .ok (.iconst 0, 1) := by decide +kernel
theorem d_La_solve_2 : decode b_La_solve 2 = .ok (.aload_n 0, 1) := by decide +kernel
theorem d_La_solve_3 : decode b_La_solve 3 = .ok (.invokevirtual 15, 3) := by decide +kernel
theorem d_La_solve_11 : decode b_La_solve 11 = .ok (.astore_n 2, 1) := by decide +kernel
theorem d_La_solve_12 : decode b_La_solve 12 = .ok (.iconst 1, 1) := by decide +kernel
theorem d_La_solve_13 : decode b_La_solve 13 = .ok (.ireturn, 1) := by decide +kernel
theorem d_La_upper_0 : decode b_La_upper 0 = .ok (.aload_n 2, 1) := by decide +kernel
theorem d_La_upper_1 : decode b_La_upper 1 = .ok (.iconst 0, 1) := by decide +kernel
theorem d_La_upper_2 : decode b_La_upper 2 = .ok (.aload_n 0, 1) := by decide +kernel
theorem d_La_upper_3 : decode b_La_upper 3 = .ok (.iload_n 1, 1) := by decide +kernel
theorem d_La_upper_4 : decode b_La_upper 4 = .ok (.invokevirtual 20, 3) := by decide +kernel
theorem d_La_upper_11 : decode b_La_upper 11 = .ok (.astore_n 3, 1) := by decide +kernel
theorem d_La_upper_12 : decode b_La_upper 12 = .ok (.iconst 1, 1) := by decide +kernel
theorem d_La_upper_13 : decode b_La_upper 13 = .ok (.ireturn, 1) := by decide +kernel
