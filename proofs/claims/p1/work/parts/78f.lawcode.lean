/-! The law's own code. -/
theorem d_law_527 : decode code 527 = .ok (.if_icmp .eq 5, 3) := by decide +kernel
theorem d_law_530 : decode code 530 = .ok (.iconst 0, 1) := by decide +kernel
theorem d_law_531 : decode code 531 = .ok (.ireturn, 1) := by decide +kernel
theorem d_law_532 : decode code 532 = .ok (.iload 5, 2) := by decide +kernel
theorem d_law_534 : decode code 534 = .ok (.ifCond .ne 15, 3) := by decide +kernel
theorem d_law_537 : decode code 537 = .ok (.aload_n 3, 1) := by decide +kernel
theorem d_law_538 : decode code 538 = .ok (.iconst 0, 1) := by decide +kernel
theorem d_law_539 : decode code 539 = .ok (.laload, 1) := by decide +kernel
theorem d_law_540 : decode code 540 = .ok (.iload 6, 2) := by decide +kernel
theorem d_law_542 : decode code 542 = .ok (.i2l, 1) := by decide +kernel
theorem d_law_543 : decode code 543 = .ok (.lcmp, 1) := by decide +kernel
theorem d_law_544 : decode code 544 = .ok (.ifCond .eq 5, 3) := by decide +kernel
theorem d_law_547 : decode code 547 = .ok (.iconst 0, 1) := by decide +kernel
theorem d_law_548 : decode code 548 = .ok (.ireturn, 1) := by decide +kernel
theorem d_law_549 : decode code 549 = .ok (.goto 140, 3) := by decide +kernel
theorem d_law_552 : decode code 552 = .ok (.aload_n 1, 1) := by decide +kernel
theorem d_law_553 : decode code 553 = .ok (.aload_n 0, 1) := by decide +kernel
theorem d_law_554 : decode code 554 = .ok (.iload 4, 2) := by decide +kernel
theorem d_law_556 : decode code 556 = .ok (.iconst 1, 1) := by decide +kernel
theorem d_law_557 : decode code 557 = .ok (.iadd, 1) := by decide +kernel
theorem d_law_558 : decode code 558 = .ok (.iaload, 1) := by decide +kernel
theorem d_law_559 : decode code 559 = .ok (.aload_n 3, 1) := by decide +kernel
theorem d_law_560 : decode code 560 = .ok (.invokestatic 93, 3) := by decide +kernel
theorem d_law_563 : decode code 563 = .ok (.istore 5, 2) := by decide +kernel
theorem d_law_565 : decode code 565 = .ok (.aload_n 2, 1) := by decide +kernel
theorem d_law_566 : decode code 566 = .ok (.aload_n 0, 1) := by decide +kernel
theorem d_law_567 : decode code 567 = .ok (.iload 4, 2) := by decide +kernel
theorem d_law_569 : decode code 569 = .ok (.iconst 1, 1) := by decide +kernel
theorem d_law_570 : decode code 570 = .ok (.iadd, 1) := by decide +kernel
theorem d_law_571 : decode code 571 = .ok (.iaload, 1) := by decide +kernel
theorem d_law_572 : decode code 572 = .ok (.invokevirtual 95, 3) := by decide +kernel
theorem d_law_575 : decode code 575 = .ok (.istore 6, 2) := by decide +kernel
theorem d_law_577 : decode code 577 = .ok (.aload_n 2, 1) := by decide +kernel
theorem d_law_578 : decode code 578 = .ok (.invokevirtual 66, 3) := by decide +kernel
theorem d_law_581 : decode code 581 = .ok (.iload 5, 2) := by decide +kernel
theorem d_law_583 : decode code 583 = .ok (.if_icmp .eq 5, 3) := by decide +kernel
theorem d_law_586 : decode code 586 = .ok (.iconst 0, 1) := by decide +kernel
theorem d_law_587 : decode code 587 = .ok (.ireturn, 1) := by decide +kernel
theorem d_law_588 : decode code 588 = .ok (.iload 5, 2) := by decide +kernel
theorem d_law_590 : decode code 590 = .ok (.ifCond .ne 15, 3) := by decide +kernel
theorem d_law_593 : decode code 593 = .ok (.aload_n 3, 1) := by decide +kernel
theorem d_law_594 : decode code 594 = .ok (.iconst 0, 1) := by decide +kernel
theorem d_law_595 : decode code 595 = .ok (.laload, 1) := by decide +kernel
theorem d_law_596 : decode code 596 = .ok (.iload 6, 2) := by decide +kernel
theorem d_law_598 : decode code 598 = .ok (.i2l, 1) := by decide +kernel
theorem d_law_599 : decode code 599 = .ok (.lcmp, 1) := by decide +kernel
theorem d_law_600 : decode code 600 = .ok (.ifCond .eq 5, 3) := by decide +kernel
theorem d_law_603 : decode code 603 = .ok (.iconst 0, 1) := by decide +kernel
theorem d_law_604 : decode code 604 = .ok (.ireturn, 1) := by decide +kernel
theorem d_law_605 : decode code 605 = .ok (.goto 84, 3) := by decide +kernel
theorem d_law_608 : decode code 608 = .ok (.aload_n 1, 1) := by decide +kernel
theorem d_law_609 : decode code 609 = .ok (.aload_n 0, 1) := by decide +kernel
theorem d_law_610 : decode code 610 = .ok (.iload 4, 2) := by decide +kernel
theorem d_law_612 : decode code 612 = .ok (.iconst 1, 1) := by decide +kernel
theorem d_law_613 : decode code 613 = .ok (.iadd, 1) := by decide +kernel
theorem d_law_614 : decode code 614 = .ok (.iaload, 1) := by decide +kernel
theorem d_law_615 : decode code 615 = .ok (.aload_n 3, 1) := by decide +kernel
theorem d_law_616 : decode code 616 = .ok (.invokestatic 96, 3) := by decide +kernel
theorem d_law_619 : decode code 619 = .ok (.istore 5, 2) := by decide +kernel
theorem d_law_621 : decode code 621 = .ok (.aload_n 2, 1) := by decide +kernel
