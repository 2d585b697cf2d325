/-! The law's own code. -/
theorem d_law_427 : decode code 427 = .ok (.if_icmp .eq 5, 3) := by decide +kernel
theorem d_law_430 : decode code 430 = .ok (.iconst 0, 1) := by decide +kernel
theorem d_law_431 : decode code 431 = .ok (.ireturn, 1) := by decide +kernel
theorem d_law_432 : decode code 432 = .ok (.iload 5, 2) := by decide +kernel
theorem d_law_434 : decode code 434 = .ok (.ifCond .ne 15, 3) := by decide +kernel
theorem d_law_437 : decode code 437 = .ok (.aload_n 3, 1) := by decide +kernel
theorem d_law_438 : decode code 438 = .ok (.iconst 0, 1) := by decide +kernel
theorem d_law_439 : decode code 439 = .ok (.laload, 1) := by decide +kernel
theorem d_law_440 : decode code 440 = .ok (.iload 6, 2) := by decide +kernel
theorem d_law_442 : decode code 442 = .ok (.i2l, 1) := by decide +kernel
theorem d_law_443 : decode code 443 = .ok (.lcmp, 1) := by decide +kernel
theorem d_law_444 : decode code 444 = .ok (.ifCond .eq 5, 3) := by decide +kernel
theorem d_law_447 : decode code 447 = .ok (.iconst 0, 1) := by decide +kernel
theorem d_law_448 : decode code 448 = .ok (.ireturn, 1) := by decide +kernel
theorem d_law_449 : decode code 449 = .ok (.goto 240, 3) := by decide +kernel
theorem d_law_452 : decode code 452 = .ok (.aload_n 1, 1) := by decide +kernel
theorem d_law_453 : decode code 453 = .ok (.aload_n 3, 1) := by decide +kernel
theorem d_law_454 : decode code 454 = .ok (.invokestatic 86, 3) := by decide +kernel
theorem d_law_457 : decode code 457 = .ok (.istore 5, 2) := by decide +kernel
theorem d_law_459 : decode code 459 = .ok (.aload_n 2, 1) := by decide +kernel
theorem d_law_460 : decode code 460 = .ok (.invokevirtual 89, 3) := by decide +kernel
theorem d_law_463 : decode code 463 = .ok (.istore 6, 2) := by decide +kernel
theorem d_law_465 : decode code 465 = .ok (.aload_n 2, 1) := by decide +kernel
theorem d_law_466 : decode code 466 = .ok (.invokevirtual 66, 3) := by decide +kernel
theorem d_law_469 : decode code 469 = .ok (.iload 5, 2) := by decide +kernel
theorem d_law_471 : decode code 471 = .ok (.if_icmp .eq 5, 3) := by decide +kernel
theorem d_law_474 : decode code 474 = .ok (.iconst 0, 1) := by decide +kernel
theorem d_law_475 : decode code 475 = .ok (.ireturn, 1) := by decide +kernel
theorem d_law_476 : decode code 476 = .ok (.iload 5, 2) := by decide +kernel
theorem d_law_478 : decode code 478 = .ok (.ifCond .ne 15, 3) := by decide +kernel
theorem d_law_481 : decode code 481 = .ok (.aload_n 3, 1) := by decide +kernel
theorem d_law_482 : decode code 482 = .ok (.iconst 0, 1) := by decide +kernel
theorem d_law_483 : decode code 483 = .ok (.laload, 1) := by decide +kernel
theorem d_law_484 : decode code 484 = .ok (.iload 6, 2) := by decide +kernel
theorem d_law_486 : decode code 486 = .ok (.i2l, 1) := by decide +kernel
theorem d_law_487 : decode code 487 = .ok (.lcmp, 1) := by decide +kernel
theorem d_law_488 : decode code 488 = .ok (.ifCond .eq 5, 3) := by decide +kernel
theorem d_law_491 : decode code 491 = .ok (.iconst 0, 1) := by decide +kernel
theorem d_law_492 : decode code 492 = .ok (.ireturn, 1) := by decide +kernel
theorem d_law_493 : decode code 493 = .ok (.goto 196, 3) := by decide +kernel
theorem d_law_496 : decode code 496 = .ok (.aload_n 1, 1) := by decide +kernel
theorem d_law_497 : decode code 497 = .ok (.aload_n 0, 1) := by decide +kernel
theorem d_law_498 : decode code 498 = .ok (.iload 4, 2) := by decide +kernel
theorem d_law_500 : decode code 500 = .ok (.iconst 1, 1) := by decide +kernel
theorem d_law_501 : decode code 501 = .ok (.iadd, 1) := by decide +kernel
theorem d_law_502 : decode code 502 = .ok (.iaload, 1) := by decide +kernel
theorem d_law_503 : decode code 503 = .ok (.aload_n 3, 1) := by decide +kernel
theorem d_law_504 : decode code 504 = .ok (.invokestatic 90, 3) := by decide +kernel
theorem d_law_507 : decode code 507 = .ok (.istore 5, 2) := by decide +kernel
theorem d_law_509 : decode code 509 = .ok (.aload_n 2, 1) := by decide +kernel
theorem d_law_510 : decode code 510 = .ok (.aload_n 0, 1) := by decide +kernel
theorem d_law_511 : decode code 511 = .ok (.iload 4, 2) := by decide +kernel
theorem d_law_513 : decode code 513 = .ok (.iconst 1, 1) := by decide +kernel
theorem d_law_514 : decode code 514 = .ok (.iadd, 1) := by decide +kernel
theorem d_law_515 : decode code 515 = .ok (.iaload, 1) := by decide +kernel
theorem d_law_516 : decode code 516 = .ok (.invokevirtual 92, 3) := by decide +kernel
theorem d_law_519 : decode code 519 = .ok (.istore 6, 2) := by decide +kernel
theorem d_law_521 : decode code 521 = .ok (.aload_n 2, 1) := by decide +kernel
theorem d_law_522 : decode code 522 = .ok (.invokevirtual 66, 3) := by decide +kernel
theorem d_law_525 : decode code 525 = .ok (.iload 5, 2) := by decide +kernel
