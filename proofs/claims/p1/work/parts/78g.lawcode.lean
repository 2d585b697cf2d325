/-! The law's own code. -/
theorem d_law_622 : decode code 622 = .ok (.aload_n 0, 1) := by decide +kernel
theorem d_law_623 : decode code 623 = .ok (.iload 4, 2) := by decide +kernel
theorem d_law_625 : decode code 625 = .ok (.iconst 1, 1) := by decide +kernel
theorem d_law_626 : decode code 626 = .ok (.iadd, 1) := by decide +kernel
theorem d_law_627 : decode code 627 = .ok (.iaload, 1) := by decide +kernel
theorem d_law_628 : decode code 628 = .ok (.invokevirtual 98, 3) := by decide +kernel
theorem d_law_631 : decode code 631 = .ok (.istore 6, 2) := by decide +kernel
theorem d_law_633 : decode code 633 = .ok (.aload_n 2, 1) := by decide +kernel
theorem d_law_634 : decode code 634 = .ok (.invokevirtual 66, 3) := by decide +kernel
theorem d_law_637 : decode code 637 = .ok (.iload 5, 2) := by decide +kernel
theorem d_law_639 : decode code 639 = .ok (.if_icmp .eq 5, 3) := by decide +kernel
theorem d_law_642 : decode code 642 = .ok (.iconst 0, 1) := by decide +kernel
theorem d_law_643 : decode code 643 = .ok (.ireturn, 1) := by decide +kernel
theorem d_law_644 : decode code 644 = .ok (.iload 5, 2) := by decide +kernel
theorem d_law_646 : decode code 646 = .ok (.ifCond .ne 15, 3) := by decide +kernel
theorem d_law_649 : decode code 649 = .ok (.aload_n 3, 1) := by decide +kernel
theorem d_law_650 : decode code 650 = .ok (.iconst 0, 1) := by decide +kernel
theorem d_law_651 : decode code 651 = .ok (.laload, 1) := by decide +kernel
theorem d_law_652 : decode code 652 = .ok (.iload 6, 2) := by decide +kernel
theorem d_law_654 : decode code 654 = .ok (.i2l, 1) := by decide +kernel
theorem d_law_655 : decode code 655 = .ok (.lcmp, 1) := by decide +kernel
theorem d_law_656 : decode code 656 = .ok (.ifCond .eq 5, 3) := by decide +kernel
theorem d_law_659 : decode code 659 = .ok (.iconst 0, 1) := by decide +kernel
theorem d_law_660 : decode code 660 = .ok (.ireturn, 1) := by decide +kernel
theorem d_law_661 : decode code 661 = .ok (.goto 28, 3) := by decide +kernel
theorem d_law_664 : decode code 664 = .ok (.aload_n 1, 1) := by decide +kernel
theorem d_law_665 : decode code 665 = .ok (.aload_n 0, 1) := by decide +kernel
theorem d_law_666 : decode code 666 = .ok (.iload 4, 2) := by decide +kernel
theorem d_law_668 : decode code 668 = .ok (.iconst 1, 1) := by decide +kernel
theorem d_law_669 : decode code 669 = .ok (.iadd, 1) := by decide +kernel
theorem d_law_670 : decode code 670 = .ok (.iaload, 1) := by decide +kernel
theorem d_law_671 : decode code 671 = .ok (.invokevirtual 99, 3) := by decide +kernel
theorem d_law_674 : decode code 674 = .ok (.aload_n 2, 1) := by decide +kernel
theorem d_law_675 : decode code 675 = .ok (.aload_n 0, 1) := by decide +kernel
theorem d_law_676 : decode code 676 = .ok (.iload 4, 2) := by decide +kernel
theorem d_law_678 : decode code 678 = .ok (.iconst 1, 1) := by decide +kernel
theorem d_law_679 : decode code 679 = .ok (.iadd, 1) := by decide +kernel
theorem d_law_680 : decode code 680 = .ok (.iaload, 1) := by decide +kernel
theorem d_law_681 : decode code 681 = .ok (.invokevirtual 102, 3) := by decide +kernel
theorem d_law_684 : decode code 684 = .ok (.if_icmp .eq 5, 3) := by decide +kernel
theorem d_law_687 : decode code 687 = .ok (.iconst 0, 1) := by decide +kernel
theorem d_law_688 : decode code 688 = .ok (.ireturn, 1) := by decide +kernel
theorem d_law_689 : decode code 689 = .ok (.iinc 4 6, 3) := by decide +kernel
theorem d_law_692 : decode code 692 = .ok (.goto (-659), 3) := by decide +kernel
theorem d_law_695 : decode code 695 = .ok (.iconst 1, 1) := by decide +kernel
theorem d_law_696 : decode code 696 = .ok (.ireturn, 1) := by decide +kernel
