/-! The law's own instructions, 330 on -/
theorem d_W_568 : decode code 568 = .ok (.iload 6, 2) := by decide +kernel
theorem d_W_570 : decode code 570 = .ok (.i2l, 1) := by decide +kernel
theorem d_W_571 : decode code 571 = .ok (.lcmp, 1) := by decide +kernel
theorem d_W_572 : decode code 572 = .ok (.ifCond .eq 5, 3) := by decide +kernel
theorem d_W_575 : decode code 575 = .ok (.iconst 0, 1) := by decide +kernel
theorem d_W_576 : decode code 576 = .ok (.ireturn, 1) := by decide +kernel
theorem d_W_577 : decode code 577 = .ok (.goto 528, 3) := by decide +kernel
theorem d_W_580 : decode code 580 = .ok (.aload_n 1, 1) := by decide +kernel
theorem d_W_581 : decode code 581 = .ok (.aload_n 0, 1) := by decide +kernel
theorem d_W_582 : decode code 582 = .ok (.iload 4, 2) := by decide +kernel
theorem d_W_584 : decode code 584 = .ok (.iconst 1, 1) := by decide +kernel
theorem d_W_585 : decode code 585 = .ok (.iadd, 1) := by decide +kernel
theorem d_W_586 : decode code 586 = .ok (.iaload, 1) := by decide +kernel
theorem d_W_587 : decode code 587 = .ok (.aload_n 0, 1) := by decide +kernel
theorem d_W_588 : decode code 588 = .ok (.iload 4, 2) := by decide +kernel
theorem d_W_590 : decode code 590 = .ok (.iconst 2, 1) := by decide +kernel
theorem d_W_591 : decode code 591 = .ok (.iadd, 1) := by decide +kernel
theorem d_W_592 : decode code 592 = .ok (.iaload, 1) := by decide +kernel
theorem d_W_593 : decode code 593 = .ok (.aload_n 3, 1) := by decide +kernel
theorem d_W_594 : decode code 594 = .ok (.invokestatic 96, 3) := by decide +kernel
theorem d_W_597 : decode code 597 = .ok (.istore 5, 2) := by decide +kernel
theorem d_W_599 : decode code 599 = .ok (.aload_n 2, 1) := by decide +kernel
theorem d_W_600 : decode code 600 = .ok (.aload_n 0, 1) := by decide +kernel
theorem d_W_601 : decode code 601 = .ok (.iload 4, 2) := by decide +kernel
theorem d_W_603 : decode code 603 = .ok (.iconst 1, 1) := by decide +kernel
theorem d_W_604 : decode code 604 = .ok (.iadd, 1) := by decide +kernel
theorem d_W_605 : decode code 605 = .ok (.iaload, 1) := by decide +kernel
theorem d_W_606 : decode code 606 = .ok (.aload_n 0, 1) := by decide +kernel
theorem d_W_607 : decode code 607 = .ok (.iload 4, 2) := by decide +kernel
theorem d_W_609 : decode code 609 = .ok (.iconst 2, 1) := by decide +kernel
theorem d_W_610 : decode code 610 = .ok (.iadd, 1) := by decide +kernel
theorem d_W_611 : decode code 611 = .ok (.iaload, 1) := by decide +kernel
theorem d_W_612 : decode code 612 = .ok (.invokevirtual 98, 3) := by decide +kernel
theorem d_W_615 : decode code 615 = .ok (.istore 6, 2) := by decide +kernel
theorem d_W_617 : decode code 617 = .ok (.aload_n 2, 1) := by decide +kernel
theorem d_W_618 : decode code 618 = .ok (.invokevirtual 72, 3) := by decide +kernel
theorem d_W_621 : decode code 621 = .ok (.iload 5, 2) := by decide +kernel
theorem d_W_623 : decode code 623 = .ok (.if_icmp .eq 5, 3) := by decide +kernel
theorem d_W_626 : decode code 626 = .ok (.iconst 0, 1) := by decide +kernel
theorem d_W_627 : decode code 627 = .ok (.ireturn, 1) := by decide +kernel
theorem d_W_628 : decode code 628 = .ok (.iload 5, 2) := by decide +kernel
theorem d_W_630 : decode code 630 = .ok (.ifCond .ne 15, 3) := by decide +kernel
theorem d_W_633 : decode code 633 = .ok (.aload_n 3, 1) := by decide +kernel
theorem d_W_634 : decode code 634 = .ok (.iconst 0, 1) := by decide +kernel
theorem d_W_635 : decode code 635 = .ok (.laload, 1) := by decide +kernel
theorem d_W_636 : decode code 636 = .ok (.iload 6, 2) := by decide +kernel
theorem d_W_638 : decode code 638 = .ok (.i2l, 1) := by decide +kernel
theorem d_W_639 : decode code 639 = .ok (.lcmp, 1) := by decide +kernel
theorem d_W_640 : decode code 640 = .ok (.ifCond .eq 5, 3) := by decide +kernel
theorem d_W_643 : decode code 643 = .ok (.iconst 0, 1) := by decide +kernel
theorem d_W_644 : decode code 644 = .ok (.ireturn, 1) := by decide +kernel
theorem d_W_645 : decode code 645 = .ok (.goto 460, 3) := by decide +kernel
theorem d_W_648 : decode code 648 = .ok (.aload_n 1, 1) := by decide +kernel
theorem d_W_649 : decode code 649 = .ok (.aload_n 0, 1) := by decide +kernel
theorem d_W_650 : decode code 650 = .ok (.iload 4, 2) := by decide +kernel
theorem d_W_652 : decode code 652 = .ok (.iconst 1, 1) := by decide +kernel
theorem d_W_653 : decode code 653 = .ok (.iadd, 1) := by decide +kernel
theorem d_W_654 : decode code 654 = .ok (.iaload, 1) := by decide +kernel
theorem d_W_655 : decode code 655 = .ok (.aload_n 0, 1) := by decide +kernel
theorem d_W_656 : decode code 656 = .ok (.iload 4, 2) := by decide +kernel
theorem d_W_658 : decode code 658 = .ok (.iconst 2, 1) := by decide +kernel
theorem d_W_659 : decode code 659 = .ok (.iadd, 1) := by decide +kernel
theorem d_W_660 : decode code 660 = .ok (.iaload, 1) := by decide +kernel
theorem d_W_661 : decode code 661 = .ok (.aload_n 0, 1) := by decide +kernel
theorem d_W_662 : decode code 662 = .ok (.iload 4, 2) := by decide +kernel
theorem d_W_664 : decode code 664 = .ok (.iconst 3, 1) := by decide +kernel
theorem d_W_665 : decode code 665 = .ok (.iadd, 1) := by decide +kernel
theorem d_W_666 : decode code 666 = .ok (.iaload, 1) := by decide +kernel
theorem d_W_667 : decode code 667 = .ok (.aload_n 3, 1) := by decide +kernel
theorem d_W_668 : decode code 668 = .ok (.invokestatic 99, 3) := by decide +kernel
theorem d_W_671 : decode code 671 = .ok (.istore 5, 2) := by decide +kernel
theorem d_W_673 : decode code 673 = .ok (.aload_n 2, 1) := by decide +kernel
theorem d_W_674 : decode code 674 = .ok (.aload_n 0, 1) := by decide +kernel
theorem d_W_675 : decode code 675 = .ok (.iload 4, 2) := by decide +kernel
theorem d_W_677 : decode code 677 = .ok (.iconst 1, 1) := by decide +kernel
theorem d_W_678 : decode code 678 = .ok (.iadd, 1) := by decide +kernel
theorem d_W_679 : decode code 679 = .ok (.iaload, 1) := by decide +kernel
theorem d_W_680 : decode code 680 = .ok (.aload_n 0, 1) := by decide +kernel
theorem d_W_681 : decode code 681 = .ok (.iload 4, 2) := by decide +kernel
theorem d_W_683 : decode code 683 = .ok (.iconst 2, 1) := by decide +kernel
theorem d_W_684 : decode code 684 = .ok (.iadd, 1) := by decide +kernel
theorem d_W_685 : decode code 685 = .ok (.iaload, 1) := by decide +kernel
theorem d_W_686 : decode code 686 = .ok (.aload_n 0, 1) := by decide +kernel
theorem d_W_687 : decode code 687 = .ok (.iload 4, 2) := by decide +kernel
theorem d_W_689 : decode code 689 = .ok (.iconst 3, 1) := by decide +kernel
theorem d_W_690 : decode code 690 = .ok (.iadd, 1) := by decide +kernel
theorem d_W_691 : decode code 691 = .ok (.iaload, 1) := by decide +kernel
theorem d_W_692 : decode code 692 = .ok (.invokevirtual 102, 3) := by decide +kernel
theorem d_W_695 : decode code 695 = .ok (.istore 6, 2) := by decide +kernel
theorem d_W_697 : decode code 697 = .ok (.aload_n 2, 1) := by decide +kernel
theorem d_W_698 : decode code 698 = .ok (.invokevirtual 72, 3) := by decide +kernel
theorem d_W_701 : decode code 701 = .ok (.iload 5, 2) := by decide +kernel
theorem d_W_703 : decode code 703 = .ok (.if_icmp .eq 5, 3) := by decide +kernel
theorem d_W_706 : decode code 706 = .ok (.iconst 0, 1) := by decide +kernel
theorem d_W_707 : decode code 707 = .ok (.ireturn, 1) := by decide +kernel
theorem d_W_708 : decode code 708 = .ok (.iload 5, 2) := by decide +kernel
theorem d_W_710 : decode code 710 = .ok (.ifCond .ne 15, 3) := by decide +kernel
theorem d_W_713 : decode code 713 = .ok (.aload_n 3, 1) := by decide +kernel
theorem d_W_714 : decode code 714 = .ok (.iconst 0, 1) := by decide +kernel
theorem d_W_715 : decode code 715 = .ok (.laload, 1) := by decide +kernel
theorem d_W_716 : decode code 716 = .ok (.iload 6, 2) := by decide +kernel
theorem d_W_718 : decode code 718 = .ok (.i2l, 1) := by decide +kernel
theorem d_W_719 : decode code 719 = .ok (.lcmp, 1) := by decide +kernel
theorem d_W_720 : decode code 720 = .ok (.ifCond .eq 5, 3) := by decide +kernel
theorem d_W_723 : decode code 723 = .ok (.iconst 0, 1) := by decide +kernel
theorem d_W_724 : decode code 724 = .ok (.ireturn, 1) := by decide +kernel
theorem d_W_725 : decode code 725 = .ok (.goto 380, 3) := by decide +kernel
theorem d_W_728 : decode code 728 = .ok (.aload_n 1, 1) := by decide +kernel
theorem d_W_729 : decode code 729 = .ok (.aload_n 0, 1) := by decide +kernel
theorem d_W_730 : decode code 730 = .ok (.iload 4, 2) := by decide +kernel
