/-! the law's instructions, 4 -/
theorem d_W_586 : decode code 586 = .ok (.invokevirtual 88, 3) := by decide +kernel
theorem d_W_589 : decode code 589 = .ok (.istore 6, 2) := by decide +kernel
theorem d_W_591 : decode code 591 = .ok (.aload_n 2, 1) := by decide +kernel
theorem d_W_592 : decode code 592 = .ok (.invokevirtual 63, 3) := by decide +kernel
theorem d_W_595 : decode code 595 = .ok (.iload 5, 2) := by decide +kernel
theorem d_W_597 : decode code 597 = .ok (.if_icmp .eq 5, 3) := by decide +kernel
theorem d_W_600 : decode code 600 = .ok (.iconst 0, 1) := by decide +kernel
theorem d_W_601 : decode code 601 = .ok (.ireturn, 1) := by decide +kernel
theorem d_W_602 : decode code 602 = .ok (.iload 5, 2) := by decide +kernel
theorem d_W_604 : decode code 604 = .ok (.ifCond .ne 15, 3) := by decide +kernel
theorem d_W_607 : decode code 607 = .ok (.aload_n 3, 1) := by decide +kernel
theorem d_W_608 : decode code 608 = .ok (.iconst 0, 1) := by decide +kernel
theorem d_W_609 : decode code 609 = .ok (.laload, 1) := by decide +kernel
theorem d_W_610 : decode code 610 = .ok (.iload 6, 2) := by decide +kernel
theorem d_W_612 : decode code 612 = .ok (.i2l, 1) := by decide +kernel
theorem d_W_613 : decode code 613 = .ok (.lcmp, 1) := by decide +kernel
theorem d_W_614 : decode code 614 = .ok (.ifCond .eq 5, 3) := by decide +kernel
theorem d_W_617 : decode code 617 = .ok (.iconst 0, 1) := by decide +kernel
theorem d_W_618 : decode code 618 = .ok (.ireturn, 1) := by decide +kernel
theorem d_W_619 : decode code 619 = .ok (.goto 127, 3) := by decide +kernel
theorem d_W_622 : decode code 622 = .ok (.aload_n 1, 1) := by decide +kernel
theorem d_W_623 : decode code 623 = .ok (.aload_n 0, 1) := by decide +kernel
theorem d_W_624 : decode code 624 = .ok (.iload 4, 2) := by decide +kernel
theorem d_W_626 : decode code 626 = .ok (.iconst 1, 1) := by decide +kernel
theorem d_W_627 : decode code 627 = .ok (.iadd, 1) := by decide +kernel
theorem d_W_628 : decode code 628 = .ok (.iaload, 1) := by decide +kernel
theorem d_W_629 : decode code 629 = .ok (.aload_n 0, 1) := by decide +kernel
theorem d_W_630 : decode code 630 = .ok (.iload 4, 2) := by decide +kernel
theorem d_W_632 : decode code 632 = .ok (.iconst 2, 1) := by decide +kernel
theorem d_W_633 : decode code 633 = .ok (.iadd, 1) := by decide +kernel
theorem d_W_634 : decode code 634 = .ok (.iaload, 1) := by decide +kernel
theorem d_W_635 : decode code 635 = .ok (.invokevirtual 89, 3) := by decide +kernel
theorem d_W_638 : decode code 638 = .ok (.aload_n 2, 1) := by decide +kernel
theorem d_W_639 : decode code 639 = .ok (.aload_n 0, 1) := by decide +kernel
theorem d_W_640 : decode code 640 = .ok (.iload 4, 2) := by decide +kernel
theorem d_W_642 : decode code 642 = .ok (.iconst 1, 1) := by decide +kernel
theorem d_W_643 : decode code 643 = .ok (.iadd, 1) := by decide +kernel
theorem d_W_644 : decode code 644 = .ok (.iaload, 1) := by decide +kernel
theorem d_W_645 : decode code 645 = .ok (.aload_n 0, 1) := by decide +kernel
theorem d_W_646 : decode code 646 = .ok (.iload 4, 2) := by decide +kernel
theorem d_W_648 : decode code 648 = .ok (.iconst 2, 1) := by decide +kernel
theorem d_W_649 : decode code 649 = .ok (.iadd, 1) := by decide +kernel
theorem d_W_650 : decode code 650 = .ok (.iaload, 1) := by decide +kernel
theorem d_W_651 : decode code 651 = .ok (.invokevirtual 93, 3) := by decide +kernel
theorem d_W_654 : decode code 654 = .ok (.if_icmp .eq 92, 3) := by decide +kernel
theorem d_W_657 : decode code 657 = .ok (.iconst 0, 1) := by decide +kernel
theorem d_W_658 : decode code 658 = .ok (.ireturn, 1) := by decide +kernel
theorem d_W_659 : decode code 659 = .ok (.aload_n 1, 1) := by decide +kernel
theorem d_W_660 : decode code 660 = .ok (.aload_n 0, 1) := by decide +kernel
theorem d_W_661 : decode code 661 = .ok (.iload 4, 2) := by decide +kernel
theorem d_W_663 : decode code 663 = .ok (.iconst 1, 1) := by decide +kernel
theorem d_W_664 : decode code 664 = .ok (.iadd, 1) := by decide +kernel
theorem d_W_665 : decode code 665 = .ok (.iaload, 1) := by decide +kernel
theorem d_W_666 : decode code 666 = .ok (.aload_n 0, 1) := by decide +kernel
theorem d_W_667 : decode code 667 = .ok (.iload 4, 2) := by decide +kernel
theorem d_W_669 : decode code 669 = .ok (.iconst 2, 1) := by decide +kernel
theorem d_W_670 : decode code 670 = .ok (.iadd, 1) := by decide +kernel
theorem d_W_671 : decode code 671 = .ok (.iaload, 1) := by decide +kernel
theorem d_W_672 : decode code 672 = .ok (.invokevirtual 94, 3) := by decide +kernel
theorem d_W_675 : decode code 675 = .ok (.aload_n 2, 1) := by decide +kernel
theorem d_W_676 : decode code 676 = .ok (.aload_n 0, 1) := by decide +kernel
theorem d_W_677 : decode code 677 = .ok (.iload 4, 2) := by decide +kernel
theorem d_W_679 : decode code 679 = .ok (.iconst 1, 1) := by decide +kernel
theorem d_W_680 : decode code 680 = .ok (.iadd, 1) := by decide +kernel
theorem d_W_681 : decode code 681 = .ok (.iaload, 1) := by decide +kernel
theorem d_W_682 : decode code 682 = .ok (.aload_n 0, 1) := by decide +kernel
theorem d_W_683 : decode code 683 = .ok (.iload 4, 2) := by decide +kernel
theorem d_W_685 : decode code 685 = .ok (.iconst 2, 1) := by decide +kernel
theorem d_W_686 : decode code 686 = .ok (.iadd, 1) := by decide +kernel
theorem d_W_687 : decode code 687 = .ok (.iaload, 1) := by decide +kernel
theorem d_W_688 : decode code 688 = .ok (.invokevirtual 97, 3) := by decide +kernel
theorem d_W_691 : decode code 691 = .ok (.if_icmp .eq 55, 3) := by decide +kernel
theorem d_W_694 : decode code 694 = .ok (.iconst 0, 1) := by decide +kernel
theorem d_W_695 : decode code 695 = .ok (.ireturn, 1) := by decide +kernel
theorem d_W_696 : decode code 696 = .ok (.aload_n 1, 1) := by decide +kernel
theorem d_W_697 : decode code 697 = .ok (.aload_n 0, 1) := by decide +kernel
theorem d_W_698 : decode code 698 = .ok (.iload 4, 2) := by decide +kernel
theorem d_W_700 : decode code 700 = .ok (.iconst 1, 1) := by decide +kernel
theorem d_W_701 : decode code 701 = .ok (.iadd, 1) := by decide +kernel
theorem d_W_702 : decode code 702 = .ok (.iaload, 1) := by decide +kernel
theorem d_W_703 : decode code 703 = .ok (.aload_n 0, 1) := by decide +kernel
theorem d_W_704 : decode code 704 = .ok (.iload 4, 2) := by decide +kernel
theorem d_W_706 : decode code 706 = .ok (.iconst 2, 1) := by decide +kernel
theorem d_W_707 : decode code 707 = .ok (.iadd, 1) := by decide +kernel
theorem d_W_708 : decode code 708 = .ok (.iaload, 1) := by decide +kernel
theorem d_W_709 : decode code 709 = .ok (.invokevirtual 98, 3) := by decide +kernel
theorem d_W_712 : decode code 712 = .ok (.aload_n 2, 1) := by decide +kernel
theorem d_W_713 : decode code 713 = .ok (.aload_n 0, 1) := by decide +kernel
theorem d_W_714 : decode code 714 = .ok (.iload 4, 2) := by decide +kernel
theorem d_W_716 : decode code 716 = .ok (.iconst 1, 1) := by decide +kernel
theorem d_W_717 : decode code 717 = .ok (.iadd, 1) := by decide +kernel
theorem d_W_718 : decode code 718 = .ok (.iaload, 1) := by decide +kernel
theorem d_W_719 : decode code 719 = .ok (.aload_n 0, 1) := by decide +kernel
theorem d_W_720 : decode code 720 = .ok (.iload 4, 2) := by decide +kernel
theorem d_W_722 : decode code 722 = .ok (.iconst 2, 1) := by decide +kernel
theorem d_W_723 : decode code 723 = .ok (.iadd, 1) := by decide +kernel
theorem d_W_724 : decode code 724 = .ok (.iaload, 1) := by decide +kernel
theorem d_W_725 : decode code 725 = .ok (.invokevirtual 101, 3) := by decide +kernel
theorem d_W_728 : decode code 728 = .ok (.if_icmp .eq 18, 3) := by decide +kernel
theorem d_W_731 : decode code 731 = .ok (.iconst 0, 1) := by decide +kernel
theorem d_W_732 : decode code 732 = .ok (.ireturn, 1) := by decide +kernel
theorem d_W_733 : decode code 733 = .ok (.aload_n 1, 1) := by decide +kernel
theorem d_W_734 : decode code 734 = .ok (.invokevirtual 102, 3) := by decide +kernel
theorem d_W_737 : decode code 737 = .ok (.aload_n 2, 1) := by decide +kernel
theorem d_W_738 : decode code 738 = .ok (.invokevirtual 105, 3) := by decide +kernel
theorem d_W_741 : decode code 741 = .ok (.if_icmp .eq 5, 3) := by decide +kernel
theorem d_W_744 : decode code 744 = .ok (.iconst 0, 1) := by decide +kernel
theorem d_W_745 : decode code 745 = .ok (.ireturn, 1) := by decide +kernel
theorem d_W_746 : decode code 746 = .ok (.iinc 4 5, 3) := by decide +kernel
theorem d_W_749 : decode code 749 = .ok (.goto (-726), 3) := by decide +kernel
theorem d_W_752 : decode code 752 = .ok (.iconst 1, 1) := by decide +kernel
theorem d_W_753 : decode code 753 = .ok (.ireturn, 1) := by decide +kernel
