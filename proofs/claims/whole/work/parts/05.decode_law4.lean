theorem d_L_law_610 : decode b_L_law 610 = .ok (.aload_n 3, 1) := by decide +kernel
theorem d_L_law_611 : decode b_L_law 611 = .ok (.invokestatic 82, 3) := by decide +kernel
theorem d_L_law_614 : decode b_L_law 614 = .ok (.istore 5, 2) := by decide +kernel
theorem d_L_law_616 : decode b_L_law 616 = .ok (.aload_n 2, 1) := by decide +kernel
theorem d_L_law_617 : decode b_L_law 617 = .ok (.aload_n 0, 1) := by decide +kernel
theorem d_L_law_618 : decode b_L_law 618 = .ok (.iload 4, 2) := by decide +kernel
theorem d_L_law_620 : decode b_L_law 620 = .ok (.iconst 1, 1) := by decide +kernel
theorem d_L_law_621 : decode b_L_law 621 = .ok (.iadd, 1) := by decide +kernel
theorem d_L_law_622 : decode b_L_law 622 = .ok (.iaload, 1) := by decide +kernel
theorem d_L_law_623 : decode b_L_law 623 = .ok (.aload_n 0, 1) := by decide +kernel
theorem d_L_law_624 : decode b_L_law 624 = .ok (.iload 4, 2) := by decide +kernel
theorem d_L_law_626 : decode b_L_law 626 = .ok (.iconst 2, 1) := by decide +kernel
theorem d_L_law_627 : decode b_L_law 627 = .ok (.iadd, 1) := by decide +kernel
theorem d_L_law_628 : decode b_L_law 628 = .ok (.iaload, 1) := by decide +kernel
theorem d_L_law_629 : decode b_L_law 629 = .ok (.invokevirtual 84, 3) := by decide +kernel
theorem d_L_law_632 : decode b_L_law 632 = .ok (.istore 6, 2) := by decide +kernel
theorem d_L_law_634 : decode b_L_law 634 = .ok (.aload_n 2, 1) := by decide +kernel
theorem d_L_law_635 : decode b_L_law 635 = .ok (.invokevirtual 59, 3) := by decide +kernel
theorem d_L_law_638 : decode b_L_law 638 = .ok (.iload 5, 2) := by decide +kernel
theorem d_L_law_640 : decode b_L_law 640 = .ok (.if_icmp .eq 5, 3) := by decide +kernel
theorem d_L_law_643 : decode b_L_law 643 = .ok (.iconst 0, 1) := by decide +kernel
theorem d_L_law_644 : decode b_L_law 644 = .ok (.ireturn, 1) := by decide +kernel
theorem d_L_law_645 : decode b_L_law 645 = .ok (.iload 5, 2) := by decide +kernel
theorem d_L_law_647 : decode b_L_law 647 = .ok (.ifCond .ne 15, 3) := by decide +kernel
theorem d_L_law_650 : decode b_L_law 650 = .ok (.aload_n 3, 1) := by decide +kernel
theorem d_L_law_651 : decode b_L_law 651 = .ok (.iconst 0, 1) := by decide +kernel
theorem d_L_law_652 : decode b_L_law 652 = .ok (.laload, 1) := by decide +kernel
theorem d_L_law_653 : decode b_L_law 653 = .ok (.iload 6, 2) := by decide +kernel
theorem d_L_law_655 : decode b_L_law 655 = .ok (.i2l, 1) := by decide +kernel
theorem d_L_law_656 : decode b_L_law 656 = .ok (.lcmp, 1) := by decide +kernel
theorem d_L_law_657 : decode b_L_law 657 = .ok (.ifCond .eq 5, 3) := by decide +kernel
theorem d_L_law_660 : decode b_L_law 660 = .ok (.iconst 0, 1) := by decide +kernel
theorem d_L_law_661 : decode b_L_law 661 = .ok (.ireturn, 1) := by decide +kernel
theorem d_L_law_662 : decode b_L_law 662 = .ok (.goto 141, 3) := by decide +kernel
theorem d_L_law_665 : decode b_L_law 665 = .ok (.aload_n 1, 1) := by decide +kernel
theorem d_L_law_666 : decode b_L_law 666 = .ok (.aload_n 0, 1) := by decide +kernel
theorem d_L_law_667 : decode b_L_law 667 = .ok (.iload 4, 2) := by decide +kernel
theorem d_L_law_669 : decode b_L_law 669 = .ok (.iconst 1, 1) := by decide +kernel
theorem d_L_law_670 : decode b_L_law 670 = .ok (.iadd, 1) := by decide +kernel
theorem d_L_law_671 : decode b_L_law 671 = .ok (.iaload, 1) := by decide +kernel
theorem d_L_law_672 : decode b_L_law 672 = .ok (.aload_n 3, 1) := by decide +kernel
theorem d_L_law_673 : decode b_L_law 673 = .ok (.invokestatic 85, 3) := by decide +kernel
theorem d_L_law_676 : decode b_L_law 676 = .ok (.istore 5, 2) := by decide +kernel
theorem d_L_law_678 : decode b_L_law 678 = .ok (.aload_n 2, 1) := by decide +kernel
theorem d_L_law_679 : decode b_L_law 679 = .ok (.aload_n 0, 1) := by decide +kernel
theorem d_L_law_680 : decode b_L_law 680 = .ok (.iload 4, 2) := by decide +kernel
theorem d_L_law_682 : decode b_L_law 682 = .ok (.iconst 1, 1) := by decide +kernel
theorem d_L_law_683 : decode b_L_law 683 = .ok (.iadd, 1) := by decide +kernel
theorem d_L_law_684 : decode b_L_law 684 = .ok (.iaload, 1) := by decide +kernel
theorem d_L_law_685 : decode b_L_law 685 = .ok (.invokevirtual 88, 3) := by decide +kernel
theorem d_L_law_688 : decode b_L_law 688 = .ok (.istore 6, 2) := by decide +kernel
theorem d_L_law_690 : decode b_L_law 690 = .ok (.aload_n 2, 1) := by decide +kernel
theorem d_L_law_691 : decode b_L_law 691 = .ok (.invokevirtual 59, 3) := by decide +kernel
theorem d_L_law_694 : decode b_L_law 694 = .ok (.iload 5, 2) := by decide +kernel
theorem d_L_law_696 : decode b_L_law 696 = .ok (.if_icmp .eq 5, 3) := by decide +kernel
theorem d_L_law_699 : decode b_L_law 699 = .ok (.iconst 0, 1) := by decide +kernel
theorem d_L_law_700 : decode b_L_law 700 = .ok (.ireturn, 1) := by decide +kernel
theorem d_L_law_701 : decode b_L_law 701 = .ok (.iload 5, 2) := by decide +kernel
theorem d_L_law_703 : decode b_L_law 703 = .ok (.ifCond .ne 15, 3) := by decide +kernel
theorem d_L_law_706 : decode b_L_law 706 = .ok (.aload_n 3, 1) := by decide +kernel
theorem d_L_law_707 : decode b_L_law 707 = .ok (.iconst 0, 1) := by decide +kernel
theorem d_L_law_708 : decode b_L_law 708 = .ok (.laload, 1) := by decide +kernel
theorem d_L_law_709 : decode b_L_law 709 = .ok (.iload 6, 2) := by decide +kernel
theorem d_L_law_711 : decode b_L_law 711 = .ok (.i2l, 1) := by decide +kernel
theorem d_L_law_712 : decode b_L_law 712 = .ok (.lcmp, 1) := by decide +kernel
theorem d_L_law_713 : decode b_L_law 713 = .ok (.ifCond .eq 5, 3) := by decide +kernel
theorem d_L_law_716 : decode b_L_law 716 = .ok (.iconst 0, 1) := by decide +kernel
theorem d_L_law_717 : decode b_L_law 717 = .ok (.ireturn, 1) := by decide +kernel
theorem d_L_law_718 : decode b_L_law 718 = .ok (.goto 85, 3) := by decide +kernel
theorem d_L_law_721 : decode b_L_law 721 = .ok (.aload_n 1, 1) := by decide +kernel
theorem d_L_law_722 : decode b_L_law 722 = .ok (.invokevirtual 89, 3) := by decide +kernel
theorem d_L_law_725 : decode b_L_law 725 = .ok (.aload_n 2, 1) := by decide +kernel
theorem d_L_law_726 : decode b_L_law 726 = .ok (.invokevirtual 92, 3) := by decide +kernel
theorem d_L_law_729 : decode b_L_law 729 = .ok (.if_icmp .eq 74, 3) := by decide +kernel
theorem d_L_law_732 : decode b_L_law 732 = .ok (.iconst 0, 1) := by decide +kernel
theorem d_L_law_733 : decode b_L_law 733 = .ok (.ireturn, 1) := by decide +kernel
theorem d_L_law_734 : decode b_L_law 734 = .ok (.aload_n 1, 1) := by decide +kernel
theorem d_L_law_735 : decode b_L_law 735 = .ok (.aload_n 0, 1) := by decide +kernel
theorem d_L_law_736 : decode b_L_law 736 = .ok (.iload 4, 2) := by decide +kernel
theorem d_L_law_738 : decode b_L_law 738 = .ok (.iconst 1, 1) := by decide +kernel
theorem d_L_law_739 : decode b_L_law 739 = .ok (.iadd, 1) := by decide +kernel
theorem d_L_law_740 : decode b_L_law 740 = .ok (.iaload, 1) := by decide +kernel
theorem d_L_law_741 : decode b_L_law 741 = .ok (.aload_n 3, 1) := by decide +kernel
theorem d_L_law_742 : decode b_L_law 742 = .ok (.invokestatic 93, 3) := by decide +kernel
theorem d_L_law_745 : decode b_L_law 745 = .ok (.istore 5, 2) := by decide +kernel
theorem d_L_law_747 : decode b_L_law 747 = .ok (.aload_n 2, 1) := by decide +kernel
theorem d_L_law_748 : decode b_L_law 748 = .ok (.aload_n 0, 1) := by decide +kernel
theorem d_L_law_749 : decode b_L_law 749 = .ok (.iload 4, 2) := by decide +kernel
theorem d_L_law_751 : decode b_L_law 751 = .ok (.iconst 1, 1) := by decide +kernel
theorem d_L_law_752 : decode b_L_law 752 = .ok (.iadd, 1) := by decide +kernel
theorem d_L_law_753 : decode b_L_law 753 = .ok (.iaload, 1) := by decide +kernel
theorem d_L_law_754 : decode b_L_law 754 = .ok (.invokevirtual 95, 3) := by decide +kernel
theorem d_L_law_757 : decode b_L_law 757 = .ok (.istore 6, 2) := by decide +kernel
theorem d_L_law_759 : decode b_L_law 759 = .ok (.aload_n 2, 1) := by decide +kernel
theorem d_L_law_760 : decode b_L_law 760 = .ok (.invokevirtual 59, 3) := by decide +kernel
theorem d_L_law_763 : decode b_L_law 763 = .ok (.iload 5, 2) := by decide +kernel
theorem d_L_law_765 : decode b_L_law 765 = .ok (.if_icmp .eq 5, 3) := by decide +kernel
theorem d_L_law_768 : decode b_L_law 768 = .ok (.iconst 0, 1) := by decide +kernel
theorem d_L_law_769 : decode b_L_law 769 = .ok (.ireturn, 1) := by decide +kernel
theorem d_L_law_770 : decode b_L_law 770 = .ok (.iload 5, 2) := by decide +kernel
theorem d_L_law_772 : decode b_L_law 772 = .ok (.ifCond .ne 15, 3) := by decide +kernel
theorem d_L_law_775 : decode b_L_law 775 = .ok (.aload_n 3, 1) := by decide +kernel
theorem d_L_law_776 : decode b_L_law 776 = .ok (.iconst 0, 1) := by decide +kernel
theorem d_L_law_777 : decode b_L_law 777 = .ok (.laload, 1) := by decide +kernel
theorem d_L_law_778 : decode b_L_law 778 = .ok (.iload 6, 2) := by decide +kernel
theorem d_L_law_780 : decode b_L_law 780 = .ok (.i2l, 1) := by decide +kernel
theorem d_L_law_781 : decode b_L_law 781 = .ok (.lcmp, 1) := by decide +kernel
theorem d_L_law_782 : decode b_L_law 782 = .ok (.ifCond .eq 5, 3) := by decide +kernel
theorem d_L_law_785 : decode b_L_law 785 = .ok (.iconst 0, 1) := by decide +kernel
theorem d_L_law_786 : decode b_L_law 786 = .ok (.ireturn, 1) := by decide +kernel
theorem d_L_law_787 : decode b_L_law 787 = .ok (.goto 16, 3) := by decide +kernel
theorem d_L_law_790 : decode b_L_law 790 = .ok (.aload_n 1, 1) := by decide +kernel
theorem d_L_law_791 : decode b_L_law 791 = .ok (.invokevirtual 96, 3) := by decide +kernel
theorem d_L_law_794 : decode b_L_law 794 = .ok (.aload_n 2, 1) := by decide +kernel
theorem d_L_law_795 : decode b_L_law 795 = .ok (.invokevirtual 99, 3) := by decide +kernel
theorem d_L_law_798 : decode b_L_law 798 = .ok (.if_icmp .eq 5, 3) := by decide +kernel
theorem d_L_law_801 : decode b_L_law 801 = .ok (.iconst 0, 1) := by decide +kernel
theorem d_L_law_802 : decode b_L_law 802 = .ok (.ireturn, 1) := by decide +kernel
theorem d_L_law_803 : decode b_L_law 803 = .ok (.iinc 4 7, 3) := by decide +kernel
theorem d_L_law_806 : decode b_L_law 806 = .ok (.goto (-773), 3) := by decide +kernel
theorem d_L_law_809 : decode b_L_law 809 = .ok (.iconst 1, 1) := by decide +kernel
theorem d_L_law_810 : decode b_L_law 810 = .ok (.ireturn, 1) := by decide +kernel
