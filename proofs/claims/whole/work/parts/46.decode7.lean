/-! what each instruction is (printed by program) -/
theorem d_Z_law_621 : decode code 621 = .ok (.iconst 0, 1) := by decide +kernel
theorem d_Z_law_622 : decode code 622 = .ok (.ireturn, 1) := by decide +kernel
theorem d_Z_law_623 : decode code 623 = .ok (.iload 5, 2) := by decide +kernel
theorem d_Z_law_625 : decode code 625 = .ok (.ifCond .ne 15, 3) := by decide +kernel
theorem d_Z_law_628 : decode code 628 = .ok (.aload_n 3, 1) := by decide +kernel
theorem d_Z_law_629 : decode code 629 = .ok (.iconst 0, 1) := by decide +kernel
theorem d_Z_law_630 : decode code 630 = .ok (.laload, 1) := by decide +kernel
theorem d_Z_law_631 : decode code 631 = .ok (.iload 6, 2) := by decide +kernel
theorem d_Z_law_633 : decode code 633 = .ok (.i2l, 1) := by decide +kernel
theorem d_Z_law_634 : decode code 634 = .ok (.lcmp, 1) := by decide +kernel
theorem d_Z_law_635 : decode code 635 = .ok (.ifCond .eq 5, 3) := by decide +kernel
theorem d_Z_law_638 : decode code 638 = .ok (.iconst 0, 1) := by decide +kernel
theorem d_Z_law_639 : decode code 639 = .ok (.ireturn, 1) := by decide +kernel
theorem d_Z_law_640 : decode code 640 = .ok (.goto 460, 3) := by decide +kernel
theorem d_Z_law_643 : decode code 643 = .ok (.aload_n 1, 1) := by decide +kernel
theorem d_Z_law_644 : decode code 644 = .ok (.aload_n 0, 1) := by decide +kernel
theorem d_Z_law_645 : decode code 645 = .ok (.iload 4, 2) := by decide +kernel
theorem d_Z_law_647 : decode code 647 = .ok (.iconst 1, 1) := by decide +kernel
theorem d_Z_law_648 : decode code 648 = .ok (.iadd, 1) := by decide +kernel
theorem d_Z_law_649 : decode code 649 = .ok (.iaload, 1) := by decide +kernel
theorem d_Z_law_650 : decode code 650 = .ok (.aload_n 0, 1) := by decide +kernel
theorem d_Z_law_651 : decode code 651 = .ok (.iload 4, 2) := by decide +kernel
theorem d_Z_law_653 : decode code 653 = .ok (.iconst 2, 1) := by decide +kernel
theorem d_Z_law_654 : decode code 654 = .ok (.iadd, 1) := by decide +kernel
theorem d_Z_law_655 : decode code 655 = .ok (.iaload, 1) := by decide +kernel
theorem d_Z_law_656 : decode code 656 = .ok (.aload_n 0, 1) := by decide +kernel
theorem d_Z_law_657 : decode code 657 = .ok (.iload 4, 2) := by decide +kernel
theorem d_Z_law_659 : decode code 659 = .ok (.iconst 3, 1) := by decide +kernel
theorem d_Z_law_660 : decode code 660 = .ok (.iadd, 1) := by decide +kernel
theorem d_Z_law_661 : decode code 661 = .ok (.iaload, 1) := by decide +kernel
theorem d_Z_law_662 : decode code 662 = .ok (.aload_n 3, 1) := by decide +kernel
theorem d_Z_law_663 : decode code 663 = .ok (.invokestatic 104, 3) := by decide +kernel
theorem d_Z_law_666 : decode code 666 = .ok (.istore 5, 2) := by decide +kernel
theorem d_Z_law_668 : decode code 668 = .ok (.aload_n 2, 1) := by decide +kernel
theorem d_Z_law_669 : decode code 669 = .ok (.aload_n 0, 1) := by decide +kernel
theorem d_Z_law_670 : decode code 670 = .ok (.iload 4, 2) := by decide +kernel
theorem d_Z_law_672 : decode code 672 = .ok (.iconst 1, 1) := by decide +kernel
theorem d_Z_law_673 : decode code 673 = .ok (.iadd, 1) := by decide +kernel
theorem d_Z_law_674 : decode code 674 = .ok (.iaload, 1) := by decide +kernel
theorem d_Z_law_675 : decode code 675 = .ok (.aload_n 0, 1) := by decide +kernel
theorem d_Z_law_676 : decode code 676 = .ok (.iload 4, 2) := by decide +kernel
theorem d_Z_law_678 : decode code 678 = .ok (.iconst 2, 1) := by decide +kernel
theorem d_Z_law_679 : decode code 679 = .ok (.iadd, 1) := by decide +kernel
theorem d_Z_law_680 : decode code 680 = .ok (.iaload, 1) := by decide +kernel
theorem d_Z_law_681 : decode code 681 = .ok (.aload_n 0, 1) := by decide +kernel
theorem d_Z_law_682 : decode code 682 = .ok (.iload 4, 2) := by decide +kernel
theorem d_Z_law_684 : decode code 684 = .ok (.iconst 3, 1) := by decide +kernel
theorem d_Z_law_685 : decode code 685 = .ok (.iadd, 1) := by decide +kernel
theorem d_Z_law_686 : decode code 686 = .ok (.iaload, 1) := by decide +kernel
theorem d_Z_law_687 : decode code 687 = .ok (.invokevirtual 107, 3) := by decide +kernel
theorem d_Z_law_690 : decode code 690 = .ok (.istore 6, 2) := by decide +kernel
theorem d_Z_law_692 : decode code 692 = .ok (.aload_n 2, 1) := by decide +kernel
theorem d_Z_law_693 : decode code 693 = .ok (.invokevirtual 82, 3) := by decide +kernel
theorem d_Z_law_696 : decode code 696 = .ok (.iload 5, 2) := by decide +kernel
theorem d_Z_law_698 : decode code 698 = .ok (.if_icmp .eq 5, 3) := by decide +kernel
theorem d_Z_law_701 : decode code 701 = .ok (.iconst 0, 1) := by decide +kernel
theorem d_Z_law_702 : decode code 702 = .ok (.ireturn, 1) := by decide +kernel
theorem d_Z_law_703 : decode code 703 = .ok (.iload 5, 2) := by decide +kernel
theorem d_Z_law_705 : decode code 705 = .ok (.ifCond .ne 15, 3) := by decide +kernel
theorem d_Z_law_708 : decode code 708 = .ok (.aload_n 3, 1) := by decide +kernel
theorem d_Z_law_709 : decode code 709 = .ok (.iconst 0, 1) := by decide +kernel
theorem d_Z_law_710 : decode code 710 = .ok (.laload, 1) := by decide +kernel
theorem d_Z_law_711 : decode code 711 = .ok (.iload 6, 2) := by decide +kernel
theorem d_Z_law_713 : decode code 713 = .ok (.i2l, 1) := by decide +kernel
theorem d_Z_law_714 : decode code 714 = .ok (.lcmp, 1) := by decide +kernel
theorem d_Z_law_715 : decode code 715 = .ok (.ifCond .eq 5, 3) := by decide +kernel
theorem d_Z_law_718 : decode code 718 = .ok (.iconst 0, 1) := by decide +kernel
theorem d_Z_law_719 : decode code 719 = .ok (.ireturn, 1) := by decide +kernel
theorem d_Z_law_720 : decode code 720 = .ok (.goto 380, 3) := by decide +kernel
theorem d_Z_law_723 : decode code 723 = .ok (.aload_n 1, 1) := by decide +kernel
theorem d_Z_law_724 : decode code 724 = .ok (.aload_n 0, 1) := by decide +kernel
theorem d_Z_law_725 : decode code 725 = .ok (.iload 4, 2) := by decide +kernel
theorem d_Z_law_727 : decode code 727 = .ok (.iconst 1, 1) := by decide +kernel
theorem d_Z_law_728 : decode code 728 = .ok (.iadd, 1) := by decide +kernel
theorem d_Z_law_729 : decode code 729 = .ok (.iaload, 1) := by decide +kernel
theorem d_Z_law_730 : decode code 730 = .ok (.aload_n 0, 1) := by decide +kernel
theorem d_Z_law_731 : decode code 731 = .ok (.iload 4, 2) := by decide +kernel
theorem d_Z_law_733 : decode code 733 = .ok (.iconst 2, 1) := by decide +kernel
theorem d_Z_law_734 : decode code 734 = .ok (.iadd, 1) := by decide +kernel
theorem d_Z_law_735 : decode code 735 = .ok (.iaload, 1) := by decide +kernel
theorem d_Z_law_736 : decode code 736 = .ok (.aload_n 0, 1) := by decide +kernel
theorem d_Z_law_737 : decode code 737 = .ok (.iload 4, 2) := by decide +kernel
theorem d_Z_law_739 : decode code 739 = .ok (.iconst 3, 1) := by decide +kernel
theorem d_Z_law_740 : decode code 740 = .ok (.iadd, 1) := by decide +kernel
theorem d_Z_law_741 : decode code 741 = .ok (.iaload, 1) := by decide +kernel
theorem d_Z_law_742 : decode code 742 = .ok (.aload_n 0, 1) := by decide +kernel
theorem d_Z_law_743 : decode code 743 = .ok (.iload 4, 2) := by decide +kernel
theorem d_Z_law_745 : decode code 745 = .ok (.iconst 4, 1) := by decide +kernel
theorem d_Z_law_746 : decode code 746 = .ok (.iadd, 1) := by decide +kernel
theorem d_Z_law_747 : decode code 747 = .ok (.iaload, 1) := by decide +kernel
theorem d_Z_law_748 : decode code 748 = .ok (.aload_n 3, 1) := by decide +kernel
theorem d_Z_law_749 : decode code 749 = .ok (.invokestatic 108, 3) := by decide +kernel
theorem d_Z_law_752 : decode code 752 = .ok (.istore 5, 2) := by decide +kernel
theorem d_Z_law_754 : decode code 754 = .ok (.aload_n 2, 1) := by decide +kernel
theorem d_Z_law_755 : decode code 755 = .ok (.aload_n 0, 1) := by decide +kernel
theorem d_Z_law_756 : decode code 756 = .ok (.iload 4, 2) := by decide +kernel
theorem d_Z_law_758 : decode code 758 = .ok (.iconst 1, 1) := by decide +kernel
theorem d_Z_law_759 : decode code 759 = .ok (.iadd, 1) := by decide +kernel
theorem d_Z_law_760 : decode code 760 = .ok (.iaload, 1) := by decide +kernel
theorem d_Z_law_761 : decode code 761 = .ok (.aload_n 0, 1) := by decide +kernel
theorem d_Z_law_762 : decode code 762 = .ok (.iload 4, 2) := by decide +kernel
theorem d_Z_law_764 : decode code 764 = .ok (.iconst 2, 1) := by decide +kernel
theorem d_Z_law_765 : decode code 765 = .ok (.iadd, 1) := by decide +kernel
theorem d_Z_law_766 : decode code 766 = .ok (.iaload, 1) := by decide +kernel
theorem d_Z_law_767 : decode code 767 = .ok (.aload_n 0, 1) := by decide +kernel
theorem d_Z_law_768 : decode code 768 = .ok (.iload 4, 2) := by decide +kernel
theorem d_Z_law_770 : decode code 770 = .ok (.iconst 3, 1) := by decide +kernel
theorem d_Z_law_771 : decode code 771 = .ok (.iadd, 1) := by decide +kernel
theorem d_Z_law_772 : decode code 772 = .ok (.iaload, 1) := by decide +kernel
theorem d_Z_law_773 : decode code 773 = .ok (.aload_n 0, 1) := by decide +kernel
theorem d_Z_law_774 : decode code 774 = .ok (.iload 4, 2) := by decide +kernel
theorem d_Z_law_776 : decode code 776 = .ok (.iconst 4, 1) := by decide +kernel
theorem d_Z_law_777 : decode code 777 = .ok (.iadd, 1) := by decide +kernel
theorem d_Z_law_778 : decode code 778 = .ok (.iaload, 1) := by decide +kernel
theorem d_Z_law_779 : decode code 779 = .ok (.invokevirtual 111, 3) := by decide +kernel
theorem d_Z_law_782 : decode code 782 = .ok (.istore 6, 2) := by decide +kernel
theorem d_Z_law_784 : decode code 784 = .ok (.aload_n 2, 1) := by decide +kernel
theorem d_Z_law_785 : decode code 785 = .ok (.invokevirtual 82, 3) := by decide +kernel
theorem d_Z_law_788 : decode code 788 = .ok (.iload 5, 2) := by decide +kernel
theorem d_Z_law_790 : decode code 790 = .ok (.if_icmp .eq 5, 3) := by decide +kernel
