theorem d_L_law_613 : decode code 613 = .ok (.iconst 0, 1) := by decide +kernel
theorem d_L_law_614 : decode code 614 = .ok (.ireturn, 1) := by decide +kernel
theorem d_L_law_615 : decode code 615 = .ok (.iload 5, 2) := by decide +kernel
theorem d_L_law_617 : decode code 617 = .ok (.ifCond .ne 15, 3) := by decide +kernel
theorem d_L_law_620 : decode code 620 = .ok (.aload_n 3, 1) := by decide +kernel
theorem d_L_law_621 : decode code 621 = .ok (.iconst 0, 1) := by decide +kernel
theorem d_L_law_622 : decode code 622 = .ok (.laload, 1) := by decide +kernel
theorem d_L_law_623 : decode code 623 = .ok (.iload 6, 2) := by decide +kernel
theorem d_L_law_625 : decode code 625 = .ok (.i2l, 1) := by decide +kernel
theorem d_L_law_626 : decode code 626 = .ok (.lcmp, 1) := by decide +kernel
theorem d_L_law_627 : decode code 627 = .ok (.ifCond .eq 5, 3) := by decide +kernel
theorem d_L_law_630 : decode code 630 = .ok (.iconst 0, 1) := by decide +kernel
theorem d_L_law_631 : decode code 631 = .ok (.ireturn, 1) := by decide +kernel
theorem d_L_law_632 : decode code 632 = .ok (.goto 242, 3) := by decide +kernel
theorem d_L_law_635 : decode code 635 = .ok (.aload_n 1, 1) := by decide +kernel
theorem d_L_law_636 : decode code 636 = .ok (.aload_n 0, 1) := by decide +kernel
theorem d_L_law_637 : decode code 637 = .ok (.iload 4, 2) := by decide +kernel
theorem d_L_law_639 : decode code 639 = .ok (.iconst 1, 1) := by decide +kernel
theorem d_L_law_640 : decode code 640 = .ok (.iadd, 1) := by decide +kernel
theorem d_L_law_641 : decode code 641 = .ok (.iaload, 1) := by decide +kernel
theorem d_L_law_642 : decode code 642 = .ok (.invokestatic 107, 3) := by decide +kernel
theorem d_L_law_645 : decode code 645 = .ok (.istore 5, 2) := by decide +kernel
theorem d_L_law_647 : decode code 647 = .ok (.aload_n 2, 1) := by decide +kernel
theorem d_L_law_648 : decode code 648 = .ok (.aload_n 0, 1) := by decide +kernel
theorem d_L_law_649 : decode code 649 = .ok (.iload 4, 2) := by decide +kernel
theorem d_L_law_651 : decode code 651 = .ok (.iconst 1, 1) := by decide +kernel
theorem d_L_law_652 : decode code 652 = .ok (.iadd, 1) := by decide +kernel
theorem d_L_law_653 : decode code 653 = .ok (.iaload, 1) := by decide +kernel
theorem d_L_law_654 : decode code 654 = .ok (.invokevirtual 109, 3) := by decide +kernel
theorem d_L_law_657 : decode code 657 = .ok (.aload_n 2, 1) := by decide +kernel
theorem d_L_law_658 : decode code 658 = .ok (.invokevirtual 68, 3) := by decide +kernel
theorem d_L_law_661 : decode code 661 = .ok (.iload 5, 2) := by decide +kernel
theorem d_L_law_663 : decode code 663 = .ok (.if_icmp .eq 5, 3) := by decide +kernel
theorem d_L_law_666 : decode code 666 = .ok (.iconst 0, 1) := by decide +kernel
theorem d_L_law_667 : decode code 667 = .ok (.ireturn, 1) := by decide +kernel
theorem d_L_law_668 : decode code 668 = .ok (.goto 206, 3) := by decide +kernel
theorem d_L_law_671 : decode code 671 = .ok (.aload_n 1, 1) := by decide +kernel
theorem d_L_law_672 : decode code 672 = .ok (.invokestatic 110, 3) := by decide +kernel
theorem d_L_law_675 : decode code 675 = .ok (.istore 5, 2) := by decide +kernel
theorem d_L_law_677 : decode code 677 = .ok (.aload_n 2, 1) := by decide +kernel
theorem d_L_law_678 : decode code 678 = .ok (.invokevirtual 113, 3) := by decide +kernel
theorem d_L_law_681 : decode code 681 = .ok (.aload_n 2, 1) := by decide +kernel
theorem d_L_law_682 : decode code 682 = .ok (.invokevirtual 68, 3) := by decide +kernel
theorem d_L_law_685 : decode code 685 = .ok (.iload 5, 2) := by decide +kernel
theorem d_L_law_687 : decode code 687 = .ok (.if_icmp .eq 5, 3) := by decide +kernel
theorem d_L_law_690 : decode code 690 = .ok (.iconst 0, 1) := by decide +kernel
theorem d_L_law_691 : decode code 691 = .ok (.ireturn, 1) := by decide +kernel
theorem d_L_law_692 : decode code 692 = .ok (.goto 182, 3) := by decide +kernel
theorem d_L_law_695 : decode code 695 = .ok (.aload_n 1, 1) := by decide +kernel
theorem d_L_law_696 : decode code 696 = .ok (.aload_n 0, 1) := by decide +kernel
theorem d_L_law_697 : decode code 697 = .ok (.iload 4, 2) := by decide +kernel
theorem d_L_law_699 : decode code 699 = .ok (.iconst 1, 1) := by decide +kernel
theorem d_L_law_700 : decode code 700 = .ok (.iadd, 1) := by decide +kernel
theorem d_L_law_701 : decode code 701 = .ok (.iaload, 1) := by decide +kernel
theorem d_L_law_702 : decode code 702 = .ok (.invokestatic 114, 3) := by decide +kernel
theorem d_L_law_705 : decode code 705 = .ok (.istore 5, 2) := by decide +kernel
theorem d_L_law_707 : decode code 707 = .ok (.aload_n 2, 1) := by decide +kernel
theorem d_L_law_708 : decode code 708 = .ok (.aload_n 0, 1) := by decide +kernel
theorem d_L_law_709 : decode code 709 = .ok (.iload 4, 2) := by decide +kernel
theorem d_L_law_711 : decode code 711 = .ok (.iconst 1, 1) := by decide +kernel
theorem d_L_law_712 : decode code 712 = .ok (.iadd, 1) := by decide +kernel
theorem d_L_law_713 : decode code 713 = .ok (.iaload, 1) := by decide +kernel
theorem d_L_law_714 : decode code 714 = .ok (.invokevirtual 116, 3) := by decide +kernel
theorem d_L_law_717 : decode code 717 = .ok (.aload_n 2, 1) := by decide +kernel
theorem d_L_law_718 : decode code 718 = .ok (.invokevirtual 68, 3) := by decide +kernel
theorem d_L_law_721 : decode code 721 = .ok (.iload 5, 2) := by decide +kernel
theorem d_L_law_723 : decode code 723 = .ok (.if_icmp .eq 5, 3) := by decide +kernel
theorem d_L_law_726 : decode code 726 = .ok (.iconst 0, 1) := by decide +kernel
theorem d_L_law_727 : decode code 727 = .ok (.ireturn, 1) := by decide +kernel
theorem d_L_law_728 : decode code 728 = .ok (.goto 146, 3) := by decide +kernel
theorem d_L_law_731 : decode code 731 = .ok (.aload_n 1, 1) := by decide +kernel
theorem d_L_law_732 : decode code 732 = .ok (.invokevirtual 117, 3) := by decide +kernel
theorem d_L_law_735 : decode code 735 = .ok (.aload_n 2, 1) := by decide +kernel
theorem d_L_law_736 : decode code 736 = .ok (.invokevirtual 120, 3) := by decide +kernel
theorem d_L_law_739 : decode code 739 = .ok (.if_icmp .eq 135, 3) := by decide +kernel
theorem d_L_law_742 : decode code 742 = .ok (.iconst 0, 1) := by decide +kernel
theorem d_L_law_743 : decode code 743 = .ok (.ireturn, 1) := by decide +kernel
theorem d_L_law_744 : decode code 744 = .ok (.aload_n 1, 1) := by decide +kernel
theorem d_L_law_745 : decode code 745 = .ok (.invokevirtual 121, 3) := by decide +kernel
theorem d_L_law_748 : decode code 748 = .ok (.aload_n 2, 1) := by decide +kernel
theorem d_L_law_749 : decode code 749 = .ok (.invokevirtual 124, 3) := by decide +kernel
theorem d_L_law_752 : decode code 752 = .ok (.goto 122, 3) := by decide +kernel
theorem d_L_law_755 : decode code 755 = .ok (.aload_n 1, 1) := by decide +kernel
theorem d_L_law_756 : decode code 756 = .ok (.aload_n 0, 1) := by decide +kernel
theorem d_L_law_757 : decode code 757 = .ok (.iload 4, 2) := by decide +kernel
theorem d_L_law_759 : decode code 759 = .ok (.iconst 1, 1) := by decide +kernel
theorem d_L_law_760 : decode code 760 = .ok (.iadd, 1) := by decide +kernel
theorem d_L_law_761 : decode code 761 = .ok (.iaload, 1) := by decide +kernel
theorem d_L_law_762 : decode code 762 = .ok (.invokevirtual 125, 3) := by decide +kernel
theorem d_L_law_765 : decode code 765 = .ok (.aload_n 2, 1) := by decide +kernel
theorem d_L_law_766 : decode code 766 = .ok (.aload_n 0, 1) := by decide +kernel
theorem d_L_law_767 : decode code 767 = .ok (.iload 4, 2) := by decide +kernel
theorem d_L_law_769 : decode code 769 = .ok (.iconst 1, 1) := by decide +kernel
theorem d_L_law_770 : decode code 770 = .ok (.iadd, 1) := by decide +kernel
theorem d_L_law_771 : decode code 771 = .ok (.iaload, 1) := by decide +kernel
theorem d_L_law_772 : decode code 772 = .ok (.invokevirtual 128, 3) := by decide +kernel
theorem d_L_law_775 : decode code 775 = .ok (.if_icmp .eq 99, 3) := by decide +kernel
theorem d_L_law_778 : decode code 778 = .ok (.iconst 0, 1) := by decide +kernel
theorem d_L_law_779 : decode code 779 = .ok (.ireturn, 1) := by decide +kernel
theorem d_L_law_780 : decode code 780 = .ok (.aload_n 1, 1) := by decide +kernel
theorem d_L_law_781 : decode code 781 = .ok (.aload_n 0, 1) := by decide +kernel
theorem d_L_law_782 : decode code 782 = .ok (.iload 4, 2) := by decide +kernel
theorem d_L_law_784 : decode code 784 = .ok (.iconst 1, 1) := by decide +kernel
theorem d_L_law_785 : decode code 785 = .ok (.iadd, 1) := by decide +kernel
theorem d_L_law_786 : decode code 786 = .ok (.iaload, 1) := by decide +kernel
theorem d_L_law_787 : decode code 787 = .ok (.ifCond .eq 7, 3) := by decide +kernel
theorem d_L_law_790 : decode code 790 = .ok (.iconst 1, 1) := by decide +kernel
theorem d_L_law_791 : decode code 791 = .ok (.goto 4, 3) := by decide +kernel
theorem d_L_law_794 : decode code 794 = .ok (.iconst 0, 1) := by decide +kernel
theorem d_L_law_795 : decode code 795 = .ok (.invokevirtual 129, 3) := by decide +kernel
theorem d_L_law_798 : decode code 798 = .ok (.aload_n 2, 1) := by decide +kernel
theorem d_L_law_799 : decode code 799 = .ok (.aload_n 0, 1) := by decide +kernel
theorem d_L_law_800 : decode code 800 = .ok (.iload 4, 2) := by decide +kernel
theorem d_L_law_802 : decode code 802 = .ok (.iconst 1, 1) := by decide +kernel
theorem d_L_law_803 : decode code 803 = .ok (.iadd, 1) := by decide +kernel
theorem d_L_law_804 : decode code 804 = .ok (.iaload, 1) := by decide +kernel
theorem d_L_law_805 : decode code 805 = .ok (.ifCond .eq 7, 3) := by decide +kernel
theorem d_L_law_808 : decode code 808 = .ok (.iconst 1, 1) := by decide +kernel
theorem d_L_law_809 : decode code 809 = .ok (.goto 4, 3) := by decide +kernel
theorem d_L_law_812 : decode code 812 = .ok (.iconst 0, 1) := by decide +kernel
theorem d_L_law_813 : decode code 813 = .ok (.invokevirtual 133, 3) := by decide +kernel
theorem d_L_law_816 : decode code 816 = .ok (.if_icmp .eq 58, 3) := by decide +kernel
theorem d_L_law_819 : decode code 819 = .ok (.iconst 0, 1) := by decide +kernel
theorem d_L_law_820 : decode code 820 = .ok (.ireturn, 1) := by decide +kernel
theorem d_L_law_821 : decode code 821 = .ok (.aload_n 1, 1) := by decide +kernel
theorem d_L_law_822 : decode code 822 = .ok (.aload_n 0, 1) := by decide +kernel
theorem d_L_law_823 : decode code 823 = .ok (.iload 4, 2) := by decide +kernel
theorem d_L_law_825 : decode code 825 = .ok (.iconst 1, 1) := by decide +kernel
theorem d_L_law_826 : decode code 826 = .ok (.iadd, 1) := by decide +kernel
theorem d_L_law_827 : decode code 827 = .ok (.iaload, 1) := by decide +kernel
theorem d_L_law_828 : decode code 828 = .ok (.aload_n 0, 1) := by decide +kernel
theorem d_L_law_829 : decode code 829 = .ok (.iload 4, 2) := by decide +kernel
theorem d_L_law_831 : decode code 831 = .ok (.iconst 2, 1) := by decide +kernel
theorem d_L_law_832 : decode code 832 = .ok (.iadd, 1) := by decide +kernel
theorem d_L_law_833 : decode code 833 = .ok (.iaload, 1) := by decide +kernel
theorem d_L_law_834 : decode code 834 = .ok (.ifCond .eq 7, 3) := by decide +kernel
theorem d_L_law_837 : decode code 837 = .ok (.iconst 1, 1) := by decide +kernel
theorem d_L_law_838 : decode code 838 = .ok (.goto 4, 3) := by decide +kernel
theorem d_L_law_841 : decode code 841 = .ok (.iconst 0, 1) := by decide +kernel
theorem d_L_law_842 : decode code 842 = .ok (.invokevirtual 134, 3) := by decide +kernel
theorem d_L_law_845 : decode code 845 = .ok (.aload_n 2, 1) := by decide +kernel
theorem d_L_law_846 : decode code 846 = .ok (.aload_n 0, 1) := by decide +kernel
theorem d_L_law_847 : decode code 847 = .ok (.iload 4, 2) := by decide +kernel
theorem d_L_law_849 : decode code 849 = .ok (.iconst 1, 1) := by decide +kernel
theorem d_L_law_850 : decode code 850 = .ok (.iadd, 1) := by decide +kernel
theorem d_L_law_851 : decode code 851 = .ok (.iaload, 1) := by decide +kernel
theorem d_L_law_852 : decode code 852 = .ok (.aload_n 0, 1) := by decide +kernel
theorem d_L_law_853 : decode code 853 = .ok (.iload 4, 2) := by decide +kernel
theorem d_L_law_855 : decode code 855 = .ok (.iconst 2, 1) := by decide +kernel
theorem d_L_law_856 : decode code 856 = .ok (.iadd, 1) := by decide +kernel
theorem d_L_law_857 : decode code 857 = .ok (.iaload, 1) := by decide +kernel
theorem d_L_law_858 : decode code 858 = .ok (.ifCond .eq 7, 3) := by decide +kernel
theorem d_L_law_861 : decode code 861 = .ok (.iconst 1, 1) := by decide +kernel
theorem d_L_law_862 : decode code 862 = .ok (.goto 4, 3) := by decide +kernel
theorem d_L_law_865 : decode code 865 = .ok (.iconst 0, 1) := by decide +kernel
theorem d_L_law_866 : decode code 866 = .ok (.invokevirtual 138, 3) := by decide +kernel
theorem d_L_law_869 : decode code 869 = .ok (.if_icmp .eq 5, 3) := by decide +kernel
theorem d_L_law_872 : decode code 872 = .ok (.iconst 0, 1) := by decide +kernel
theorem d_L_law_873 : decode code 873 = .ok (.ireturn, 1) := by decide +kernel
theorem d_L_law_874 : decode code 874 = .ok (.iinc 4 3, 3) := by decide +kernel
theorem d_L_law_877 : decode code 877 = .ok (.goto (-854), 3) := by decide +kernel
theorem d_L_law_880 : decode code 880 = .ok (.iconst 1, 1) := by decide +kernel
theorem d_L_law_881 : decode code 881 = .ok (.ireturn, 1) := by decide +kernel
