/-! the law: its instructions -/
theorem D_Law_law_602 : decode cL_law 602 = .ok (.aload_n 0, 1) := by decide +kernel
theorem D_Law_law_603 : decode cL_law 603 = .ok (.iload_n 3, 1) := by decide +kernel
theorem D_Law_law_604 : decode cL_law 604 = .ok (.iconst (2), 1) := by decide +kernel
theorem D_Law_law_605 : decode cL_law 605 = .ok (.iadd, 1) := by decide +kernel
theorem D_Law_law_606 : decode cL_law 606 = .ok (.iaload, 1) := by decide +kernel
theorem D_Law_law_607 : decode cL_law 607 = .ok (.aload_n 0, 1) := by decide +kernel
theorem D_Law_law_608 : decode cL_law 608 = .ok (.iload_n 3, 1) := by decide +kernel
theorem D_Law_law_609 : decode cL_law 609 = .ok (.iconst (3), 1) := by decide +kernel
theorem D_Law_law_610 : decode cL_law 610 = .ok (.iadd, 1) := by decide +kernel
theorem D_Law_law_611 : decode cL_law 611 = .ok (.iaload, 1) := by decide +kernel
theorem D_Law_law_612 : decode cL_law 612 = .ok (.invokevirtual 81, 3) := by decide +kernel
theorem D_Law_law_615 : decode cL_law 615 = .ok (.if_icmp .eq (410), 3) := by decide +kernel
theorem D_Law_law_618 : decode cL_law 618 = .ok (.iconst (0), 1) := by decide +kernel
theorem D_Law_law_619 : decode cL_law 619 = .ok (.ireturn, 1) := by decide +kernel
theorem D_Law_law_620 : decode cL_law 620 = .ok (.aload_n 1, 1) := by decide +kernel
theorem D_Law_law_621 : decode cL_law 621 = .ok (.aload_n 0, 1) := by decide +kernel
theorem D_Law_law_622 : decode cL_law 622 = .ok (.iload_n 3, 1) := by decide +kernel
theorem D_Law_law_623 : decode cL_law 623 = .ok (.iconst (1), 1) := by decide +kernel
theorem D_Law_law_624 : decode cL_law 624 = .ok (.iadd, 1) := by decide +kernel
theorem D_Law_law_625 : decode cL_law 625 = .ok (.iaload, 1) := by decide +kernel
theorem D_Law_law_626 : decode cL_law 626 = .ok (.aload_n 0, 1) := by decide +kernel
theorem D_Law_law_627 : decode cL_law 627 = .ok (.iload_n 3, 1) := by decide +kernel
theorem D_Law_law_628 : decode cL_law 628 = .ok (.iconst (2), 1) := by decide +kernel
theorem D_Law_law_629 : decode cL_law 629 = .ok (.iadd, 1) := by decide +kernel
theorem D_Law_law_630 : decode cL_law 630 = .ok (.iaload, 1) := by decide +kernel
theorem D_Law_law_631 : decode cL_law 631 = .ok (.invokevirtual 82, 3) := by decide +kernel
theorem D_Law_law_634 : decode cL_law 634 = .ok (.aload_n 2, 1) := by decide +kernel
theorem D_Law_law_635 : decode cL_law 635 = .ok (.aload_n 0, 1) := by decide +kernel
theorem D_Law_law_636 : decode cL_law 636 = .ok (.iload_n 3, 1) := by decide +kernel
theorem D_Law_law_637 : decode cL_law 637 = .ok (.iconst (1), 1) := by decide +kernel
theorem D_Law_law_638 : decode cL_law 638 = .ok (.iadd, 1) := by decide +kernel
theorem D_Law_law_639 : decode cL_law 639 = .ok (.iaload, 1) := by decide +kernel
theorem D_Law_law_640 : decode cL_law 640 = .ok (.aload_n 0, 1) := by decide +kernel
theorem D_Law_law_641 : decode cL_law 641 = .ok (.iload_n 3, 1) := by decide +kernel
theorem D_Law_law_642 : decode cL_law 642 = .ok (.iconst (2), 1) := by decide +kernel
theorem D_Law_law_643 : decode cL_law 643 = .ok (.iadd, 1) := by decide +kernel
theorem D_Law_law_644 : decode cL_law 644 = .ok (.iaload, 1) := by decide +kernel
theorem D_Law_law_645 : decode cL_law 645 = .ok (.invokevirtual 85, 3) := by decide +kernel
theorem D_Law_law_648 : decode cL_law 648 = .ok (.if_icmp .eq (377), 3) := by decide +kernel
theorem D_Law_law_651 : decode cL_law 651 = .ok (.iconst (0), 1) := by decide +kernel
theorem D_Law_law_652 : decode cL_law 652 = .ok (.ireturn, 1) := by decide +kernel
theorem D_Law_law_653 : decode cL_law 653 = .ok (.aload_n 1, 1) := by decide +kernel
theorem D_Law_law_654 : decode cL_law 654 = .ok (.aload_n 0, 1) := by decide +kernel
theorem D_Law_law_655 : decode cL_law 655 = .ok (.iload_n 3, 1) := by decide +kernel
theorem D_Law_law_656 : decode cL_law 656 = .ok (.iconst (1), 1) := by decide +kernel
theorem D_Law_law_657 : decode cL_law 657 = .ok (.iadd, 1) := by decide +kernel
theorem D_Law_law_658 : decode cL_law 658 = .ok (.iaload, 1) := by decide +kernel
theorem D_Law_law_659 : decode cL_law 659 = .ok (.aload_n 0, 1) := by decide +kernel
theorem D_Law_law_660 : decode cL_law 660 = .ok (.iload_n 3, 1) := by decide +kernel
theorem D_Law_law_661 : decode cL_law 661 = .ok (.iconst (2), 1) := by decide +kernel
theorem D_Law_law_662 : decode cL_law 662 = .ok (.iadd, 1) := by decide +kernel
theorem D_Law_law_663 : decode cL_law 663 = .ok (.iaload, 1) := by decide +kernel
theorem D_Law_law_664 : decode cL_law 664 = .ok (.invokevirtual 86, 3) := by decide +kernel
theorem D_Law_law_667 : decode cL_law 667 = .ok (.aload_n 2, 1) := by decide +kernel
theorem D_Law_law_668 : decode cL_law 668 = .ok (.aload_n 0, 1) := by decide +kernel
theorem D_Law_law_669 : decode cL_law 669 = .ok (.iload_n 3, 1) := by decide +kernel
theorem D_Law_law_670 : decode cL_law 670 = .ok (.iconst (1), 1) := by decide +kernel
theorem D_Law_law_671 : decode cL_law 671 = .ok (.iadd, 1) := by decide +kernel
theorem D_Law_law_672 : decode cL_law 672 = .ok (.iaload, 1) := by decide +kernel
theorem D_Law_law_673 : decode cL_law 673 = .ok (.aload_n 0, 1) := by decide +kernel
theorem D_Law_law_674 : decode cL_law 674 = .ok (.iload_n 3, 1) := by decide +kernel
theorem D_Law_law_675 : decode cL_law 675 = .ok (.iconst (2), 1) := by decide +kernel
theorem D_Law_law_676 : decode cL_law 676 = .ok (.iadd, 1) := by decide +kernel
theorem D_Law_law_677 : decode cL_law 677 = .ok (.iaload, 1) := by decide +kernel
theorem D_Law_law_678 : decode cL_law 678 = .ok (.invokevirtual 89, 3) := by decide +kernel
theorem D_Law_law_681 : decode cL_law 681 = .ok (.if_icmp .eq (344), 3) := by decide +kernel
theorem D_Law_law_684 : decode cL_law 684 = .ok (.iconst (0), 1) := by decide +kernel
theorem D_Law_law_685 : decode cL_law 685 = .ok (.ireturn, 1) := by decide +kernel
theorem D_Law_law_686 : decode cL_law 686 = .ok (.aload_n 1, 1) := by decide +kernel
theorem D_Law_law_687 : decode cL_law 687 = .ok (.aload_n 0, 1) := by decide +kernel
theorem D_Law_law_688 : decode cL_law 688 = .ok (.iload_n 3, 1) := by decide +kernel
theorem D_Law_law_689 : decode cL_law 689 = .ok (.iconst (1), 1) := by decide +kernel
theorem D_Law_law_690 : decode cL_law 690 = .ok (.iadd, 1) := by decide +kernel
theorem D_Law_law_691 : decode cL_law 691 = .ok (.iaload, 1) := by decide +kernel
theorem D_Law_law_692 : decode cL_law 692 = .ok (.aload_n 0, 1) := by decide +kernel
theorem D_Law_law_693 : decode cL_law 693 = .ok (.iload_n 3, 1) := by decide +kernel
theorem D_Law_law_694 : decode cL_law 694 = .ok (.iconst (2), 1) := by decide +kernel
theorem D_Law_law_695 : decode cL_law 695 = .ok (.iadd, 1) := by decide +kernel
theorem D_Law_law_696 : decode cL_law 696 = .ok (.iaload, 1) := by decide +kernel
theorem D_Law_law_697 : decode cL_law 697 = .ok (.aload_n 0, 1) := by decide +kernel
theorem D_Law_law_698 : decode cL_law 698 = .ok (.iload_n 3, 1) := by decide +kernel
theorem D_Law_law_699 : decode cL_law 699 = .ok (.iconst (3), 1) := by decide +kernel
theorem D_Law_law_700 : decode cL_law 700 = .ok (.iadd, 1) := by decide +kernel
theorem D_Law_law_701 : decode cL_law 701 = .ok (.iaload, 1) := by decide +kernel
theorem D_Law_law_702 : decode cL_law 702 = .ok (.invokevirtual 90, 3) := by decide +kernel
theorem D_Law_law_705 : decode cL_law 705 = .ok (.aload_n 2, 1) := by decide +kernel
theorem D_Law_law_706 : decode cL_law 706 = .ok (.aload_n 0, 1) := by decide +kernel
theorem D_Law_law_707 : decode cL_law 707 = .ok (.iload_n 3, 1) := by decide +kernel
theorem D_Law_law_708 : decode cL_law 708 = .ok (.iconst (1), 1) := by decide +kernel
theorem D_Law_law_709 : decode cL_law 709 = .ok (.iadd, 1) := by decide +kernel
theorem D_Law_law_710 : decode cL_law 710 = .ok (.iaload, 1) := by decide +kernel
theorem D_Law_law_711 : decode cL_law 711 = .ok (.aload_n 0, 1) := by decide +kernel
theorem D_Law_law_712 : decode cL_law 712 = .ok (.iload_n 3, 1) := by decide +kernel
theorem D_Law_law_713 : decode cL_law 713 = .ok (.iconst (2), 1) := by decide +kernel
theorem D_Law_law_714 : decode cL_law 714 = .ok (.iadd, 1) := by decide +kernel
theorem D_Law_law_715 : decode cL_law 715 = .ok (.iaload, 1) := by decide +kernel
theorem D_Law_law_716 : decode cL_law 716 = .ok (.aload_n 0, 1) := by decide +kernel
theorem D_Law_law_717 : decode cL_law 717 = .ok (.iload_n 3, 1) := by decide +kernel
theorem D_Law_law_718 : decode cL_law 718 = .ok (.iconst (3), 1) := by decide +kernel
theorem D_Law_law_719 : decode cL_law 719 = .ok (.iadd, 1) := by decide +kernel
theorem D_Law_law_720 : decode cL_law 720 = .ok (.iaload, 1) := by decide +kernel
theorem D_Law_law_721 : decode cL_law 721 = .ok (.invokevirtual 93, 3) := by decide +kernel
theorem D_Law_law_724 : decode cL_law 724 = .ok (.if_icmp .eq (301), 3) := by decide +kernel
theorem D_Law_law_727 : decode cL_law 727 = .ok (.iconst (0), 1) := by decide +kernel
theorem D_Law_law_728 : decode cL_law 728 = .ok (.ireturn, 1) := by decide +kernel
theorem D_Law_law_729 : decode cL_law 729 = .ok (.aload_n 1, 1) := by decide +kernel
theorem D_Law_law_730 : decode cL_law 730 = .ok (.aload_n 0, 1) := by decide +kernel
theorem D_Law_law_731 : decode cL_law 731 = .ok (.iload_n 3, 1) := by decide +kernel
theorem D_Law_law_732 : decode cL_law 732 = .ok (.iconst (1), 1) := by decide +kernel
theorem D_Law_law_733 : decode cL_law 733 = .ok (.iadd, 1) := by decide +kernel
theorem D_Law_law_734 : decode cL_law 734 = .ok (.iaload, 1) := by decide +kernel
theorem D_Law_law_735 : decode cL_law 735 = .ok (.invokevirtual 94, 3) := by decide +kernel
theorem D_Law_law_738 : decode cL_law 738 = .ok (.aload_n 2, 1) := by decide +kernel
theorem D_Law_law_739 : decode cL_law 739 = .ok (.aload_n 0, 1) := by decide +kernel
theorem D_Law_law_740 : decode cL_law 740 = .ok (.iload_n 3, 1) := by decide +kernel
theorem D_Law_law_741 : decode cL_law 741 = .ok (.iconst (1), 1) := by decide +kernel
theorem D_Law_law_742 : decode cL_law 742 = .ok (.iadd, 1) := by decide +kernel
theorem D_Law_law_743 : decode cL_law 743 = .ok (.iaload, 1) := by decide +kernel
theorem D_Law_law_744 : decode cL_law 744 = .ok (.invokevirtual 97, 3) := by decide +kernel
theorem D_Law_law_747 : decode cL_law 747 = .ok (.if_icmp .eq (278), 3) := by decide +kernel
theorem D_Law_law_750 : decode cL_law 750 = .ok (.iconst (0), 1) := by decide +kernel
theorem D_Law_law_751 : decode cL_law 751 = .ok (.ireturn, 1) := by decide +kernel
theorem D_Law_law_752 : decode cL_law 752 = .ok (.aload_n 1, 1) := by decide +kernel
theorem D_Law_law_753 : decode cL_law 753 = .ok (.aload_n 0, 1) := by decide +kernel
theorem D_Law_law_754 : decode cL_law 754 = .ok (.iload_n 3, 1) := by decide +kernel
theorem D_Law_law_755 : decode cL_law 755 = .ok (.iconst (1), 1) := by decide +kernel
theorem D_Law_law_756 : decode cL_law 756 = .ok (.iadd, 1) := by decide +kernel
theorem D_Law_law_757 : decode cL_law 757 = .ok (.iaload, 1) := by decide +kernel
theorem D_Law_law_758 : decode cL_law 758 = .ok (.aload_n 0, 1) := by decide +kernel
theorem D_Law_law_759 : decode cL_law 759 = .ok (.iload_n 3, 1) := by decide +kernel
theorem D_Law_law_760 : decode cL_law 760 = .ok (.iconst (2), 1) := by decide +kernel
theorem D_Law_law_761 : decode cL_law 761 = .ok (.iadd, 1) := by decide +kernel
theorem D_Law_law_762 : decode cL_law 762 = .ok (.iaload, 1) := by decide +kernel
theorem D_Law_law_763 : decode cL_law 763 = .ok (.aload_n 0, 1) := by decide +kernel
theorem D_Law_law_764 : decode cL_law 764 = .ok (.iload_n 3, 1) := by decide +kernel
theorem D_Law_law_765 : decode cL_law 765 = .ok (.iconst (3), 1) := by decide +kernel
theorem D_Law_law_766 : decode cL_law 766 = .ok (.iadd, 1) := by decide +kernel
theorem D_Law_law_767 : decode cL_law 767 = .ok (.iaload, 1) := by decide +kernel
theorem D_Law_law_768 : decode cL_law 768 = .ok (.aload_n 0, 1) := by decide +kernel
theorem D_Law_law_769 : decode cL_law 769 = .ok (.iload_n 3, 1) := by decide +kernel
theorem D_Law_law_770 : decode cL_law 770 = .ok (.iconst (4), 1) := by decide +kernel
theorem D_Law_law_771 : decode cL_law 771 = .ok (.iadd, 1) := by decide +kernel
theorem D_Law_law_772 : decode cL_law 772 = .ok (.iaload, 1) := by decide +kernel
theorem D_Law_law_773 : decode cL_law 773 = .ok (.invokevirtual 98, 3) := by decide +kernel
theorem D_Law_law_776 : decode cL_law 776 = .ok (.aload_n 2, 1) := by decide +kernel
theorem D_Law_law_777 : decode cL_law 777 = .ok (.aload_n 0, 1) := by decide +kernel
theorem D_Law_law_778 : decode cL_law 778 = .ok (.iload_n 3, 1) := by decide +kernel
theorem D_Law_law_779 : decode cL_law 779 = .ok (.iconst (1), 1) := by decide +kernel
theorem D_Law_law_780 : decode cL_law 780 = .ok (.iadd, 1) := by decide +kernel
theorem D_Law_law_781 : decode cL_law 781 = .ok (.iaload, 1) := by decide +kernel
theorem D_Law_law_782 : decode cL_law 782 = .ok (.aload_n 0, 1) := by decide +kernel
theorem D_Law_law_783 : decode cL_law 783 = .ok (.iload_n 3, 1) := by decide +kernel
theorem D_Law_law_784 : decode cL_law 784 = .ok (.iconst (2), 1) := by decide +kernel
theorem D_Law_law_785 : decode cL_law 785 = .ok (.iadd, 1) := by decide +kernel
theorem D_Law_law_786 : decode cL_law 786 = .ok (.iaload, 1) := by decide +kernel
theorem D_Law_law_787 : decode cL_law 787 = .ok (.aload_n 0, 1) := by decide +kernel
theorem D_Law_law_788 : decode cL_law 788 = .ok (.iload_n 3, 1) := by decide +kernel
theorem D_Law_law_789 : decode cL_law 789 = .ok (.iconst (3), 1) := by decide +kernel
theorem D_Law_law_790 : decode cL_law 790 = .ok (.iadd, 1) := by decide +kernel
theorem D_Law_law_791 : decode cL_law 791 = .ok (.iaload, 1) := by decide +kernel
theorem D_Law_law_792 : decode cL_law 792 = .ok (.aload_n 0, 1) := by decide +kernel
theorem D_Law_law_793 : decode cL_law 793 = .ok (.iload_n 3, 1) := by decide +kernel
theorem D_Law_law_794 : decode cL_law 794 = .ok (.iconst (4), 1) := by decide +kernel
theorem D_Law_law_795 : decode cL_law 795 = .ok (.iadd, 1) := by decide +kernel
theorem D_Law_law_796 : decode cL_law 796 = .ok (.iaload, 1) := by decide +kernel
theorem D_Law_law_797 : decode cL_law 797 = .ok (.invokevirtual 102, 3) := by decide +kernel
theorem D_Law_law_800 : decode cL_law 800 = .ok (.if_icmp .eq (225), 3) := by decide +kernel
theorem D_Law_law_803 : decode cL_law 803 = .ok (.iconst (0), 1) := by decide +kernel
theorem D_Law_law_804 : decode cL_law 804 = .ok (.ireturn, 1) := by decide +kernel
theorem D_Law_law_805 : decode cL_law 805 = .ok (.aload_n 1, 1) := by decide +kernel
theorem D_Law_law_806 : decode cL_law 806 = .ok (.invokevirtual 103, 3) := by decide +kernel
theorem D_Law_law_809 : decode cL_law 809 = .ok (.aload_n 2, 1) := by decide +kernel
theorem D_Law_law_810 : decode cL_law 810 = .ok (.invokevirtual 106, 3) := by decide +kernel
theorem D_Law_law_813 : decode cL_law 813 = .ok (.if_icmp .eq (212), 3) := by decide +kernel
theorem D_Law_law_816 : decode cL_law 816 = .ok (.iconst (0), 1) := by decide +kernel
theorem D_Law_law_817 : decode cL_law 817 = .ok (.ireturn, 1) := by decide +kernel
theorem D_Law_law_818 : decode cL_law 818 = .ok (.aload_n 1, 1) := by decide +kernel
theorem D_Law_law_819 : decode cL_law 819 = .ok (.invokevirtual 107, 3) := by decide +kernel
theorem D_Law_law_822 : decode cL_law 822 = .ok (.aload_n 2, 1) := by decide +kernel
theorem D_Law_law_823 : decode cL_law 823 = .ok (.invokevirtual 110, 3) := by decide +kernel
theorem D_Law_law_826 : decode cL_law 826 = .ok (.if_icmp .eq (199), 3) := by decide +kernel
theorem D_Law_law_829 : decode cL_law 829 = .ok (.iconst (0), 1) := by decide +kernel
theorem D_Law_law_830 : decode cL_law 830 = .ok (.ireturn, 1) := by decide +kernel
theorem D_Law_law_831 : decode cL_law 831 = .ok (.aload_n 1, 1) := by decide +kernel
theorem D_Law_law_832 : decode cL_law 832 = .ok (.invokevirtual 111, 3) := by decide +kernel
theorem D_Law_law_835 : decode cL_law 835 = .ok (.aload_n 2, 1) := by decide +kernel
theorem D_Law_law_836 : decode cL_law 836 = .ok (.invokevirtual 114, 3) := by decide +kernel
theorem D_Law_law_839 : decode cL_law 839 = .ok (.if_icmp .eq (186), 3) := by decide +kernel
theorem D_Law_law_842 : decode cL_law 842 = .ok (.iconst (0), 1) := by decide +kernel
theorem D_Law_law_843 : decode cL_law 843 = .ok (.ireturn, 1) := by decide +kernel
theorem D_Law_law_844 : decode cL_law 844 = .ok (.aload_n 1, 1) := by decide +kernel
theorem D_Law_law_845 : decode cL_law 845 = .ok (.aload_n 0, 1) := by decide +kernel
theorem D_Law_law_846 : decode cL_law 846 = .ok (.iload_n 3, 1) := by decide +kernel
theorem D_Law_law_847 : decode cL_law 847 = .ok (.iconst (1), 1) := by decide +kernel
theorem D_Law_law_848 : decode cL_law 848 = .ok (.iadd, 1) := by decide +kernel
theorem D_Law_law_849 : decode cL_law 849 = .ok (.iaload, 1) := by decide +kernel
theorem D_Law_law_850 : decode cL_law 850 = .ok (.invokevirtual 115, 3) := by decide +kernel
theorem D_Law_law_853 : decode cL_law 853 = .ok (.aload_n 2, 1) := by decide +kernel
theorem D_Law_law_854 : decode cL_law 854 = .ok (.aload_n 0, 1) := by decide +kernel
theorem D_Law_law_855 : decode cL_law 855 = .ok (.iload_n 3, 1) := by decide +kernel
theorem D_Law_law_856 : decode cL_law 856 = .ok (.iconst (1), 1) := by decide +kernel
theorem D_Law_law_857 : decode cL_law 857 = .ok (.iadd, 1) := by decide +kernel
theorem D_Law_law_858 : decode cL_law 858 = .ok (.iaload, 1) := by decide +kernel
theorem D_Law_law_859 : decode cL_law 859 = .ok (.invokevirtual 118, 3) := by decide +kernel
theorem D_Law_law_862 : decode cL_law 862 = .ok (.if_icmp .eq (163), 3) := by decide +kernel
theorem D_Law_law_865 : decode cL_law 865 = .ok (.iconst (0), 1) := by decide +kernel
theorem D_Law_law_866 : decode cL_law 866 = .ok (.ireturn, 1) := by decide +kernel
theorem D_Law_law_867 : decode cL_law 867 = .ok (.aload_n 1, 1) := by decide +kernel
theorem D_Law_law_868 : decode cL_law 868 = .ok (.invokevirtual 119, 3) := by decide +kernel
theorem D_Law_law_871 : decode cL_law 871 = .ok (.aload_n 2, 1) := by decide +kernel
theorem D_Law_law_872 : decode cL_law 872 = .ok (.invokevirtual 122, 3) := by decide +kernel
theorem D_Law_law_875 : decode cL_law 875 = .ok (.if_icmp .eq (150), 3) := by decide +kernel
theorem D_Law_law_878 : decode cL_law 878 = .ok (.iconst (0), 1) := by decide +kernel
theorem D_Law_law_879 : decode cL_law 879 = .ok (.ireturn, 1) := by decide +kernel
theorem D_Law_law_880 : decode cL_law 880 = .ok (.aload_n 1, 1) := by decide +kernel
theorem D_Law_law_881 : decode cL_law 881 = .ok (.aload_n 0, 1) := by decide +kernel
theorem D_Law_law_882 : decode cL_law 882 = .ok (.iload_n 3, 1) := by decide +kernel
theorem D_Law_law_883 : decode cL_law 883 = .ok (.iconst (1), 1) := by decide +kernel
theorem D_Law_law_884 : decode cL_law 884 = .ok (.iadd, 1) := by decide +kernel
theorem D_Law_law_885 : decode cL_law 885 = .ok (.iaload, 1) := by decide +kernel
theorem D_Law_law_886 : decode cL_law 886 = .ok (.aload_n 0, 1) := by decide +kernel
theorem D_Law_law_887 : decode cL_law 887 = .ok (.iload_n 3, 1) := by decide +kernel
theorem D_Law_law_888 : decode cL_law 888 = .ok (.iconst (2), 1) := by decide +kernel
theorem D_Law_law_889 : decode cL_law 889 = .ok (.iadd, 1) := by decide +kernel
theorem D_Law_law_890 : decode cL_law 890 = .ok (.iaload, 1) := by decide +kernel
theorem D_Law_law_891 : decode cL_law 891 = .ok (.invokevirtual 123, 3) := by decide +kernel
theorem D_Law_law_894 : decode cL_law 894 = .ok (.aload_n 2, 1) := by decide +kernel
theorem D_Law_law_895 : decode cL_law 895 = .ok (.aload_n 0, 1) := by decide +kernel
theorem D_Law_law_896 : decode cL_law 896 = .ok (.iload_n 3, 1) := by decide +kernel
theorem D_Law_law_897 : decode cL_law 897 = .ok (.iconst (1), 1) := by decide +kernel
theorem D_Law_law_898 : decode cL_law 898 = .ok (.iadd, 1) := by decide +kernel
theorem D_Law_law_899 : decode cL_law 899 = .ok (.iaload, 1) := by decide +kernel
theorem D_Law_law_900 : decode cL_law 900 = .ok (.aload_n 0, 1) := by decide +kernel
theorem D_Law_law_901 : decode cL_law 901 = .ok (.iload_n 3, 1) := by decide +kernel
theorem D_Law_law_902 : decode cL_law 902 = .ok (.iconst (2), 1) := by decide +kernel
theorem D_Law_law_903 : decode cL_law 903 = .ok (.iadd, 1) := by decide +kernel
theorem D_Law_law_904 : decode cL_law 904 = .ok (.iaload, 1) := by decide +kernel
theorem D_Law_law_905 : decode cL_law 905 = .ok (.invokevirtual 126, 3) := by decide +kernel
theorem D_Law_law_908 : decode cL_law 908 = .ok (.if_icmp .eq (117), 3) := by decide +kernel
theorem D_Law_law_911 : decode cL_law 911 = .ok (.iconst (0), 1) := by decide +kernel
theorem D_Law_law_912 : decode cL_law 912 = .ok (.ireturn, 1) := by decide +kernel
theorem D_Law_law_913 : decode cL_law 913 = .ok (.aload_n 1, 1) := by decide +kernel
theorem D_Law_law_914 : decode cL_law 914 = .ok (.aload_n 0, 1) := by decide +kernel
theorem D_Law_law_915 : decode cL_law 915 = .ok (.iload_n 3, 1) := by decide +kernel
theorem D_Law_law_916 : decode cL_law 916 = .ok (.iconst (1), 1) := by decide +kernel
theorem D_Law_law_917 : decode cL_law 917 = .ok (.iadd, 1) := by decide +kernel
theorem D_Law_law_918 : decode cL_law 918 = .ok (.iaload, 1) := by decide +kernel
theorem D_Law_law_919 : decode cL_law 919 = .ok (.aload_n 0, 1) := by decide +kernel
theorem D_Law_law_920 : decode cL_law 920 = .ok (.iload_n 3, 1) := by decide +kernel
theorem D_Law_law_921 : decode cL_law 921 = .ok (.iconst (2), 1) := by decide +kernel
theorem D_Law_law_922 : decode cL_law 922 = .ok (.iadd, 1) := by decide +kernel
theorem D_Law_law_923 : decode cL_law 923 = .ok (.iaload, 1) := by decide +kernel
theorem D_Law_law_924 : decode cL_law 924 = .ok (.invokevirtual 127, 3) := by decide +kernel
theorem D_Law_law_927 : decode cL_law 927 = .ok (.aload_n 2, 1) := by decide +kernel
theorem D_Law_law_928 : decode cL_law 928 = .ok (.aload_n 0, 1) := by decide +kernel
theorem D_Law_law_929 : decode cL_law 929 = .ok (.iload_n 3, 1) := by decide +kernel
theorem D_Law_law_930 : decode cL_law 930 = .ok (.iconst (1), 1) := by decide +kernel
theorem D_Law_law_931 : decode cL_law 931 = .ok (.iadd, 1) := by decide +kernel
theorem D_Law_law_932 : decode cL_law 932 = .ok (.iaload, 1) := by decide +kernel
theorem D_Law_law_933 : decode cL_law 933 = .ok (.aload_n 0, 1) := by decide +kernel
theorem D_Law_law_934 : decode cL_law 934 = .ok (.iload_n 3, 1) := by decide +kernel
theorem D_Law_law_935 : decode cL_law 935 = .ok (.iconst (2), 1) := by decide +kernel
theorem D_Law_law_936 : decode cL_law 936 = .ok (.iadd, 1) := by decide +kernel
theorem D_Law_law_937 : decode cL_law 937 = .ok (.iaload, 1) := by decide +kernel
theorem D_Law_law_938 : decode cL_law 938 = .ok (.invokevirtual 130, 3) := by decide +kernel
theorem D_Law_law_941 : decode cL_law 941 = .ok (.if_icmp .eq (84), 3) := by decide +kernel
theorem D_Law_law_944 : decode cL_law 944 = .ok (.iconst (0), 1) := by decide +kernel
theorem D_Law_law_945 : decode cL_law 945 = .ok (.ireturn, 1) := by decide +kernel
theorem D_Law_law_946 : decode cL_law 946 = .ok (.aload_n 1, 1) := by decide +kernel
theorem D_Law_law_947 : decode cL_law 947 = .ok (.aload_n 0, 1) := by decide +kernel
theorem D_Law_law_948 : decode cL_law 948 = .ok (.iload_n 3, 1) := by decide +kernel
theorem D_Law_law_949 : decode cL_law 949 = .ok (.iconst (1), 1) := by decide +kernel
theorem D_Law_law_950 : decode cL_law 950 = .ok (.iadd, 1) := by decide +kernel
theorem D_Law_law_951 : decode cL_law 951 = .ok (.iaload, 1) := by decide +kernel
theorem D_Law_law_952 : decode cL_law 952 = .ok (.aload_n 0, 1) := by decide +kernel
theorem D_Law_law_953 : decode cL_law 953 = .ok (.iload_n 3, 1) := by decide +kernel
theorem D_Law_law_954 : decode cL_law 954 = .ok (.iconst (2), 1) := by decide +kernel
theorem D_Law_law_955 : decode cL_law 955 = .ok (.iadd, 1) := by decide +kernel
theorem D_Law_law_956 : decode cL_law 956 = .ok (.iaload, 1) := by decide +kernel
theorem D_Law_law_957 : decode cL_law 957 = .ok (.aload_n 0, 1) := by decide +kernel
theorem D_Law_law_958 : decode cL_law 958 = .ok (.iload_n 3, 1) := by decide +kernel
theorem D_Law_law_959 : decode cL_law 959 = .ok (.iconst (3), 1) := by decide +kernel
theorem D_Law_law_960 : decode cL_law 960 = .ok (.iadd, 1) := by decide +kernel
theorem D_Law_law_961 : decode cL_law 961 = .ok (.iaload, 1) := by decide +kernel
theorem D_Law_law_962 : decode cL_law 962 = .ok (.invokevirtual 131, 3) := by decide +kernel
theorem D_Law_law_965 : decode cL_law 965 = .ok (.aload_n 2, 1) := by decide +kernel
theorem D_Law_law_966 : decode cL_law 966 = .ok (.aload_n 0, 1) := by decide +kernel
theorem D_Law_law_967 : decode cL_law 967 = .ok (.iload_n 3, 1) := by decide +kernel
theorem D_Law_law_968 : decode cL_law 968 = .ok (.iconst (1), 1) := by decide +kernel
theorem D_Law_law_969 : decode cL_law 969 = .ok (.iadd, 1) := by decide +kernel
theorem D_Law_law_970 : decode cL_law 970 = .ok (.iaload, 1) := by decide +kernel
theorem D_Law_law_971 : decode cL_law 971 = .ok (.aload_n 0, 1) := by decide +kernel
theorem D_Law_law_972 : decode cL_law 972 = .ok (.iload_n 3, 1) := by decide +kernel
theorem D_Law_law_973 : decode cL_law 973 = .ok (.iconst (2), 1) := by decide +kernel
theorem D_Law_law_974 : decode cL_law 974 = .ok (.iadd, 1) := by decide +kernel
theorem D_Law_law_975 : decode cL_law 975 = .ok (.iaload, 1) := by decide +kernel
theorem D_Law_law_976 : decode cL_law 976 = .ok (.aload_n 0, 1) := by decide +kernel
theorem D_Law_law_977 : decode cL_law 977 = .ok (.iload_n 3, 1) := by decide +kernel
theorem D_Law_law_978 : decode cL_law 978 = .ok (.iconst (3), 1) := by decide +kernel
theorem D_Law_law_979 : decode cL_law 979 = .ok (.iadd, 1) := by decide +kernel
theorem D_Law_law_980 : decode cL_law 980 = .ok (.iaload, 1) := by decide +kernel
theorem D_Law_law_981 : decode cL_law 981 = .ok (.invokevirtual 134, 3) := by decide +kernel
theorem D_Law_law_984 : decode cL_law 984 = .ok (.if_icmp .eq (41), 3) := by decide +kernel
theorem D_Law_law_987 : decode cL_law 987 = .ok (.iconst (0), 1) := by decide +kernel
theorem D_Law_law_988 : decode cL_law 988 = .ok (.ireturn, 1) := by decide +kernel
theorem D_Law_law_989 : decode cL_law 989 = .ok (.aload_n 1, 1) := by decide +kernel
theorem D_Law_law_990 : decode cL_law 990 = .ok (.invokevirtual 135, 3) := by decide +kernel
theorem D_Law_law_993 : decode cL_law 993 = .ok (.aload_n 2, 1) := by decide +kernel
theorem D_Law_law_994 : decode cL_law 994 = .ok (.invokevirtual 138, 3) := by decide +kernel
theorem D_Law_law_997 : decode cL_law 997 = .ok (.if_icmp .eq (28), 3) := by decide +kernel
theorem D_Law_law_1000 : decode cL_law 1000 = .ok (.iconst (0), 1) := by decide +kernel
theorem D_Law_law_1001 : decode cL_law 1001 = .ok (.ireturn, 1) := by decide +kernel
theorem D_Law_law_1002 : decode cL_law 1002 = .ok (.aload_n 1, 1) := by decide +kernel
theorem D_Law_law_1003 : decode cL_law 1003 = .ok (.aload_n 0, 1) := by decide +kernel
theorem D_Law_law_1004 : decode cL_law 1004 = .ok (.iload_n 3, 1) := by decide +kernel
theorem D_Law_law_1005 : decode cL_law 1005 = .ok (.iconst (1), 1) := by decide +kernel
theorem D_Law_law_1006 : decode cL_law 1006 = .ok (.iadd, 1) := by decide +kernel
theorem D_Law_law_1007 : decode cL_law 1007 = .ok (.iaload, 1) := by decide +kernel
theorem D_Law_law_1008 : decode cL_law 1008 = .ok (.invokevirtual 139, 3) := by decide +kernel
theorem D_Law_law_1011 : decode cL_law 1011 = .ok (.aload_n 2, 1) := by decide +kernel
theorem D_Law_law_1012 : decode cL_law 1012 = .ok (.aload_n 0, 1) := by decide +kernel
theorem D_Law_law_1013 : decode cL_law 1013 = .ok (.iload_n 3, 1) := by decide +kernel
theorem D_Law_law_1014 : decode cL_law 1014 = .ok (.iconst (1), 1) := by decide +kernel
theorem D_Law_law_1015 : decode cL_law 1015 = .ok (.iadd, 1) := by decide +kernel
theorem D_Law_law_1016 : decode cL_law 1016 = .ok (.iaload, 1) := by decide +kernel
theorem D_Law_law_1017 : decode cL_law 1017 = .ok (.invokevirtual 142, 3) := by decide +kernel
theorem D_Law_law_1020 : decode cL_law 1020 = .ok (.if_icmp .eq (5), 3) := by decide +kernel
theorem D_Law_law_1023 : decode cL_law 1023 = .ok (.iconst (0), 1) := by decide +kernel
theorem D_Law_law_1024 : decode cL_law 1024 = .ok (.ireturn, 1) := by decide +kernel
theorem D_Law_law_1025 : decode cL_law 1025 = .ok (.iinc 3 (6), 3) := by decide +kernel
theorem D_Law_law_1028 : decode cL_law 1028 = .ok (.goto (-1010), 3) := by decide +kernel
theorem D_Law_law_1031 : decode cL_law 1031 = .ok (.iconst (1), 1) := by decide +kernel
theorem D_Law_law_1032 : decode cL_law 1032 = .ok (.ireturn, 1) := by decide +kernel
