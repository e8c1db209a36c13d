theorem d_W_662 : decode code 662 = .ok (.iload 5, 2) := by decide +kernel
theorem d_W_664 : decode code 664 = .ok (.ifCond .ne 15, 3) := by decide +kernel
theorem d_W_667 : decode code 667 = .ok (.aload_n 3, 1) := by decide +kernel
theorem d_W_668 : decode code 668 = .ok (.iconst 0, 1) := by decide +kernel
theorem d_W_669 : decode code 669 = .ok (.laload, 1) := by decide +kernel
theorem d_W_670 : decode code 670 = .ok (.iload 6, 2) := by decide +kernel
theorem d_W_672 : decode code 672 = .ok (.i2l, 1) := by decide +kernel
theorem d_W_673 : decode code 673 = .ok (.lcmp, 1) := by decide +kernel
theorem d_W_674 : decode code 674 = .ok (.ifCond .eq 5, 3) := by decide +kernel
theorem d_W_677 : decode code 677 = .ok (.iconst 0, 1) := by decide +kernel
theorem d_W_678 : decode code 678 = .ok (.ireturn, 1) := by decide +kernel
theorem d_W_679 : decode code 679 = .ok (.goto 255, 3) := by decide +kernel
theorem d_W_682 : decode code 682 = .ok (.aload_n 1, 1) := by decide +kernel
theorem d_W_683 : decode code 683 = .ok (.aload_n 0, 1) := by decide +kernel
theorem d_W_684 : decode code 684 = .ok (.iload 4, 2) := by decide +kernel
theorem d_W_686 : decode code 686 = .ok (.iconst 1, 1) := by decide +kernel
theorem d_W_687 : decode code 687 = .ok (.iadd, 1) := by decide +kernel
theorem d_W_688 : decode code 688 = .ok (.iaload, 1) := by decide +kernel
theorem d_W_689 : decode code 689 = .ok (.aload_n 0, 1) := by decide +kernel
theorem d_W_690 : decode code 690 = .ok (.iload 4, 2) := by decide +kernel
theorem d_W_692 : decode code 692 = .ok (.iconst 2, 1) := by decide +kernel
theorem d_W_693 : decode code 693 = .ok (.iadd, 1) := by decide +kernel
theorem d_W_694 : decode code 694 = .ok (.iaload, 1) := by decide +kernel
theorem d_W_695 : decode code 695 = .ok (.aload_n 0, 1) := by decide +kernel
theorem d_W_696 : decode code 696 = .ok (.iload 4, 2) := by decide +kernel
theorem d_W_698 : decode code 698 = .ok (.iconst 3, 1) := by decide +kernel
theorem d_W_699 : decode code 699 = .ok (.iadd, 1) := by decide +kernel
theorem d_W_700 : decode code 700 = .ok (.iaload, 1) := by decide +kernel
theorem d_W_701 : decode code 701 = .ok (.aload_n 3, 1) := by decide +kernel
theorem d_W_702 : decode code 702 = .ok (.invokestatic 101, 3) := by decide +kernel
theorem d_W_705 : decode code 705 = .ok (.istore 5, 2) := by decide +kernel
theorem d_W_707 : decode code 707 = .ok (.aload_n 2, 1) := by decide +kernel
theorem d_W_708 : decode code 708 = .ok (.aload_n 0, 1) := by decide +kernel
theorem d_W_709 : decode code 709 = .ok (.iload 4, 2) := by decide +kernel
theorem d_W_711 : decode code 711 = .ok (.iconst 1, 1) := by decide +kernel
theorem d_W_712 : decode code 712 = .ok (.iadd, 1) := by decide +kernel
theorem d_W_713 : decode code 713 = .ok (.iaload, 1) := by decide +kernel
theorem d_W_714 : decode code 714 = .ok (.aload_n 0, 1) := by decide +kernel
theorem d_W_715 : decode code 715 = .ok (.iload 4, 2) := by decide +kernel
theorem d_W_717 : decode code 717 = .ok (.iconst 2, 1) := by decide +kernel
theorem d_W_718 : decode code 718 = .ok (.iadd, 1) := by decide +kernel
theorem d_W_719 : decode code 719 = .ok (.iaload, 1) := by decide +kernel
theorem d_W_720 : decode code 720 = .ok (.aload_n 0, 1) := by decide +kernel
theorem d_W_721 : decode code 721 = .ok (.iload 4, 2) := by decide +kernel
theorem d_W_723 : decode code 723 = .ok (.iconst 3, 1) := by decide +kernel
theorem d_W_724 : decode code 724 = .ok (.iadd, 1) := by decide +kernel
theorem d_W_725 : decode code 725 = .ok (.iaload, 1) := by decide +kernel
theorem d_W_726 : decode code 726 = .ok (.invokevirtual 103, 3) := by decide +kernel
theorem d_W_729 : decode code 729 = .ok (.istore 6, 2) := by decide +kernel
theorem d_W_731 : decode code 731 = .ok (.aload_n 2, 1) := by decide +kernel
theorem d_W_732 : decode code 732 = .ok (.invokevirtual 69, 3) := by decide +kernel
theorem d_W_735 : decode code 735 = .ok (.iload 5, 2) := by decide +kernel
theorem d_W_737 : decode code 737 = .ok (.if_icmp .eq 5, 3) := by decide +kernel
theorem d_W_740 : decode code 740 = .ok (.iconst 0, 1) := by decide +kernel
theorem d_W_741 : decode code 741 = .ok (.ireturn, 1) := by decide +kernel
theorem d_W_742 : decode code 742 = .ok (.iload 5, 2) := by decide +kernel
theorem d_W_744 : decode code 744 = .ok (.ifCond .ne 15, 3) := by decide +kernel
theorem d_W_747 : decode code 747 = .ok (.aload_n 3, 1) := by decide +kernel
theorem d_W_748 : decode code 748 = .ok (.iconst 0, 1) := by decide +kernel
theorem d_W_749 : decode code 749 = .ok (.laload, 1) := by decide +kernel
theorem d_W_750 : decode code 750 = .ok (.iload 6, 2) := by decide +kernel
theorem d_W_752 : decode code 752 = .ok (.i2l, 1) := by decide +kernel
theorem d_W_753 : decode code 753 = .ok (.lcmp, 1) := by decide +kernel
theorem d_W_754 : decode code 754 = .ok (.ifCond .eq 5, 3) := by decide +kernel
theorem d_W_757 : decode code 757 = .ok (.iconst 0, 1) := by decide +kernel
theorem d_W_758 : decode code 758 = .ok (.ireturn, 1) := by decide +kernel
theorem d_W_759 : decode code 759 = .ok (.goto 175, 3) := by decide +kernel
theorem d_W_762 : decode code 762 = .ok (.aload_n 1, 1) := by decide +kernel
theorem d_W_763 : decode code 763 = .ok (.aload_n 0, 1) := by decide +kernel
theorem d_W_764 : decode code 764 = .ok (.iload 4, 2) := by decide +kernel
theorem d_W_766 : decode code 766 = .ok (.iconst 1, 1) := by decide +kernel
theorem d_W_767 : decode code 767 = .ok (.iadd, 1) := by decide +kernel
theorem d_W_768 : decode code 768 = .ok (.iaload, 1) := by decide +kernel
theorem d_W_769 : decode code 769 = .ok (.aload_n 0, 1) := by decide +kernel
theorem d_W_770 : decode code 770 = .ok (.iload 4, 2) := by decide +kernel
theorem d_W_772 : decode code 772 = .ok (.iconst 2, 1) := by decide +kernel
theorem d_W_773 : decode code 773 = .ok (.iadd, 1) := by decide +kernel
theorem d_W_774 : decode code 774 = .ok (.iaload, 1) := by decide +kernel
theorem d_W_775 : decode code 775 = .ok (.aload_n 0, 1) := by decide +kernel
theorem d_W_776 : decode code 776 = .ok (.iload 4, 2) := by decide +kernel
theorem d_W_778 : decode code 778 = .ok (.iconst 3, 1) := by decide +kernel
theorem d_W_779 : decode code 779 = .ok (.iadd, 1) := by decide +kernel
theorem d_W_780 : decode code 780 = .ok (.iaload, 1) := by decide +kernel
theorem d_W_781 : decode code 781 = .ok (.aload_n 3, 1) := by decide +kernel
theorem d_W_782 : decode code 782 = .ok (.invokestatic 104, 3) := by decide +kernel
theorem d_W_785 : decode code 785 = .ok (.istore 5, 2) := by decide +kernel
theorem d_W_787 : decode code 787 = .ok (.aload_n 2, 1) := by decide +kernel
theorem d_W_788 : decode code 788 = .ok (.aload_n 0, 1) := by decide +kernel
theorem d_W_789 : decode code 789 = .ok (.iload 4, 2) := by decide +kernel
theorem d_W_791 : decode code 791 = .ok (.iconst 1, 1) := by decide +kernel
theorem d_W_792 : decode code 792 = .ok (.iadd, 1) := by decide +kernel
theorem d_W_793 : decode code 793 = .ok (.iaload, 1) := by decide +kernel
theorem d_W_794 : decode code 794 = .ok (.aload_n 0, 1) := by decide +kernel
theorem d_W_795 : decode code 795 = .ok (.iload 4, 2) := by decide +kernel
theorem d_W_797 : decode code 797 = .ok (.iconst 2, 1) := by decide +kernel
theorem d_W_798 : decode code 798 = .ok (.iadd, 1) := by decide +kernel
theorem d_W_799 : decode code 799 = .ok (.iaload, 1) := by decide +kernel
theorem d_W_800 : decode code 800 = .ok (.aload_n 0, 1) := by decide +kernel
theorem d_W_801 : decode code 801 = .ok (.iload 4, 2) := by decide +kernel
theorem d_W_803 : decode code 803 = .ok (.iconst 3, 1) := by decide +kernel
theorem d_W_804 : decode code 804 = .ok (.iadd, 1) := by decide +kernel
theorem d_W_805 : decode code 805 = .ok (.iaload, 1) := by decide +kernel
theorem d_W_806 : decode code 806 = .ok (.invokevirtual 106, 3) := by decide +kernel
theorem d_W_809 : decode code 809 = .ok (.istore 6, 2) := by decide +kernel
theorem d_W_811 : decode code 811 = .ok (.aload_n 2, 1) := by decide +kernel
theorem d_W_812 : decode code 812 = .ok (.invokevirtual 69, 3) := by decide +kernel
theorem d_W_815 : decode code 815 = .ok (.iload 5, 2) := by decide +kernel
theorem d_W_817 : decode code 817 = .ok (.if_icmp .eq 5, 3) := by decide +kernel
theorem d_W_820 : decode code 820 = .ok (.iconst 0, 1) := by decide +kernel
theorem d_W_821 : decode code 821 = .ok (.ireturn, 1) := by decide +kernel
theorem d_W_822 : decode code 822 = .ok (.iload 5, 2) := by decide +kernel
theorem d_W_824 : decode code 824 = .ok (.ifCond .ne 15, 3) := by decide +kernel
theorem d_W_827 : decode code 827 = .ok (.aload_n 3, 1) := by decide +kernel
theorem d_W_828 : decode code 828 = .ok (.iconst 0, 1) := by decide +kernel
theorem d_W_829 : decode code 829 = .ok (.laload, 1) := by decide +kernel
theorem d_W_830 : decode code 830 = .ok (.iload 6, 2) := by decide +kernel
theorem d_W_832 : decode code 832 = .ok (.i2l, 1) := by decide +kernel
theorem d_W_833 : decode code 833 = .ok (.lcmp, 1) := by decide +kernel
theorem d_W_834 : decode code 834 = .ok (.ifCond .eq 5, 3) := by decide +kernel
theorem d_W_837 : decode code 837 = .ok (.iconst 0, 1) := by decide +kernel
theorem d_W_838 : decode code 838 = .ok (.ireturn, 1) := by decide +kernel
theorem d_W_839 : decode code 839 = .ok (.goto 95, 3) := by decide +kernel
theorem d_W_842 : decode code 842 = .ok (.aload_n 1, 1) := by decide +kernel
theorem d_W_843 : decode code 843 = .ok (.aload_n 0, 1) := by decide +kernel
theorem d_W_844 : decode code 844 = .ok (.iload 4, 2) := by decide +kernel
theorem d_W_846 : decode code 846 = .ok (.iconst 1, 1) := by decide +kernel
theorem d_W_847 : decode code 847 = .ok (.iadd, 1) := by decide +kernel
theorem d_W_848 : decode code 848 = .ok (.iaload, 1) := by decide +kernel
theorem d_W_849 : decode code 849 = .ok (.aload_n 0, 1) := by decide +kernel
theorem d_W_850 : decode code 850 = .ok (.iload 4, 2) := by decide +kernel
theorem d_W_852 : decode code 852 = .ok (.iconst 2, 1) := by decide +kernel
theorem d_W_853 : decode code 853 = .ok (.iadd, 1) := by decide +kernel
theorem d_W_854 : decode code 854 = .ok (.iaload, 1) := by decide +kernel
theorem d_W_855 : decode code 855 = .ok (.aload_n 0, 1) := by decide +kernel
theorem d_W_856 : decode code 856 = .ok (.iload 4, 2) := by decide +kernel
theorem d_W_858 : decode code 858 = .ok (.iconst 3, 1) := by decide +kernel
theorem d_W_859 : decode code 859 = .ok (.iadd, 1) := by decide +kernel
theorem d_W_860 : decode code 860 = .ok (.iaload, 1) := by decide +kernel
theorem d_W_861 : decode code 861 = .ok (.aload_n 0, 1) := by decide +kernel
theorem d_W_862 : decode code 862 = .ok (.iload 4, 2) := by decide +kernel
theorem d_W_864 : decode code 864 = .ok (.iconst 4, 1) := by decide +kernel
theorem d_W_865 : decode code 865 = .ok (.iadd, 1) := by decide +kernel
theorem d_W_866 : decode code 866 = .ok (.iaload, 1) := by decide +kernel
theorem d_W_867 : decode code 867 = .ok (.aload_n 3, 1) := by decide +kernel
theorem d_W_868 : decode code 868 = .ok (.invokestatic 107, 3) := by decide +kernel
theorem d_W_871 : decode code 871 = .ok (.istore 5, 2) := by decide +kernel
theorem d_W_873 : decode code 873 = .ok (.aload_n 2, 1) := by decide +kernel
theorem d_W_874 : decode code 874 = .ok (.aload_n 0, 1) := by decide +kernel
theorem d_W_875 : decode code 875 = .ok (.iload 4, 2) := by decide +kernel
theorem d_W_877 : decode code 877 = .ok (.iconst 1, 1) := by decide +kernel
theorem d_W_878 : decode code 878 = .ok (.iadd, 1) := by decide +kernel
theorem d_W_879 : decode code 879 = .ok (.iaload, 1) := by decide +kernel
theorem d_W_880 : decode code 880 = .ok (.aload_n 0, 1) := by decide +kernel
theorem d_W_881 : decode code 881 = .ok (.iload 4, 2) := by decide +kernel
theorem d_W_883 : decode code 883 = .ok (.iconst 2, 1) := by decide +kernel
theorem d_W_884 : decode code 884 = .ok (.iadd, 1) := by decide +kernel
theorem d_W_885 : decode code 885 = .ok (.iaload, 1) := by decide +kernel
theorem d_W_886 : decode code 886 = .ok (.aload_n 0, 1) := by decide +kernel
theorem d_W_887 : decode code 887 = .ok (.iload 4, 2) := by decide +kernel
theorem d_W_889 : decode code 889 = .ok (.iconst 3, 1) := by decide +kernel
theorem d_W_890 : decode code 890 = .ok (.iadd, 1) := by decide +kernel
theorem d_W_891 : decode code 891 = .ok (.iaload, 1) := by decide +kernel
theorem d_W_892 : decode code 892 = .ok (.aload_n 0, 1) := by decide +kernel
theorem d_W_893 : decode code 893 = .ok (.iload 4, 2) := by decide +kernel
theorem d_W_895 : decode code 895 = .ok (.iconst 4, 1) := by decide +kernel
theorem d_W_896 : decode code 896 = .ok (.iadd, 1) := by decide +kernel
theorem d_W_897 : decode code 897 = .ok (.iaload, 1) := by decide +kernel
theorem d_W_898 : decode code 898 = .ok (.invokevirtual 110, 3) := by decide +kernel
theorem d_W_901 : decode code 901 = .ok (.istore 6, 2) := by decide +kernel
theorem d_W_903 : decode code 903 = .ok (.aload_n 2, 1) := by decide +kernel
theorem d_W_904 : decode code 904 = .ok (.invokevirtual 69, 3) := by decide +kernel
theorem d_W_907 : decode code 907 = .ok (.iload 5, 2) := by decide +kernel
theorem d_W_909 : decode code 909 = .ok (.if_icmp .eq 5, 3) := by decide +kernel
theorem d_W_912 : decode code 912 = .ok (.iconst 0, 1) := by decide +kernel
theorem d_W_913 : decode code 913 = .ok (.ireturn, 1) := by decide +kernel
theorem d_W_914 : decode code 914 = .ok (.iload 5, 2) := by decide +kernel
theorem d_W_916 : decode code 916 = .ok (.ifCond .ne 15, 3) := by decide +kernel
theorem d_W_919 : decode code 919 = .ok (.aload_n 3, 1) := by decide +kernel
theorem d_W_920 : decode code 920 = .ok (.iconst 0, 1) := by decide +kernel
theorem d_W_921 : decode code 921 = .ok (.laload, 1) := by decide +kernel
theorem d_W_922 : decode code 922 = .ok (.iload 6, 2) := by decide +kernel
theorem d_W_924 : decode code 924 = .ok (.i2l, 1) := by decide +kernel
theorem d_W_925 : decode code 925 = .ok (.lcmp, 1) := by decide +kernel
theorem d_W_926 : decode code 926 = .ok (.ifCond .eq 5, 3) := by decide +kernel
theorem d_W_929 : decode code 929 = .ok (.iconst 0, 1) := by decide +kernel
theorem d_W_930 : decode code 930 = .ok (.ireturn, 1) := by decide +kernel
theorem d_W_931 : decode code 931 = .ok (.goto 3, 3) := by decide +kernel
theorem d_W_934 : decode code 934 = .ok (.iinc 4 5, 3) := by decide +kernel
theorem d_W_937 : decode code 937 = .ok (.goto (-914), 3) := by decide +kernel
theorem d_W_940 : decode code 940 = .ok (.iconst 1, 1) := by decide +kernel
theorem d_W_941 : decode code 941 = .ok (.ireturn, 1) := by decide +kernel
