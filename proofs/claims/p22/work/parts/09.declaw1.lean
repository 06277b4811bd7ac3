theorem dL_law_660 : decode cL_law 660 = .ok (.idiv, 1) := by decide +kernel
theorem dL_law_661 : decode cL_law 661 = .ok (.laload, 1) := by decide +kernel
theorem dL_law_662 : decode cL_law 662 = .ok (.iload 22, 2) := by decide +kernel
theorem dL_law_664 : decode cL_law 664 = .ok (.bipush 64, 2) := by decide +kernel
theorem dL_law_666 : decode cL_law 666 = .ok (.irem, 1) := by decide +kernel
theorem dL_law_667 : decode cL_law 667 = .ok (.lshr, 1) := by decide +kernel
theorem dL_law_668 : decode cL_law 668 = .ok (.lconst 1, 1) := by decide +kernel
theorem dL_law_669 : decode cL_law 669 = .ok (.land, 1) := by decide +kernel
theorem dL_law_670 : decode cL_law 670 = .ok (.lconst 1, 1) := by decide +kernel
theorem dL_law_671 : decode cL_law 671 = .ok (.lcmp, 1) := by decide +kernel
theorem dL_law_672 : decode cL_law 672 = .ok (.ifCond .eq 43, 3) := by decide +kernel
theorem dL_law_675 : decode cL_law 675 = .ok (.aload 4, 2) := by decide +kernel
theorem dL_law_677 : decode cL_law 677 = .ok (.iload 22, 2) := by decide +kernel
theorem dL_law_679 : decode cL_law 679 = .ok (.invokestatic 40, 3) := by decide +kernel
theorem dL_law_682 : decode cL_law 682 = .ok (.ifCond .lt 6, 3) := by decide +kernel
theorem dL_law_685 : decode cL_law 685 = .ok (.goto 30, 3) := by decide +kernel
theorem dL_law_688 : decode cL_law 688 = .ok (.aload 4, 2) := by decide +kernel
theorem dL_law_690 : decode cL_law 690 = .ok (.bipush 16, 2) := by decide +kernel
theorem dL_law_692 : decode cL_law 692 = .ok (.iload 13, 2) := by decide +kernel
theorem dL_law_694 : decode cL_law 694 = .ok (.imul, 1) := by decide +kernel
theorem dL_law_695 : decode cL_law 695 = .ok (.iload 22, 2) := by decide +kernel
theorem dL_law_697 : decode cL_law 697 = .ok (.bipush 64, 2) := by decide +kernel
theorem dL_law_699 : decode cL_law 699 = .ok (.idiv, 1) := by decide +kernel
theorem dL_law_700 : decode cL_law 700 = .ok (.iadd, 1) := by decide +kernel
theorem dL_law_701 : decode cL_law 701 = .ok (.dup2, 1) := by decide +kernel
theorem dL_law_702 : decode cL_law 702 = .ok (.laload, 1) := by decide +kernel
theorem dL_law_703 : decode cL_law 703 = .ok (.lconst 1, 1) := by decide +kernel
theorem dL_law_704 : decode cL_law 704 = .ok (.iload 22, 2) := by decide +kernel
theorem dL_law_706 : decode cL_law 706 = .ok (.bipush 64, 2) := by decide +kernel
theorem dL_law_708 : decode cL_law 708 = .ok (.irem, 1) := by decide +kernel
theorem dL_law_709 : decode cL_law 709 = .ok (.lshl, 1) := by decide +kernel
theorem dL_law_710 : decode cL_law 710 = .ok (.lor, 1) := by decide +kernel
theorem dL_law_711 : decode cL_law 711 = .ok (.lastore, 1) := by decide +kernel
theorem dL_law_712 : decode cL_law 712 = .ok (.iinc 21 1, 3) := by decide +kernel
theorem dL_law_715 : decode cL_law 715 = .ok (.iinc 22 1, 3) := by decide +kernel
theorem dL_law_718 : decode cL_law 718 = .ok (.goto (-71), 3) := by decide +kernel
theorem dL_law_721 : decode cL_law 721 = .ok (.aload_n 1, 1) := by decide +kernel
theorem dL_law_722 : decode cL_law 722 = .ok (.iconst 0, 1) := by decide +kernel
theorem dL_law_723 : decode cL_law 723 = .ok (.iload 18, 2) := by decide +kernel
theorem dL_law_725 : decode cL_law 725 = .ok (.iload 20, 2) := by decide +kernel
theorem dL_law_727 : decode cL_law 727 = .ok (.invokevirtual 116, 3) := by decide +kernel
theorem dL_law_730 : decode cL_law 730 = .ok (.iload 21, 2) := by decide +kernel
theorem dL_law_732 : decode cL_law 732 = .ok (.if_icmp .eq 5, 3) := by decide +kernel
theorem dL_law_735 : decode cL_law 735 = .ok (.iconst 0, 1) := by decide +kernel
theorem dL_law_736 : decode cL_law 736 = .ok (.ireturn, 1) := by decide +kernel
theorem dL_law_737 : decode cL_law 737 = .ok (.goto 430, 3) := by decide +kernel
theorem dL_law_740 : decode cL_law 740 = .ok (.iload 17, 2) := by decide +kernel
theorem dL_law_742 : decode cL_law 742 = .ok (.bipush 7, 2) := by decide +kernel
theorem dL_law_744 : decode cL_law 744 = .ok (.if_icmp .ne 128, 3) := by decide +kernel
theorem dL_law_747 : decode cL_law 747 = .ok (.aload_n 1, 1) := by decide +kernel
theorem dL_law_748 : decode cL_law 748 = .ok (.iload 16, 2) := by decide +kernel
theorem dL_law_750 : decode cL_law 750 = .ok (.sipush 300, 3) := by decide +kernel
theorem dL_law_753 : decode cL_law 753 = .ok (.invokestatic 64, 3) := by decide +kernel
theorem dL_law_756 : decode cL_law 756 = .ok (.invokestatic 119, 3) := by decide +kernel
theorem dL_law_759 : decode cL_law 759 = .ok (.istore 18, 2) := by decide +kernel
theorem dL_law_761 : decode cL_law 761 = .ok (.iload 18, 2) := by decide +kernel
theorem dL_law_763 : decode cL_law 763 = .ok (.aload_n 1, 1) := by decide +kernel
theorem dL_law_764 : decode cL_law 764 = .ok (.iload 16, 2) := by decide +kernel
theorem dL_law_766 : decode cL_law 766 = .ok (.sipush 300, 3) := by decide +kernel
theorem dL_law_769 : decode cL_law 769 = .ok (.invokestatic 64, 3) := by decide +kernel
theorem dL_law_772 : decode cL_law 772 = .ok (.invokestatic 72, 3) := by decide +kernel
theorem dL_law_775 : decode cL_law 775 = .ok (.ifCond .eq 10, 3) := by decide +kernel
theorem dL_law_778 : decode cL_law 778 = .ok (.iload 11, 2) := by decide +kernel
theorem dL_law_780 : decode cL_law 780 = .ok (.bipush 12, 2) := by decide +kernel
theorem dL_law_782 : decode cL_law 782 = .ok (.if_icmp .ne 7, 3) := by decide +kernel
theorem dL_law_785 : decode cL_law 785 = .ok (.iconst (-1), 1) := by decide +kernel
theorem dL_law_786 : decode cL_law 786 = .ok (.goto 5, 3) := by decide +kernel
theorem dL_law_789 : decode cL_law 789 = .ok (.iload 11, 2) := by decide +kernel
theorem dL_law_791 : decode cL_law 791 = .ok (.if_icmp .eq 5, 3) := by decide +kernel
theorem dL_law_794 : decode cL_law 794 = .ok (.iconst 0, 1) := by decide +kernel
theorem dL_law_795 : decode cL_law 795 = .ok (.ireturn, 1) := by decide +kernel
theorem dL_law_796 : decode cL_law 796 = .ok (.iload 18, 2) := by decide +kernel
theorem dL_law_798 : decode cL_law 798 = .ok (.ifCond .lt 71, 3) := by decide +kernel
theorem dL_law_801 : decode cL_law 801 = .ok (.aload 6, 2) := by decide +kernel
theorem dL_law_803 : decode cL_law 803 = .ok (.iload 11, 2) := by decide +kernel
theorem dL_law_805 : decode cL_law 805 = .ok (.aload_n 1, 1) := by decide +kernel
theorem dL_law_806 : decode cL_law 806 = .ok (.iconst 0, 1) := by decide +kernel
theorem dL_law_807 : decode cL_law 807 = .ok (.iload 16, 2) := by decide +kernel
theorem dL_law_809 : decode cL_law 809 = .ok (.sipush 300, 3) := by decide +kernel
theorem dL_law_812 : decode cL_law 812 = .ok (.invokestatic 64, 3) := by decide +kernel
theorem dL_law_815 : decode cL_law 815 = .ok (.invokevirtual 10, 3) := by decide +kernel
theorem dL_law_818 : decode cL_law 818 = .ok (.iastore, 1) := by decide +kernel
theorem dL_law_819 : decode cL_law 819 = .ok (.aload_n 1, 1) := by decide +kernel
theorem dL_law_820 : decode cL_law 820 = .ok (.iload 18, 2) := by decide +kernel
theorem dL_law_822 : decode cL_law 822 = .ok (.iconst 1, 1) := by decide +kernel
theorem dL_law_823 : decode cL_law 823 = .ok (.invokevirtual 122, 3) := by decide +kernel
theorem dL_law_826 : decode cL_law 826 = .ok (.aload 6, 2) := by decide +kernel
theorem dL_law_828 : decode cL_law 828 = .ok (.iload 11, 2) := by decide +kernel
theorem dL_law_830 : decode cL_law 830 = .ok (.iaload, 1) := by decide +kernel
theorem dL_law_831 : decode cL_law 831 = .ok (.if_icmp .ne 33, 3) := by decide +kernel
theorem dL_law_834 : decode cL_law 834 = .ok (.aload_n 1, 1) := by decide +kernel
theorem dL_law_835 : decode cL_law 835 = .ok (.iload 18, 2) := by decide +kernel
theorem dL_law_837 : decode cL_law 837 = .ok (.iconst 2, 1) := by decide +kernel
theorem dL_law_838 : decode cL_law 838 = .ok (.invokevirtual 122, 3) := by decide +kernel
theorem dL_law_841 : decode cL_law 841 = .ok (.aload_n 1, 1) := by decide +kernel
theorem dL_law_842 : decode cL_law 842 = .ok (.iconst 0, 1) := by decide +kernel
theorem dL_law_843 : decode cL_law 843 = .ok (.aload 6, 2) := by decide +kernel
theorem dL_law_845 : decode cL_law 845 = .ok (.iload 11, 2) := by decide +kernel
theorem dL_law_847 : decode cL_law 847 = .ok (.iaload, 1) := by decide +kernel
theorem dL_law_848 : decode cL_law 848 = .ok (.invokevirtual 76, 3) := by decide +kernel
theorem dL_law_851 : decode cL_law 851 = .ok (.if_icmp .ne 13, 3) := by decide +kernel
theorem dL_law_854 : decode cL_law 854 = .ok (.aload_n 1, 1) := by decide +kernel
theorem dL_law_855 : decode cL_law 855 = .ok (.iload 18, 2) := by decide +kernel
theorem dL_law_857 : decode cL_law 857 = .ok (.iconst 0, 1) := by decide +kernel
theorem dL_law_858 : decode cL_law 858 = .ok (.invokevirtual 122, 3) := by decide +kernel
theorem dL_law_861 : decode cL_law 861 = .ok (.ifCond .eq 5, 3) := by decide +kernel
theorem dL_law_864 : decode cL_law 864 = .ok (.iconst 0, 1) := by decide +kernel
theorem dL_law_865 : decode cL_law 865 = .ok (.ireturn, 1) := by decide +kernel
theorem dL_law_866 : decode cL_law 866 = .ok (.iinc 11 1, 3) := by decide +kernel
theorem dL_law_869 : decode cL_law 869 = .ok (.goto 298, 3) := by decide +kernel
theorem dL_law_872 : decode cL_law 872 = .ok (.iload 17, 2) := by decide +kernel
theorem dL_law_874 : decode cL_law 874 = .ok (.bipush 10, 2) := by decide +kernel
theorem dL_law_876 : decode cL_law 876 = .ok (.if_icmp .ge 133, 3) := by decide +kernel
theorem dL_law_879 : decode cL_law 879 = .ok (.iload 11, 2) := by decide +kernel
theorem dL_law_881 : decode cL_law 881 = .ok (.ifCond .le 128, 3) := by decide +kernel
theorem dL_law_884 : decode cL_law 884 = .ok (.iload 16, 2) := by decide +kernel
theorem dL_law_886 : decode cL_law 886 = .ok (.iload 11, 2) := by decide +kernel
theorem dL_law_888 : decode cL_law 888 = .ok (.invokestatic 64, 3) := by decide +kernel
theorem dL_law_891 : decode cL_law 891 = .ok (.istore 18, 2) := by decide +kernel
theorem dL_law_893 : decode cL_law 893 = .ok (.iload 12, 2) := by decide +kernel
theorem dL_law_895 : decode cL_law 895 = .ok (.ifCond .eq 14, 3) := by decide +kernel
theorem dL_law_898 : decode cL_law 898 = .ok (.iload 16, 2) := by decide +kernel
theorem dL_law_900 : decode cL_law 900 = .ok (.iconst 5, 1) := by decide +kernel
theorem dL_law_901 : decode cL_law 901 = .ok (.ishr, 1) := by decide +kernel
theorem dL_law_902 : decode cL_law 902 = .ok (.iconst 3, 1) := by decide +kernel
theorem dL_law_903 : decode cL_law 903 = .ok (.invokestatic 64, 3) := by decide +kernel
theorem dL_law_906 : decode cL_law 906 = .ok (.ifCond .ne 7, 3) := by decide +kernel
theorem dL_law_909 : decode cL_law 909 = .ok (.iconst (-1), 1) := by decide +kernel
theorem dL_law_910 : decode cL_law 910 = .ok (.goto 13, 3) := by decide +kernel
theorem dL_law_913 : decode cL_law 913 = .ok (.iload 16, 2) := by decide +kernel
theorem dL_law_915 : decode cL_law 915 = .ok (.bipush 7, 2) := by decide +kernel
theorem dL_law_917 : decode cL_law 917 = .ok (.ishr, 1) := by decide +kernel
theorem dL_law_918 : decode cL_law 918 = .ok (.iload 12, 2) := by decide +kernel
theorem dL_law_920 : decode cL_law 920 = .ok (.invokestatic 64, 3) := by decide +kernel
theorem dL_law_923 : decode cL_law 923 = .ok (.istore 19, 2) := by decide +kernel
theorem dL_law_925 : decode cL_law 925 = .ok (.iload 12, 2) := by decide +kernel
theorem dL_law_927 : decode cL_law 927 = .ok (.bipush 30, 2) := by decide +kernel
theorem dL_law_929 : decode cL_law 929 = .ok (.if_icmp .ge 28, 3) := by decide +kernel
theorem dL_law_932 : decode cL_law 932 = .ok (.aload 7, 2) := by decide +kernel
theorem dL_law_934 : decode cL_law 934 = .ok (.iload 18, 2) := by decide +kernel
theorem dL_law_936 : decode cL_law 936 = .ok (.iaload, 1) := by decide +kernel
theorem dL_law_937 : decode cL_law 937 = .ok (.ifCond .ne 20, 3) := by decide +kernel
theorem dL_law_940 : decode cL_law 940 = .ok (.iload 19, 2) := by decide +kernel
theorem dL_law_942 : decode cL_law 942 = .ok (.ifCond .lt 11, 3) := by decide +kernel
theorem dL_law_945 : decode cL_law 945 = .ok (.aload 10, 2) := by decide +kernel
theorem dL_law_947 : decode cL_law 947 = .ok (.iload 19, 2) := by decide +kernel
theorem dL_law_949 : decode cL_law 949 = .ok (.iaload, 1) := by decide +kernel
theorem dL_law_950 : decode cL_law 950 = .ok (.ifCond .ne 7, 3) := by decide +kernel
theorem dL_law_953 : decode cL_law 953 = .ok (.iconst 1, 1) := by decide +kernel
theorem dL_law_954 : decode cL_law 954 = .ok (.goto 4, 3) := by decide +kernel
theorem dL_law_957 : decode cL_law 957 = .ok (.iconst 0, 1) := by decide +kernel
theorem dL_law_958 : decode cL_law 958 = .ok (.istore 20, 2) := by decide +kernel
theorem dL_law_960 : decode cL_law 960 = .ok (.aload_n 1, 1) := by decide +kernel
theorem dL_law_961 : decode cL_law 961 = .ok (.iload 18, 2) := by decide +kernel
theorem dL_law_963 : decode cL_law 963 = .ok (.iload 19, 2) := by decide +kernel
theorem dL_law_965 : decode cL_law 965 = .ok (.invokestatic 125, 3) := by decide +kernel
theorem dL_law_968 : decode cL_law 968 = .ok (.iload 20, 2) := by decide +kernel
theorem dL_law_970 : decode cL_law 970 = .ok (.ifCond .eq 8, 3) := by decide +kernel
theorem dL_law_973 : decode cL_law 973 = .ok (.iload 12, 2) := by decide +kernel
theorem dL_law_975 : decode cL_law 975 = .ok (.goto 4, 3) := by decide +kernel
theorem dL_law_978 : decode cL_law 978 = .ok (.iconst (-1), 1) := by decide +kernel
theorem dL_law_979 : decode cL_law 979 = .ok (.if_icmp .eq 5, 3) := by decide +kernel
theorem dL_law_982 : decode cL_law 982 = .ok (.iconst 0, 1) := by decide +kernel
theorem dL_law_983 : decode cL_law 983 = .ok (.ireturn, 1) := by decide +kernel
theorem dL_law_984 : decode cL_law 984 = .ok (.iload 20, 2) := by decide +kernel
theorem dL_law_986 : decode cL_law 986 = .ok (.ifCond .eq 20, 3) := by decide +kernel
theorem dL_law_989 : decode cL_law 989 = .ok (.aload 8, 2) := by decide +kernel
theorem dL_law_991 : decode cL_law 991 = .ok (.iload 12, 2) := by decide +kernel
theorem dL_law_993 : decode cL_law 993 = .ok (.iload 18, 2) := by decide +kernel
theorem dL_law_995 : decode cL_law 995 = .ok (.iastore, 1) := by decide +kernel
theorem dL_law_996 : decode cL_law 996 = .ok (.aload 9, 2) := by decide +kernel
theorem dL_law_998 : decode cL_law 998 = .ok (.iload 12, 2) := by decide +kernel
theorem dL_law_1000 : decode cL_law 1000 = .ok (.iload 19, 2) := by decide +kernel
theorem dL_law_1002 : decode cL_law 1002 = .ok (.iastore, 1) := by decide +kernel
theorem dL_law_1003 : decode cL_law 1003 = .ok (.iinc 12 1, 3) := by decide +kernel
theorem dL_law_1006 : decode cL_law 1006 = .ok (.goto 161, 3) := by decide +kernel
theorem dL_law_1009 : decode cL_law 1009 = .ok (.iload 11, 2) := by decide +kernel
theorem dL_law_1011 : decode cL_law 1011 = .ok (.ifCond .le 156, 3) := by decide +kernel
theorem dL_law_1014 : decode cL_law 1014 = .ok (.iload 16, 2) := by decide +kernel
theorem dL_law_1016 : decode cL_law 1016 = .ok (.iconst 3, 1) := by decide +kernel
theorem dL_law_1017 : decode cL_law 1017 = .ok (.invokestatic 64, 3) := by decide +kernel
theorem dL_law_1020 : decode cL_law 1020 = .ok (.ifCond .ne 147, 3) := by decide +kernel
theorem dL_law_1023 : decode cL_law 1023 = .ok (.aload 7, 2) := by decide +kernel
theorem dL_law_1025 : decode cL_law 1025 = .ok (.iload 16, 2) := by decide +kernel
theorem dL_law_1027 : decode cL_law 1027 = .ok (.iconst 5, 1) := by decide +kernel
theorem dL_law_1028 : decode cL_law 1028 = .ok (.ishr, 1) := by decide +kernel
theorem dL_law_1029 : decode cL_law 1029 = .ok (.iload 11, 2) := by decide +kernel
theorem dL_law_1031 : decode cL_law 1031 = .ok (.invokestatic 64, 3) := by decide +kernel
theorem dL_law_1034 : decode cL_law 1034 = .ok (.iaload, 1) := by decide +kernel
theorem dL_law_1035 : decode cL_law 1035 = .ok (.ifCond .ne 132, 3) := by decide +kernel
theorem dL_law_1038 : decode cL_law 1038 = .ok (.iload 16, 2) := by decide +kernel
theorem dL_law_1040 : decode cL_law 1040 = .ok (.iconst 5, 1) := by decide +kernel
theorem dL_law_1041 : decode cL_law 1041 = .ok (.ishr, 1) := by decide +kernel
theorem dL_law_1042 : decode cL_law 1042 = .ok (.iload 11, 2) := by decide +kernel
theorem dL_law_1044 : decode cL_law 1044 = .ok (.invokestatic 64, 3) := by decide +kernel
theorem dL_law_1047 : decode cL_law 1047 = .ok (.istore 18, 2) := by decide +kernel
theorem dL_law_1049 : decode cL_law 1049 = .ok (.aload 7, 2) := by decide +kernel
theorem dL_law_1051 : decode cL_law 1051 = .ok (.iload 18, 2) := by decide +kernel
theorem dL_law_1053 : decode cL_law 1053 = .ok (.iconst 1, 1) := by decide +kernel
theorem dL_law_1054 : decode cL_law 1054 = .ok (.iastore, 1) := by decide +kernel
theorem dL_law_1055 : decode cL_law 1055 = .ok (.iconst 0, 1) := by decide +kernel
theorem dL_law_1056 : decode cL_law 1056 = .ok (.istore 19, 2) := by decide +kernel
theorem dL_law_1058 : decode cL_law 1058 = .ok (.iconst 0, 1) := by decide +kernel
theorem dL_law_1059 : decode cL_law 1059 = .ok (.istore 20, 2) := by decide +kernel
theorem dL_law_1061 : decode cL_law 1061 = .ok (.iload 20, 2) := by decide +kernel
theorem dL_law_1063 : decode cL_law 1063 = .ok (.iload 12, 2) := by decide +kernel
theorem dL_law_1065 : decode cL_law 1065 = .ok (.if_icmp .ge 89, 3) := by decide +kernel
theorem dL_law_1068 : decode cL_law 1068 = .ok (.aload 10, 2) := by decide +kernel
theorem dL_law_1070 : decode cL_law 1070 = .ok (.iload 20, 2) := by decide +kernel
theorem dL_law_1072 : decode cL_law 1072 = .ok (.iaload, 1) := by decide +kernel
theorem dL_law_1073 : decode cL_law 1073 = .ok (.ifCond .ne 39, 3) := by decide +kernel
theorem dL_law_1076 : decode cL_law 1076 = .ok (.aload 7, 2) := by decide +kernel
theorem dL_law_1078 : decode cL_law 1078 = .ok (.aload 8, 2) := by decide +kernel
theorem dL_law_1080 : decode cL_law 1080 = .ok (.iload 20, 2) := by decide +kernel
theorem dL_law_1082 : decode cL_law 1082 = .ok (.iaload, 1) := by decide +kernel
theorem dL_law_1083 : decode cL_law 1083 = .ok (.iaload, 1) := by decide +kernel
theorem dL_law_1084 : decode cL_law 1084 = .ok (.iconst 1, 1) := by decide +kernel
theorem dL_law_1085 : decode cL_law 1085 = .ok (.if_icmp .eq 23, 3) := by decide +kernel
theorem dL_law_1088 : decode cL_law 1088 = .ok (.aload 9, 2) := by decide +kernel
theorem dL_law_1090 : decode cL_law 1090 = .ok (.iload 20, 2) := by decide +kernel
theorem dL_law_1092 : decode cL_law 1092 = .ok (.iaload, 1) := by decide +kernel
theorem dL_law_1093 : decode cL_law 1093 = .ok (.ifCond .lt 19, 3) := by decide +kernel
theorem dL_law_1096 : decode cL_law 1096 = .ok (.aload 10, 2) := by decide +kernel
theorem dL_law_1098 : decode cL_law 1098 = .ok (.aload 9, 2) := by decide +kernel
theorem dL_law_1100 : decode cL_law 1100 = .ok (.iload 20, 2) := by decide +kernel
theorem dL_law_1102 : decode cL_law 1102 = .ok (.iaload, 1) := by decide +kernel
theorem dL_law_1103 : decode cL_law 1103 = .ok (.iaload, 1) := by decide +kernel
theorem dL_law_1104 : decode cL_law 1104 = .ok (.iconst 1, 1) := by decide +kernel
theorem dL_law_1105 : decode cL_law 1105 = .ok (.if_icmp .ne 7, 3) := by decide +kernel
theorem dL_law_1108 : decode cL_law 1108 = .ok (.iconst 1, 1) := by decide +kernel
theorem dL_law_1109 : decode cL_law 1109 = .ok (.goto 4, 3) := by decide +kernel
theorem dL_law_1112 : decode cL_law 1112 = .ok (.iconst 0, 1) := by decide +kernel
theorem dL_law_1113 : decode cL_law 1113 = .ok (.istore 21, 2) := by decide +kernel
theorem dL_law_1115 : decode cL_law 1115 = .ok (.iload 19, 2) := by decide +kernel
theorem dL_law_1117 : decode cL_law 1117 = .ok (.iload 21, 2) := by decide +kernel
theorem dL_law_1119 : decode cL_law 1119 = .ok (.ifCond .eq 7, 3) := by decide +kernel
theorem dL_law_1122 : decode cL_law 1122 = .ok (.iconst 1, 1) := by decide +kernel
theorem dL_law_1123 : decode cL_law 1123 = .ok (.goto 4, 3) := by decide +kernel
theorem dL_law_1126 : decode cL_law 1126 = .ok (.iconst 0, 1) := by decide +kernel
theorem dL_law_1127 : decode cL_law 1127 = .ok (.iadd, 1) := by decide +kernel
theorem dL_law_1128 : decode cL_law 1128 = .ok (.istore 19, 2) := by decide +kernel
theorem dL_law_1130 : decode cL_law 1130 = .ok (.aload 10, 2) := by decide +kernel
theorem dL_law_1132 : decode cL_law 1132 = .ok (.iload 20, 2) := by decide +kernel
theorem dL_law_1134 : decode cL_law 1134 = .ok (.dup2, 1) := by decide +kernel
theorem dL_law_1135 : decode cL_law 1135 = .ok (.iaload, 1) := by decide +kernel
theorem dL_law_1136 : decode cL_law 1136 = .ok (.iload 21, 2) := by decide +kernel
theorem dL_law_1138 : decode cL_law 1138 = .ok (.ifCond .eq 7, 3) := by decide +kernel
theorem dL_law_1141 : decode cL_law 1141 = .ok (.iconst 1, 1) := by decide +kernel
theorem dL_law_1142 : decode cL_law 1142 = .ok (.goto 4, 3) := by decide +kernel
theorem dL_law_1145 : decode cL_law 1145 = .ok (.iconst 0, 1) := by decide +kernel
theorem dL_law_1146 : decode cL_law 1146 = .ok (.iadd, 1) := by decide +kernel
theorem dL_law_1147 : decode cL_law 1147 = .ok (.iastore, 1) := by decide +kernel
theorem dL_law_1148 : decode cL_law 1148 = .ok (.iinc 20 1, 3) := by decide +kernel
theorem dL_law_1151 : decode cL_law 1151 = .ok (.goto (-90), 3) := by decide +kernel
theorem dL_law_1154 : decode cL_law 1154 = .ok (.aload_n 1, 1) := by decide +kernel
theorem dL_law_1155 : decode cL_law 1155 = .ok (.iload 18, 2) := by decide +kernel
theorem dL_law_1157 : decode cL_law 1157 = .ok (.invokevirtual 129, 3) := by decide +kernel
theorem dL_law_1160 : decode cL_law 1160 = .ok (.iload 19, 2) := by decide +kernel
theorem dL_law_1162 : decode cL_law 1162 = .ok (.if_icmp .eq 5, 3) := by decide +kernel
theorem dL_law_1165 : decode cL_law 1165 = .ok (.iconst 0, 1) := by decide +kernel
theorem dL_law_1166 : decode cL_law 1166 = .ok (.ireturn, 1) := by decide +kernel
theorem dL_law_1167 : decode cL_law 1167 = .ok (.iconst 0, 1) := by decide +kernel
theorem dL_law_1168 : decode cL_law 1168 = .ok (.istore 18, 2) := by decide +kernel
theorem dL_law_1170 : decode cL_law 1170 = .ok (.iload 18, 2) := by decide +kernel
theorem dL_law_1172 : decode cL_law 1172 = .ok (.bipush 8, 2) := by decide +kernel
theorem dL_law_1174 : decode cL_law 1174 = .ok (.if_icmp .ge 103, 3) := by decide +kernel
theorem dL_law_1177 : decode cL_law 1177 = .ok (.iload 16, 2) := by decide +kernel
theorem dL_law_1179 : decode cL_law 1179 = .ok (.iload 18, 2) := by decide +kernel
theorem dL_law_1181 : decode cL_law 1181 = .ok (.ishr, 1) := by decide +kernel
theorem dL_law_1182 : decode cL_law 1182 = .ok (.sipush 1000, 3) := by decide +kernel
theorem dL_law_1185 : decode cL_law 1185 = .ok (.invokestatic 64, 3) := by decide +kernel
theorem dL_law_1188 : decode cL_law 1188 = .ok (.istore 19, 2) := by decide +kernel
theorem dL_law_1190 : decode cL_law 1190 = .ok (.aload 4, 2) := by decide +kernel
theorem dL_law_1192 : decode cL_law 1192 = .ok (.iload 19, 2) := by decide +kernel
theorem dL_law_1194 : decode cL_law 1194 = .ok (.invokestatic 40, 3) := by decide +kernel
theorem dL_law_1197 : decode cL_law 1197 = .ok (.istore 20, 2) := by decide +kernel
theorem dL_law_1199 : decode cL_law 1199 = .ok (.aload_n 1, 1) := by decide +kernel
theorem dL_law_1200 : decode cL_law 1200 = .ok (.iconst 0, 1) := by decide +kernel
theorem dL_law_1201 : decode cL_law 1201 = .ok (.iload 19, 2) := by decide +kernel
theorem dL_law_1203 : decode cL_law 1203 = .ok (.invokevirtual 132, 3) := by decide +kernel
theorem dL_law_1206 : decode cL_law 1206 = .ok (.aload_n 2, 1) := by decide +kernel
theorem dL_law_1207 : decode cL_law 1207 = .ok (.aload_n 3, 1) := by decide +kernel
theorem dL_law_1208 : decode cL_law 1208 = .ok (.iload 13, 2) := by decide +kernel
theorem dL_law_1210 : decode cL_law 1210 = .ok (.iaload, 1) := by decide +kernel
theorem dL_law_1211 : decode cL_law 1211 = .ok (.iload 19, 2) := by decide +kernel
theorem dL_law_1213 : decode cL_law 1213 = .ok (.invokestatic 44, 3) := by decide +kernel
theorem dL_law_1216 : decode cL_law 1216 = .ok (.invokestatic 134, 3) := by decide +kernel
theorem dL_law_1219 : decode cL_law 1219 = .ok (.ifCond .eq 50, 3) := by decide +kernel
theorem dL_law_1222 : decode cL_law 1222 = .ok (.iload 20, 2) := by decide +kernel
theorem dL_law_1224 : decode cL_law 1224 = .ok (.ifCond .ge 17, 3) := by decide +kernel
theorem dL_law_1227 : decode cL_law 1227 = .ok (.aload_n 1, 1) := by decide +kernel
theorem dL_law_1228 : decode cL_law 1228 = .ok (.iconst 0, 1) := by decide +kernel
theorem dL_law_1229 : decode cL_law 1229 = .ok (.iload 19, 2) := by decide +kernel
theorem dL_law_1231 : decode cL_law 1231 = .ok (.invokevirtual 138, 3) := by decide +kernel
theorem dL_law_1234 : decode cL_law 1234 = .ok (.ldc2_w 141, 3) := by decide +kernel
theorem dL_law_1237 : decode cL_law 1237 = .ok (.lcmp, 1) := by decide +kernel
theorem dL_law_1238 : decode cL_law 1238 = .ok (.ifCond .ne 31, 3) := by decide +kernel
theorem dL_law_1241 : decode cL_law 1241 = .ok (.iload 20, 2) := by decide +kernel
theorem dL_law_1243 : decode cL_law 1243 = .ok (.ifCond .lt 28, 3) := by decide +kernel
theorem dL_law_1246 : decode cL_law 1246 = .ok (.aload_n 1, 1) := by decide +kernel
theorem dL_law_1247 : decode cL_law 1247 = .ok (.iconst 0, 1) := by decide +kernel
theorem dL_law_1248 : decode cL_law 1248 = .ok (.iload 19, 2) := by decide +kernel
theorem dL_law_1250 : decode cL_law 1250 = .ok (.invokevirtual 138, 3) := by decide +kernel
theorem dL_law_1253 : decode cL_law 1253 = .ok (.aload_n 2, 1) := by decide +kernel
theorem dL_law_1254 : decode cL_law 1254 = .ok (.aload_n 3, 1) := by decide +kernel
theorem dL_law_1255 : decode cL_law 1255 = .ok (.iload 20, 2) := by decide +kernel
theorem dL_law_1257 : decode cL_law 1257 = .ok (.iaload, 1) := by decide +kernel
theorem dL_law_1258 : decode cL_law 1258 = .ok (.iload 19, 2) := by decide +kernel
theorem dL_law_1260 : decode cL_law 1260 = .ok (.invokestatic 44, 3) := by decide +kernel
theorem dL_law_1263 : decode cL_law 1263 = .ok (.invokestatic 134, 3) := by decide +kernel
theorem dL_law_1266 : decode cL_law 1266 = .ok (.ifCond .ne 5, 3) := by decide +kernel
theorem dL_law_1269 : decode cL_law 1269 = .ok (.iconst 0, 1) := by decide +kernel
theorem dL_law_1270 : decode cL_law 1270 = .ok (.ireturn, 1) := by decide +kernel
theorem dL_law_1271 : decode cL_law 1271 = .ok (.iinc 18 1, 3) := by decide +kernel
theorem dL_law_1274 : decode cL_law 1274 = .ok (.goto (-104), 3) := by decide +kernel
theorem dL_law_1277 : decode cL_law 1277 = .ok (.iconst 0, 1) := by decide +kernel
theorem dL_law_1278 : decode cL_law 1278 = .ok (.istore 18, 2) := by decide +kernel
theorem dL_law_1280 : decode cL_law 1280 = .ok (.iload 18, 2) := by decide +kernel
theorem dL_law_1282 : decode cL_law 1282 = .ok (.iload 11, 2) := by decide +kernel
theorem dL_law_1284 : decode cL_law 1284 = .ok (.if_icmp .ge 40, 3) := by decide +kernel
theorem dL_law_1287 : decode cL_law 1287 = .ok (.aload_n 1, 1) := by decide +kernel
theorem dL_law_1288 : decode cL_law 1288 = .ok (.iload 18, 2) := by decide +kernel
theorem dL_law_1290 : decode cL_law 1290 = .ok (.invokevirtual 143, 3) := by decide +kernel
theorem dL_law_1293 : decode cL_law 1293 = .ok (.aload 6, 2) := by decide +kernel
theorem dL_law_1295 : decode cL_law 1295 = .ok (.iload 18, 2) := by decide +kernel
theorem dL_law_1297 : decode cL_law 1297 = .ok (.iaload, 1) := by decide +kernel
theorem dL_law_1298 : decode cL_law 1298 = .ok (.if_icmp .ne 18, 3) := by decide +kernel
theorem dL_law_1301 : decode cL_law 1301 = .ok (.aload_n 1, 1) := by decide +kernel
theorem dL_law_1302 : decode cL_law 1302 = .ok (.iload 18, 2) := by decide +kernel
theorem dL_law_1304 : decode cL_law 1304 = .ok (.iconst 3, 1) := by decide +kernel
theorem dL_law_1305 : decode cL_law 1305 = .ok (.invokevirtual 122, 3) := by decide +kernel
theorem dL_law_1308 : decode cL_law 1308 = .ok (.aload 7, 2) := by decide +kernel
theorem dL_law_1310 : decode cL_law 1310 = .ok (.iload 18, 2) := by decide +kernel
theorem dL_law_1312 : decode cL_law 1312 = .ok (.iaload, 1) := by decide +kernel
theorem dL_law_1313 : decode cL_law 1313 = .ok (.if_icmp .eq 5, 3) := by decide +kernel
theorem dL_law_1316 : decode cL_law 1316 = .ok (.iconst 0, 1) := by decide +kernel
theorem dL_law_1317 : decode cL_law 1317 = .ok (.ireturn, 1) := by decide +kernel
theorem dL_law_1318 : decode cL_law 1318 = .ok (.iinc 18 1, 3) := by decide +kernel
theorem dL_law_1321 : decode cL_law 1321 = .ok (.goto (-41), 3) := by decide +kernel
theorem dL_law_1324 : decode cL_law 1324 = .ok (.iconst 0, 1) := by decide +kernel
theorem dL_law_1325 : decode cL_law 1325 = .ok (.istore 18, 2) := by decide +kernel
theorem dL_law_1327 : decode cL_law 1327 = .ok (.iload 18, 2) := by decide +kernel
theorem dL_law_1329 : decode cL_law 1329 = .ok (.iload 12, 2) := by decide +kernel
theorem dL_law_1331 : decode cL_law 1331 = .ok (.if_icmp .ge 34, 3) := by decide +kernel
theorem dL_law_1334 : decode cL_law 1334 = .ok (.aload_n 1, 1) := by decide +kernel
theorem dL_law_1335 : decode cL_law 1335 = .ok (.iload 18, 2) := by decide +kernel
theorem dL_law_1337 : decode cL_law 1337 = .ok (.invokevirtual 146, 3) := by decide +kernel
theorem dL_law_1340 : decode cL_law 1340 = .ok (.aload 10, 2) := by decide +kernel
theorem dL_law_1342 : decode cL_law 1342 = .ok (.iload 18, 2) := by decide +kernel
theorem dL_law_1344 : decode cL_law 1344 = .ok (.iaload, 1) := by decide +kernel
theorem dL_law_1345 : decode cL_law 1345 = .ok (.iconst 1, 1) := by decide +kernel
theorem dL_law_1346 : decode cL_law 1346 = .ok (.if_icmp .ne 7, 3) := by decide +kernel
theorem dL_law_1349 : decode cL_law 1349 = .ok (.iconst 1, 1) := by decide +kernel
theorem dL_law_1350 : decode cL_law 1350 = .ok (.goto 4, 3) := by decide +kernel
theorem dL_law_1353 : decode cL_law 1353 = .ok (.iconst 0, 1) := by decide +kernel
theorem dL_law_1354 : decode cL_law 1354 = .ok (.if_icmp .eq 5, 3) := by decide +kernel
theorem dL_law_1357 : decode cL_law 1357 = .ok (.iconst 0, 1) := by decide +kernel
theorem dL_law_1358 : decode cL_law 1358 = .ok (.ireturn, 1) := by decide +kernel
theorem dL_law_1359 : decode cL_law 1359 = .ok (.iinc 18 1, 3) := by decide +kernel
theorem dL_law_1362 : decode cL_law 1362 = .ok (.goto (-35), 3) := by decide +kernel
theorem dL_law_1365 : decode cL_law 1365 = .ok (.iload 14, 2) := by decide +kernel
theorem dL_law_1367 : decode cL_law 1367 = .ok (.bipush 6, 2) := by decide +kernel
theorem dL_law_1369 : decode cL_law 1369 = .ok (.irem, 1) := by decide +kernel
theorem dL_law_1370 : decode cL_law 1370 = .ok (.iconst 5, 1) := by decide +kernel
theorem dL_law_1371 : decode cL_law 1371 = .ok (.if_icmp .ne 21, 3) := by decide +kernel
theorem dL_law_1374 : decode cL_law 1374 = .ok (.aload_n 1, 1) := by decide +kernel
theorem dL_law_1375 : decode cL_law 1375 = .ok (.aload_n 2, 1) := by decide +kernel
theorem dL_law_1376 : decode cL_law 1376 = .ok (.aload_n 3, 1) := by decide +kernel
theorem dL_law_1377 : decode cL_law 1377 = .ok (.aload 4, 2) := by decide +kernel
theorem dL_law_1379 : decode cL_law 1379 = .ok (.iload 15, 2) := by decide +kernel
theorem dL_law_1381 : decode cL_law 1381 = .ok (.iload 16, 2) := by decide +kernel
theorem dL_law_1383 : decode cL_law 1383 = .ok (.ixor, 1) := by decide +kernel
theorem dL_law_1384 : decode cL_law 1384 = .ok (.invokestatic 150, 3) := by decide +kernel
theorem dL_law_1387 : decode cL_law 1387 = .ok (.ifCond .ne 5, 3) := by decide +kernel
theorem dL_law_1390 : decode cL_law 1390 = .ok (.iconst 0, 1) := by decide +kernel
theorem dL_law_1391 : decode cL_law 1391 = .ok (.ireturn, 1) := by decide +kernel
theorem dL_law_1392 : decode cL_law 1392 = .ok (.iinc 14 1, 3) := by decide +kernel
theorem dL_law_1395 : decode cL_law 1395 = .ok (.goto (-1292), 3) := by decide +kernel
theorem dL_law_1398 : decode cL_law 1398 = .ok (.iconst 1, 1) := by decide +kernel
theorem dL_law_1399 : decode cL_law 1399 = .ok (.ireturn, 1) := by decide +kernel
