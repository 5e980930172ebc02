theorem d_La_law_678 : decode code 678 = .ok (.iload 6, 2) := by decide +kernel
theorem d_La_law_680 : decode code 680 = .ok (.ifCond .eq 7, 3) := by decide +kernel
theorem d_La_law_683 : decode code 683 = .ok (.lconst 1, 1) := by decide +kernel
theorem d_La_law_684 : decode code 684 = .ok (.goto 4, 3) := by decide +kernel
theorem d_La_law_687 : decode code 687 = .ok (.lconst 0, 1) := by decide +kernel
theorem d_La_law_688 : decode code 688 = .ok (.lcmp, 1) := by decide +kernel
theorem d_La_law_689 : decode code 689 = .ok (.ifCond .eq 5, 3) := by decide +kernel
theorem d_La_law_692 : decode code 692 = .ok (.iconst 0, 1) := by decide +kernel
theorem d_La_law_693 : decode code 693 = .ok (.ireturn, 1) := by decide +kernel
theorem d_La_law_694 : decode code 694 = .ok (.goto 757, 3) := by decide +kernel
theorem d_La_law_697 : decode code 697 = .ok (.aload_n 1, 1) := by decide +kernel
theorem d_La_law_698 : decode code 698 = .ok (.aload_n 0, 1) := by decide +kernel
theorem d_La_law_699 : decode code 699 = .ok (.iload 4, 2) := by decide +kernel
theorem d_La_law_701 : decode code 701 = .ok (.iconst 1, 1) := by decide +kernel
theorem d_La_law_702 : decode code 702 = .ok (.iadd, 1) := by decide +kernel
theorem d_La_law_703 : decode code 703 = .ok (.iaload, 1) := by decide +kernel
theorem d_La_law_704 : decode code 704 = .ok (.aload_n 3, 1) := by decide +kernel
theorem d_La_law_705 : decode code 705 = .ok (.invokestatic 124, 3) := by decide +kernel
theorem d_La_law_708 : decode code 708 = .ok (.istore 5, 2) := by decide +kernel
theorem d_La_law_710 : decode code 710 = .ok (.aload_n 2, 1) := by decide +kernel
theorem d_La_law_711 : decode code 711 = .ok (.aload_n 0, 1) := by decide +kernel
theorem d_La_law_712 : decode code 712 = .ok (.iload 4, 2) := by decide +kernel
theorem d_La_law_714 : decode code 714 = .ok (.iconst 1, 1) := by decide +kernel
theorem d_La_law_715 : decode code 715 = .ok (.iadd, 1) := by decide +kernel
theorem d_La_law_716 : decode code 716 = .ok (.iaload, 1) := by decide +kernel
theorem d_La_law_717 : decode code 717 = .ok (.invokevirtual 126, 3) := by decide +kernel
theorem d_La_law_720 : decode code 720 = .ok (.istore 6, 2) := by decide +kernel
theorem d_La_law_722 : decode code 722 = .ok (.aload_n 2, 1) := by decide +kernel
theorem d_La_law_723 : decode code 723 = .ok (.invokevirtual 97, 3) := by decide +kernel
theorem d_La_law_726 : decode code 726 = .ok (.iload 5, 2) := by decide +kernel
theorem d_La_law_728 : decode code 728 = .ok (.if_icmp .eq 5, 3) := by decide +kernel
theorem d_La_law_731 : decode code 731 = .ok (.iconst 0, 1) := by decide +kernel
theorem d_La_law_732 : decode code 732 = .ok (.ireturn, 1) := by decide +kernel
theorem d_La_law_733 : decode code 733 = .ok (.iload 5, 2) := by decide +kernel
theorem d_La_law_735 : decode code 735 = .ok (.ifCond .ne 22, 3) := by decide +kernel
theorem d_La_law_738 : decode code 738 = .ok (.aload_n 3, 1) := by decide +kernel
theorem d_La_law_739 : decode code 739 = .ok (.iconst 0, 1) := by decide +kernel
theorem d_La_law_740 : decode code 740 = .ok (.laload, 1) := by decide +kernel
theorem d_La_law_741 : decode code 741 = .ok (.iload 6, 2) := by decide +kernel
theorem d_La_law_743 : decode code 743 = .ok (.ifCond .eq 7, 3) := by decide +kernel
theorem d_La_law_746 : decode code 746 = .ok (.lconst 1, 1) := by decide +kernel
theorem d_La_law_747 : decode code 747 = .ok (.goto 4, 3) := by decide +kernel
theorem d_La_law_750 : decode code 750 = .ok (.lconst 0, 1) := by decide +kernel
theorem d_La_law_751 : decode code 751 = .ok (.lcmp, 1) := by decide +kernel
theorem d_La_law_752 : decode code 752 = .ok (.ifCond .eq 5, 3) := by decide +kernel
theorem d_La_law_755 : decode code 755 = .ok (.iconst 0, 1) := by decide +kernel
theorem d_La_law_756 : decode code 756 = .ok (.ireturn, 1) := by decide +kernel
theorem d_La_law_757 : decode code 757 = .ok (.goto 694, 3) := by decide +kernel
theorem d_La_law_760 : decode code 760 = .ok (.aload_n 1, 1) := by decide +kernel
theorem d_La_law_761 : decode code 761 = .ok (.aload_n 0, 1) := by decide +kernel
theorem d_La_law_762 : decode code 762 = .ok (.iload 4, 2) := by decide +kernel
theorem d_La_law_764 : decode code 764 = .ok (.iconst 1, 1) := by decide +kernel
theorem d_La_law_765 : decode code 765 = .ok (.iadd, 1) := by decide +kernel
theorem d_La_law_766 : decode code 766 = .ok (.iaload, 1) := by decide +kernel
theorem d_La_law_767 : decode code 767 = .ok (.aload_n 0, 1) := by decide +kernel
theorem d_La_law_768 : decode code 768 = .ok (.iload 4, 2) := by decide +kernel
theorem d_La_law_770 : decode code 770 = .ok (.iconst 2, 1) := by decide +kernel
theorem d_La_law_771 : decode code 771 = .ok (.iadd, 1) := by decide +kernel
theorem d_La_law_772 : decode code 772 = .ok (.iaload, 1) := by decide +kernel
theorem d_La_law_773 : decode code 773 = .ok (.i2l, 1) := by decide +kernel
theorem d_La_law_774 : decode code 774 = .ok (.bipush 32, 2) := by decide +kernel
theorem d_La_law_776 : decode code 776 = .ok (.lshl, 1) := by decide +kernel
theorem d_La_law_777 : decode code 777 = .ok (.aload_n 0, 1) := by decide +kernel
theorem d_La_law_778 : decode code 778 = .ok (.iload 4, 2) := by decide +kernel
theorem d_La_law_780 : decode code 780 = .ok (.iconst 3, 1) := by decide +kernel
theorem d_La_law_781 : decode code 781 = .ok (.iadd, 1) := by decide +kernel
theorem d_La_law_782 : decode code 782 = .ok (.iaload, 1) := by decide +kernel
theorem d_La_law_783 : decode code 783 = .ok (.i2l, 1) := by decide +kernel
theorem d_La_law_784 : decode code 784 = .ok (.ldc2_w 107, 3) := by decide +kernel
theorem d_La_law_787 : decode code 787 = .ok (.land, 1) := by decide +kernel
theorem d_La_law_788 : decode code 788 = .ok (.lor, 1) := by decide +kernel
theorem d_La_law_789 : decode code 789 = .ok (.aload_n 3, 1) := by decide +kernel
theorem d_La_law_790 : decode code 790 = .ok (.invokestatic 127, 3) := by decide +kernel
theorem d_La_law_793 : decode code 793 = .ok (.istore 5, 2) := by decide +kernel
theorem d_La_law_795 : decode code 795 = .ok (.aload_n 2, 1) := by decide +kernel
theorem d_La_law_796 : decode code 796 = .ok (.aload_n 0, 1) := by decide +kernel
theorem d_La_law_797 : decode code 797 = .ok (.iload 4, 2) := by decide +kernel
theorem d_La_law_799 : decode code 799 = .ok (.iconst 1, 1) := by decide +kernel
theorem d_La_law_800 : decode code 800 = .ok (.iadd, 1) := by decide +kernel
theorem d_La_law_801 : decode code 801 = .ok (.iaload, 1) := by decide +kernel
theorem d_La_law_802 : decode code 802 = .ok (.aload_n 0, 1) := by decide +kernel
theorem d_La_law_803 : decode code 803 = .ok (.iload 4, 2) := by decide +kernel
theorem d_La_law_805 : decode code 805 = .ok (.iconst 2, 1) := by decide +kernel
theorem d_La_law_806 : decode code 806 = .ok (.iadd, 1) := by decide +kernel
theorem d_La_law_807 : decode code 807 = .ok (.iaload, 1) := by decide +kernel
theorem d_La_law_808 : decode code 808 = .ok (.i2l, 1) := by decide +kernel
theorem d_La_law_809 : decode code 809 = .ok (.bipush 32, 2) := by decide +kernel
theorem d_La_law_811 : decode code 811 = .ok (.lshl, 1) := by decide +kernel
theorem d_La_law_812 : decode code 812 = .ok (.aload_n 0, 1) := by decide +kernel
theorem d_La_law_813 : decode code 813 = .ok (.iload 4, 2) := by decide +kernel
theorem d_La_law_815 : decode code 815 = .ok (.iconst 3, 1) := by decide +kernel
theorem d_La_law_816 : decode code 816 = .ok (.iadd, 1) := by decide +kernel
theorem d_La_law_817 : decode code 817 = .ok (.iaload, 1) := by decide +kernel
theorem d_La_law_818 : decode code 818 = .ok (.i2l, 1) := by decide +kernel
theorem d_La_law_819 : decode code 819 = .ok (.ldc2_w 107, 3) := by decide +kernel
theorem d_La_law_822 : decode code 822 = .ok (.land, 1) := by decide +kernel
theorem d_La_law_823 : decode code 823 = .ok (.lor, 1) := by decide +kernel
theorem d_La_law_824 : decode code 824 = .ok (.invokevirtual 130, 3) := by decide +kernel
theorem d_La_law_827 : decode code 827 = .ok (.istore 6, 2) := by decide +kernel
theorem d_La_law_829 : decode code 829 = .ok (.aload_n 2, 1) := by decide +kernel
theorem d_La_law_830 : decode code 830 = .ok (.invokevirtual 97, 3) := by decide +kernel
theorem d_La_law_833 : decode code 833 = .ok (.iload 5, 2) := by decide +kernel
theorem d_La_law_835 : decode code 835 = .ok (.if_icmp .eq 5, 3) := by decide +kernel
theorem d_La_law_838 : decode code 838 = .ok (.iconst 0, 1) := by decide +kernel
theorem d_La_law_839 : decode code 839 = .ok (.ireturn, 1) := by decide +kernel
theorem d_La_law_840 : decode code 840 = .ok (.iload 5, 2) := by decide +kernel
theorem d_La_law_842 : decode code 842 = .ok (.ifCond .ne 22, 3) := by decide +kernel
theorem d_La_law_845 : decode code 845 = .ok (.aload_n 3, 1) := by decide +kernel
theorem d_La_law_846 : decode code 846 = .ok (.iconst 0, 1) := by decide +kernel
theorem d_La_law_847 : decode code 847 = .ok (.laload, 1) := by decide +kernel
theorem d_La_law_848 : decode code 848 = .ok (.iload 6, 2) := by decide +kernel
theorem d_La_law_850 : decode code 850 = .ok (.ifCond .eq 7, 3) := by decide +kernel
theorem d_La_law_853 : decode code 853 = .ok (.lconst 1, 1) := by decide +kernel
theorem d_La_law_854 : decode code 854 = .ok (.goto 4, 3) := by decide +kernel
theorem d_La_law_857 : decode code 857 = .ok (.lconst 0, 1) := by decide +kernel
theorem d_La_law_858 : decode code 858 = .ok (.lcmp, 1) := by decide +kernel
theorem d_La_law_859 : decode code 859 = .ok (.ifCond .eq 5, 3) := by decide +kernel
theorem d_La_law_862 : decode code 862 = .ok (.iconst 0, 1) := by decide +kernel
theorem d_La_law_863 : decode code 863 = .ok (.ireturn, 1) := by decide +kernel
theorem d_La_law_864 : decode code 864 = .ok (.goto 587, 3) := by decide +kernel
theorem d_La_law_867 : decode code 867 = .ok (.aload_n 1, 1) := by decide +kernel
theorem d_La_law_868 : decode code 868 = .ok (.aload_n 0, 1) := by decide +kernel
theorem d_La_law_869 : decode code 869 = .ok (.iload 4, 2) := by decide +kernel
theorem d_La_law_871 : decode code 871 = .ok (.iconst 1, 1) := by decide +kernel
theorem d_La_law_872 : decode code 872 = .ok (.iadd, 1) := by decide +kernel
theorem d_La_law_873 : decode code 873 = .ok (.iaload, 1) := by decide +kernel
theorem d_La_law_874 : decode code 874 = .ok (.aload_n 0, 1) := by decide +kernel
theorem d_La_law_875 : decode code 875 = .ok (.iload 4, 2) := by decide +kernel
theorem d_La_law_877 : decode code 877 = .ok (.iconst 2, 1) := by decide +kernel
theorem d_La_law_878 : decode code 878 = .ok (.iadd, 1) := by decide +kernel
theorem d_La_law_879 : decode code 879 = .ok (.iaload, 1) := by decide +kernel
theorem d_La_law_880 : decode code 880 = .ok (.aload_n 0, 1) := by decide +kernel
theorem d_La_law_881 : decode code 881 = .ok (.iload 4, 2) := by decide +kernel
theorem d_La_law_883 : decode code 883 = .ok (.iconst 3, 1) := by decide +kernel
theorem d_La_law_884 : decode code 884 = .ok (.iadd, 1) := by decide +kernel
theorem d_La_law_885 : decode code 885 = .ok (.iaload, 1) := by decide +kernel
theorem d_La_law_886 : decode code 886 = .ok (.i2l, 1) := by decide +kernel
theorem d_La_law_887 : decode code 887 = .ok (.bipush 32, 2) := by decide +kernel
theorem d_La_law_889 : decode code 889 = .ok (.lshl, 1) := by decide +kernel
theorem d_La_law_890 : decode code 890 = .ok (.aload_n 0, 1) := by decide +kernel
theorem d_La_law_891 : decode code 891 = .ok (.iload 4, 2) := by decide +kernel
theorem d_La_law_893 : decode code 893 = .ok (.iconst 4, 1) := by decide +kernel
theorem d_La_law_894 : decode code 894 = .ok (.iadd, 1) := by decide +kernel
theorem d_La_law_895 : decode code 895 = .ok (.iaload, 1) := by decide +kernel
theorem d_La_law_896 : decode code 896 = .ok (.i2l, 1) := by decide +kernel
theorem d_La_law_897 : decode code 897 = .ok (.ldc2_w 107, 3) := by decide +kernel
theorem d_La_law_900 : decode code 900 = .ok (.land, 1) := by decide +kernel
theorem d_La_law_901 : decode code 901 = .ok (.lor, 1) := by decide +kernel
theorem d_La_law_902 : decode code 902 = .ok (.aload_n 3, 1) := by decide +kernel
theorem d_La_law_903 : decode code 903 = .ok (.invokestatic 131, 3) := by decide +kernel
theorem d_La_law_906 : decode code 906 = .ok (.istore 5, 2) := by decide +kernel
theorem d_La_law_908 : decode code 908 = .ok (.aload_n 2, 1) := by decide +kernel
theorem d_La_law_909 : decode code 909 = .ok (.aload_n 0, 1) := by decide +kernel
theorem d_La_law_910 : decode code 910 = .ok (.iload 4, 2) := by decide +kernel
theorem d_La_law_912 : decode code 912 = .ok (.iconst 1, 1) := by decide +kernel
theorem d_La_law_913 : decode code 913 = .ok (.iadd, 1) := by decide +kernel
theorem d_La_law_914 : decode code 914 = .ok (.iaload, 1) := by decide +kernel
theorem d_La_law_915 : decode code 915 = .ok (.aload_n 0, 1) := by decide +kernel
theorem d_La_law_916 : decode code 916 = .ok (.iload 4, 2) := by decide +kernel
theorem d_La_law_918 : decode code 918 = .ok (.iconst 2, 1) := by decide +kernel
theorem d_La_law_919 : decode code 919 = .ok (.iadd, 1) := by decide +kernel
theorem d_La_law_920 : decode code 920 = .ok (.iaload, 1) := by decide +kernel
theorem d_La_law_921 : decode code 921 = .ok (.aload_n 0, 1) := by decide +kernel
theorem d_La_law_922 : decode code 922 = .ok (.iload 4, 2) := by decide +kernel
theorem d_La_law_924 : decode code 924 = .ok (.iconst 3, 1) := by decide +kernel
theorem d_La_law_925 : decode code 925 = .ok (.iadd, 1) := by decide +kernel
theorem d_La_law_926 : decode code 926 = .ok (.iaload, 1) := by decide +kernel
theorem d_La_law_927 : decode code 927 = .ok (.i2l, 1) := by decide +kernel
theorem d_La_law_928 : decode code 928 = .ok (.bipush 32, 2) := by decide +kernel
theorem d_La_law_930 : decode code 930 = .ok (.lshl, 1) := by decide +kernel
theorem d_La_law_931 : decode code 931 = .ok (.aload_n 0, 1) := by decide +kernel
theorem d_La_law_932 : decode code 932 = .ok (.iload 4, 2) := by decide +kernel
theorem d_La_law_934 : decode code 934 = .ok (.iconst 4, 1) := by decide +kernel
theorem d_La_law_935 : decode code 935 = .ok (.iadd, 1) := by decide +kernel
theorem d_La_law_936 : decode code 936 = .ok (.iaload, 1) := by decide +kernel
theorem d_La_law_937 : decode code 937 = .ok (.i2l, 1) := by decide +kernel
theorem d_La_law_938 : decode code 938 = .ok (.ldc2_w 107, 3) := by decide +kernel
theorem d_La_law_941 : decode code 941 = .ok (.land, 1) := by decide +kernel
theorem d_La_law_942 : decode code 942 = .ok (.lor, 1) := by decide +kernel
theorem d_La_law_943 : decode code 943 = .ok (.invokevirtual 134, 3) := by decide +kernel
theorem d_La_law_946 : decode code 946 = .ok (.istore 6, 2) := by decide +kernel
theorem d_La_law_948 : decode code 948 = .ok (.aload_n 2, 1) := by decide +kernel
theorem d_La_law_949 : decode code 949 = .ok (.invokevirtual 97, 3) := by decide +kernel
theorem d_La_law_952 : decode code 952 = .ok (.iload 5, 2) := by decide +kernel
theorem d_La_law_954 : decode code 954 = .ok (.if_icmp .eq 5, 3) := by decide +kernel
theorem d_La_law_957 : decode code 957 = .ok (.iconst 0, 1) := by decide +kernel
theorem d_La_law_958 : decode code 958 = .ok (.ireturn, 1) := by decide +kernel
theorem d_La_law_959 : decode code 959 = .ok (.iload 5, 2) := by decide +kernel
theorem d_La_law_961 : decode code 961 = .ok (.ifCond .ne 22, 3) := by decide +kernel
theorem d_La_law_964 : decode code 964 = .ok (.aload_n 3, 1) := by decide +kernel
theorem d_La_law_965 : decode code 965 = .ok (.iconst 0, 1) := by decide +kernel
theorem d_La_law_966 : decode code 966 = .ok (.laload, 1) := by decide +kernel
theorem d_La_law_967 : decode code 967 = .ok (.iload 6, 2) := by decide +kernel
theorem d_La_law_969 : decode code 969 = .ok (.ifCond .eq 7, 3) := by decide +kernel
theorem d_La_law_972 : decode code 972 = .ok (.lconst 1, 1) := by decide +kernel
theorem d_La_law_973 : decode code 973 = .ok (.goto 4, 3) := by decide +kernel
theorem d_La_law_976 : decode code 976 = .ok (.lconst 0, 1) := by decide +kernel
theorem d_La_law_977 : decode code 977 = .ok (.lcmp, 1) := by decide +kernel
theorem d_La_law_978 : decode code 978 = .ok (.ifCond .eq 5, 3) := by decide +kernel
theorem d_La_law_981 : decode code 981 = .ok (.iconst 0, 1) := by decide +kernel
theorem d_La_law_982 : decode code 982 = .ok (.ireturn, 1) := by decide +kernel
theorem d_La_law_983 : decode code 983 = .ok (.goto 468, 3) := by decide +kernel
theorem d_La_law_986 : decode code 986 = .ok (.aload_n 1, 1) := by decide +kernel
theorem d_La_law_987 : decode code 987 = .ok (.invokevirtual 135, 3) := by decide +kernel
theorem d_La_law_990 : decode code 990 = .ok (.aload_n 2, 1) := by decide +kernel
theorem d_La_law_991 : decode code 991 = .ok (.invokevirtual 138, 3) := by decide +kernel
theorem d_La_law_994 : decode code 994 = .ok (.if_icmp .eq 457, 3) := by decide +kernel
theorem d_La_law_997 : decode code 997 = .ok (.iconst 0, 1) := by decide +kernel
theorem d_La_law_998 : decode code 998 = .ok (.ireturn, 1) := by decide +kernel
theorem d_La_law_999 : decode code 999 = .ok (.aload_n 1, 1) := by decide +kernel
theorem d_La_law_1000 : decode code 1000 = .ok (.aload_n 0, 1) := by decide +kernel
theorem d_La_law_1001 : decode code 1001 = .ok (.iload 4, 2) := by decide +kernel
theorem d_La_law_1003 : decode code 1003 = .ok (.iconst 1, 1) := by decide +kernel
theorem d_La_law_1004 : decode code 1004 = .ok (.iadd, 1) := by decide +kernel
theorem d_La_law_1005 : decode code 1005 = .ok (.iaload, 1) := by decide +kernel
theorem d_La_law_1006 : decode code 1006 = .ok (.aload_n 3, 1) := by decide +kernel
theorem d_La_law_1007 : decode code 1007 = .ok (.invokestatic 139, 3) := by decide +kernel
theorem d_La_law_1010 : decode code 1010 = .ok (.istore 5, 2) := by decide +kernel
theorem d_La_law_1012 : decode code 1012 = .ok (.aload_n 2, 1) := by decide +kernel
theorem d_La_law_1013 : decode code 1013 = .ok (.aload_n 0, 1) := by decide +kernel
theorem d_La_law_1014 : decode code 1014 = .ok (.iload 4, 2) := by decide +kernel
theorem d_La_law_1016 : decode code 1016 = .ok (.iconst 1, 1) := by decide +kernel
theorem d_La_law_1017 : decode code 1017 = .ok (.iadd, 1) := by decide +kernel
theorem d_La_law_1018 : decode code 1018 = .ok (.iaload, 1) := by decide +kernel
theorem d_La_law_1019 : decode code 1019 = .ok (.invokevirtual 141, 3) := by decide +kernel
theorem d_La_law_1022 : decode code 1022 = .ok (.istore 6, 2) := by decide +kernel
theorem d_La_law_1024 : decode code 1024 = .ok (.aload_n 2, 1) := by decide +kernel
theorem d_La_law_1025 : decode code 1025 = .ok (.invokevirtual 97, 3) := by decide +kernel
theorem d_La_law_1028 : decode code 1028 = .ok (.iload 5, 2) := by decide +kernel
theorem d_La_law_1030 : decode code 1030 = .ok (.if_icmp .eq 5, 3) := by decide +kernel
theorem d_La_law_1033 : decode code 1033 = .ok (.iconst 0, 1) := by decide +kernel
theorem d_La_law_1034 : decode code 1034 = .ok (.ireturn, 1) := by decide +kernel
theorem d_La_law_1035 : decode code 1035 = .ok (.iload 5, 2) := by decide +kernel
theorem d_La_law_1037 : decode code 1037 = .ok (.ifCond .ne 15, 3) := by decide +kernel
theorem d_La_law_1040 : decode code 1040 = .ok (.aload_n 3, 1) := by decide +kernel
theorem d_La_law_1041 : decode code 1041 = .ok (.iconst 0, 1) := by decide +kernel
theorem d_La_law_1042 : decode code 1042 = .ok (.laload, 1) := by decide +kernel
theorem d_La_law_1043 : decode code 1043 = .ok (.iload 6, 2) := by decide +kernel
theorem d_La_law_1045 : decode code 1045 = .ok (.i2l, 1) := by decide +kernel
theorem d_La_law_1046 : decode code 1046 = .ok (.lcmp, 1) := by decide +kernel
theorem d_La_law_1047 : decode code 1047 = .ok (.ifCond .eq 5, 3) := by decide +kernel
theorem d_La_law_1050 : decode code 1050 = .ok (.iconst 0, 1) := by decide +kernel
theorem d_La_law_1051 : decode code 1051 = .ok (.ireturn, 1) := by decide +kernel
theorem d_La_law_1052 : decode code 1052 = .ok (.goto 399, 3) := by decide +kernel
theorem d_La_law_1055 : decode code 1055 = .ok (.aload_n 1, 1) := by decide +kernel
theorem d_La_law_1056 : decode code 1056 = .ok (.aload_n 3, 1) := by decide +kernel
theorem d_La_law_1057 : decode code 1057 = .ok (.invokestatic 142, 3) := by decide +kernel
theorem d_La_law_1060 : decode code 1060 = .ok (.istore 5, 2) := by decide +kernel
theorem d_La_law_1062 : decode code 1062 = .ok (.aload_n 2, 1) := by decide +kernel
theorem d_La_law_1063 : decode code 1063 = .ok (.invokevirtual 144, 3) := by decide +kernel
theorem d_La_law_1066 : decode code 1066 = .ok (.lstore 6, 2) := by decide +kernel
theorem d_La_law_1068 : decode code 1068 = .ok (.aload_n 2, 1) := by decide +kernel
theorem d_La_law_1069 : decode code 1069 = .ok (.invokevirtual 97, 3) := by decide +kernel
theorem d_La_law_1072 : decode code 1072 = .ok (.iload 5, 2) := by decide +kernel
theorem d_La_law_1074 : decode code 1074 = .ok (.if_icmp .eq 5, 3) := by decide +kernel
theorem d_La_law_1077 : decode code 1077 = .ok (.iconst 0, 1) := by decide +kernel
theorem d_La_law_1078 : decode code 1078 = .ok (.ireturn, 1) := by decide +kernel
theorem d_La_law_1079 : decode code 1079 = .ok (.iload 5, 2) := by decide +kernel
theorem d_La_law_1081 : decode code 1081 = .ok (.ifCond .ne 14, 3) := by decide +kernel
theorem d_La_law_1084 : decode code 1084 = .ok (.aload_n 3, 1) := by decide +kernel
theorem d_La_law_1085 : decode code 1085 = .ok (.iconst 0, 1) := by decide +kernel
theorem d_La_law_1086 : decode code 1086 = .ok (.laload, 1) := by decide +kernel
theorem d_La_law_1087 : decode code 1087 = .ok (.lload 6, 2) := by decide +kernel
theorem d_La_law_1089 : decode code 1089 = .ok (.lcmp, 1) := by decide +kernel
theorem d_La_law_1090 : decode code 1090 = .ok (.ifCond .eq 5, 3) := by decide +kernel
theorem d_La_law_1093 : decode code 1093 = .ok (.iconst 0, 1) := by decide +kernel
theorem d_La_law_1094 : decode code 1094 = .ok (.ireturn, 1) := by decide +kernel
theorem d_La_law_1095 : decode code 1095 = .ok (.goto 356, 3) := by decide +kernel
theorem d_La_law_1098 : decode code 1098 = .ok (.aload_n 1, 1) := by decide +kernel
theorem d_La_law_1099 : decode code 1099 = .ok (.aload_n 0, 1) := by decide +kernel
theorem d_La_law_1100 : decode code 1100 = .ok (.iload 4, 2) := by decide +kernel
theorem d_La_law_1102 : decode code 1102 = .ok (.iconst 1, 1) := by decide +kernel
theorem d_La_law_1103 : decode code 1103 = .ok (.iadd, 1) := by decide +kernel
theorem d_La_law_1104 : decode code 1104 = .ok (.iaload, 1) := by decide +kernel
theorem d_La_law_1105 : decode code 1105 = .ok (.aload_n 0, 1) := by decide +kernel
theorem d_La_law_1106 : decode code 1106 = .ok (.iload 4, 2) := by decide +kernel
theorem d_La_law_1108 : decode code 1108 = .ok (.iconst 2, 1) := by decide +kernel
theorem d_La_law_1109 : decode code 1109 = .ok (.iadd, 1) := by decide +kernel
theorem d_La_law_1110 : decode code 1110 = .ok (.iaload, 1) := by decide +kernel
theorem d_La_law_1111 : decode code 1111 = .ok (.aload_n 3, 1) := by decide +kernel
theorem d_La_law_1112 : decode code 1112 = .ok (.invokestatic 145, 3) := by decide +kernel
theorem d_La_law_1115 : decode code 1115 = .ok (.istore 5, 2) := by decide +kernel
theorem d_La_law_1117 : decode code 1117 = .ok (.aload_n 2, 1) := by decide +kernel
theorem d_La_law_1118 : decode code 1118 = .ok (.aload_n 0, 1) := by decide +kernel
theorem d_La_law_1119 : decode code 1119 = .ok (.iload 4, 2) := by decide +kernel
theorem d_La_law_1121 : decode code 1121 = .ok (.iconst 1, 1) := by decide +kernel
theorem d_La_law_1122 : decode code 1122 = .ok (.iadd, 1) := by decide +kernel
theorem d_La_law_1123 : decode code 1123 = .ok (.iaload, 1) := by decide +kernel
theorem d_La_law_1124 : decode code 1124 = .ok (.aload_n 0, 1) := by decide +kernel
theorem d_La_law_1125 : decode code 1125 = .ok (.iload 4, 2) := by decide +kernel
theorem d_La_law_1127 : decode code 1127 = .ok (.iconst 2, 1) := by decide +kernel
theorem d_La_law_1128 : decode code 1128 = .ok (.iadd, 1) := by decide +kernel
theorem d_La_law_1129 : decode code 1129 = .ok (.iaload, 1) := by decide +kernel
theorem d_La_law_1130 : decode code 1130 = .ok (.invokevirtual 147, 3) := by decide +kernel
theorem d_La_law_1133 : decode code 1133 = .ok (.istore 6, 2) := by decide +kernel
theorem d_La_law_1135 : decode code 1135 = .ok (.aload_n 2, 1) := by decide +kernel
theorem d_La_law_1136 : decode code 1136 = .ok (.invokevirtual 97, 3) := by decide +kernel
theorem d_La_law_1139 : decode code 1139 = .ok (.iload 5, 2) := by decide +kernel
theorem d_La_law_1141 : decode code 1141 = .ok (.if_icmp .eq 5, 3) := by decide +kernel
theorem d_La_law_1144 : decode code 1144 = .ok (.iconst 0, 1) := by decide +kernel
theorem d_La_law_1145 : decode code 1145 = .ok (.ireturn, 1) := by decide +kernel
theorem d_La_law_1146 : decode code 1146 = .ok (.iload 5, 2) := by decide +kernel
theorem d_La_law_1148 : decode code 1148 = .ok (.ifCond .ne 15, 3) := by decide +kernel
theorem d_La_law_1151 : decode code 1151 = .ok (.aload_n 3, 1) := by decide +kernel
theorem d_La_law_1152 : decode code 1152 = .ok (.iconst 0, 1) := by decide +kernel
theorem d_La_law_1153 : decode code 1153 = .ok (.laload, 1) := by decide +kernel
theorem d_La_law_1154 : decode code 1154 = .ok (.iload 6, 2) := by decide +kernel
theorem d_La_law_1156 : decode code 1156 = .ok (.i2l, 1) := by decide +kernel
theorem d_La_law_1157 : decode code 1157 = .ok (.lcmp, 1) := by decide +kernel
theorem d_La_law_1158 : decode code 1158 = .ok (.ifCond .eq 5, 3) := by decide +kernel
theorem d_La_law_1161 : decode code 1161 = .ok (.iconst 0, 1) := by decide +kernel
theorem d_La_law_1162 : decode code 1162 = .ok (.ireturn, 1) := by decide +kernel
theorem d_La_law_1163 : decode code 1163 = .ok (.goto 288, 3) := by decide +kernel
theorem d_La_law_1166 : decode code 1166 = .ok (.aload_n 1, 1) := by decide +kernel
theorem d_La_law_1167 : decode code 1167 = .ok (.aload_n 0, 1) := by decide +kernel
theorem d_La_law_1168 : decode code 1168 = .ok (.iload 4, 2) := by decide +kernel
theorem d_La_law_1170 : decode code 1170 = .ok (.iconst 1, 1) := by decide +kernel
theorem d_La_law_1171 : decode code 1171 = .ok (.iadd, 1) := by decide +kernel
theorem d_La_law_1172 : decode code 1172 = .ok (.iaload, 1) := by decide +kernel
theorem d_La_law_1173 : decode code 1173 = .ok (.aload_n 0, 1) := by decide +kernel
theorem d_La_law_1174 : decode code 1174 = .ok (.iload 4, 2) := by decide +kernel
theorem d_La_law_1176 : decode code 1176 = .ok (.iconst 2, 1) := by decide +kernel
theorem d_La_law_1177 : decode code 1177 = .ok (.iadd, 1) := by decide +kernel
theorem d_La_law_1178 : decode code 1178 = .ok (.iaload, 1) := by decide +kernel
theorem d_La_law_1179 : decode code 1179 = .ok (.aload_n 3, 1) := by decide +kernel
theorem d_La_law_1180 : decode code 1180 = .ok (.invokestatic 148, 3) := by decide +kernel
theorem d_La_law_1183 : decode code 1183 = .ok (.istore 5, 2) := by decide +kernel
theorem d_La_law_1185 : decode code 1185 = .ok (.aload_n 2, 1) := by decide +kernel
theorem d_La_law_1186 : decode code 1186 = .ok (.aload_n 0, 1) := by decide +kernel
theorem d_La_law_1187 : decode code 1187 = .ok (.iload 4, 2) := by decide +kernel
theorem d_La_law_1189 : decode code 1189 = .ok (.iconst 1, 1) := by decide +kernel
theorem d_La_law_1190 : decode code 1190 = .ok (.iadd, 1) := by decide +kernel
theorem d_La_law_1191 : decode code 1191 = .ok (.iaload, 1) := by decide +kernel
theorem d_La_law_1192 : decode code 1192 = .ok (.aload_n 0, 1) := by decide +kernel
theorem d_La_law_1193 : decode code 1193 = .ok (.iload 4, 2) := by decide +kernel
theorem d_La_law_1195 : decode code 1195 = .ok (.iconst 2, 1) := by decide +kernel
theorem d_La_law_1196 : decode code 1196 = .ok (.iadd, 1) := by decide +kernel
theorem d_La_law_1197 : decode code 1197 = .ok (.iaload, 1) := by decide +kernel
theorem d_La_law_1198 : decode code 1198 = .ok (.invokevirtual 150, 3) := by decide +kernel
theorem d_La_law_1201 : decode code 1201 = .ok (.istore 6, 2) := by decide +kernel
theorem d_La_law_1203 : decode code 1203 = .ok (.aload_n 2, 1) := by decide +kernel
theorem d_La_law_1204 : decode code 1204 = .ok (.invokevirtual 97, 3) := by decide +kernel
theorem d_La_law_1207 : decode code 1207 = .ok (.iload 5, 2) := by decide +kernel
theorem d_La_law_1209 : decode code 1209 = .ok (.if_icmp .eq 5, 3) := by decide +kernel
theorem d_La_law_1212 : decode code 1212 = .ok (.iconst 0, 1) := by decide +kernel
theorem d_La_law_1213 : decode code 1213 = .ok (.ireturn, 1) := by decide +kernel
theorem d_La_law_1214 : decode code 1214 = .ok (.iload 5, 2) := by decide +kernel
theorem d_La_law_1216 : decode code 1216 = .ok (.ifCond .ne 15, 3) := by decide +kernel
theorem d_La_law_1219 : decode code 1219 = .ok (.aload_n 3, 1) := by decide +kernel
theorem d_La_law_1220 : decode code 1220 = .ok (.iconst 0, 1) := by decide +kernel
theorem d_La_law_1221 : decode code 1221 = .ok (.laload, 1) := by decide +kernel
theorem d_La_law_1222 : decode code 1222 = .ok (.iload 6, 2) := by decide +kernel
theorem d_La_law_1224 : decode code 1224 = .ok (.i2l, 1) := by decide +kernel
theorem d_La_law_1225 : decode code 1225 = .ok (.lcmp, 1) := by decide +kernel
theorem d_La_law_1226 : decode code 1226 = .ok (.ifCond .eq 5, 3) := by decide +kernel
theorem d_La_law_1229 : decode code 1229 = .ok (.iconst 0, 1) := by decide +kernel
theorem d_La_law_1230 : decode code 1230 = .ok (.ireturn, 1) := by decide +kernel
theorem d_La_law_1231 : decode code 1231 = .ok (.goto 220, 3) := by decide +kernel
theorem d_La_law_1234 : decode code 1234 = .ok (.aload_n 1, 1) := by decide +kernel
theorem d_La_law_1235 : decode code 1235 = .ok (.aload_n 3, 1) := by decide +kernel
theorem d_La_law_1236 : decode code 1236 = .ok (.invokestatic 151, 3) := by decide +kernel
theorem d_La_law_1239 : decode code 1239 = .ok (.istore 5, 2) := by decide +kernel
theorem d_La_law_1241 : decode code 1241 = .ok (.aload_n 2, 1) := by decide +kernel
theorem d_La_law_1242 : decode code 1242 = .ok (.invokevirtual 153, 3) := by decide +kernel
theorem d_La_law_1245 : decode code 1245 = .ok (.lstore 6, 2) := by decide +kernel
theorem d_La_law_1247 : decode code 1247 = .ok (.aload_n 2, 1) := by decide +kernel
theorem d_La_law_1248 : decode code 1248 = .ok (.invokevirtual 97, 3) := by decide +kernel
theorem d_La_law_1251 : decode code 1251 = .ok (.iload 5, 2) := by decide +kernel
theorem d_La_law_1253 : decode code 1253 = .ok (.if_icmp .eq 5, 3) := by decide +kernel
theorem d_La_law_1256 : decode code 1256 = .ok (.iconst 0, 1) := by decide +kernel
theorem d_La_law_1257 : decode code 1257 = .ok (.ireturn, 1) := by decide +kernel
theorem d_La_law_1258 : decode code 1258 = .ok (.iload 5, 2) := by decide +kernel
theorem d_La_law_1260 : decode code 1260 = .ok (.ifCond .ne 14, 3) := by decide +kernel
theorem d_La_law_1263 : decode code 1263 = .ok (.aload_n 3, 1) := by decide +kernel
theorem d_La_law_1264 : decode code 1264 = .ok (.iconst 0, 1) := by decide +kernel
theorem d_La_law_1265 : decode code 1265 = .ok (.laload, 1) := by decide +kernel
theorem d_La_law_1266 : decode code 1266 = .ok (.lload 6, 2) := by decide +kernel
theorem d_La_law_1268 : decode code 1268 = .ok (.lcmp, 1) := by decide +kernel
theorem d_La_law_1269 : decode code 1269 = .ok (.ifCond .eq 5, 3) := by decide +kernel
theorem d_La_law_1272 : decode code 1272 = .ok (.iconst 0, 1) := by decide +kernel
theorem d_La_law_1273 : decode code 1273 = .ok (.ireturn, 1) := by decide +kernel
theorem d_La_law_1274 : decode code 1274 = .ok (.goto 177, 3) := by decide +kernel
theorem d_La_law_1277 : decode code 1277 = .ok (.aload_n 1, 1) := by decide +kernel
theorem d_La_law_1278 : decode code 1278 = .ok (.aload_n 0, 1) := by decide +kernel
theorem d_La_law_1279 : decode code 1279 = .ok (.iload 4, 2) := by decide +kernel
theorem d_La_law_1281 : decode code 1281 = .ok (.iconst 1, 1) := by decide +kernel
theorem d_La_law_1282 : decode code 1282 = .ok (.iadd, 1) := by decide +kernel
theorem d_La_law_1283 : decode code 1283 = .ok (.iaload, 1) := by decide +kernel
theorem d_La_law_1284 : decode code 1284 = .ok (.aload_n 0, 1) := by decide +kernel
theorem d_La_law_1285 : decode code 1285 = .ok (.iload 4, 2) := by decide +kernel
theorem d_La_law_1287 : decode code 1287 = .ok (.iconst 2, 1) := by decide +kernel
theorem d_La_law_1288 : decode code 1288 = .ok (.iadd, 1) := by decide +kernel
theorem d_La_law_1289 : decode code 1289 = .ok (.iaload, 1) := by decide +kernel
theorem d_La_law_1290 : decode code 1290 = .ok (.aload_n 3, 1) := by decide +kernel
theorem d_La_law_1291 : decode code 1291 = .ok (.invokestatic 154, 3) := by decide +kernel
theorem d_La_law_1294 : decode code 1294 = .ok (.istore 5, 2) := by decide +kernel
theorem d_La_law_1296 : decode code 1296 = .ok (.aload_n 2, 1) := by decide +kernel
theorem d_La_law_1297 : decode code 1297 = .ok (.aload_n 0, 1) := by decide +kernel
theorem d_La_law_1298 : decode code 1298 = .ok (.iload 4, 2) := by decide +kernel
theorem d_La_law_1300 : decode code 1300 = .ok (.iconst 1, 1) := by decide +kernel
theorem d_La_law_1301 : decode code 1301 = .ok (.iadd, 1) := by decide +kernel
theorem d_La_law_1302 : decode code 1302 = .ok (.iaload, 1) := by decide +kernel
theorem d_La_law_1303 : decode code 1303 = .ok (.aload_n 0, 1) := by decide +kernel
theorem d_La_law_1304 : decode code 1304 = .ok (.iload 4, 2) := by decide +kernel
theorem d_La_law_1306 : decode code 1306 = .ok (.iconst 2, 1) := by decide +kernel
theorem d_La_law_1307 : decode code 1307 = .ok (.iadd, 1) := by decide +kernel
theorem d_La_law_1308 : decode code 1308 = .ok (.iaload, 1) := by decide +kernel
theorem d_La_law_1309 : decode code 1309 = .ok (.invokevirtual 156, 3) := by decide +kernel
theorem d_La_law_1312 : decode code 1312 = .ok (.lstore 6, 2) := by decide +kernel
theorem d_La_law_1314 : decode code 1314 = .ok (.aload_n 2, 1) := by decide +kernel
theorem d_La_law_1315 : decode code 1315 = .ok (.invokevirtual 97, 3) := by decide +kernel
theorem d_La_law_1318 : decode code 1318 = .ok (.iload 5, 2) := by decide +kernel
theorem d_La_law_1320 : decode code 1320 = .ok (.if_icmp .eq 5, 3) := by decide +kernel
theorem d_La_law_1323 : decode code 1323 = .ok (.iconst 0, 1) := by decide +kernel
theorem d_La_law_1324 : decode code 1324 = .ok (.ireturn, 1) := by decide +kernel
theorem d_La_law_1325 : decode code 1325 = .ok (.iload 5, 2) := by decide +kernel
theorem d_La_law_1327 : decode code 1327 = .ok (.ifCond .ne 14, 3) := by decide +kernel
theorem d_La_law_1330 : decode code 1330 = .ok (.aload_n 3, 1) := by decide +kernel
theorem d_La_law_1331 : decode code 1331 = .ok (.iconst 0, 1) := by decide +kernel
theorem d_La_law_1332 : decode code 1332 = .ok (.laload, 1) := by decide +kernel
theorem d_La_law_1333 : decode code 1333 = .ok (.lload 6, 2) := by decide +kernel
theorem d_La_law_1335 : decode code 1335 = .ok (.lcmp, 1) := by decide +kernel
theorem d_La_law_1336 : decode code 1336 = .ok (.ifCond .eq 5, 3) := by decide +kernel
theorem d_La_law_1339 : decode code 1339 = .ok (.iconst 0, 1) := by decide +kernel
theorem d_La_law_1340 : decode code 1340 = .ok (.ireturn, 1) := by decide +kernel
theorem d_La_law_1341 : decode code 1341 = .ok (.goto 110, 3) := by decide +kernel
theorem d_La_law_1344 : decode code 1344 = .ok (.aload_n 1, 1) := by decide +kernel
theorem d_La_law_1345 : decode code 1345 = .ok (.aload_n 0, 1) := by decide +kernel
theorem d_La_law_1346 : decode code 1346 = .ok (.iload 4, 2) := by decide +kernel
theorem d_La_law_1348 : decode code 1348 = .ok (.iconst 1, 1) := by decide +kernel
theorem d_La_law_1349 : decode code 1349 = .ok (.iadd, 1) := by decide +kernel
theorem d_La_law_1350 : decode code 1350 = .ok (.iaload, 1) := by decide +kernel
theorem d_La_law_1351 : decode code 1351 = .ok (.aload_n 3, 1) := by decide +kernel
theorem d_La_law_1352 : decode code 1352 = .ok (.invokestatic 157, 3) := by decide +kernel
theorem d_La_law_1355 : decode code 1355 = .ok (.istore 5, 2) := by decide +kernel
theorem d_La_law_1357 : decode code 1357 = .ok (.aload_n 2, 1) := by decide +kernel
theorem d_La_law_1358 : decode code 1358 = .ok (.aload_n 0, 1) := by decide +kernel
theorem d_La_law_1359 : decode code 1359 = .ok (.iload 4, 2) := by decide +kernel
theorem d_La_law_1361 : decode code 1361 = .ok (.iconst 1, 1) := by decide +kernel
theorem d_La_law_1362 : decode code 1362 = .ok (.iadd, 1) := by decide +kernel
theorem d_La_law_1363 : decode code 1363 = .ok (.iaload, 1) := by decide +kernel
theorem d_La_law_1364 : decode code 1364 = .ok (.invokevirtual 159, 3) := by decide +kernel
theorem d_La_law_1367 : decode code 1367 = .ok (.istore 6, 2) := by decide +kernel
theorem d_La_law_1369 : decode code 1369 = .ok (.aload_n 2, 1) := by decide +kernel
theorem d_La_law_1370 : decode code 1370 = .ok (.invokevirtual 97, 3) := by decide +kernel
theorem d_La_law_1373 : decode code 1373 = .ok (.iload 5, 2) := by decide +kernel
theorem d_La_law_1375 : decode code 1375 = .ok (.if_icmp .eq 5, 3) := by decide +kernel
theorem d_La_law_1378 : decode code 1378 = .ok (.iconst 0, 1) := by decide +kernel
theorem d_La_law_1379 : decode code 1379 = .ok (.ireturn, 1) := by decide +kernel
theorem d_La_law_1380 : decode code 1380 = .ok (.iload 5, 2) := by decide +kernel
theorem d_La_law_1382 : decode code 1382 = .ok (.ifCond .ne 15, 3) := by decide +kernel
theorem d_La_law_1385 : decode code 1385 = .ok (.aload_n 3, 1) := by decide +kernel
theorem d_La_law_1386 : decode code 1386 = .ok (.iconst 0, 1) := by decide +kernel
theorem d_La_law_1387 : decode code 1387 = .ok (.laload, 1) := by decide +kernel
theorem d_La_law_1388 : decode code 1388 = .ok (.iload 6, 2) := by decide +kernel
theorem d_La_law_1390 : decode code 1390 = .ok (.i2l, 1) := by decide +kernel
theorem d_La_law_1391 : decode code 1391 = .ok (.lcmp, 1) := by decide +kernel
theorem d_La_law_1392 : decode code 1392 = .ok (.ifCond .eq 5, 3) := by decide +kernel
theorem d_La_law_1395 : decode code 1395 = .ok (.iconst 0, 1) := by decide +kernel
theorem d_La_law_1396 : decode code 1396 = .ok (.ireturn, 1) := by decide +kernel
theorem d_La_law_1397 : decode code 1397 = .ok (.goto 54, 3) := by decide +kernel
theorem d_La_law_1400 : decode code 1400 = .ok (.aload_n 1, 1) := by decide +kernel
theorem d_La_law_1401 : decode code 1401 = .ok (.aload_n 3, 1) := by decide +kernel
theorem d_La_law_1402 : decode code 1402 = .ok (.invokestatic 160, 3) := by decide +kernel
theorem d_La_law_1405 : decode code 1405 = .ok (.istore 5, 2) := by decide +kernel
theorem d_La_law_1407 : decode code 1407 = .ok (.aload_n 2, 1) := by decide +kernel
theorem d_La_law_1408 : decode code 1408 = .ok (.invokevirtual 162, 3) := by decide +kernel
theorem d_La_law_1411 : decode code 1411 = .ok (.istore 6, 2) := by decide +kernel
theorem d_La_law_1413 : decode code 1413 = .ok (.aload_n 2, 1) := by decide +kernel
theorem d_La_law_1414 : decode code 1414 = .ok (.invokevirtual 97, 3) := by decide +kernel
theorem d_La_law_1417 : decode code 1417 = .ok (.iload 5, 2) := by decide +kernel
theorem d_La_law_1419 : decode code 1419 = .ok (.if_icmp .eq 5, 3) := by decide +kernel
theorem d_La_law_1422 : decode code 1422 = .ok (.iconst 0, 1) := by decide +kernel
theorem d_La_law_1423 : decode code 1423 = .ok (.ireturn, 1) := by decide +kernel
theorem d_La_law_1424 : decode code 1424 = .ok (.iload 5, 2) := by decide +kernel
theorem d_La_law_1426 : decode code 1426 = .ok (.ifCond .ne 22, 3) := by decide +kernel
theorem d_La_law_1429 : decode code 1429 = .ok (.aload_n 3, 1) := by decide +kernel
theorem d_La_law_1430 : decode code 1430 = .ok (.iconst 0, 1) := by decide +kernel
theorem d_La_law_1431 : decode code 1431 = .ok (.laload, 1) := by decide +kernel
theorem d_La_law_1432 : decode code 1432 = .ok (.iload 6, 2) := by decide +kernel
theorem d_La_law_1434 : decode code 1434 = .ok (.ifCond .eq 7, 3) := by decide +kernel
theorem d_La_law_1437 : decode code 1437 = .ok (.lconst 1, 1) := by decide +kernel
theorem d_La_law_1438 : decode code 1438 = .ok (.goto 4, 3) := by decide +kernel
theorem d_La_law_1441 : decode code 1441 = .ok (.lconst 0, 1) := by decide +kernel
theorem d_La_law_1442 : decode code 1442 = .ok (.lcmp, 1) := by decide +kernel
theorem d_La_law_1443 : decode code 1443 = .ok (.ifCond .eq 5, 3) := by decide +kernel
theorem d_La_law_1446 : decode code 1446 = .ok (.iconst 0, 1) := by decide +kernel
theorem d_La_law_1447 : decode code 1447 = .ok (.ireturn, 1) := by decide +kernel
theorem d_La_law_1448 : decode code 1448 = .ok (.goto 3, 3) := by decide +kernel
theorem d_La_law_1451 : decode code 1451 = .ok (.iinc 4 7, 3) := by decide +kernel
theorem d_La_law_1454 : decode code 1454 = .ok (.goto (-1421), 3) := by decide +kernel
theorem d_La_law_1457 : decode code 1457 = .ok (.iconst 1, 1) := by decide +kernel
theorem d_La_law_1458 : decode code 1458 = .ok (.ireturn, 1) := by decide +kernel
