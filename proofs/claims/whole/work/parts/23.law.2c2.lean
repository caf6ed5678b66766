theorem d_Law_law_761 : decode code 761 = .ok (.ldc2_w 74, 3) := by decide +kernel
theorem d_Law_law_764 : decode code 764 = .ok (.land, 1) := by decide +kernel
theorem d_Law_law_765 : decode code 765 = .ok (.lor, 1) := by decide +kernel
theorem d_Law_law_766 : decode code 766 = .ok (.aload_n 0, 1) := by decide +kernel
theorem d_Law_law_767 : decode code 767 = .ok (.iload 4, 2) := by decide +kernel
theorem d_Law_law_769 : decode code 769 = .ok (.iconst 4, 1) := by decide +kernel
theorem d_Law_law_770 : decode code 770 = .ok (.iadd, 1) := by decide +kernel
theorem d_Law_law_771 : decode code 771 = .ok (.iaload, 1) := by decide +kernel
theorem d_Law_law_772 : decode code 772 = .ok (.i2l, 1) := by decide +kernel
theorem d_Law_law_773 : decode code 773 = .ok (.bipush 32, 2) := by decide +kernel
theorem d_Law_law_775 : decode code 775 = .ok (.lshl, 1) := by decide +kernel
theorem d_Law_law_776 : decode code 776 = .ok (.aload_n 0, 1) := by decide +kernel
theorem d_Law_law_777 : decode code 777 = .ok (.iload 4, 2) := by decide +kernel
theorem d_Law_law_779 : decode code 779 = .ok (.iconst 5, 1) := by decide +kernel
theorem d_Law_law_780 : decode code 780 = .ok (.iadd, 1) := by decide +kernel
theorem d_Law_law_781 : decode code 781 = .ok (.iaload, 1) := by decide +kernel
theorem d_Law_law_782 : decode code 782 = .ok (.i2l, 1) := by decide +kernel
theorem d_Law_law_783 : decode code 783 = .ok (.ldc2_w 74, 3) := by decide +kernel
theorem d_Law_law_786 : decode code 786 = .ok (.land, 1) := by decide +kernel
theorem d_Law_law_787 : decode code 787 = .ok (.lor, 1) := by decide +kernel
theorem d_Law_law_788 : decode code 788 = .ok (.aload_n 0, 1) := by decide +kernel
theorem d_Law_law_789 : decode code 789 = .ok (.iload 4, 2) := by decide +kernel
theorem d_Law_law_791 : decode code 791 = .ok (.bipush 6, 2) := by decide +kernel
theorem d_Law_law_793 : decode code 793 = .ok (.iadd, 1) := by decide +kernel
theorem d_Law_law_794 : decode code 794 = .ok (.iaload, 1) := by decide +kernel
theorem d_Law_law_795 : decode code 795 = .ok (.aload_n 3, 1) := by decide +kernel
theorem d_Law_law_796 : decode code 796 = .ok (.invokestatic 88, 3) := by decide +kernel
theorem d_Law_law_799 : decode code 799 = .ok (.istore 5, 2) := by decide +kernel
theorem d_Law_law_801 : decode code 801 = .ok (.aload_n 2, 1) := by decide +kernel
theorem d_Law_law_802 : decode code 802 = .ok (.aload_n 0, 1) := by decide +kernel
theorem d_Law_law_803 : decode code 803 = .ok (.iload 4, 2) := by decide +kernel
theorem d_Law_law_805 : decode code 805 = .ok (.iconst 1, 1) := by decide +kernel
theorem d_Law_law_806 : decode code 806 = .ok (.iadd, 1) := by decide +kernel
theorem d_Law_law_807 : decode code 807 = .ok (.iaload, 1) := by decide +kernel
theorem d_Law_law_808 : decode code 808 = .ok (.aload_n 0, 1) := by decide +kernel
theorem d_Law_law_809 : decode code 809 = .ok (.iload 4, 2) := by decide +kernel
theorem d_Law_law_811 : decode code 811 = .ok (.iconst 2, 1) := by decide +kernel
theorem d_Law_law_812 : decode code 812 = .ok (.iadd, 1) := by decide +kernel
theorem d_Law_law_813 : decode code 813 = .ok (.iaload, 1) := by decide +kernel
theorem d_Law_law_814 : decode code 814 = .ok (.i2l, 1) := by decide +kernel
theorem d_Law_law_815 : decode code 815 = .ok (.bipush 32, 2) := by decide +kernel
theorem d_Law_law_817 : decode code 817 = .ok (.lshl, 1) := by decide +kernel
theorem d_Law_law_818 : decode code 818 = .ok (.aload_n 0, 1) := by decide +kernel
theorem d_Law_law_819 : decode code 819 = .ok (.iload 4, 2) := by decide +kernel
theorem d_Law_law_821 : decode code 821 = .ok (.iconst 3, 1) := by decide +kernel
theorem d_Law_law_822 : decode code 822 = .ok (.iadd, 1) := by decide +kernel
theorem d_Law_law_823 : decode code 823 = .ok (.iaload, 1) := by decide +kernel
theorem d_Law_law_824 : decode code 824 = .ok (.i2l, 1) := by decide +kernel
theorem d_Law_law_825 : decode code 825 = .ok (.ldc2_w 74, 3) := by decide +kernel
theorem d_Law_law_828 : decode code 828 = .ok (.land, 1) := by decide +kernel
theorem d_Law_law_829 : decode code 829 = .ok (.lor, 1) := by decide +kernel
theorem d_Law_law_830 : decode code 830 = .ok (.aload_n 0, 1) := by decide +kernel
theorem d_Law_law_831 : decode code 831 = .ok (.iload 4, 2) := by decide +kernel
theorem d_Law_law_833 : decode code 833 = .ok (.iconst 4, 1) := by decide +kernel
theorem d_Law_law_834 : decode code 834 = .ok (.iadd, 1) := by decide +kernel
theorem d_Law_law_835 : decode code 835 = .ok (.iaload, 1) := by decide +kernel
theorem d_Law_law_836 : decode code 836 = .ok (.i2l, 1) := by decide +kernel
theorem d_Law_law_837 : decode code 837 = .ok (.bipush 32, 2) := by decide +kernel
theorem d_Law_law_839 : decode code 839 = .ok (.lshl, 1) := by decide +kernel
theorem d_Law_law_840 : decode code 840 = .ok (.aload_n 0, 1) := by decide +kernel
theorem d_Law_law_841 : decode code 841 = .ok (.iload 4, 2) := by decide +kernel
theorem d_Law_law_843 : decode code 843 = .ok (.iconst 5, 1) := by decide +kernel
theorem d_Law_law_844 : decode code 844 = .ok (.iadd, 1) := by decide +kernel
theorem d_Law_law_845 : decode code 845 = .ok (.iaload, 1) := by decide +kernel
theorem d_Law_law_846 : decode code 846 = .ok (.i2l, 1) := by decide +kernel
theorem d_Law_law_847 : decode code 847 = .ok (.ldc2_w 74, 3) := by decide +kernel
theorem d_Law_law_850 : decode code 850 = .ok (.land, 1) := by decide +kernel
theorem d_Law_law_851 : decode code 851 = .ok (.lor, 1) := by decide +kernel
theorem d_Law_law_852 : decode code 852 = .ok (.aload_n 0, 1) := by decide +kernel
theorem d_Law_law_853 : decode code 853 = .ok (.iload 4, 2) := by decide +kernel
theorem d_Law_law_855 : decode code 855 = .ok (.bipush 6, 2) := by decide +kernel
theorem d_Law_law_857 : decode code 857 = .ok (.iadd, 1) := by decide +kernel
theorem d_Law_law_858 : decode code 858 = .ok (.iaload, 1) := by decide +kernel
theorem d_Law_law_859 : decode code 859 = .ok (.invokevirtual 90, 3) := by decide +kernel
theorem d_Law_law_862 : decode code 862 = .ok (.istore 6, 2) := by decide +kernel
theorem d_Law_law_864 : decode code 864 = .ok (.aload_n 2, 1) := by decide +kernel
theorem d_Law_law_865 : decode code 865 = .ok (.invokevirtual 70, 3) := by decide +kernel
theorem d_Law_law_868 : decode code 868 = .ok (.iload 5, 2) := by decide +kernel
theorem d_Law_law_870 : decode code 870 = .ok (.if_icmp .eq 5, 3) := by decide +kernel
theorem d_Law_law_873 : decode code 873 = .ok (.iconst 0, 1) := by decide +kernel
theorem d_Law_law_874 : decode code 874 = .ok (.ireturn, 1) := by decide +kernel
theorem d_Law_law_875 : decode code 875 = .ok (.iload 5, 2) := by decide +kernel
theorem d_Law_law_877 : decode code 877 = .ok (.ifCond .ne 15, 3) := by decide +kernel
theorem d_Law_law_880 : decode code 880 = .ok (.aload_n 3, 1) := by decide +kernel
theorem d_Law_law_881 : decode code 881 = .ok (.iconst 0, 1) := by decide +kernel
theorem d_Law_law_882 : decode code 882 = .ok (.laload, 1) := by decide +kernel
theorem d_Law_law_883 : decode code 883 = .ok (.iload 6, 2) := by decide +kernel
theorem d_Law_law_885 : decode code 885 = .ok (.i2l, 1) := by decide +kernel
theorem d_Law_law_886 : decode code 886 = .ok (.lcmp, 1) := by decide +kernel
theorem d_Law_law_887 : decode code 887 = .ok (.ifCond .eq 5, 3) := by decide +kernel
theorem d_Law_law_890 : decode code 890 = .ok (.iconst 0, 1) := by decide +kernel
theorem d_Law_law_891 : decode code 891 = .ok (.ireturn, 1) := by decide +kernel
theorem d_Law_law_892 : decode code 892 = .ok (.goto 583, 3) := by decide +kernel
theorem d_Law_law_895 : decode code 895 = .ok (.aload_n 1, 1) := by decide +kernel
theorem d_Law_law_896 : decode code 896 = .ok (.aload_n 0, 1) := by decide +kernel
theorem d_Law_law_897 : decode code 897 = .ok (.iload 4, 2) := by decide +kernel
theorem d_Law_law_899 : decode code 899 = .ok (.iconst 1, 1) := by decide +kernel
theorem d_Law_law_900 : decode code 900 = .ok (.iadd, 1) := by decide +kernel
theorem d_Law_law_901 : decode code 901 = .ok (.iaload, 1) := by decide +kernel
theorem d_Law_law_902 : decode code 902 = .ok (.aload_n 0, 1) := by decide +kernel
theorem d_Law_law_903 : decode code 903 = .ok (.iload 4, 2) := by decide +kernel
theorem d_Law_law_905 : decode code 905 = .ok (.iconst 2, 1) := by decide +kernel
theorem d_Law_law_906 : decode code 906 = .ok (.iadd, 1) := by decide +kernel
theorem d_Law_law_907 : decode code 907 = .ok (.iaload, 1) := by decide +kernel
theorem d_Law_law_908 : decode code 908 = .ok (.aload_n 0, 1) := by decide +kernel
theorem d_Law_law_909 : decode code 909 = .ok (.iload 4, 2) := by decide +kernel
theorem d_Law_law_911 : decode code 911 = .ok (.iconst 3, 1) := by decide +kernel
theorem d_Law_law_912 : decode code 912 = .ok (.iadd, 1) := by decide +kernel
theorem d_Law_law_913 : decode code 913 = .ok (.iaload, 1) := by decide +kernel
theorem d_Law_law_914 : decode code 914 = .ok (.aload_n 3, 1) := by decide +kernel
theorem d_Law_law_915 : decode code 915 = .ok (.invokestatic 91, 3) := by decide +kernel
theorem d_Law_law_918 : decode code 918 = .ok (.istore 5, 2) := by decide +kernel
theorem d_Law_law_920 : decode code 920 = .ok (.aload_n 2, 1) := by decide +kernel
theorem d_Law_law_921 : decode code 921 = .ok (.aload_n 0, 1) := by decide +kernel
theorem d_Law_law_922 : decode code 922 = .ok (.iload 4, 2) := by decide +kernel
theorem d_Law_law_924 : decode code 924 = .ok (.iconst 1, 1) := by decide +kernel
theorem d_Law_law_925 : decode code 925 = .ok (.iadd, 1) := by decide +kernel
theorem d_Law_law_926 : decode code 926 = .ok (.iaload, 1) := by decide +kernel
theorem d_Law_law_927 : decode code 927 = .ok (.aload_n 0, 1) := by decide +kernel
theorem d_Law_law_928 : decode code 928 = .ok (.iload 4, 2) := by decide +kernel
theorem d_Law_law_930 : decode code 930 = .ok (.iconst 2, 1) := by decide +kernel
theorem d_Law_law_931 : decode code 931 = .ok (.iadd, 1) := by decide +kernel
theorem d_Law_law_932 : decode code 932 = .ok (.iaload, 1) := by decide +kernel
theorem d_Law_law_933 : decode code 933 = .ok (.aload_n 0, 1) := by decide +kernel
theorem d_Law_law_934 : decode code 934 = .ok (.iload 4, 2) := by decide +kernel
theorem d_Law_law_936 : decode code 936 = .ok (.iconst 3, 1) := by decide +kernel
theorem d_Law_law_937 : decode code 937 = .ok (.iadd, 1) := by decide +kernel
theorem d_Law_law_938 : decode code 938 = .ok (.iaload, 1) := by decide +kernel
theorem d_Law_law_939 : decode code 939 = .ok (.invokevirtual 94, 3) := by decide +kernel
theorem d_Law_law_942 : decode code 942 = .ok (.istore 6, 2) := by decide +kernel
theorem d_Law_law_944 : decode code 944 = .ok (.aload_n 2, 1) := by decide +kernel
theorem d_Law_law_945 : decode code 945 = .ok (.invokevirtual 70, 3) := by decide +kernel
theorem d_Law_law_948 : decode code 948 = .ok (.iload 5, 2) := by decide +kernel
theorem d_Law_law_950 : decode code 950 = .ok (.if_icmp .eq 5, 3) := by decide +kernel
theorem d_Law_law_953 : decode code 953 = .ok (.iconst 0, 1) := by decide +kernel
theorem d_Law_law_954 : decode code 954 = .ok (.ireturn, 1) := by decide +kernel
theorem d_Law_law_955 : decode code 955 = .ok (.iload 5, 2) := by decide +kernel
theorem d_Law_law_957 : decode code 957 = .ok (.ifCond .ne 22, 3) := by decide +kernel
theorem d_Law_law_960 : decode code 960 = .ok (.aload_n 3, 1) := by decide +kernel
theorem d_Law_law_961 : decode code 961 = .ok (.iconst 0, 1) := by decide +kernel
theorem d_Law_law_962 : decode code 962 = .ok (.laload, 1) := by decide +kernel
theorem d_Law_law_963 : decode code 963 = .ok (.iload 6, 2) := by decide +kernel
theorem d_Law_law_965 : decode code 965 = .ok (.ifCond .eq 7, 3) := by decide +kernel
theorem d_Law_law_968 : decode code 968 = .ok (.lconst 1, 1) := by decide +kernel
theorem d_Law_law_969 : decode code 969 = .ok (.goto 4, 3) := by decide +kernel
theorem d_Law_law_972 : decode code 972 = .ok (.lconst 0, 1) := by decide +kernel
theorem d_Law_law_973 : decode code 973 = .ok (.lcmp, 1) := by decide +kernel
theorem d_Law_law_974 : decode code 974 = .ok (.ifCond .eq 5, 3) := by decide +kernel
theorem d_Law_law_977 : decode code 977 = .ok (.iconst 0, 1) := by decide +kernel
theorem d_Law_law_978 : decode code 978 = .ok (.ireturn, 1) := by decide +kernel
theorem d_Law_law_979 : decode code 979 = .ok (.goto 496, 3) := by decide +kernel
theorem d_Law_law_982 : decode code 982 = .ok (.aload_n 1, 1) := by decide +kernel
theorem d_Law_law_983 : decode code 983 = .ok (.aload_n 0, 1) := by decide +kernel
theorem d_Law_law_984 : decode code 984 = .ok (.iload 4, 2) := by decide +kernel
theorem d_Law_law_986 : decode code 986 = .ok (.iconst 1, 1) := by decide +kernel
theorem d_Law_law_987 : decode code 987 = .ok (.iadd, 1) := by decide +kernel
theorem d_Law_law_988 : decode code 988 = .ok (.iaload, 1) := by decide +kernel
theorem d_Law_law_989 : decode code 989 = .ok (.aload_n 0, 1) := by decide +kernel
theorem d_Law_law_990 : decode code 990 = .ok (.iload 4, 2) := by decide +kernel
theorem d_Law_law_992 : decode code 992 = .ok (.iconst 2, 1) := by decide +kernel
theorem d_Law_law_993 : decode code 993 = .ok (.iadd, 1) := by decide +kernel
theorem d_Law_law_994 : decode code 994 = .ok (.iaload, 1) := by decide +kernel
theorem d_Law_law_995 : decode code 995 = .ok (.aload_n 0, 1) := by decide +kernel
theorem d_Law_law_996 : decode code 996 = .ok (.iload 4, 2) := by decide +kernel
theorem d_Law_law_998 : decode code 998 = .ok (.iconst 3, 1) := by decide +kernel
theorem d_Law_law_999 : decode code 999 = .ok (.iadd, 1) := by decide +kernel
theorem d_Law_law_1000 : decode code 1000 = .ok (.iaload, 1) := by decide +kernel
theorem d_Law_law_1001 : decode code 1001 = .ok (.aload_n 0, 1) := by decide +kernel
theorem d_Law_law_1002 : decode code 1002 = .ok (.iload 4, 2) := by decide +kernel
theorem d_Law_law_1004 : decode code 1004 = .ok (.iconst 4, 1) := by decide +kernel
theorem d_Law_law_1005 : decode code 1005 = .ok (.iadd, 1) := by decide +kernel
theorem d_Law_law_1006 : decode code 1006 = .ok (.iaload, 1) := by decide +kernel
theorem d_Law_law_1007 : decode code 1007 = .ok (.aload_n 3, 1) := by decide +kernel
theorem d_Law_law_1008 : decode code 1008 = .ok (.invokestatic 95, 3) := by decide +kernel
theorem d_Law_law_1011 : decode code 1011 = .ok (.istore 5, 2) := by decide +kernel
theorem d_Law_law_1013 : decode code 1013 = .ok (.aload_n 2, 1) := by decide +kernel
theorem d_Law_law_1014 : decode code 1014 = .ok (.aload_n 0, 1) := by decide +kernel
theorem d_Law_law_1015 : decode code 1015 = .ok (.iload 4, 2) := by decide +kernel
theorem d_Law_law_1017 : decode code 1017 = .ok (.iconst 1, 1) := by decide +kernel
theorem d_Law_law_1018 : decode code 1018 = .ok (.iadd, 1) := by decide +kernel
theorem d_Law_law_1019 : decode code 1019 = .ok (.iaload, 1) := by decide +kernel
theorem d_Law_law_1020 : decode code 1020 = .ok (.aload_n 0, 1) := by decide +kernel
theorem d_Law_law_1021 : decode code 1021 = .ok (.iload 4, 2) := by decide +kernel
theorem d_Law_law_1023 : decode code 1023 = .ok (.iconst 2, 1) := by decide +kernel
theorem d_Law_law_1024 : decode code 1024 = .ok (.iadd, 1) := by decide +kernel
theorem d_Law_law_1025 : decode code 1025 = .ok (.iaload, 1) := by decide +kernel
theorem d_Law_law_1026 : decode code 1026 = .ok (.aload_n 0, 1) := by decide +kernel
theorem d_Law_law_1027 : decode code 1027 = .ok (.iload 4, 2) := by decide +kernel
theorem d_Law_law_1029 : decode code 1029 = .ok (.iconst 3, 1) := by decide +kernel
theorem d_Law_law_1030 : decode code 1030 = .ok (.iadd, 1) := by decide +kernel
theorem d_Law_law_1031 : decode code 1031 = .ok (.iaload, 1) := by decide +kernel
theorem d_Law_law_1032 : decode code 1032 = .ok (.aload_n 0, 1) := by decide +kernel
theorem d_Law_law_1033 : decode code 1033 = .ok (.iload 4, 2) := by decide +kernel
theorem d_Law_law_1035 : decode code 1035 = .ok (.iconst 4, 1) := by decide +kernel
theorem d_Law_law_1036 : decode code 1036 = .ok (.iadd, 1) := by decide +kernel
theorem d_Law_law_1037 : decode code 1037 = .ok (.iaload, 1) := by decide +kernel
theorem d_Law_law_1038 : decode code 1038 = .ok (.invokevirtual 98, 3) := by decide +kernel
theorem d_Law_law_1041 : decode code 1041 = .ok (.istore 6, 2) := by decide +kernel
theorem d_Law_law_1043 : decode code 1043 = .ok (.aload_n 2, 1) := by decide +kernel
theorem d_Law_law_1044 : decode code 1044 = .ok (.invokevirtual 70, 3) := by decide +kernel
theorem d_Law_law_1047 : decode code 1047 = .ok (.iload 5, 2) := by decide +kernel
theorem d_Law_law_1049 : decode code 1049 = .ok (.if_icmp .eq 5, 3) := by decide +kernel
theorem d_Law_law_1052 : decode code 1052 = .ok (.iconst 0, 1) := by decide +kernel
theorem d_Law_law_1053 : decode code 1053 = .ok (.ireturn, 1) := by decide +kernel
theorem d_Law_law_1054 : decode code 1054 = .ok (.iload 5, 2) := by decide +kernel
theorem d_Law_law_1056 : decode code 1056 = .ok (.ifCond .ne 22, 3) := by decide +kernel
theorem d_Law_law_1059 : decode code 1059 = .ok (.aload_n 3, 1) := by decide +kernel
theorem d_Law_law_1060 : decode code 1060 = .ok (.iconst 0, 1) := by decide +kernel
theorem d_Law_law_1061 : decode code 1061 = .ok (.laload, 1) := by decide +kernel
theorem d_Law_law_1062 : decode code 1062 = .ok (.iload 6, 2) := by decide +kernel
theorem d_Law_law_1064 : decode code 1064 = .ok (.ifCond .eq 7, 3) := by decide +kernel
theorem d_Law_law_1067 : decode code 1067 = .ok (.lconst 1, 1) := by decide +kernel
theorem d_Law_law_1068 : decode code 1068 = .ok (.goto 4, 3) := by decide +kernel
theorem d_Law_law_1071 : decode code 1071 = .ok (.lconst 0, 1) := by decide +kernel
theorem d_Law_law_1072 : decode code 1072 = .ok (.lcmp, 1) := by decide +kernel
theorem d_Law_law_1073 : decode code 1073 = .ok (.ifCond .eq 5, 3) := by decide +kernel
theorem d_Law_law_1076 : decode code 1076 = .ok (.iconst 0, 1) := by decide +kernel
theorem d_Law_law_1077 : decode code 1077 = .ok (.ireturn, 1) := by decide +kernel
theorem d_Law_law_1078 : decode code 1078 = .ok (.goto 397, 3) := by decide +kernel
theorem d_Law_law_1081 : decode code 1081 = .ok (.aload_n 1, 1) := by decide +kernel
theorem d_Law_law_1082 : decode code 1082 = .ok (.invokevirtual 99, 3) := by decide +kernel
theorem d_Law_law_1085 : decode code 1085 = .ok (.aload_n 2, 1) := by decide +kernel
theorem d_Law_law_1086 : decode code 1086 = .ok (.invokevirtual 102, 3) := by decide +kernel
theorem d_Law_law_1089 : decode code 1089 = .ok (.if_icmp .eq 386, 3) := by decide +kernel
theorem d_Law_law_1092 : decode code 1092 = .ok (.iconst 0, 1) := by decide +kernel
theorem d_Law_law_1093 : decode code 1093 = .ok (.ireturn, 1) := by decide +kernel
theorem d_Law_law_1094 : decode code 1094 = .ok (.aload_n 1, 1) := by decide +kernel
theorem d_Law_law_1095 : decode code 1095 = .ok (.aload_n 0, 1) := by decide +kernel
theorem d_Law_law_1096 : decode code 1096 = .ok (.iload 4, 2) := by decide +kernel
theorem d_Law_law_1098 : decode code 1098 = .ok (.iconst 1, 1) := by decide +kernel
theorem d_Law_law_1099 : decode code 1099 = .ok (.iadd, 1) := by decide +kernel
theorem d_Law_law_1100 : decode code 1100 = .ok (.iaload, 1) := by decide +kernel
theorem d_Law_law_1101 : decode code 1101 = .ok (.aload_n 0, 1) := by decide +kernel
theorem d_Law_law_1102 : decode code 1102 = .ok (.iload 4, 2) := by decide +kernel
theorem d_Law_law_1104 : decode code 1104 = .ok (.iconst 2, 1) := by decide +kernel
theorem d_Law_law_1105 : decode code 1105 = .ok (.iadd, 1) := by decide +kernel
theorem d_Law_law_1106 : decode code 1106 = .ok (.iaload, 1) := by decide +kernel
theorem d_Law_law_1107 : decode code 1107 = .ok (.aload_n 3, 1) := by decide +kernel
theorem d_Law_law_1108 : decode code 1108 = .ok (.invokestatic 103, 3) := by decide +kernel
theorem d_Law_law_1111 : decode code 1111 = .ok (.istore 5, 2) := by decide +kernel
