theorem dL_law_724 : decode cL_law 724 = .ok (.iload 14, 2) := by decide +kernel
theorem dL_law_726 : decode cL_law 726 = .ok (.iload 15, 2) := by decide +kernel
theorem dL_law_728 : decode cL_law 728 = .ok (.if_icmp .eq 25, 3) := by decide +kernel
theorem dL_law_731 : decode cL_law 731 = .ok (.iload 16, 2) := by decide +kernel
theorem dL_law_733 : decode cL_law 733 = .ok (.iload 12, 2) := by decide +kernel
theorem dL_law_735 : decode cL_law 735 = .ok (.if_icmp .le 18, 3) := by decide +kernel
theorem dL_law_738 : decode cL_law 738 = .ok (.iload 17, 2) := by decide +kernel
theorem dL_law_740 : decode cL_law 740 = .ok (.iconst 1, 1) := by decide +kernel
theorem dL_law_741 : decode cL_law 741 = .ok (.iadd, 1) := by decide +kernel
theorem dL_law_742 : decode cL_law 742 = .ok (.iload 12, 2) := by decide +kernel
theorem dL_law_744 : decode cL_law 744 = .ok (.iadd, 1) := by decide +kernel
theorem dL_law_745 : decode cL_law 745 = .ok (.sipush 999, 3) := by decide +kernel
theorem dL_law_748 : decode cL_law 748 = .ok (.if_icmp .gt 5, 3) := by decide +kernel
theorem dL_law_751 : decode cL_law 751 = .ok (.iconst 0, 1) := by decide +kernel
theorem dL_law_752 : decode cL_law 752 = .ok (.ireturn, 1) := by decide +kernel
theorem dL_law_753 : decode cL_law 753 = .ok (.goto 348, 3) := by decide +kernel
theorem dL_law_756 : decode cL_law 756 = .ok (.iconst 1, 1) := by decide +kernel
theorem dL_law_757 : decode cL_law 757 = .ok (.iload 12, 2) := by decide +kernel
theorem dL_law_759 : decode cL_law 759 = .ok (.bipush 14, 2) := by decide +kernel
theorem dL_law_761 : decode cL_law 761 = .ok (.irem, 1) := by decide +kernel
theorem dL_law_762 : decode cL_law 762 = .ok (.iadd, 1) := by decide +kernel
theorem dL_law_763 : decode cL_law 763 = .ok (.istore 14, 2) := by decide +kernel
theorem dL_law_765 : decode cL_law 765 = .ok (.aload_n 1, 1) := by decide +kernel
theorem dL_law_766 : decode cL_law 766 = .ok (.invokevirtual 167, 3) := by decide +kernel
theorem dL_law_769 : decode cL_law 769 = .ok (.istore 15, 2) := by decide +kernel
theorem dL_law_771 : decode cL_law 771 = .ok (.aload_n 1, 1) := by decide +kernel
theorem dL_law_772 : decode cL_law 772 = .ok (.iload 14, 2) := by decide +kernel
theorem dL_law_774 : decode cL_law 774 = .ok (.invokestatic 171, 3) := by decide +kernel
theorem dL_law_777 : decode cL_law 777 = .ok (.istore 16, 2) := by decide +kernel
theorem dL_law_779 : decode cL_law 779 = .ok (.iconst 0, 1) := by decide +kernel
theorem dL_law_780 : decode cL_law 780 = .ok (.istore 17, 2) := by decide +kernel
theorem dL_law_782 : decode cL_law 782 = .ok (.iconst 0, 1) := by decide +kernel
theorem dL_law_783 : decode cL_law 783 = .ok (.istore 18, 2) := by decide +kernel
theorem dL_law_785 : decode cL_law 785 = .ok (.iload 4, 2) := by decide +kernel
theorem dL_law_787 : decode cL_law 787 = .ok (.iload 14, 2) := by decide +kernel
theorem dL_law_789 : decode cL_law 789 = .ok (.iadd, 1) := by decide +kernel
theorem dL_law_790 : decode cL_law 790 = .ok (.sipush 600, 3) := by decide +kernel
theorem dL_law_793 : decode cL_law 793 = .ok (.if_icmp .le 23, 3) := by decide +kernel
theorem dL_law_796 : decode cL_law 796 = .ok (.iload 16, 2) := by decide +kernel
theorem dL_law_798 : decode cL_law 798 = .ok (.ldc 63, 2) := by decide +kernel
theorem dL_law_800 : decode cL_law 800 = .ok (.if_icmp .ne 14, 3) := by decide +kernel
theorem dL_law_803 : decode cL_law 803 = .ok (.aload_n 2, 1) := by decide +kernel
theorem dL_law_804 : decode cL_law 804 = .ok (.iload 14, 2) := by decide +kernel
theorem dL_law_806 : decode cL_law 806 = .ok (.invokestatic 171, 3) := by decide +kernel
theorem dL_law_809 : decode cL_law 809 = .ok (.ldc 63, 2) := by decide +kernel
theorem dL_law_811 : decode cL_law 811 = .ok (.if_icmp .eq 368, 3) := by decide +kernel
theorem dL_law_814 : decode cL_law 814 = .ok (.iconst 0, 1) := by decide +kernel
theorem dL_law_815 : decode cL_law 815 = .ok (.ireturn, 1) := by decide +kernel
theorem dL_law_816 : decode cL_law 816 = .ok (.iconst 0, 1) := by decide +kernel
theorem dL_law_817 : decode cL_law 817 = .ok (.istore 19, 2) := by decide +kernel
theorem dL_law_819 : decode cL_law 819 = .ok (.iload 19, 2) := by decide +kernel
theorem dL_law_821 : decode cL_law 821 = .ok (.iload_n 3, 1) := by decide +kernel
theorem dL_law_822 : decode cL_law 822 = .ok (.if_icmp .ge 20, 3) := by decide +kernel
theorem dL_law_825 : decode cL_law 825 = .ok (.iload 18, 2) := by decide +kernel
theorem dL_law_827 : decode cL_law 827 = .ok (.aload_n 2, 1) := by decide +kernel
theorem dL_law_828 : decode cL_law 828 = .ok (.iload 19, 2) := by decide +kernel
theorem dL_law_830 : decode cL_law 830 = .ok (.invokestatic 131, 3) := by decide +kernel
theorem dL_law_833 : decode cL_law 833 = .ok (.iadd, 1) := by decide +kernel
theorem dL_law_834 : decode cL_law 834 = .ok (.istore 18, 2) := by decide +kernel
theorem dL_law_836 : decode cL_law 836 = .ok (.iinc 19 1, 3) := by decide +kernel
theorem dL_law_839 : decode cL_law 839 = .ok (.goto (-20), 3) := by decide +kernel
theorem dL_law_842 : decode cL_law 842 = .ok (.iconst 0, 1) := by decide +kernel
theorem dL_law_843 : decode cL_law 843 = .ok (.istore 19, 2) := by decide +kernel
theorem dL_law_845 : decode cL_law 845 = .ok (.iload 19, 2) := by decide +kernel
theorem dL_law_847 : decode cL_law 847 = .ok (.iload 14, 2) := by decide +kernel
theorem dL_law_849 : decode cL_law 849 = .ok (.if_icmp .ge 31, 3) := by decide +kernel
theorem dL_law_852 : decode cL_law 852 = .ok (.iload 16, 2) := by decide +kernel
theorem dL_law_854 : decode cL_law 854 = .ok (.ifCond .le 26, 3) := by decide +kernel
theorem dL_law_857 : decode cL_law 857 = .ok (.aload_n 2, 1) := by decide +kernel
theorem dL_law_858 : decode cL_law 858 = .ok (.iconst 1, 1) := by decide +kernel
theorem dL_law_859 : decode cL_law 859 = .ok (.invokestatic 171, 3) := by decide +kernel
theorem dL_law_862 : decode cL_law 862 = .ok (.iload 4, 2) := by decide +kernel
theorem dL_law_864 : decode cL_law 864 = .ok (.iload 19, 2) := by decide +kernel
theorem dL_law_866 : decode cL_law 866 = .ok (.iadd, 1) := by decide +kernel
theorem dL_law_867 : decode cL_law 867 = .ok (.iconst 1, 1) := by decide +kernel
theorem dL_law_868 : decode cL_law 868 = .ok (.iadd, 1) := by decide +kernel
theorem dL_law_869 : decode cL_law 869 = .ok (.if_icmp .eq 5, 3) := by decide +kernel
theorem dL_law_872 : decode cL_law 872 = .ok (.iconst 0, 1) := by decide +kernel
theorem dL_law_873 : decode cL_law 873 = .ok (.ireturn, 1) := by decide +kernel
theorem dL_law_874 : decode cL_law 874 = .ok (.iinc 19 1, 3) := by decide +kernel
theorem dL_law_877 : decode cL_law 877 = .ok (.goto (-32), 3) := by decide +kernel
theorem dL_law_880 : decode cL_law 880 = .ok (.iload 16, 2) := by decide +kernel
theorem dL_law_882 : decode cL_law 882 = .ok (.iload 4, 2) := by decide +kernel
theorem dL_law_884 : decode cL_law 884 = .ok (.iload 14, 2) := by decide +kernel
theorem dL_law_886 : decode cL_law 886 = .ok (.iadd, 1) := by decide +kernel
theorem dL_law_887 : decode cL_law 887 = .ok (.if_icmp .ne 35, 3) := by decide +kernel
theorem dL_law_890 : decode cL_law 890 = .ok (.aload_n 1, 1) := by decide +kernel
theorem dL_law_891 : decode cL_law 891 = .ok (.invokevirtual 173, 3) := by decide +kernel
theorem dL_law_894 : decode cL_law 894 = .ok (.aload_n 2, 1) := by decide +kernel
theorem dL_law_895 : decode cL_law 895 = .ok (.invokevirtual 173, 3) := by decide +kernel
theorem dL_law_898 : decode cL_law 898 = .ok (.lcmp, 1) := by decide +kernel
theorem dL_law_899 : decode cL_law 899 = .ok (.ifCond .ne 23, 3) := by decide +kernel
theorem dL_law_902 : decode cL_law 902 = .ok (.aload_n 1, 1) := by decide +kernel
theorem dL_law_903 : decode cL_law 903 = .ok (.invokevirtual 167, 3) := by decide +kernel
theorem dL_law_906 : decode cL_law 906 = .ok (.aload_n 2, 1) := by decide +kernel
theorem dL_law_907 : decode cL_law 907 = .ok (.invokevirtual 167, 3) := by decide +kernel
theorem dL_law_910 : decode cL_law 910 = .ok (.if_icmp .ne 12, 3) := by decide +kernel
theorem dL_law_913 : decode cL_law 913 = .ok (.aload_n 1, 1) := by decide +kernel
theorem dL_law_914 : decode cL_law 914 = .ok (.invokevirtual 167, 3) := by decide +kernel
theorem dL_law_917 : decode cL_law 917 = .ok (.iload 15, 2) := by decide +kernel
theorem dL_law_919 : decode cL_law 919 = .ok (.if_icmp .ge 5, 3) := by decide +kernel
theorem dL_law_922 : decode cL_law 922 = .ok (.iconst 0, 1) := by decide +kernel
theorem dL_law_923 : decode cL_law 923 = .ok (.ireturn, 1) := by decide +kernel
theorem dL_law_924 : decode cL_law 924 = .ok (.iload 4, 2) := by decide +kernel
theorem dL_law_926 : decode cL_law 926 = .ok (.iload 14, 2) := by decide +kernel
theorem dL_law_928 : decode cL_law 928 = .ok (.iadd, 1) := by decide +kernel
theorem dL_law_929 : decode cL_law 929 = .ok (.istore 4, 2) := by decide +kernel
theorem dL_law_931 : decode cL_law 931 = .ok (.iconst 0, 1) := by decide +kernel
theorem dL_law_932 : decode cL_law 932 = .ok (.istore 19, 2) := by decide +kernel
theorem dL_law_934 : decode cL_law 934 = .ok (.iload 19, 2) := by decide +kernel
theorem dL_law_936 : decode cL_law 936 = .ok (.iload_n 3, 1) := by decide +kernel
theorem dL_law_937 : decode cL_law 937 = .ok (.if_icmp .ge 79, 3) := by decide +kernel
theorem dL_law_940 : decode cL_law 940 = .ok (.iload 17, 2) := by decide +kernel
theorem dL_law_942 : decode cL_law 942 = .ok (.aload_n 1, 1) := by decide +kernel
theorem dL_law_943 : decode cL_law 943 = .ok (.iload 19, 2) := by decide +kernel
theorem dL_law_945 : decode cL_law 945 = .ok (.invokestatic 131, 3) := by decide +kernel
theorem dL_law_948 : decode cL_law 948 = .ok (.iadd, 1) := by decide +kernel
theorem dL_law_949 : decode cL_law 949 = .ok (.istore 17, 2) := by decide +kernel
theorem dL_law_951 : decode cL_law 951 = .ok (.iload 4, 2) := by decide +kernel
theorem dL_law_953 : decode cL_law 953 = .ok (.bipush 12, 2) := by decide +kernel
theorem dL_law_955 : decode cL_law 955 = .ok (.irem, 1) := by decide +kernel
theorem dL_law_956 : decode cL_law 956 = .ok (.ifCond .ne 21, 3) := by decide +kernel
theorem dL_law_959 : decode cL_law 959 = .ok (.aload_n 1, 1) := by decide +kernel
theorem dL_law_960 : decode cL_law 960 = .ok (.iload 19, 2) := by decide +kernel
theorem dL_law_962 : decode cL_law 962 = .ok (.invokestatic 133, 3) := by decide +kernel
theorem dL_law_965 : decode cL_law 965 = .ok (.ifCond .ne 43, 3) := by decide +kernel
theorem dL_law_968 : decode cL_law 968 = .ok (.aload_n 1, 1) := by decide +kernel
theorem dL_law_969 : decode cL_law 969 = .ok (.iload 19, 2) := by decide +kernel
theorem dL_law_971 : decode cL_law 971 = .ok (.invokestatic 129, 3) := by decide +kernel
theorem dL_law_974 : decode cL_law 974 = .ok (.ifCond .ne 34, 3) := by decide +kernel
theorem dL_law_977 : decode cL_law 977 = .ok (.aload_n 1, 1) := by decide +kernel
theorem dL_law_978 : decode cL_law 978 = .ok (.iload 19, 2) := by decide +kernel
theorem dL_law_980 : decode cL_law 980 = .ok (.invokestatic 126, 3) := by decide +kernel
theorem dL_law_983 : decode cL_law 983 = .ok (.aload_n 2, 1) := by decide +kernel
theorem dL_law_984 : decode cL_law 984 = .ok (.iload 19, 2) := by decide +kernel
theorem dL_law_986 : decode cL_law 986 = .ok (.invokestatic 126, 3) := by decide +kernel
theorem dL_law_989 : decode cL_law 989 = .ok (.lcmp, 1) := by decide +kernel
theorem dL_law_990 : decode cL_law 990 = .ok (.ifCond .ne 18, 3) := by decide +kernel
theorem dL_law_993 : decode cL_law 993 = .ok (.aload_n 1, 1) := by decide +kernel
theorem dL_law_994 : decode cL_law 994 = .ok (.iload 19, 2) := by decide +kernel
theorem dL_law_996 : decode cL_law 996 = .ok (.invokestatic 131, 3) := by decide +kernel
theorem dL_law_999 : decode cL_law 999 = .ok (.aload_n 2, 1) := by decide +kernel
theorem dL_law_1000 : decode cL_law 1000 = .ok (.iload 19, 2) := by decide +kernel
theorem dL_law_1002 : decode cL_law 1002 = .ok (.invokestatic 131, 3) := by decide +kernel
theorem dL_law_1005 : decode cL_law 1005 = .ok (.if_icmp .eq 5, 3) := by decide +kernel
theorem dL_law_1008 : decode cL_law 1008 = .ok (.iconst 0, 1) := by decide +kernel
theorem dL_law_1009 : decode cL_law 1009 = .ok (.ireturn, 1) := by decide +kernel
theorem dL_law_1010 : decode cL_law 1010 = .ok (.iinc 19 1, 3) := by decide +kernel
theorem dL_law_1013 : decode cL_law 1013 = .ok (.goto (-79), 3) := by decide +kernel
theorem dL_law_1016 : decode cL_law 1016 = .ok (.iload 17, 2) := by decide +kernel
theorem dL_law_1018 : decode cL_law 1018 = .ok (.iload 18, 2) := by decide +kernel
theorem dL_law_1020 : decode cL_law 1020 = .ok (.if_icmp .gt 10, 3) := by decide +kernel
theorem dL_law_1023 : decode cL_law 1023 = .ok (.iload 17, 2) := by decide +kernel
theorem dL_law_1025 : decode cL_law 1025 = .ok (.iload 5, 2) := by decide +kernel
theorem dL_law_1027 : decode cL_law 1027 = .ok (.if_icmp .le 5, 3) := by decide +kernel
theorem dL_law_1030 : decode cL_law 1030 = .ok (.iconst 0, 1) := by decide +kernel
theorem dL_law_1031 : decode cL_law 1031 = .ok (.ireturn, 1) := by decide +kernel
theorem dL_law_1032 : decode cL_law 1032 = .ok (.iload 15, 2) := by decide +kernel
theorem dL_law_1034 : decode cL_law 1034 = .ok (.istore 19, 2) := by decide +kernel
theorem dL_law_1036 : decode cL_law 1036 = .ok (.iload 19, 2) := by decide +kernel
theorem dL_law_1038 : decode cL_law 1038 = .ok (.aload_n 1, 1) := by decide +kernel
theorem dL_law_1039 : decode cL_law 1039 = .ok (.invokevirtual 167, 3) := by decide +kernel
theorem dL_law_1042 : decode cL_law 1042 = .ok (.if_icmp .ge 59, 3) := by decide +kernel
theorem dL_law_1045 : decode cL_law 1045 = .ok (.aload_n 1, 1) := by decide +kernel
theorem dL_law_1046 : decode cL_law 1046 = .ok (.iload 19, 2) := by decide +kernel
theorem dL_law_1048 : decode cL_law 1048 = .ok (.invokestatic 177, 3) := by decide +kernel
theorem dL_law_1051 : decode cL_law 1051 = .ok (.aload_n 2, 1) := by decide +kernel
theorem dL_law_1052 : decode cL_law 1052 = .ok (.iload 19, 2) := by decide +kernel
theorem dL_law_1054 : decode cL_law 1054 = .ok (.invokestatic 177, 3) := by decide +kernel
theorem dL_law_1057 : decode cL_law 1057 = .ok (.if_icmp .ne 36, 3) := by decide +kernel
theorem dL_law_1060 : decode cL_law 1060 = .ok (.aload_n 1, 1) := by decide +kernel
theorem dL_law_1061 : decode cL_law 1061 = .ok (.iload 19, 2) := by decide +kernel
theorem dL_law_1063 : decode cL_law 1063 = .ok (.invokestatic 177, 3) := by decide +kernel
theorem dL_law_1066 : decode cL_law 1066 = .ok (.bipush 99, 2) := by decide +kernel
theorem dL_law_1068 : decode cL_law 1068 = .ok (.if_icmp .eq 27, 3) := by decide +kernel
theorem dL_law_1071 : decode cL_law 1071 = .ok (.aload_n 1, 1) := by decide +kernel
theorem dL_law_1072 : decode cL_law 1072 = .ok (.iload 19, 2) := by decide +kernel
theorem dL_law_1074 : decode cL_law 1074 = .ok (.invokestatic 177, 3) := by decide +kernel
theorem dL_law_1077 : decode cL_law 1077 = .ok (.bipush 100, 2) := by decide +kernel
theorem dL_law_1079 : decode cL_law 1079 = .ok (.if_icmp .eq 16, 3) := by decide +kernel
theorem dL_law_1082 : decode cL_law 1082 = .ok (.aload_n 1, 1) := by decide +kernel
theorem dL_law_1083 : decode cL_law 1083 = .ok (.iload 19, 2) := by decide +kernel
theorem dL_law_1085 : decode cL_law 1085 = .ok (.invokestatic 177, 3) := by decide +kernel
theorem dL_law_1088 : decode cL_law 1088 = .ok (.bipush 102, 2) := by decide +kernel
theorem dL_law_1090 : decode cL_law 1090 = .ok (.if_icmp .eq 5, 3) := by decide +kernel
theorem dL_law_1093 : decode cL_law 1093 = .ok (.iconst 0, 1) := by decide +kernel
theorem dL_law_1094 : decode cL_law 1094 = .ok (.ireturn, 1) := by decide +kernel
theorem dL_law_1095 : decode cL_law 1095 = .ok (.iinc 19 1, 3) := by decide +kernel
theorem dL_law_1098 : decode cL_law 1098 = .ok (.goto (-62), 3) := by decide +kernel
theorem dL_law_1101 : decode cL_law 1101 = .ok (.aload_n 1, 1) := by decide +kernel
theorem dL_law_1102 : decode cL_law 1102 = .ok (.iload_n 3, 1) := by decide +kernel
theorem dL_law_1103 : decode cL_law 1103 = .ok (.invokestatic 179, 3) := by decide +kernel
theorem dL_law_1106 : decode cL_law 1106 = .ok (.ifCond .ne 5, 3) := by decide +kernel
theorem dL_law_1109 : decode cL_law 1109 = .ok (.iconst 0, 1) := by decide +kernel
theorem dL_law_1110 : decode cL_law 1110 = .ok (.ireturn, 1) := by decide +kernel
theorem dL_law_1111 : decode cL_law 1111 = .ok (.iconst 1, 1) := by decide +kernel
theorem dL_law_1112 : decode cL_law 1112 = .ok (.istore 14, 2) := by decide +kernel
theorem dL_law_1114 : decode cL_law 1114 = .ok (.iload 14, 2) := by decide +kernel
theorem dL_law_1116 : decode cL_law 1116 = .ok (.iload_n 3, 1) := by decide +kernel
theorem dL_law_1117 : decode cL_law 1117 = .ok (.if_icmp .ge 62, 3) := by decide +kernel
theorem dL_law_1120 : decode cL_law 1120 = .ok (.aload_n 1, 1) := by decide +kernel
theorem dL_law_1121 : decode cL_law 1121 = .ok (.iload 14, 2) := by decide +kernel
theorem dL_law_1123 : decode cL_law 1123 = .ok (.iconst 1, 1) := by decide +kernel
theorem dL_law_1124 : decode cL_law 1124 = .ok (.isub, 1) := by decide +kernel
theorem dL_law_1125 : decode cL_law 1125 = .ok (.invokestatic 124, 3) := by decide +kernel
theorem dL_law_1128 : decode cL_law 1128 = .ok (.istore 15, 2) := by decide +kernel
theorem dL_law_1130 : decode cL_law 1130 = .ok (.aload_n 1, 1) := by decide +kernel
theorem dL_law_1131 : decode cL_law 1131 = .ok (.iload 14, 2) := by decide +kernel
theorem dL_law_1133 : decode cL_law 1133 = .ok (.invokestatic 124, 3) := by decide +kernel
theorem dL_law_1136 : decode cL_law 1136 = .ok (.istore 16, 2) := by decide +kernel
theorem dL_law_1138 : decode cL_law 1138 = .ok (.aload 6, 2) := by decide +kernel
theorem dL_law_1140 : decode cL_law 1140 = .ok (.iload 15, 2) := by decide +kernel
theorem dL_law_1142 : decode cL_law 1142 = .ok (.iaload, 1) := by decide +kernel
theorem dL_law_1143 : decode cL_law 1143 = .ok (.aload 6, 2) := by decide +kernel
theorem dL_law_1145 : decode cL_law 1145 = .ok (.iload 16, 2) := by decide +kernel
theorem dL_law_1147 : decode cL_law 1147 = .ok (.iaload, 1) := by decide +kernel
theorem dL_law_1148 : decode cL_law 1148 = .ok (.if_icmp .gt 23, 3) := by decide +kernel
theorem dL_law_1151 : decode cL_law 1151 = .ok (.aload 6, 2) := by decide +kernel
theorem dL_law_1153 : decode cL_law 1153 = .ok (.iload 15, 2) := by decide +kernel
theorem dL_law_1155 : decode cL_law 1155 = .ok (.iaload, 1) := by decide +kernel
theorem dL_law_1156 : decode cL_law 1156 = .ok (.aload 6, 2) := by decide +kernel
theorem dL_law_1158 : decode cL_law 1158 = .ok (.iload 16, 2) := by decide +kernel
theorem dL_law_1160 : decode cL_law 1160 = .ok (.iaload, 1) := by decide +kernel
theorem dL_law_1161 : decode cL_law 1161 = .ok (.if_icmp .ne 12, 3) := by decide +kernel
theorem dL_law_1164 : decode cL_law 1164 = .ok (.iload 15, 2) := by decide +kernel
theorem dL_law_1166 : decode cL_law 1166 = .ok (.iload 16, 2) := by decide +kernel
theorem dL_law_1168 : decode cL_law 1168 = .ok (.if_icmp .le 5, 3) := by decide +kernel
theorem dL_law_1171 : decode cL_law 1171 = .ok (.iconst 0, 1) := by decide +kernel
theorem dL_law_1172 : decode cL_law 1172 = .ok (.ireturn, 1) := by decide +kernel
theorem dL_law_1173 : decode cL_law 1173 = .ok (.iinc 14 1, 3) := by decide +kernel
theorem dL_law_1176 : decode cL_law 1176 = .ok (.goto (-62), 3) := by decide +kernel
theorem dL_law_1179 : decode cL_law 1179 = .ok (.iinc 7 1, 3) := by decide +kernel
theorem dL_law_1182 : decode cL_law 1182 = .ok (.goto (-1149), 3) := by decide +kernel
theorem dL_law_1185 : decode cL_law 1185 = .ok (.iload_n 3, 1) := by decide +kernel
theorem dL_law_1186 : decode cL_law 1186 = .ok (.iconst 1, 1) := by decide +kernel
theorem dL_law_1187 : decode cL_law 1187 = .ok (.if_icmp .le 61, 3) := by decide +kernel
theorem dL_law_1190 : decode cL_law 1190 = .ok (.aload_n 1, 1) := by decide +kernel
theorem dL_law_1191 : decode cL_law 1191 = .ok (.invokevirtual 173, 3) := by decide +kernel
theorem dL_law_1194 : decode cL_law 1194 = .ok (.lstore 7, 2) := by decide +kernel
theorem dL_law_1196 : decode cL_law 1196 = .ok (.aload_n 1, 1) := by decide +kernel
theorem dL_law_1197 : decode cL_law 1197 = .ok (.iconst 0, 1) := by decide +kernel
theorem dL_law_1198 : decode cL_law 1198 = .ok (.iconst 1, 1) := by decide +kernel
theorem dL_law_1199 : decode cL_law 1199 = .ok (.invokestatic 183, 3) := by decide +kernel
theorem dL_law_1202 : decode cL_law 1202 = .ok (.lstore 9, 2) := by decide +kernel
theorem dL_law_1204 : decode cL_law 1204 = .ok (.lload 9, 2) := by decide +kernel
theorem dL_law_1206 : decode cL_law 1206 = .ok (.lconst 0, 1) := by decide +kernel
theorem dL_law_1207 : decode cL_law 1207 = .ok (.lcmp, 1) := by decide +kernel
theorem dL_law_1208 : decode cL_law 1208 = .ok (.ifCond .lt 38, 3) := by decide +kernel
theorem dL_law_1211 : decode cL_law 1211 = .ok (.aload_n 1, 1) := by decide +kernel
theorem dL_law_1212 : decode cL_law 1212 = .ok (.invokevirtual 173, 3) := by decide +kernel
theorem dL_law_1215 : decode cL_law 1215 = .ok (.lload 7, 2) := by decide +kernel
theorem dL_law_1217 : decode cL_law 1217 = .ok (.lcmp, 1) := by decide +kernel
theorem dL_law_1218 : decode cL_law 1218 = .ok (.ifCond .ne 28, 3) := by decide +kernel
theorem dL_law_1221 : decode cL_law 1221 = .ok (.aload_n 1, 1) := by decide +kernel
theorem dL_law_1222 : decode cL_law 1222 = .ok (.iconst 0, 1) := by decide +kernel
theorem dL_law_1223 : decode cL_law 1223 = .ok (.iconst 1, 1) := by decide +kernel
theorem dL_law_1224 : decode cL_law 1224 = .ok (.invokestatic 183, 3) := by decide +kernel
theorem dL_law_1227 : decode cL_law 1227 = .ok (.lload 9, 2) := by decide +kernel
theorem dL_law_1229 : decode cL_law 1229 = .ok (.lcmp, 1) := by decide +kernel
theorem dL_law_1230 : decode cL_law 1230 = .ok (.ifCond .ne 16, 3) := by decide +kernel
theorem dL_law_1233 : decode cL_law 1233 = .ok (.aload_n 1, 1) := by decide +kernel
theorem dL_law_1234 : decode cL_law 1234 = .ok (.iconst 0, 1) := by decide +kernel
theorem dL_law_1235 : decode cL_law 1235 = .ok (.iload_n 3, 1) := by decide +kernel
theorem dL_law_1236 : decode cL_law 1236 = .ok (.invokestatic 183, 3) := by decide +kernel
theorem dL_law_1239 : decode cL_law 1239 = .ok (.ldc2_w 83, 3) := by decide +kernel
theorem dL_law_1242 : decode cL_law 1242 = .ok (.lcmp, 1) := by decide +kernel
theorem dL_law_1243 : decode cL_law 1243 = .ok (.ifCond .eq 5, 3) := by decide +kernel
theorem dL_law_1246 : decode cL_law 1246 = .ok (.iconst 0, 1) := by decide +kernel
theorem dL_law_1247 : decode cL_law 1247 = .ok (.ireturn, 1) := by decide +kernel
theorem dL_law_1248 : decode cL_law 1248 = .ok (.new 14, 3) := by decide +kernel
theorem dL_law_1251 : decode cL_law 1251 = .ok (.dup, 1) := by decide +kernel
theorem dL_law_1252 : decode cL_law 1252 = .ok (.invokespecial 135, 3) := by decide +kernel
theorem dL_law_1255 : decode cL_law 1255 = .ok (.astore 7, 2) := by decide +kernel
theorem dL_law_1257 : decode cL_law 1257 = .ok (.aload_n 0, 1) := by decide +kernel
theorem dL_law_1258 : decode cL_law 1258 = .ok (.sipush 300, 3) := by decide +kernel
theorem dL_law_1261 : decode cL_law 1261 = .ok (.sipush 400, 3) := by decide +kernel
theorem dL_law_1264 : decode cL_law 1264 = .ok (.invokestatic 136, 3) := by decide +kernel
theorem dL_law_1267 : decode cL_law 1267 = .ok (.istore 8, 2) := by decide +kernel
theorem dL_law_1269 : decode cL_law 1269 = .ok (.aload_n 0, 1) := by decide +kernel
theorem dL_law_1270 : decode cL_law 1270 = .ok (.sipush 301, 3) := by decide +kernel
theorem dL_law_1273 : decode cL_law 1273 = .ok (.bipush 100, 2) := by decide +kernel
theorem dL_law_1275 : decode cL_law 1275 = .ok (.invokestatic 136, 3) := by decide +kernel
theorem dL_law_1278 : decode cL_law 1278 = .ok (.istore 9, 2) := by decide +kernel
theorem dL_law_1280 : decode cL_law 1280 = .ok (.aload_n 0, 1) := by decide +kernel
theorem dL_law_1281 : decode cL_law 1281 = .ok (.sipush 302, 3) := by decide +kernel
theorem dL_law_1284 : decode cL_law 1284 = .ok (.bipush 100, 2) := by decide +kernel
theorem dL_law_1286 : decode cL_law 1286 = .ok (.invokestatic 136, 3) := by decide +kernel
theorem dL_law_1289 : decode cL_law 1289 = .ok (.istore 10, 2) := by decide +kernel
theorem dL_law_1291 : decode cL_law 1291 = .ok (.aload 7, 2) := by decide +kernel
theorem dL_law_1293 : decode cL_law 1293 = .ok (.iconst 5, 1) := by decide +kernel
theorem dL_law_1294 : decode cL_law 1294 = .ok (.iconst 0, 1) := by decide +kernel
theorem dL_law_1295 : decode cL_law 1295 = .ok (.bipush 50, 2) := by decide +kernel
theorem dL_law_1297 : decode cL_law 1297 = .ok (.iload 8, 2) := by decide +kernel
theorem dL_law_1299 : decode cL_law 1299 = .ok (.invokestatic 140, 3) := by decide +kernel
theorem dL_law_1302 : decode cL_law 1302 = .ok (.ifCond .ne 75, 3) := by decide +kernel
theorem dL_law_1305 : decode cL_law 1305 = .ok (.aload 7, 2) := by decide +kernel
theorem dL_law_1307 : decode cL_law 1307 = .ok (.iconst 0, 1) := by decide +kernel
theorem dL_law_1308 : decode cL_law 1308 = .ok (.iconst 0, 1) := by decide +kernel
theorem dL_law_1309 : decode cL_law 1309 = .ok (.invokestatic 148, 3) := by decide +kernel
theorem dL_law_1312 : decode cL_law 1312 = .ok (.iconst 4, 1) := by decide +kernel
theorem dL_law_1313 : decode cL_law 1313 = .ok (.if_icmp .ne 64, 3) := by decide +kernel
theorem dL_law_1316 : decode cL_law 1316 = .ok (.aload 7, 2) := by decide +kernel
theorem dL_law_1318 : decode cL_law 1318 = .ok (.iconst 5, 1) := by decide +kernel
theorem dL_law_1319 : decode cL_law 1319 = .ok (.bipush 10, 2) := by decide +kernel
theorem dL_law_1321 : decode cL_law 1321 = .ok (.sipush 500, 3) := by decide +kernel
theorem dL_law_1324 : decode cL_law 1324 = .ok (.invokestatic 161, 3) := by decide +kernel
theorem dL_law_1327 : decode cL_law 1327 = .ok (.ifCond .ne 50, 3) := by decide +kernel
theorem dL_law_1330 : decode cL_law 1330 = .ok (.aload 7, 2) := by decide +kernel
theorem dL_law_1332 : decode cL_law 1332 = .ok (.iconst 5, 1) := by decide +kernel
theorem dL_law_1333 : decode cL_law 1333 = .ok (.bipush 20, 2) := by decide +kernel
theorem dL_law_1335 : decode cL_law 1335 = .ok (.sipush 500, 3) := by decide +kernel
theorem dL_law_1338 : decode cL_law 1338 = .ok (.invokestatic 161, 3) := by decide +kernel
theorem dL_law_1341 : decode cL_law 1341 = .ok (.iconst 1, 1) := by decide +kernel
theorem dL_law_1342 : decode cL_law 1342 = .ok (.if_icmp .ne 35, 3) := by decide +kernel
theorem dL_law_1345 : decode cL_law 1345 = .ok (.aload 7, 2) := by decide +kernel
theorem dL_law_1347 : decode cL_law 1347 = .ok (.iconst 0, 1) := by decide +kernel
theorem dL_law_1348 : decode cL_law 1348 = .ok (.iload 9, 2) := by decide +kernel
theorem dL_law_1350 : decode cL_law 1350 = .ok (.invokestatic 163, 3) := by decide +kernel
theorem dL_law_1353 : decode cL_law 1353 = .ok (.ifCond .ne 24, 3) := by decide +kernel
theorem dL_law_1356 : decode cL_law 1356 = .ok (.aload 7, 2) := by decide +kernel
theorem dL_law_1358 : decode cL_law 1358 = .ok (.iconst 1, 1) := by decide +kernel
theorem dL_law_1359 : decode cL_law 1359 = .ok (.iload 10, 2) := by decide +kernel
theorem dL_law_1361 : decode cL_law 1361 = .ok (.invokestatic 163, 3) := by decide +kernel
theorem dL_law_1364 : decode cL_law 1364 = .ok (.ifCond .ne 13, 3) := by decide +kernel
theorem dL_law_1367 : decode cL_law 1367 = .ok (.aload 7, 2) := by decide +kernel
theorem dL_law_1369 : decode cL_law 1369 = .ok (.iconst 1, 1) := by decide +kernel
theorem dL_law_1370 : decode cL_law 1370 = .ok (.invokestatic 171, 3) := by decide +kernel
theorem dL_law_1373 : decode cL_law 1373 = .ok (.iconst 1, 1) := by decide +kernel
theorem dL_law_1374 : decode cL_law 1374 = .ok (.if_icmp .eq 5, 3) := by decide +kernel
theorem dL_law_1377 : decode cL_law 1377 = .ok (.iconst 0, 1) := by decide +kernel
theorem dL_law_1378 : decode cL_law 1378 = .ok (.ireturn, 1) := by decide +kernel
theorem dL_law_1379 : decode cL_law 1379 = .ok (.aload 7, 2) := by decide +kernel
theorem dL_law_1381 : decode cL_law 1381 = .ok (.iconst 0, 1) := by decide +kernel
theorem dL_law_1382 : decode cL_law 1382 = .ok (.invokestatic 126, 3) := by decide +kernel
theorem dL_law_1385 : decode cL_law 1385 = .ok (.iload 9, 2) := by decide +kernel
theorem dL_law_1387 : decode cL_law 1387 = .ok (.iload 8, 2) := by decide +kernel
theorem dL_law_1389 : decode cL_law 1389 = .ok (.invokestatic 186, 3) := by decide +kernel
theorem dL_law_1392 : decode cL_law 1392 = .ok (.i2l, 1) := by decide +kernel
theorem dL_law_1393 : decode cL_law 1393 = .ok (.lcmp, 1) := by decide +kernel
theorem dL_law_1394 : decode cL_law 1394 = .ok (.ifCond .ne 71, 3) := by decide +kernel
theorem dL_law_1397 : decode cL_law 1397 = .ok (.aload 7, 2) := by decide +kernel
theorem dL_law_1399 : decode cL_law 1399 = .ok (.iconst 1, 1) := by decide +kernel
theorem dL_law_1400 : decode cL_law 1400 = .ok (.invokestatic 126, 3) := by decide +kernel
theorem dL_law_1403 : decode cL_law 1403 = .ok (.iload 9, 2) := by decide +kernel
theorem dL_law_1405 : decode cL_law 1405 = .ok (.iload 8, 2) := by decide +kernel
theorem dL_law_1407 : decode cL_law 1407 = .ok (.if_icmp .le 7, 3) := by decide +kernel
theorem dL_law_1410 : decode cL_law 1410 = .ok (.iconst 0, 1) := by decide +kernel
theorem dL_law_1411 : decode cL_law 1411 = .ok (.goto 13, 3) := by decide +kernel
theorem dL_law_1414 : decode cL_law 1414 = .ok (.iload 10, 2) := by decide +kernel
theorem dL_law_1416 : decode cL_law 1416 = .ok (.iload 8, 2) := by decide +kernel
theorem dL_law_1418 : decode cL_law 1418 = .ok (.iload 9, 2) := by decide +kernel
theorem dL_law_1420 : decode cL_law 1420 = .ok (.isub, 1) := by decide +kernel
theorem dL_law_1421 : decode cL_law 1421 = .ok (.invokestatic 186, 3) := by decide +kernel
theorem dL_law_1424 : decode cL_law 1424 = .ok (.i2l, 1) := by decide +kernel
theorem dL_law_1425 : decode cL_law 1425 = .ok (.lcmp, 1) := by decide +kernel
theorem dL_law_1426 : decode cL_law 1426 = .ok (.ifCond .ne 39, 3) := by decide +kernel
theorem dL_law_1429 : decode cL_law 1429 = .ok (.aload 7, 2) := by decide +kernel
theorem dL_law_1431 : decode cL_law 1431 = .ok (.iconst 1, 1) := by decide +kernel
theorem dL_law_1432 : decode cL_law 1432 = .ok (.iconst 0, 1) := by decide +kernel
theorem dL_law_1433 : decode cL_law 1433 = .ok (.invokestatic 183, 3) := by decide +kernel
theorem dL_law_1436 : decode cL_law 1436 = .ok (.iload 10, 2) := by decide +kernel
theorem dL_law_1438 : decode cL_law 1438 = .ok (.iload 8, 2) := by decide +kernel
theorem dL_law_1440 : decode cL_law 1440 = .ok (.invokestatic 186, 3) := by decide +kernel
theorem dL_law_1443 : decode cL_law 1443 = .ok (.i2l, 1) := by decide +kernel
theorem dL_law_1444 : decode cL_law 1444 = .ok (.lcmp, 1) := by decide +kernel
theorem dL_law_1445 : decode cL_law 1445 = .ok (.ifCond .ne 20, 3) := by decide +kernel
theorem dL_law_1448 : decode cL_law 1448 = .ok (.aload 7, 2) := by decide +kernel
theorem dL_law_1450 : decode cL_law 1450 = .ok (.iconst 0, 1) := by decide +kernel
theorem dL_law_1451 : decode cL_law 1451 = .ok (.iconst 1, 1) := by decide +kernel
theorem dL_law_1452 : decode cL_law 1452 = .ok (.invokestatic 183, 3) := by decide +kernel
theorem dL_law_1455 : decode cL_law 1455 = .ok (.aload 7, 2) := by decide +kernel
theorem dL_law_1457 : decode cL_law 1457 = .ok (.iconst 0, 1) := by decide +kernel
theorem dL_law_1458 : decode cL_law 1458 = .ok (.invokestatic 126, 3) := by decide +kernel
theorem dL_law_1461 : decode cL_law 1461 = .ok (.lcmp, 1) := by decide +kernel
theorem dL_law_1462 : decode cL_law 1462 = .ok (.ifCond .eq 5, 3) := by decide +kernel
theorem dL_law_1465 : decode cL_law 1465 = .ok (.iconst 0, 1) := by decide +kernel
theorem dL_law_1466 : decode cL_law 1466 = .ok (.ireturn, 1) := by decide +kernel
theorem dL_law_1467 : decode cL_law 1467 = .ok (.aload_n 1, 1) := by decide +kernel
theorem dL_law_1468 : decode cL_law 1468 = .ok (.invokevirtual 191, 3) := by decide +kernel
theorem dL_law_1471 : decode cL_law 1471 = .ok (.ifCond .eq 26, 3) := by decide +kernel
theorem dL_law_1474 : decode cL_law 1474 = .ok (.aload 7, 2) := by decide +kernel
theorem dL_law_1476 : decode cL_law 1476 = .ok (.invokevirtual 191, 3) := by decide +kernel
theorem dL_law_1479 : decode cL_law 1479 = .ok (.ifCond .eq 18, 3) := by decide +kernel
theorem dL_law_1482 : decode cL_law 1482 = .ok (.aload_n 1, 1) := by decide +kernel
theorem dL_law_1483 : decode cL_law 1483 = .ok (.bipush 16, 2) := by decide +kernel
theorem dL_law_1485 : decode cL_law 1485 = .ok (.invokestatic 116, 3) := by decide +kernel
theorem dL_law_1488 : decode cL_law 1488 = .ok (.ldc 21, 2) := by decide +kernel
theorem dL_law_1490 : decode cL_law 1490 = .ok (.if_icmp .ne 7, 3) := by decide +kernel
theorem dL_law_1493 : decode cL_law 1493 = .ok (.iconst 1, 1) := by decide +kernel
theorem dL_law_1494 : decode cL_law 1494 = .ok (.goto 4, 3) := by decide +kernel
theorem dL_law_1497 : decode cL_law 1497 = .ok (.iconst 0, 1) := by decide +kernel
theorem dL_law_1498 : decode cL_law 1498 = .ok (.ireturn, 1) := by decide +kernel
