/-! The law's instructions, 2 (written by law99h.py) -/
theorem dL_law_801 : decode cL_law 801 = .ok (.iload 28, 2) := by decide +kernel
theorem dL_law_803 : decode cL_law 803 = .ok (.aload 10, 2) := by decide +kernel
theorem dL_law_805 : decode cL_law 805 = .ok (.iload 26, 2) := by decide +kernel
theorem dL_law_807 : decode cL_law 807 = .ok (.aaload, 1) := by decide +kernel
theorem dL_law_808 : decode cL_law 808 = .ok (.iconst 3, 1) := by decide +kernel
theorem dL_law_809 : decode cL_law 809 = .ok (.iaload, 1) := by decide +kernel
theorem dL_law_810 : decode cL_law 810 = .ok (.if_icmp .gt 61, 3) := by decide +kernel
theorem dL_law_813 : decode cL_law 813 = .ok (.iload 27, 2) := by decide +kernel
theorem dL_law_815 : decode cL_law 815 = .ok (.ifCond .ge 13, 3) := by decide +kernel
theorem dL_law_818 : decode cL_law 818 = .ok (.iload 28, 2) := by decide +kernel
theorem dL_law_820 : decode cL_law 820 = .ok (.ifCond .gt 51, 3) := by decide +kernel
theorem dL_law_823 : decode cL_law 823 = .ok (.iload 29, 2) := by decide +kernel
theorem dL_law_825 : decode cL_law 825 = .ok (.ifCond .gt 46, 3) := by decide +kernel
theorem dL_law_828 : decode cL_law 828 = .ok (.iload 29, 2) := by decide +kernel
theorem dL_law_830 : decode cL_law 830 = .ok (.ifCond .lt 41, 3) := by decide +kernel
theorem dL_law_833 : decode cL_law 833 = .ok (.iload 29, 2) := by decide +kernel
theorem dL_law_835 : decode cL_law 835 = .ok (.iconst 1, 1) := by decide +kernel
theorem dL_law_836 : decode cL_law 836 = .ok (.if_icmp .gt 35, 3) := by decide +kernel
theorem dL_law_839 : decode cL_law 839 = .ok (.aload_n 3, 1) := by decide +kernel
theorem dL_law_840 : decode cL_law 840 = .ok (.iload 26, 2) := by decide +kernel
theorem dL_law_842 : decode cL_law 842 = .ok (.iconst 0, 1) := by decide +kernel
theorem dL_law_843 : decode cL_law 843 = .ok (.invokevirtual 206, 3) := by decide +kernel
theorem dL_law_846 : decode cL_law 846 = .ok (.aload 10, 2) := by decide +kernel
theorem dL_law_848 : decode cL_law 848 = .ok (.iload 26, 2) := by decide +kernel
theorem dL_law_850 : decode cL_law 850 = .ok (.aaload, 1) := by decide +kernel
theorem dL_law_851 : decode cL_law 851 = .ok (.iconst 0, 1) := by decide +kernel
theorem dL_law_852 : decode cL_law 852 = .ok (.iaload, 1) := by decide +kernel
theorem dL_law_853 : decode cL_law 853 = .ok (.iload 29, 2) := by decide +kernel
theorem dL_law_855 : decode cL_law 855 = .ok (.iadd, 1) := by decide +kernel
theorem dL_law_856 : decode cL_law 856 = .ok (.if_icmp .ne 15, 3) := by decide +kernel
theorem dL_law_859 : decode cL_law 859 = .ok (.aload_n 3, 1) := by decide +kernel
theorem dL_law_860 : decode cL_law 860 = .ok (.iload 26, 2) := by decide +kernel
theorem dL_law_862 : decode cL_law 862 = .ok (.iconst 0, 1) := by decide +kernel
theorem dL_law_863 : decode cL_law 863 = .ok (.invokevirtual 206, 3) := by decide +kernel
theorem dL_law_866 : decode cL_law 866 = .ok (.bipush 6, 2) := by decide +kernel
theorem dL_law_868 : decode cL_law 868 = .ok (.if_icmp .le 5, 3) := by decide +kernel
theorem dL_law_871 : decode cL_law 871 = .ok (.iconst 0, 1) := by decide +kernel
theorem dL_law_872 : decode cL_law 872 = .ok (.ireturn, 1) := by decide +kernel
theorem dL_law_873 : decode cL_law 873 = .ok (.iconst 4, 1) := by decide +kernel
theorem dL_law_874 : decode cL_law 874 = .ok (.newarray .int, 2) := by decide +kernel
theorem dL_law_876 : decode cL_law 876 = .ok (.dup, 1) := by decide +kernel
theorem dL_law_877 : decode cL_law 877 = .ok (.iconst 0, 1) := by decide +kernel
theorem dL_law_878 : decode cL_law 878 = .ok (.iconst 1, 1) := by decide +kernel
theorem dL_law_879 : decode cL_law 879 = .ok (.iastore, 1) := by decide +kernel
theorem dL_law_880 : decode cL_law 880 = .ok (.dup, 1) := by decide +kernel
theorem dL_law_881 : decode cL_law 881 = .ok (.iconst 1, 1) := by decide +kernel
theorem dL_law_882 : decode cL_law 882 = .ok (.iconst 2, 1) := by decide +kernel
theorem dL_law_883 : decode cL_law 883 = .ok (.iastore, 1) := by decide +kernel
theorem dL_law_884 : decode cL_law 884 = .ok (.dup, 1) := by decide +kernel
theorem dL_law_885 : decode cL_law 885 = .ok (.iconst 2, 1) := by decide +kernel
theorem dL_law_886 : decode cL_law 886 = .ok (.iconst 3, 1) := by decide +kernel
theorem dL_law_887 : decode cL_law 887 = .ok (.iastore, 1) := by decide +kernel
theorem dL_law_888 : decode cL_law 888 = .ok (.dup, 1) := by decide +kernel
theorem dL_law_889 : decode cL_law 889 = .ok (.iconst 3, 1) := by decide +kernel
theorem dL_law_890 : decode cL_law 890 = .ok (.bipush 8, 2) := by decide +kernel
theorem dL_law_892 : decode cL_law 892 = .ok (.iastore, 1) := by decide +kernel
theorem dL_law_893 : decode cL_law 893 = .ok (.astore 30, 2) := by decide +kernel
theorem dL_law_895 : decode cL_law 895 = .ok (.aload 30, 2) := by decide +kernel
theorem dL_law_897 : decode cL_law 897 = .ok (.arraylength, 1) := by decide +kernel
theorem dL_law_898 : decode cL_law 898 = .ok (.istore 31, 2) := by decide +kernel
theorem dL_law_900 : decode cL_law 900 = .ok (.iconst 0, 1) := by decide +kernel
theorem dL_law_901 : decode cL_law 901 = .ok (.istore 32, 2) := by decide +kernel
theorem dL_law_903 : decode cL_law 903 = .ok (.iload 32, 2) := by decide +kernel
theorem dL_law_905 : decode cL_law 905 = .ok (.iload 31, 2) := by decide +kernel
theorem dL_law_907 : decode cL_law 907 = .ok (.if_icmp .ge 37, 3) := by decide +kernel
theorem dL_law_910 : decode cL_law 910 = .ok (.aload 30, 2) := by decide +kernel
theorem dL_law_912 : decode cL_law 912 = .ok (.iload 32, 2) := by decide +kernel
theorem dL_law_914 : decode cL_law 914 = .ok (.iaload, 1) := by decide +kernel
theorem dL_law_915 : decode cL_law 915 = .ok (.istore 33, 2) := by decide +kernel
theorem dL_law_917 : decode cL_law 917 = .ok (.aload_n 3, 1) := by decide +kernel
theorem dL_law_918 : decode cL_law 918 = .ok (.iload 26, 2) := by decide +kernel
theorem dL_law_920 : decode cL_law 920 = .ok (.iload 33, 2) := by decide +kernel
theorem dL_law_922 : decode cL_law 922 = .ok (.invokevirtual 206, 3) := by decide +kernel
theorem dL_law_925 : decode cL_law 925 = .ok (.aload 10, 2) := by decide +kernel
theorem dL_law_927 : decode cL_law 927 = .ok (.iload 26, 2) := by decide +kernel
theorem dL_law_929 : decode cL_law 929 = .ok (.aaload, 1) := by decide +kernel
theorem dL_law_930 : decode cL_law 930 = .ok (.iload 33, 2) := by decide +kernel
theorem dL_law_932 : decode cL_law 932 = .ok (.iaload, 1) := by decide +kernel
theorem dL_law_933 : decode cL_law 933 = .ok (.if_icmp .eq 5, 3) := by decide +kernel
theorem dL_law_936 : decode cL_law 936 = .ok (.iconst 0, 1) := by decide +kernel
theorem dL_law_937 : decode cL_law 937 = .ok (.ireturn, 1) := by decide +kernel
theorem dL_law_938 : decode cL_law 938 = .ok (.iinc 32 1, 3) := by decide +kernel
theorem dL_law_941 : decode cL_law 941 = .ok (.goto (-38), 3) := by decide +kernel
theorem dL_law_944 : decode cL_law 944 = .ok (.iconst 0, 1) := by decide +kernel
theorem dL_law_945 : decode cL_law 945 = .ok (.istore 30, 2) := by decide +kernel
theorem dL_law_947 : decode cL_law 947 = .ok (.iconst 0, 1) := by decide +kernel
theorem dL_law_948 : decode cL_law 948 = .ok (.istore 31, 2) := by decide +kernel
theorem dL_law_950 : decode cL_law 950 = .ok (.iload 31, 2) := by decide +kernel
theorem dL_law_952 : decode cL_law 952 = .ok (.iload 5, 2) := by decide +kernel
theorem dL_law_954 : decode cL_law 954 = .ok (.if_icmp .ge 22, 3) := by decide +kernel
theorem dL_law_957 : decode cL_law 957 = .ok (.iload 30, 2) := by decide +kernel
theorem dL_law_959 : decode cL_law 959 = .ok (.aload_n 3, 1) := by decide +kernel
theorem dL_law_960 : decode cL_law 960 = .ok (.iload 31, 2) := by decide +kernel
theorem dL_law_962 : decode cL_law 962 = .ok (.iload 26, 2) := by decide +kernel
theorem dL_law_964 : decode cL_law 964 = .ok (.invokevirtual 245, 3) := by decide +kernel
theorem dL_law_967 : decode cL_law 967 = .ok (.iadd, 1) := by decide +kernel
theorem dL_law_968 : decode cL_law 968 = .ok (.istore 30, 2) := by decide +kernel
theorem dL_law_970 : decode cL_law 970 = .ok (.iinc 31 1, 3) := by decide +kernel
theorem dL_law_973 : decode cL_law 973 = .ok (.goto (-23), 3) := by decide +kernel
theorem dL_law_976 : decode cL_law 976 = .ok (.iload 30, 2) := by decide +kernel
theorem dL_law_978 : decode cL_law 978 = .ok (.aload_n 3, 1) := by decide +kernel
theorem dL_law_979 : decode cL_law 979 = .ok (.iload 26, 2) := by decide +kernel
theorem dL_law_981 : decode cL_law 981 = .ok (.bipush 9, 2) := by decide +kernel
theorem dL_law_983 : decode cL_law 983 = .ok (.invokevirtual 206, 3) := by decide +kernel
theorem dL_law_986 : decode cL_law 986 = .ok (.if_icmp .eq 5, 3) := by decide +kernel
theorem dL_law_989 : decode cL_law 989 = .ok (.iconst 0, 1) := by decide +kernel
theorem dL_law_990 : decode cL_law 990 = .ok (.ireturn, 1) := by decide +kernel
theorem dL_law_991 : decode cL_law 991 = .ok (.iinc 26 1, 3) := by decide +kernel
theorem dL_law_994 : decode cL_law 994 = .ok (.goto (-314), 3) := by decide +kernel
theorem dL_law_997 : decode cL_law 997 = .ok (.iload 25, 2) := by decide +kernel
theorem dL_law_999 : decode cL_law 999 = .ok (.iload 23, 2) := by decide +kernel
theorem dL_law_1001 : decode cL_law 1001 = .ok (.if_icmp .eq 5, 3) := by decide +kernel
theorem dL_law_1004 : decode cL_law 1004 = .ok (.iconst 0, 1) := by decide +kernel
theorem dL_law_1005 : decode cL_law 1005 = .ok (.ireturn, 1) := by decide +kernel
theorem dL_law_1006 : decode cL_law 1006 = .ok (.iconst 0, 1) := by decide +kernel
theorem dL_law_1007 : decode cL_law 1007 = .ok (.istore 26, 2) := by decide +kernel
theorem dL_law_1009 : decode cL_law 1009 = .ok (.iload 26, 2) := by decide +kernel
theorem dL_law_1011 : decode cL_law 1011 = .ok (.iload 5, 2) := by decide +kernel
theorem dL_law_1013 : decode cL_law 1013 = .ok (.if_icmp .ge 259, 3) := by decide +kernel
theorem dL_law_1016 : decode cL_law 1016 = .ok (.aload_n 3, 1) := by decide +kernel
theorem dL_law_1017 : decode cL_law 1017 = .ok (.iload 26, 2) := by decide +kernel
theorem dL_law_1019 : decode cL_law 1019 = .ok (.bipush 8, 2) := by decide +kernel
theorem dL_law_1021 : decode cL_law 1021 = .ok (.invokevirtual 213, 3) := by decide +kernel
theorem dL_law_1024 : decode cL_law 1024 = .ok (.aload 11, 2) := by decide +kernel
theorem dL_law_1026 : decode cL_law 1026 = .ok (.iload 26, 2) := by decide +kernel
theorem dL_law_1028 : decode cL_law 1028 = .ok (.aaload, 1) := by decide +kernel
theorem dL_law_1029 : decode cL_law 1029 = .ok (.bipush 8, 2) := by decide +kernel
theorem dL_law_1031 : decode cL_law 1031 = .ok (.iaload, 1) := by decide +kernel
theorem dL_law_1032 : decode cL_law 1032 = .ok (.isub, 1) := by decide +kernel
theorem dL_law_1033 : decode cL_law 1033 = .ok (.istore 27, 2) := by decide +kernel
theorem dL_law_1035 : decode cL_law 1035 = .ok (.aload 11, 2) := by decide +kernel
theorem dL_law_1037 : decode cL_law 1037 = .ok (.iload 26, 2) := by decide +kernel
theorem dL_law_1039 : decode cL_law 1039 = .ok (.aaload, 1) := by decide +kernel
theorem dL_law_1040 : decode cL_law 1040 = .ok (.iconst 0, 1) := by decide +kernel
theorem dL_law_1041 : decode cL_law 1041 = .ok (.iaload, 1) := by decide +kernel
theorem dL_law_1042 : decode cL_law 1042 = .ok (.iload 27, 2) := by decide +kernel
theorem dL_law_1044 : decode cL_law 1044 = .ok (.isub, 1) := by decide +kernel
theorem dL_law_1045 : decode cL_law 1045 = .ok (.istore 28, 2) := by decide +kernel
theorem dL_law_1047 : decode cL_law 1047 = .ok (.aload_n 3, 1) := by decide +kernel
theorem dL_law_1048 : decode cL_law 1048 = .ok (.iload 26, 2) := by decide +kernel
theorem dL_law_1050 : decode cL_law 1050 = .ok (.bipush 7, 2) := by decide +kernel
theorem dL_law_1052 : decode cL_law 1052 = .ok (.invokevirtual 213, 3) := by decide +kernel
theorem dL_law_1055 : decode cL_law 1055 = .ok (.aload 24, 2) := by decide +kernel
theorem dL_law_1057 : decode cL_law 1057 = .ok (.iload 26, 2) := by decide +kernel
theorem dL_law_1059 : decode cL_law 1059 = .ok (.iaload, 1) := by decide +kernel
theorem dL_law_1060 : decode cL_law 1060 = .ok (.if_icmp .ne 96, 3) := by decide +kernel
theorem dL_law_1063 : decode cL_law 1063 = .ok (.aload 24, 2) := by decide +kernel
theorem dL_law_1065 : decode cL_law 1065 = .ok (.iload 26, 2) := by decide +kernel
theorem dL_law_1067 : decode cL_law 1067 = .ok (.iaload, 1) := by decide +kernel
theorem dL_law_1068 : decode cL_law 1068 = .ok (.aload 11, 2) := by decide +kernel
theorem dL_law_1070 : decode cL_law 1070 = .ok (.iload 26, 2) := by decide +kernel
theorem dL_law_1072 : decode cL_law 1072 = .ok (.aaload, 1) := by decide +kernel
theorem dL_law_1073 : decode cL_law 1073 = .ok (.bipush 6, 2) := by decide +kernel
theorem dL_law_1075 : decode cL_law 1075 = .ok (.iaload, 1) := by decide +kernel
theorem dL_law_1076 : decode cL_law 1076 = .ok (.if_icmp .gt 80, 3) := by decide +kernel
theorem dL_law_1079 : decode cL_law 1079 = .ok (.aload_n 3, 1) := by decide +kernel
theorem dL_law_1080 : decode cL_law 1080 = .ok (.iload 26, 2) := by decide +kernel
theorem dL_law_1082 : decode cL_law 1082 = .ok (.bipush 6, 2) := by decide +kernel
theorem dL_law_1084 : decode cL_law 1084 = .ok (.invokevirtual 213, 3) := by decide +kernel
theorem dL_law_1087 : decode cL_law 1087 = .ok (.aload 11, 2) := by decide +kernel
theorem dL_law_1089 : decode cL_law 1089 = .ok (.iload 26, 2) := by decide +kernel
theorem dL_law_1091 : decode cL_law 1091 = .ok (.aaload, 1) := by decide +kernel
theorem dL_law_1092 : decode cL_law 1092 = .ok (.bipush 6, 2) := by decide +kernel
theorem dL_law_1094 : decode cL_law 1094 = .ok (.iaload, 1) := by decide +kernel
theorem dL_law_1095 : decode cL_law 1095 = .ok (.if_icmp .ne 61, 3) := by decide +kernel
theorem dL_law_1098 : decode cL_law 1098 = .ok (.iload 27, 2) := by decide +kernel
theorem dL_law_1100 : decode cL_law 1100 = .ok (.ifCond .lt 56, 3) := by decide +kernel
theorem dL_law_1103 : decode cL_law 1103 = .ok (.iload 28, 2) := by decide +kernel
theorem dL_law_1105 : decode cL_law 1105 = .ok (.ifCond .lt 51, 3) := by decide +kernel
theorem dL_law_1108 : decode cL_law 1108 = .ok (.aload_n 3, 1) := by decide +kernel
theorem dL_law_1109 : decode cL_law 1109 = .ok (.iload 26, 2) := by decide +kernel
theorem dL_law_1111 : decode cL_law 1111 = .ok (.iconst 0, 1) := by decide +kernel
theorem dL_law_1112 : decode cL_law 1112 = .ok (.invokevirtual 213, 3) := by decide +kernel
theorem dL_law_1115 : decode cL_law 1115 = .ok (.iload 28, 2) := by decide +kernel
theorem dL_law_1117 : decode cL_law 1117 = .ok (.iload 28, 2) := by decide +kernel
theorem dL_law_1119 : decode cL_law 1119 = .ok (.bipush 6, 2) := by decide +kernel
theorem dL_law_1121 : decode cL_law 1121 = .ok (.idiv, 1) := by decide +kernel
theorem dL_law_1122 : decode cL_law 1122 = .ok (.iadd, 1) := by decide +kernel
theorem dL_law_1123 : decode cL_law 1123 = .ok (.if_icmp .gt 33, 3) := by decide +kernel
theorem dL_law_1126 : decode cL_law 1126 = .ok (.aload_n 3, 1) := by decide +kernel
theorem dL_law_1127 : decode cL_law 1127 = .ok (.iload 26, 2) := by decide +kernel
theorem dL_law_1129 : decode cL_law 1129 = .ok (.iconst 0, 1) := by decide +kernel
theorem dL_law_1130 : decode cL_law 1130 = .ok (.invokevirtual 213, 3) := by decide +kernel
theorem dL_law_1133 : decode cL_law 1133 = .ok (.iload 28, 2) := by decide +kernel
theorem dL_law_1135 : decode cL_law 1135 = .ok (.bipush 99, 2) := by decide +kernel
theorem dL_law_1137 : decode cL_law 1137 = .ok (.isub, 1) := by decide +kernel
theorem dL_law_1138 : decode cL_law 1138 = .ok (.if_icmp .lt 18, 3) := by decide +kernel
theorem dL_law_1141 : decode cL_law 1141 = .ok (.iload 28, 2) := by decide +kernel
theorem dL_law_1143 : decode cL_law 1143 = .ok (.ifCond .ne 15, 3) := by decide +kernel
theorem dL_law_1146 : decode cL_law 1146 = .ok (.aload_n 3, 1) := by decide +kernel
theorem dL_law_1147 : decode cL_law 1147 = .ok (.iload 26, 2) := by decide +kernel
theorem dL_law_1149 : decode cL_law 1149 = .ok (.iconst 0, 1) := by decide +kernel
theorem dL_law_1150 : decode cL_law 1150 = .ok (.invokevirtual 213, 3) := by decide +kernel
theorem dL_law_1153 : decode cL_law 1153 = .ok (.ifCond .eq 5, 3) := by decide +kernel
theorem dL_law_1156 : decode cL_law 1156 = .ok (.iconst 0, 1) := by decide +kernel
theorem dL_law_1157 : decode cL_law 1157 = .ok (.ireturn, 1) := by decide +kernel
theorem dL_law_1158 : decode cL_law 1158 = .ok (.iconst 0, 1) := by decide +kernel
theorem dL_law_1159 : decode cL_law 1159 = .ok (.istore 29, 2) := by decide +kernel
theorem dL_law_1161 : decode cL_law 1161 = .ok (.iconst 1, 1) := by decide +kernel
theorem dL_law_1162 : decode cL_law 1162 = .ok (.istore 30, 2) := by decide +kernel
theorem dL_law_1164 : decode cL_law 1164 = .ok (.iload 30, 2) := by decide +kernel
theorem dL_law_1166 : decode cL_law 1166 = .ok (.bipush 6, 2) := by decide +kernel
theorem dL_law_1168 : decode cL_law 1168 = .ok (.if_icmp .ge 48, 3) := by decide +kernel
theorem dL_law_1171 : decode cL_law 1171 = .ok (.iload 29, 2) := by decide +kernel
theorem dL_law_1173 : decode cL_law 1173 = .ok (.aload_n 3, 1) := by decide +kernel
theorem dL_law_1174 : decode cL_law 1174 = .ok (.iload 26, 2) := by decide +kernel
theorem dL_law_1176 : decode cL_law 1176 = .ok (.iload 30, 2) := by decide +kernel
theorem dL_law_1178 : decode cL_law 1178 = .ok (.invokevirtual 213, 3) := by decide +kernel
theorem dL_law_1181 : decode cL_law 1181 = .ok (.iadd, 1) := by decide +kernel
theorem dL_law_1182 : decode cL_law 1182 = .ok (.istore 29, 2) := by decide +kernel
theorem dL_law_1184 : decode cL_law 1184 = .ok (.aload_n 3, 1) := by decide +kernel
theorem dL_law_1185 : decode cL_law 1185 = .ok (.iload 26, 2) := by decide +kernel
theorem dL_law_1187 : decode cL_law 1187 = .ok (.iload 30, 2) := by decide +kernel
theorem dL_law_1189 : decode cL_law 1189 = .ok (.invokevirtual 213, 3) := by decide +kernel
theorem dL_law_1192 : decode cL_law 1192 = .ok (.ifCond .lt 16, 3) := by decide +kernel
theorem dL_law_1195 : decode cL_law 1195 = .ok (.aload_n 3, 1) := by decide +kernel
theorem dL_law_1196 : decode cL_law 1196 = .ok (.iload 26, 2) := by decide +kernel
theorem dL_law_1198 : decode cL_law 1198 = .ok (.iload 30, 2) := by decide +kernel
theorem dL_law_1200 : decode cL_law 1200 = .ok (.invokevirtual 213, 3) := by decide +kernel
theorem dL_law_1203 : decode cL_law 1203 = .ok (.bipush 99, 2) := by decide +kernel
theorem dL_law_1205 : decode cL_law 1205 = .ok (.if_icmp .le 5, 3) := by decide +kernel
theorem dL_law_1208 : decode cL_law 1208 = .ok (.iconst 0, 1) := by decide +kernel
theorem dL_law_1209 : decode cL_law 1209 = .ok (.ireturn, 1) := by decide +kernel
theorem dL_law_1210 : decode cL_law 1210 = .ok (.iinc 30 1, 3) := by decide +kernel
theorem dL_law_1213 : decode cL_law 1213 = .ok (.goto (-49), 3) := by decide +kernel
theorem dL_law_1216 : decode cL_law 1216 = .ok (.iload 29, 2) := by decide +kernel
theorem dL_law_1218 : decode cL_law 1218 = .ok (.aload_n 3, 1) := by decide +kernel
theorem dL_law_1219 : decode cL_law 1219 = .ok (.iload 26, 2) := by decide +kernel
theorem dL_law_1221 : decode cL_law 1221 = .ok (.iconst 0, 1) := by decide +kernel
theorem dL_law_1222 : decode cL_law 1222 = .ok (.invokevirtual 213, 3) := by decide +kernel
theorem dL_law_1225 : decode cL_law 1225 = .ok (.if_icmp .ne 39, 3) := by decide +kernel
theorem dL_law_1228 : decode cL_law 1228 = .ok (.iload 26, 2) := by decide +kernel
theorem dL_law_1230 : decode cL_law 1230 = .ok (.iload 19, 2) := by decide +kernel
theorem dL_law_1232 : decode cL_law 1232 = .ok (.if_icmp .ne 34, 3) := by decide +kernel
theorem dL_law_1235 : decode cL_law 1235 = .ok (.iload 20, 2) := by decide +kernel
theorem dL_law_1237 : decode cL_law 1237 = .ok (.ifCond .le 29, 3) := by decide +kernel
theorem dL_law_1240 : decode cL_law 1240 = .ok (.iload 20, 2) := by decide +kernel
theorem dL_law_1242 : decode cL_law 1242 = .ok (.iconst 1, 1) := by decide +kernel
theorem dL_law_1243 : decode cL_law 1243 = .ok (.if_icmp .ne 7, 3) := by decide +kernel
theorem dL_law_1246 : decode cL_law 1246 = .ok (.iconst 1, 1) := by decide +kernel
theorem dL_law_1247 : decode cL_law 1247 = .ok (.goto 4, 3) := by decide +kernel
theorem dL_law_1250 : decode cL_law 1250 = .ok (.iconst 0, 1) := by decide +kernel
theorem dL_law_1251 : decode cL_law 1251 = .ok (.iload 29, 2) := by decide +kernel
theorem dL_law_1253 : decode cL_law 1253 = .ok (.ifCond .ne 7, 3) := by decide +kernel
theorem dL_law_1256 : decode cL_law 1256 = .ok (.iconst 1, 1) := by decide +kernel
theorem dL_law_1257 : decode cL_law 1257 = .ok (.goto 4, 3) := by decide +kernel
theorem dL_law_1260 : decode cL_law 1260 = .ok (.iconst 0, 1) := by decide +kernel
theorem dL_law_1261 : decode cL_law 1261 = .ok (.if_icmp .eq 5, 3) := by decide +kernel
theorem dL_law_1264 : decode cL_law 1264 = .ok (.iconst 0, 1) := by decide +kernel
theorem dL_law_1265 : decode cL_law 1265 = .ok (.ireturn, 1) := by decide +kernel
theorem dL_law_1266 : decode cL_law 1266 = .ok (.iinc 26 1, 3) := by decide +kernel
theorem dL_law_1269 : decode cL_law 1269 = .ok (.goto (-260), 3) := by decide +kernel
theorem dL_law_1272 : decode cL_law 1272 = .ok (.iconst 0, 1) := by decide +kernel
theorem dL_law_1273 : decode cL_law 1273 = .ok (.istore 26, 2) := by decide +kernel
theorem dL_law_1275 : decode cL_law 1275 = .ok (.iconst 0, 1) := by decide +kernel
theorem dL_law_1276 : decode cL_law 1276 = .ok (.istore 27, 2) := by decide +kernel
theorem dL_law_1278 : decode cL_law 1278 = .ok (.iload 27, 2) := by decide +kernel
theorem dL_law_1280 : decode cL_law 1280 = .ok (.iload 6, 2) := by decide +kernel
theorem dL_law_1282 : decode cL_law 1282 = .ok (.if_icmp .ge 221, 3) := by decide +kernel
theorem dL_law_1285 : decode cL_law 1285 = .ok (.iconst 0, 1) := by decide +kernel
theorem dL_law_1286 : decode cL_law 1286 = .ok (.istore 28, 2) := by decide +kernel
theorem dL_law_1288 : decode cL_law 1288 = .ok (.aload_n 2, 1) := by decide +kernel
theorem dL_law_1289 : decode cL_law 1289 = .ok (.getfield 181, 3) := by decide +kernel
theorem dL_law_1292 : decode cL_law 1292 = .ok (.iload 27, 2) := by decide +kernel
theorem dL_law_1294 : decode cL_law 1294 = .ok (.aaload, 1) := by decide +kernel
theorem dL_law_1295 : decode cL_law 1295 = .ok (.astore 29, 2) := by decide +kernel
theorem dL_law_1297 : decode cL_law 1297 = .ok (.aload 29, 2) := by decide +kernel
theorem dL_law_1299 : decode cL_law 1299 = .ok (.arraylength, 1) := by decide +kernel
theorem dL_law_1300 : decode cL_law 1300 = .ok (.istore 30, 2) := by decide +kernel
theorem dL_law_1302 : decode cL_law 1302 = .ok (.iconst 0, 1) := by decide +kernel
theorem dL_law_1303 : decode cL_law 1303 = .ok (.istore 31, 2) := by decide +kernel
theorem dL_law_1305 : decode cL_law 1305 = .ok (.iload 31, 2) := by decide +kernel
theorem dL_law_1307 : decode cL_law 1307 = .ok (.iload 30, 2) := by decide +kernel
theorem dL_law_1309 : decode cL_law 1309 = .ok (.if_icmp .ge 38, 3) := by decide +kernel
theorem dL_law_1312 : decode cL_law 1312 = .ok (.aload 29, 2) := by decide +kernel
theorem dL_law_1314 : decode cL_law 1314 = .ok (.iload 31, 2) := by decide +kernel
theorem dL_law_1316 : decode cL_law 1316 = .ok (.iaload, 1) := by decide +kernel
theorem dL_law_1317 : decode cL_law 1317 = .ok (.istore 32, 2) := by decide +kernel
theorem dL_law_1319 : decode cL_law 1319 = .ok (.iload 28, 2) := by decide +kernel
theorem dL_law_1321 : decode cL_law 1321 = .ok (.aload 10, 2) := by decide +kernel
theorem dL_law_1323 : decode cL_law 1323 = .ok (.iload 32, 2) := by decide +kernel
theorem dL_law_1325 : decode cL_law 1325 = .ok (.aaload, 1) := by decide +kernel
theorem dL_law_1326 : decode cL_law 1326 = .ok (.bipush 8, 2) := by decide +kernel
theorem dL_law_1328 : decode cL_law 1328 = .ok (.iaload, 1) := by decide +kernel
theorem dL_law_1329 : decode cL_law 1329 = .ok (.iconst 1, 1) := by decide +kernel
theorem dL_law_1330 : decode cL_law 1330 = .ok (.if_icmp .ne 7, 3) := by decide +kernel
theorem dL_law_1333 : decode cL_law 1333 = .ok (.iconst 1, 1) := by decide +kernel
theorem dL_law_1334 : decode cL_law 1334 = .ok (.goto 4, 3) := by decide +kernel
theorem dL_law_1337 : decode cL_law 1337 = .ok (.iconst 0, 1) := by decide +kernel
theorem dL_law_1338 : decode cL_law 1338 = .ok (.ior, 1) := by decide +kernel
theorem dL_law_1339 : decode cL_law 1339 = .ok (.istore 28, 2) := by decide +kernel
theorem dL_law_1341 : decode cL_law 1341 = .ok (.iinc 31 1, 3) := by decide +kernel
theorem dL_law_1344 : decode cL_law 1344 = .ok (.goto (-39), 3) := by decide +kernel
theorem dL_law_1347 : decode cL_law 1347 = .ok (.aload_n 3, 1) := by decide +kernel
theorem dL_law_1348 : decode cL_law 1348 = .ok (.iload 27, 2) := by decide +kernel
theorem dL_law_1350 : decode cL_law 1350 = .ok (.iconst 5, 1) := by decide +kernel
theorem dL_law_1351 : decode cL_law 1351 = .ok (.invokevirtual 215, 3) := by decide +kernel
theorem dL_law_1354 : decode cL_law 1354 = .ok (.aload 12, 2) := by decide +kernel
theorem dL_law_1356 : decode cL_law 1356 = .ok (.iload 27, 2) := by decide +kernel
theorem dL_law_1358 : decode cL_law 1358 = .ok (.aaload, 1) := by decide +kernel
theorem dL_law_1359 : decode cL_law 1359 = .ok (.iconst 5, 1) := by decide +kernel
theorem dL_law_1360 : decode cL_law 1360 = .ok (.iaload, 1) := by decide +kernel
theorem dL_law_1361 : decode cL_law 1361 = .ok (.isub, 1) := by decide +kernel
theorem dL_law_1362 : decode cL_law 1362 = .ok (.istore 29, 2) := by decide +kernel
theorem dL_law_1364 : decode cL_law 1364 = .ok (.iload 26, 2) := by decide +kernel
theorem dL_law_1366 : decode cL_law 1366 = .ok (.iload 29, 2) := by decide +kernel
theorem dL_law_1368 : decode cL_law 1368 = .ok (.iadd, 1) := by decide +kernel
theorem dL_law_1369 : decode cL_law 1369 = .ok (.istore 26, 2) := by decide +kernel
theorem dL_law_1371 : decode cL_law 1371 = .ok (.iload 29, 2) := by decide +kernel
theorem dL_law_1373 : decode cL_law 1373 = .ok (.ifCond .lt 86, 3) := by decide +kernel
theorem dL_law_1376 : decode cL_law 1376 = .ok (.iload 29, 2) := by decide +kernel
theorem dL_law_1378 : decode cL_law 1378 = .ok (.ifCond .le 8, 3) := by decide +kernel
theorem dL_law_1381 : decode cL_law 1381 = .ok (.iload 28, 2) := by decide +kernel
theorem dL_law_1383 : decode cL_law 1383 = .ok (.ifCond .eq 76, 3) := by decide +kernel
theorem dL_law_1386 : decode cL_law 1386 = .ok (.aload_n 3, 1) := by decide +kernel
theorem dL_law_1387 : decode cL_law 1387 = .ok (.iload 27, 2) := by decide +kernel
theorem dL_law_1389 : decode cL_law 1389 = .ok (.bipush 6, 2) := by decide +kernel
theorem dL_law_1391 : decode cL_law 1391 = .ok (.invokevirtual 215, 3) := by decide +kernel
theorem dL_law_1394 : decode cL_law 1394 = .ok (.aload 12, 2) := by decide +kernel
theorem dL_law_1396 : decode cL_law 1396 = .ok (.iload 27, 2) := by decide +kernel
theorem dL_law_1398 : decode cL_law 1398 = .ok (.aaload, 1) := by decide +kernel
theorem dL_law_1399 : decode cL_law 1399 = .ok (.bipush 6, 2) := by decide +kernel
theorem dL_law_1401 : decode cL_law 1401 = .ok (.iaload, 1) := by decide +kernel
theorem dL_law_1402 : decode cL_law 1402 = .ok (.iload 29, 2) := by decide +kernel
theorem dL_law_1404 : decode cL_law 1404 = .ok (.ifCond .le 7, 3) := by decide +kernel
theorem dL_law_1407 : decode cL_law 1407 = .ok (.iconst 1, 1) := by decide +kernel
theorem dL_law_1408 : decode cL_law 1408 = .ok (.goto 4, 3) := by decide +kernel
theorem dL_law_1411 : decode cL_law 1411 = .ok (.iconst 0, 1) := by decide +kernel
theorem dL_law_1412 : decode cL_law 1412 = .ok (.iadd, 1) := by decide +kernel
theorem dL_law_1413 : decode cL_law 1413 = .ok (.if_icmp .ne 46, 3) := by decide +kernel
theorem dL_law_1416 : decode cL_law 1416 = .ok (.aload_n 3, 1) := by decide +kernel
theorem dL_law_1417 : decode cL_law 1417 = .ok (.iload 27, 2) := by decide +kernel
theorem dL_law_1419 : decode cL_law 1419 = .ok (.iconst 4, 1) := by decide +kernel
theorem dL_law_1420 : decode cL_law 1420 = .ok (.invokevirtual 215, 3) := by decide +kernel
theorem dL_law_1423 : decode cL_law 1423 = .ok (.aload 12, 2) := by decide +kernel
theorem dL_law_1425 : decode cL_law 1425 = .ok (.iload 27, 2) := by decide +kernel
theorem dL_law_1427 : decode cL_law 1427 = .ok (.aaload, 1) := by decide +kernel
theorem dL_law_1428 : decode cL_law 1428 = .ok (.iconst 4, 1) := by decide +kernel
theorem dL_law_1429 : decode cL_law 1429 = .ok (.iaload, 1) := by decide +kernel
theorem dL_law_1430 : decode cL_law 1430 = .ok (.if_icmp .lt 29, 3) := by decide +kernel
theorem dL_law_1433 : decode cL_law 1433 = .ok (.aload 12, 2) := by decide +kernel
theorem dL_law_1435 : decode cL_law 1435 = .ok (.iload 27, 2) := by decide +kernel
theorem dL_law_1437 : decode cL_law 1437 = .ok (.aaload, 1) := by decide +kernel
theorem dL_law_1438 : decode cL_law 1438 = .ok (.iconst 0, 1) := by decide +kernel
theorem dL_law_1439 : decode cL_law 1439 = .ok (.iaload, 1) := by decide +kernel
theorem dL_law_1440 : decode cL_law 1440 = .ok (.iconst 1, 1) := by decide +kernel
theorem dL_law_1441 : decode cL_law 1441 = .ok (.if_icmp .ne 20, 3) := by decide +kernel
theorem dL_law_1444 : decode cL_law 1444 = .ok (.aload_n 3, 1) := by decide +kernel
theorem dL_law_1445 : decode cL_law 1445 = .ok (.iload 27, 2) := by decide +kernel
theorem dL_law_1447 : decode cL_law 1447 = .ok (.iconst 4, 1) := by decide +kernel
theorem dL_law_1448 : decode cL_law 1448 = .ok (.invokevirtual 215, 3) := by decide +kernel
theorem dL_law_1451 : decode cL_law 1451 = .ok (.ifCond .ne 8, 3) := by decide +kernel
theorem dL_law_1454 : decode cL_law 1454 = .ok (.iload 29, 2) := by decide +kernel
theorem dL_law_1456 : decode cL_law 1456 = .ok (.ifCond .eq 5, 3) := by decide +kernel
theorem dL_law_1459 : decode cL_law 1459 = .ok (.iconst 0, 1) := by decide +kernel
theorem dL_law_1460 : decode cL_law 1460 = .ok (.ireturn, 1) := by decide +kernel
theorem dL_law_1461 : decode cL_law 1461 = .ok (.iconst 0, 1) := by decide +kernel
theorem dL_law_1462 : decode cL_law 1462 = .ok (.istore 30, 2) := by decide +kernel
theorem dL_law_1464 : decode cL_law 1464 = .ok (.iload 30, 2) := by decide +kernel
theorem dL_law_1466 : decode cL_law 1466 = .ok (.iconst 4, 1) := by decide +kernel
theorem dL_law_1467 : decode cL_law 1467 = .ok (.if_icmp .ge 30, 3) := by decide +kernel
theorem dL_law_1470 : decode cL_law 1470 = .ok (.aload_n 3, 1) := by decide +kernel
theorem dL_law_1471 : decode cL_law 1471 = .ok (.iload 27, 2) := by decide +kernel
theorem dL_law_1473 : decode cL_law 1473 = .ok (.iload 30, 2) := by decide +kernel
theorem dL_law_1475 : decode cL_law 1475 = .ok (.invokevirtual 215, 3) := by decide +kernel
theorem dL_law_1478 : decode cL_law 1478 = .ok (.aload 12, 2) := by decide +kernel
theorem dL_law_1480 : decode cL_law 1480 = .ok (.iload 27, 2) := by decide +kernel
theorem dL_law_1482 : decode cL_law 1482 = .ok (.aaload, 1) := by decide +kernel
theorem dL_law_1483 : decode cL_law 1483 = .ok (.iload 30, 2) := by decide +kernel
theorem dL_law_1485 : decode cL_law 1485 = .ok (.iaload, 1) := by decide +kernel
theorem dL_law_1486 : decode cL_law 1486 = .ok (.if_icmp .eq 5, 3) := by decide +kernel
theorem dL_law_1489 : decode cL_law 1489 = .ok (.iconst 0, 1) := by decide +kernel
theorem dL_law_1490 : decode cL_law 1490 = .ok (.ireturn, 1) := by decide +kernel
theorem dL_law_1491 : decode cL_law 1491 = .ok (.iinc 30 1, 3) := by decide +kernel
theorem dL_law_1494 : decode cL_law 1494 = .ok (.goto (-30), 3) := by decide +kernel
theorem dL_law_1497 : decode cL_law 1497 = .ok (.iinc 27 1, 3) := by decide +kernel
theorem dL_law_1500 : decode cL_law 1500 = .ok (.goto (-222), 3) := by decide +kernel
theorem dL_law_1503 : decode cL_law 1503 = .ok (.iconst 0, 1) := by decide +kernel
theorem dL_law_1504 : decode cL_law 1504 = .ok (.istore 27, 2) := by decide +kernel
theorem dL_law_1506 : decode cL_law 1506 = .ok (.iconst 0, 1) := by decide +kernel
theorem dL_law_1507 : decode cL_law 1507 = .ok (.istore 28, 2) := by decide +kernel
theorem dL_law_1509 : decode cL_law 1509 = .ok (.iload 28, 2) := by decide +kernel
theorem dL_law_1511 : decode cL_law 1511 = .ok (.aload_n 2, 1) := by decide +kernel
theorem dL_law_1512 : decode cL_law 1512 = .ok (.getfield 155, 3) := by decide +kernel
theorem dL_law_1515 : decode cL_law 1515 = .ok (.if_icmp .ge 46, 3) := by decide +kernel
theorem dL_law_1518 : decode cL_law 1518 = .ok (.iload 27, 2) := by decide +kernel
theorem dL_law_1520 : decode cL_law 1520 = .ok (.aload_n 2, 1) := by decide +kernel
theorem dL_law_1521 : decode cL_law 1521 = .ok (.getfield 158, 3) := by decide +kernel
theorem dL_law_1524 : decode cL_law 1524 = .ok (.iload 28, 2) := by decide +kernel
theorem dL_law_1526 : decode cL_law 1526 = .ok (.aaload, 1) := by decide +kernel
theorem dL_law_1527 : decode cL_law 1527 = .ok (.iconst 2, 1) := by decide +kernel
theorem dL_law_1528 : decode cL_law 1528 = .ok (.iaload, 1) := by decide +kernel
theorem dL_law_1529 : decode cL_law 1529 = .ok (.iconst 3, 1) := by decide +kernel
theorem dL_law_1530 : decode cL_law 1530 = .ok (.if_icmp .eq 17, 3) := by decide +kernel
theorem dL_law_1533 : decode cL_law 1533 = .ok (.aload_n 2, 1) := by decide +kernel
theorem dL_law_1534 : decode cL_law 1534 = .ok (.getfield 158, 3) := by decide +kernel
theorem dL_law_1537 : decode cL_law 1537 = .ok (.iload 28, 2) := by decide +kernel
theorem dL_law_1539 : decode cL_law 1539 = .ok (.aaload, 1) := by decide +kernel
theorem dL_law_1540 : decode cL_law 1540 = .ok (.iconst 2, 1) := by decide +kernel
theorem dL_law_1541 : decode cL_law 1541 = .ok (.iaload, 1) := by decide +kernel
theorem dL_law_1542 : decode cL_law 1542 = .ok (.bipush 7, 2) := by decide +kernel
theorem dL_law_1544 : decode cL_law 1544 = .ok (.if_icmp .ne 7, 3) := by decide +kernel
theorem dL_law_1547 : decode cL_law 1547 = .ok (.iconst 1, 1) := by decide +kernel
theorem dL_law_1548 : decode cL_law 1548 = .ok (.goto 4, 3) := by decide +kernel
theorem dL_law_1551 : decode cL_law 1551 = .ok (.iconst 0, 1) := by decide +kernel
theorem dL_law_1552 : decode cL_law 1552 = .ok (.ior, 1) := by decide +kernel
theorem dL_law_1553 : decode cL_law 1553 = .ok (.istore 27, 2) := by decide +kernel
theorem dL_law_1555 : decode cL_law 1555 = .ok (.iinc 28 1, 3) := by decide +kernel
theorem dL_law_1558 : decode cL_law 1558 = .ok (.goto (-49), 3) := by decide +kernel
theorem dL_law_1561 : decode cL_law 1561 = .ok (.iload 6, 2) := by decide +kernel
theorem dL_law_1563 : decode cL_law 1563 = .ok (.ifCond .ne 13, 3) := by decide +kernel
theorem dL_law_1566 : decode cL_law 1566 = .ok (.iload 27, 2) := by decide +kernel
theorem dL_law_1568 : decode cL_law 1568 = .ok (.ifCond .ne 8, 3) := by decide +kernel
theorem dL_law_1571 : decode cL_law 1571 = .ok (.iload 21, 2) := by decide +kernel
theorem dL_law_1573 : decode cL_law 1573 = .ok (.ifCond .ne 13, 3) := by decide +kernel
theorem dL_law_1576 : decode cL_law 1576 = .ok (.iload 26, 2) := by decide +kernel
theorem dL_law_1578 : decode cL_law 1578 = .ok (.iload 6, 2) := by decide +kernel
theorem dL_law_1580 : decode cL_law 1580 = .ok (.iload 23, 2) := by decide +kernel
theorem dL_law_1582 : decode cL_law 1582 = .ok (.imul, 1) := by decide +kernel
theorem dL_law_1583 : decode cL_law 1583 = .ok (.if_icmp .le 5, 3) := by decide +kernel
theorem dL_law_1586 : decode cL_law 1586 = .ok (.iconst 0, 1) := by decide +kernel
theorem dL_law_1587 : decode cL_law 1587 = .ok (.ireturn, 1) := by decide +kernel
theorem dL_law_1588 : decode cL_law 1588 = .ok (.iinc 7 1, 3) := by decide +kernel
theorem dL_law_1591 : decode cL_law 1591 = .ok (.goto (-1532), 3) := by decide +kernel
theorem dL_law_1594 : decode cL_law 1594 = .ok (.iconst 1, 1) := by decide +kernel
theorem dL_law_1595 : decode cL_law 1595 = .ok (.ireturn, 1) := by decide +kernel
