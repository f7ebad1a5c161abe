/-! the law's instructions -/
theorem dl_970 : decode code 970 = .ok (.iaload, 1) := by decide +kernel
theorem dl_971 : decode code 971 = .ok (.invokevirtual 128, 3) := by decide +kernel
theorem dl_974 : decode code 974 = .ok (.if_icmp .eq 166, 3) := by decide +kernel
theorem dl_977 : decode code 977 = .ok (.iconst 0, 1) := by decide +kernel
theorem dl_978 : decode code 978 = .ok (.ireturn, 1) := by decide +kernel
theorem dl_979 : decode code 979 = .ok (.aload_n 1, 1) := by decide +kernel
theorem dl_980 : decode code 980 = .ok (.invokevirtual 129, 3) := by decide +kernel
theorem dl_983 : decode code 983 = .ok (.aload_n 2, 1) := by decide +kernel
theorem dl_984 : decode code 984 = .ok (.invokevirtual 132, 3) := by decide +kernel
theorem dl_987 : decode code 987 = .ok (.if_icmp .eq 153, 3) := by decide +kernel
theorem dl_990 : decode code 990 = .ok (.iconst 0, 1) := by decide +kernel
theorem dl_991 : decode code 991 = .ok (.ireturn, 1) := by decide +kernel
theorem dl_992 : decode code 992 = .ok (.aload_n 1, 1) := by decide +kernel
theorem dl_993 : decode code 993 = .ok (.aload_n 0, 1) := by decide +kernel
theorem dl_994 : decode code 994 = .ok (.iload_n 3, 1) := by decide +kernel
theorem dl_995 : decode code 995 = .ok (.iconst 1, 1) := by decide +kernel
theorem dl_996 : decode code 996 = .ok (.iadd, 1) := by decide +kernel
theorem dl_997 : decode code 997 = .ok (.iaload, 1) := by decide +kernel
theorem dl_998 : decode code 998 = .ok (.invokevirtual 133, 3) := by decide +kernel
theorem dl_1001 : decode code 1001 = .ok (.aload_n 2, 1) := by decide +kernel
theorem dl_1002 : decode code 1002 = .ok (.aload_n 0, 1) := by decide +kernel
theorem dl_1003 : decode code 1003 = .ok (.iload_n 3, 1) := by decide +kernel
theorem dl_1004 : decode code 1004 = .ok (.iconst 1, 1) := by decide +kernel
theorem dl_1005 : decode code 1005 = .ok (.iadd, 1) := by decide +kernel
theorem dl_1006 : decode code 1006 = .ok (.iaload, 1) := by decide +kernel
theorem dl_1007 : decode code 1007 = .ok (.invokevirtual 136, 3) := by decide +kernel
theorem dl_1010 : decode code 1010 = .ok (.if_icmp .eq 130, 3) := by decide +kernel
theorem dl_1013 : decode code 1013 = .ok (.iconst 0, 1) := by decide +kernel
theorem dl_1014 : decode code 1014 = .ok (.ireturn, 1) := by decide +kernel
theorem dl_1015 : decode code 1015 = .ok (.aload_n 1, 1) := by decide +kernel
theorem dl_1016 : decode code 1016 = .ok (.invokevirtual 137, 3) := by decide +kernel
theorem dl_1019 : decode code 1019 = .ok (.aload_n 2, 1) := by decide +kernel
theorem dl_1020 : decode code 1020 = .ok (.invokevirtual 140, 3) := by decide +kernel
theorem dl_1023 : decode code 1023 = .ok (.if_icmp .eq 117, 3) := by decide +kernel
theorem dl_1026 : decode code 1026 = .ok (.iconst 0, 1) := by decide +kernel
theorem dl_1027 : decode code 1027 = .ok (.ireturn, 1) := by decide +kernel
theorem dl_1028 : decode code 1028 = .ok (.aload_n 1, 1) := by decide +kernel
theorem dl_1029 : decode code 1029 = .ok (.aload_n 0, 1) := by decide +kernel
theorem dl_1030 : decode code 1030 = .ok (.iload_n 3, 1) := by decide +kernel
theorem dl_1031 : decode code 1031 = .ok (.iconst 1, 1) := by decide +kernel
theorem dl_1032 : decode code 1032 = .ok (.iadd, 1) := by decide +kernel
theorem dl_1033 : decode code 1033 = .ok (.iaload, 1) := by decide +kernel
theorem dl_1034 : decode code 1034 = .ok (.aload_n 0, 1) := by decide +kernel
theorem dl_1035 : decode code 1035 = .ok (.iload_n 3, 1) := by decide +kernel
theorem dl_1036 : decode code 1036 = .ok (.iconst 2, 1) := by decide +kernel
theorem dl_1037 : decode code 1037 = .ok (.iadd, 1) := by decide +kernel
theorem dl_1038 : decode code 1038 = .ok (.iaload, 1) := by decide +kernel
theorem dl_1039 : decode code 1039 = .ok (.invokevirtual 141, 3) := by decide +kernel
theorem dl_1042 : decode code 1042 = .ok (.aload_n 2, 1) := by decide +kernel
theorem dl_1043 : decode code 1043 = .ok (.aload_n 0, 1) := by decide +kernel
theorem dl_1044 : decode code 1044 = .ok (.iload_n 3, 1) := by decide +kernel
theorem dl_1045 : decode code 1045 = .ok (.iconst 1, 1) := by decide +kernel
theorem dl_1046 : decode code 1046 = .ok (.iadd, 1) := by decide +kernel
theorem dl_1047 : decode code 1047 = .ok (.iaload, 1) := by decide +kernel
theorem dl_1048 : decode code 1048 = .ok (.aload_n 0, 1) := by decide +kernel
theorem dl_1049 : decode code 1049 = .ok (.iload_n 3, 1) := by decide +kernel
theorem dl_1050 : decode code 1050 = .ok (.iconst 2, 1) := by decide +kernel
theorem dl_1051 : decode code 1051 = .ok (.iadd, 1) := by decide +kernel
theorem dl_1052 : decode code 1052 = .ok (.iaload, 1) := by decide +kernel
theorem dl_1053 : decode code 1053 = .ok (.invokevirtual 144, 3) := by decide +kernel
theorem dl_1056 : decode code 1056 = .ok (.if_icmp .eq 84, 3) := by decide +kernel
theorem dl_1059 : decode code 1059 = .ok (.iconst 0, 1) := by decide +kernel
theorem dl_1060 : decode code 1060 = .ok (.ireturn, 1) := by decide +kernel
theorem dl_1061 : decode code 1061 = .ok (.aload_n 1, 1) := by decide +kernel
theorem dl_1062 : decode code 1062 = .ok (.aload_n 0, 1) := by decide +kernel
theorem dl_1063 : decode code 1063 = .ok (.iload_n 3, 1) := by decide +kernel
theorem dl_1064 : decode code 1064 = .ok (.iconst 1, 1) := by decide +kernel
theorem dl_1065 : decode code 1065 = .ok (.iadd, 1) := by decide +kernel
theorem dl_1066 : decode code 1066 = .ok (.iaload, 1) := by decide +kernel
theorem dl_1067 : decode code 1067 = .ok (.aload_n 0, 1) := by decide +kernel
theorem dl_1068 : decode code 1068 = .ok (.iload_n 3, 1) := by decide +kernel
theorem dl_1069 : decode code 1069 = .ok (.iconst 2, 1) := by decide +kernel
theorem dl_1070 : decode code 1070 = .ok (.iadd, 1) := by decide +kernel
theorem dl_1071 : decode code 1071 = .ok (.iaload, 1) := by decide +kernel
theorem dl_1072 : decode code 1072 = .ok (.invokevirtual 145, 3) := by decide +kernel
theorem dl_1075 : decode code 1075 = .ok (.aload_n 2, 1) := by decide +kernel
theorem dl_1076 : decode code 1076 = .ok (.aload_n 0, 1) := by decide +kernel
theorem dl_1077 : decode code 1077 = .ok (.iload_n 3, 1) := by decide +kernel
theorem dl_1078 : decode code 1078 = .ok (.iconst 1, 1) := by decide +kernel
theorem dl_1079 : decode code 1079 = .ok (.iadd, 1) := by decide +kernel
theorem dl_1080 : decode code 1080 = .ok (.iaload, 1) := by decide +kernel
theorem dl_1081 : decode code 1081 = .ok (.aload_n 0, 1) := by decide +kernel
theorem dl_1082 : decode code 1082 = .ok (.iload_n 3, 1) := by decide +kernel
theorem dl_1083 : decode code 1083 = .ok (.iconst 2, 1) := by decide +kernel
theorem dl_1084 : decode code 1084 = .ok (.iadd, 1) := by decide +kernel
theorem dl_1085 : decode code 1085 = .ok (.iaload, 1) := by decide +kernel
theorem dl_1086 : decode code 1086 = .ok (.invokevirtual 148, 3) := by decide +kernel
theorem dl_1089 : decode code 1089 = .ok (.if_icmp .eq 51, 3) := by decide +kernel
theorem dl_1092 : decode code 1092 = .ok (.iconst 0, 1) := by decide +kernel
theorem dl_1093 : decode code 1093 = .ok (.ireturn, 1) := by decide +kernel
theorem dl_1094 : decode code 1094 = .ok (.aload_n 1, 1) := by decide +kernel
theorem dl_1095 : decode code 1095 = .ok (.invokevirtual 149, 3) := by decide +kernel
theorem dl_1098 : decode code 1098 = .ok (.aload_n 2, 1) := by decide +kernel
theorem dl_1099 : decode code 1099 = .ok (.invokevirtual 152, 3) := by decide +kernel
theorem dl_1102 : decode code 1102 = .ok (.if_icmp .eq 38, 3) := by decide +kernel
theorem dl_1105 : decode code 1105 = .ok (.iconst 0, 1) := by decide +kernel
theorem dl_1106 : decode code 1106 = .ok (.ireturn, 1) := by decide +kernel
theorem dl_1107 : decode code 1107 = .ok (.aload_n 1, 1) := by decide +kernel
theorem dl_1108 : decode code 1108 = .ok (.aload_n 0, 1) := by decide +kernel
theorem dl_1109 : decode code 1109 = .ok (.iload_n 3, 1) := by decide +kernel
theorem dl_1110 : decode code 1110 = .ok (.iconst 1, 1) := by decide +kernel
theorem dl_1111 : decode code 1111 = .ok (.iadd, 1) := by decide +kernel
theorem dl_1112 : decode code 1112 = .ok (.iaload, 1) := by decide +kernel
theorem dl_1113 : decode code 1113 = .ok (.aload_n 0, 1) := by decide +kernel
theorem dl_1114 : decode code 1114 = .ok (.iload_n 3, 1) := by decide +kernel
theorem dl_1115 : decode code 1115 = .ok (.iconst 2, 1) := by decide +kernel
theorem dl_1116 : decode code 1116 = .ok (.iadd, 1) := by decide +kernel
theorem dl_1117 : decode code 1117 = .ok (.iaload, 1) := by decide +kernel
theorem dl_1118 : decode code 1118 = .ok (.invokevirtual 153, 3) := by decide +kernel
theorem dl_1121 : decode code 1121 = .ok (.aload_n 2, 1) := by decide +kernel
theorem dl_1122 : decode code 1122 = .ok (.aload_n 0, 1) := by decide +kernel
theorem dl_1123 : decode code 1123 = .ok (.iload_n 3, 1) := by decide +kernel
theorem dl_1124 : decode code 1124 = .ok (.iconst 1, 1) := by decide +kernel
theorem dl_1125 : decode code 1125 = .ok (.iadd, 1) := by decide +kernel
theorem dl_1126 : decode code 1126 = .ok (.iaload, 1) := by decide +kernel
theorem dl_1127 : decode code 1127 = .ok (.aload_n 0, 1) := by decide +kernel
theorem dl_1128 : decode code 1128 = .ok (.iload_n 3, 1) := by decide +kernel
theorem dl_1129 : decode code 1129 = .ok (.iconst 2, 1) := by decide +kernel
theorem dl_1130 : decode code 1130 = .ok (.iadd, 1) := by decide +kernel
theorem dl_1131 : decode code 1131 = .ok (.iaload, 1) := by decide +kernel
theorem dl_1132 : decode code 1132 = .ok (.invokevirtual 156, 3) := by decide +kernel
theorem dl_1135 : decode code 1135 = .ok (.if_icmp .eq 5, 3) := by decide +kernel
theorem dl_1138 : decode code 1138 = .ok (.iconst 0, 1) := by decide +kernel
theorem dl_1139 : decode code 1139 = .ok (.ireturn, 1) := by decide +kernel
theorem dl_1140 : decode code 1140 = .ok (.iinc 3 6, 3) := by decide +kernel
theorem dl_1143 : decode code 1143 = .ok (.goto (-1125), 3) := by decide +kernel
theorem dl_1146 : decode code 1146 = .ok (.iconst 1, 1) := by decide +kernel
theorem dl_1147 : decode code 1147 = .ok (.ireturn, 1) := by decide +kernel
