theorem dg_L_law_1028 : (decode cL_law 1028 = .ok (.iaload, 1)) ∧ (decode cL_law 1029 = .ok (.aload_n 0, 1)) ∧ (decode cL_law 1030 = .ok (.iload_n 3, 1)) ∧ (decode cL_law 1031 = .ok (.iconst 2, 1)) ∧ (decode cL_law 1032 = .ok (.iadd, 1)) ∧ (decode cL_law 1033 = .ok (.iaload, 1)) ∧ (decode cL_law 1034 = .ok (.aload_n 0, 1)) ∧ (decode cL_law 1035 = .ok (.iload_n 3, 1)) ∧ (decode cL_law 1036 = .ok (.iconst 3, 1)) ∧ (decode cL_law 1037 = .ok (.iadd, 1)) ∧ (decode cL_law 1038 = .ok (.iaload, 1)) ∧ (decode cL_law 1039 = .ok (.aload_n 0, 1)) ∧ (decode cL_law 1040 = .ok (.iload_n 3, 1)) ∧ (decode cL_law 1041 = .ok (.iconst 4, 1)) ∧ (decode cL_law 1042 = .ok (.iadd, 1)) ∧ (decode cL_law 1043 = .ok (.iaload, 1)) := by decide +kernel
theorem dL_law_1028 : decode cL_law 1028 = .ok (.iaload, 1) := dg_L_law_1028.1
theorem dL_law_1029 : decode cL_law 1029 = .ok (.aload_n 0, 1) := dg_L_law_1028.2.1
theorem dL_law_1030 : decode cL_law 1030 = .ok (.iload_n 3, 1) := dg_L_law_1028.2.2.1
theorem dL_law_1031 : decode cL_law 1031 = .ok (.iconst 2, 1) := dg_L_law_1028.2.2.2.1
theorem dL_law_1032 : decode cL_law 1032 = .ok (.iadd, 1) := dg_L_law_1028.2.2.2.2.1
theorem dL_law_1033 : decode cL_law 1033 = .ok (.iaload, 1) := dg_L_law_1028.2.2.2.2.2.1
theorem dL_law_1034 : decode cL_law 1034 = .ok (.aload_n 0, 1) := dg_L_law_1028.2.2.2.2.2.2.1
theorem dL_law_1035 : decode cL_law 1035 = .ok (.iload_n 3, 1) := dg_L_law_1028.2.2.2.2.2.2.2.1
theorem dL_law_1036 : decode cL_law 1036 = .ok (.iconst 3, 1) := dg_L_law_1028.2.2.2.2.2.2.2.2.1
theorem dL_law_1037 : decode cL_law 1037 = .ok (.iadd, 1) := dg_L_law_1028.2.2.2.2.2.2.2.2.2.1
theorem dL_law_1038 : decode cL_law 1038 = .ok (.iaload, 1) := dg_L_law_1028.2.2.2.2.2.2.2.2.2.2.1
theorem dL_law_1039 : decode cL_law 1039 = .ok (.aload_n 0, 1) := dg_L_law_1028.2.2.2.2.2.2.2.2.2.2.2.1
theorem dL_law_1040 : decode cL_law 1040 = .ok (.iload_n 3, 1) := dg_L_law_1028.2.2.2.2.2.2.2.2.2.2.2.2.1
theorem dL_law_1041 : decode cL_law 1041 = .ok (.iconst 4, 1) := dg_L_law_1028.2.2.2.2.2.2.2.2.2.2.2.2.2.1
theorem dL_law_1042 : decode cL_law 1042 = .ok (.iadd, 1) := dg_L_law_1028.2.2.2.2.2.2.2.2.2.2.2.2.2.2.1
theorem dL_law_1043 : decode cL_law 1043 = .ok (.iaload, 1) := dg_L_law_1028.2.2.2.2.2.2.2.2.2.2.2.2.2.2.2
theorem dg_L_law_1044 : (decode cL_law 1044 = .ok (.aload_n 0, 1)) ∧ (decode cL_law 1045 = .ok (.iload_n 3, 1)) ∧ (decode cL_law 1046 = .ok (.iconst 5, 1)) ∧ (decode cL_law 1047 = .ok (.iadd, 1)) ∧ (decode cL_law 1048 = .ok (.iaload, 1)) ∧ (decode cL_law 1049 = .ok (.invokevirtual 87, 3)) ∧ (decode cL_law 1052 = .ok (.pop, 1)) ∧ (decode cL_law 1053 = .ok (.goto 818, 3)) ∧ (decode cL_law 1056 = .ok (.aload_n 1, 1)) ∧ (decode cL_law 1057 = .ok (.aload_n 0, 1)) ∧ (decode cL_law 1058 = .ok (.iload_n 3, 1)) ∧ (decode cL_law 1059 = .ok (.iconst 1, 1)) ∧ (decode cL_law 1060 = .ok (.iadd, 1)) ∧ (decode cL_law 1061 = .ok (.iaload, 1)) ∧ (decode cL_law 1062 = .ok (.aload_n 0, 1)) ∧ (decode cL_law 1063 = .ok (.iload_n 3, 1)) := by decide +kernel
theorem dL_law_1044 : decode cL_law 1044 = .ok (.aload_n 0, 1) := dg_L_law_1044.1
theorem dL_law_1045 : decode cL_law 1045 = .ok (.iload_n 3, 1) := dg_L_law_1044.2.1
theorem dL_law_1046 : decode cL_law 1046 = .ok (.iconst 5, 1) := dg_L_law_1044.2.2.1
theorem dL_law_1047 : decode cL_law 1047 = .ok (.iadd, 1) := dg_L_law_1044.2.2.2.1
theorem dL_law_1048 : decode cL_law 1048 = .ok (.iaload, 1) := dg_L_law_1044.2.2.2.2.1
theorem dL_law_1049 : decode cL_law 1049 = .ok (.invokevirtual 87, 3) := dg_L_law_1044.2.2.2.2.2.1
theorem dL_law_1052 : decode cL_law 1052 = .ok (.pop, 1) := dg_L_law_1044.2.2.2.2.2.2.1
theorem dL_law_1053 : decode cL_law 1053 = .ok (.goto 818, 3) := dg_L_law_1044.2.2.2.2.2.2.2.1
theorem dL_law_1056 : decode cL_law 1056 = .ok (.aload_n 1, 1) := dg_L_law_1044.2.2.2.2.2.2.2.2.1
theorem dL_law_1057 : decode cL_law 1057 = .ok (.aload_n 0, 1) := dg_L_law_1044.2.2.2.2.2.2.2.2.2.1
theorem dL_law_1058 : decode cL_law 1058 = .ok (.iload_n 3, 1) := dg_L_law_1044.2.2.2.2.2.2.2.2.2.2.1
theorem dL_law_1059 : decode cL_law 1059 = .ok (.iconst 1, 1) := dg_L_law_1044.2.2.2.2.2.2.2.2.2.2.2.1
theorem dL_law_1060 : decode cL_law 1060 = .ok (.iadd, 1) := dg_L_law_1044.2.2.2.2.2.2.2.2.2.2.2.2.1
theorem dL_law_1061 : decode cL_law 1061 = .ok (.iaload, 1) := dg_L_law_1044.2.2.2.2.2.2.2.2.2.2.2.2.2.1
theorem dL_law_1062 : decode cL_law 1062 = .ok (.aload_n 0, 1) := dg_L_law_1044.2.2.2.2.2.2.2.2.2.2.2.2.2.2.1
theorem dL_law_1063 : decode cL_law 1063 = .ok (.iload_n 3, 1) := dg_L_law_1044.2.2.2.2.2.2.2.2.2.2.2.2.2.2.2
theorem dg_L_law_1064 : (decode cL_law 1064 = .ok (.iconst 2, 1)) ∧ (decode cL_law 1065 = .ok (.iadd, 1)) ∧ (decode cL_law 1066 = .ok (.iaload, 1)) ∧ (decode cL_law 1067 = .ok (.invokevirtual 88, 3)) ∧ (decode cL_law 1070 = .ok (.pop, 1)) ∧ (decode cL_law 1071 = .ok (.aload_n 2, 1)) ∧ (decode cL_law 1072 = .ok (.aload_n 0, 1)) ∧ (decode cL_law 1073 = .ok (.iload_n 3, 1)) ∧ (decode cL_law 1074 = .ok (.iconst 1, 1)) ∧ (decode cL_law 1075 = .ok (.iadd, 1)) ∧ (decode cL_law 1076 = .ok (.iaload, 1)) ∧ (decode cL_law 1077 = .ok (.aload_n 0, 1)) ∧ (decode cL_law 1078 = .ok (.iload_n 3, 1)) ∧ (decode cL_law 1079 = .ok (.iconst 2, 1)) ∧ (decode cL_law 1080 = .ok (.iadd, 1)) ∧ (decode cL_law 1081 = .ok (.iaload, 1)) := by decide +kernel
theorem dL_law_1064 : decode cL_law 1064 = .ok (.iconst 2, 1) := dg_L_law_1064.1
theorem dL_law_1065 : decode cL_law 1065 = .ok (.iadd, 1) := dg_L_law_1064.2.1
theorem dL_law_1066 : decode cL_law 1066 = .ok (.iaload, 1) := dg_L_law_1064.2.2.1
theorem dL_law_1067 : decode cL_law 1067 = .ok (.invokevirtual 88, 3) := dg_L_law_1064.2.2.2.1
theorem dL_law_1070 : decode cL_law 1070 = .ok (.pop, 1) := dg_L_law_1064.2.2.2.2.1
theorem dL_law_1071 : decode cL_law 1071 = .ok (.aload_n 2, 1) := dg_L_law_1064.2.2.2.2.2.1
theorem dL_law_1072 : decode cL_law 1072 = .ok (.aload_n 0, 1) := dg_L_law_1064.2.2.2.2.2.2.1
theorem dL_law_1073 : decode cL_law 1073 = .ok (.iload_n 3, 1) := dg_L_law_1064.2.2.2.2.2.2.2.1
theorem dL_law_1074 : decode cL_law 1074 = .ok (.iconst 1, 1) := dg_L_law_1064.2.2.2.2.2.2.2.2.1
theorem dL_law_1075 : decode cL_law 1075 = .ok (.iadd, 1) := dg_L_law_1064.2.2.2.2.2.2.2.2.2.1
theorem dL_law_1076 : decode cL_law 1076 = .ok (.iaload, 1) := dg_L_law_1064.2.2.2.2.2.2.2.2.2.2.1
theorem dL_law_1077 : decode cL_law 1077 = .ok (.aload_n 0, 1) := dg_L_law_1064.2.2.2.2.2.2.2.2.2.2.2.1
theorem dL_law_1078 : decode cL_law 1078 = .ok (.iload_n 3, 1) := dg_L_law_1064.2.2.2.2.2.2.2.2.2.2.2.2.1
theorem dL_law_1079 : decode cL_law 1079 = .ok (.iconst 2, 1) := dg_L_law_1064.2.2.2.2.2.2.2.2.2.2.2.2.2.1
theorem dL_law_1080 : decode cL_law 1080 = .ok (.iadd, 1) := dg_L_law_1064.2.2.2.2.2.2.2.2.2.2.2.2.2.2.1
theorem dL_law_1081 : decode cL_law 1081 = .ok (.iaload, 1) := dg_L_law_1064.2.2.2.2.2.2.2.2.2.2.2.2.2.2.2
theorem dg_L_law_1082 : (decode cL_law 1082 = .ok (.invokevirtual 91, 3)) ∧ (decode cL_law 1085 = .ok (.pop, 1)) ∧ (decode cL_law 1086 = .ok (.goto 785, 3)) ∧ (decode cL_law 1089 = .ok (.aload_n 1, 1)) ∧ (decode cL_law 1090 = .ok (.aload_n 0, 1)) ∧ (decode cL_law 1091 = .ok (.iload_n 3, 1)) ∧ (decode cL_law 1092 = .ok (.iconst 1, 1)) ∧ (decode cL_law 1093 = .ok (.iadd, 1)) ∧ (decode cL_law 1094 = .ok (.iaload, 1)) ∧ (decode cL_law 1095 = .ok (.invokevirtual 92, 3)) ∧ (decode cL_law 1098 = .ok (.pop, 1)) ∧ (decode cL_law 1099 = .ok (.aload_n 2, 1)) ∧ (decode cL_law 1100 = .ok (.aload_n 0, 1)) ∧ (decode cL_law 1101 = .ok (.iload_n 3, 1)) ∧ (decode cL_law 1102 = .ok (.iconst 1, 1)) ∧ (decode cL_law 1103 = .ok (.iadd, 1)) := by decide +kernel
theorem dL_law_1082 : decode cL_law 1082 = .ok (.invokevirtual 91, 3) := dg_L_law_1082.1
theorem dL_law_1085 : decode cL_law 1085 = .ok (.pop, 1) := dg_L_law_1082.2.1
theorem dL_law_1086 : decode cL_law 1086 = .ok (.goto 785, 3) := dg_L_law_1082.2.2.1
theorem dL_law_1089 : decode cL_law 1089 = .ok (.aload_n 1, 1) := dg_L_law_1082.2.2.2.1
theorem dL_law_1090 : decode cL_law 1090 = .ok (.aload_n 0, 1) := dg_L_law_1082.2.2.2.2.1
theorem dL_law_1091 : decode cL_law 1091 = .ok (.iload_n 3, 1) := dg_L_law_1082.2.2.2.2.2.1
theorem dL_law_1092 : decode cL_law 1092 = .ok (.iconst 1, 1) := dg_L_law_1082.2.2.2.2.2.2.1
theorem dL_law_1093 : decode cL_law 1093 = .ok (.iadd, 1) := dg_L_law_1082.2.2.2.2.2.2.2.1
theorem dL_law_1094 : decode cL_law 1094 = .ok (.iaload, 1) := dg_L_law_1082.2.2.2.2.2.2.2.2.1
theorem dL_law_1095 : decode cL_law 1095 = .ok (.invokevirtual 92, 3) := dg_L_law_1082.2.2.2.2.2.2.2.2.2.1
theorem dL_law_1098 : decode cL_law 1098 = .ok (.pop, 1) := dg_L_law_1082.2.2.2.2.2.2.2.2.2.2.1
theorem dL_law_1099 : decode cL_law 1099 = .ok (.aload_n 2, 1) := dg_L_law_1082.2.2.2.2.2.2.2.2.2.2.2.1
theorem dL_law_1100 : decode cL_law 1100 = .ok (.aload_n 0, 1) := dg_L_law_1082.2.2.2.2.2.2.2.2.2.2.2.2.1
theorem dL_law_1101 : decode cL_law 1101 = .ok (.iload_n 3, 1) := dg_L_law_1082.2.2.2.2.2.2.2.2.2.2.2.2.2.1
theorem dL_law_1102 : decode cL_law 1102 = .ok (.iconst 1, 1) := dg_L_law_1082.2.2.2.2.2.2.2.2.2.2.2.2.2.2.1
theorem dL_law_1103 : decode cL_law 1103 = .ok (.iadd, 1) := dg_L_law_1082.2.2.2.2.2.2.2.2.2.2.2.2.2.2.2
theorem dg_L_law_1104 : (decode cL_law 1104 = .ok (.iaload, 1)) ∧ (decode cL_law 1105 = .ok (.invokevirtual 96, 3)) ∧ (decode cL_law 1108 = .ok (.pop, 1)) ∧ (decode cL_law 1109 = .ok (.goto 762, 3)) ∧ (decode cL_law 1112 = .ok (.aload_n 1, 1)) ∧ (decode cL_law 1113 = .ok (.aload_n 0, 1)) ∧ (decode cL_law 1114 = .ok (.iload_n 3, 1)) ∧ (decode cL_law 1115 = .ok (.iconst 1, 1)) ∧ (decode cL_law 1116 = .ok (.iadd, 1)) ∧ (decode cL_law 1117 = .ok (.iaload, 1)) ∧ (decode cL_law 1118 = .ok (.aload_n 0, 1)) ∧ (decode cL_law 1119 = .ok (.iload_n 3, 1)) ∧ (decode cL_law 1120 = .ok (.iconst 2, 1)) ∧ (decode cL_law 1121 = .ok (.iadd, 1)) ∧ (decode cL_law 1122 = .ok (.iaload, 1)) ∧ (decode cL_law 1123 = .ok (.aload_n 0, 1)) := by decide +kernel
theorem dL_law_1104 : decode cL_law 1104 = .ok (.iaload, 1) := dg_L_law_1104.1
theorem dL_law_1105 : decode cL_law 1105 = .ok (.invokevirtual 96, 3) := dg_L_law_1104.2.1
theorem dL_law_1108 : decode cL_law 1108 = .ok (.pop, 1) := dg_L_law_1104.2.2.1
theorem dL_law_1109 : decode cL_law 1109 = .ok (.goto 762, 3) := dg_L_law_1104.2.2.2.1
theorem dL_law_1112 : decode cL_law 1112 = .ok (.aload_n 1, 1) := dg_L_law_1104.2.2.2.2.1
theorem dL_law_1113 : decode cL_law 1113 = .ok (.aload_n 0, 1) := dg_L_law_1104.2.2.2.2.2.1
theorem dL_law_1114 : decode cL_law 1114 = .ok (.iload_n 3, 1) := dg_L_law_1104.2.2.2.2.2.2.1
theorem dL_law_1115 : decode cL_law 1115 = .ok (.iconst 1, 1) := dg_L_law_1104.2.2.2.2.2.2.2.1
theorem dL_law_1116 : decode cL_law 1116 = .ok (.iadd, 1) := dg_L_law_1104.2.2.2.2.2.2.2.2.1
theorem dL_law_1117 : decode cL_law 1117 = .ok (.iaload, 1) := dg_L_law_1104.2.2.2.2.2.2.2.2.2.1
theorem dL_law_1118 : decode cL_law 1118 = .ok (.aload_n 0, 1) := dg_L_law_1104.2.2.2.2.2.2.2.2.2.2.1
theorem dL_law_1119 : decode cL_law 1119 = .ok (.iload_n 3, 1) := dg_L_law_1104.2.2.2.2.2.2.2.2.2.2.2.1
theorem dL_law_1120 : decode cL_law 1120 = .ok (.iconst 2, 1) := dg_L_law_1104.2.2.2.2.2.2.2.2.2.2.2.2.1
theorem dL_law_1121 : decode cL_law 1121 = .ok (.iadd, 1) := dg_L_law_1104.2.2.2.2.2.2.2.2.2.2.2.2.2.1
theorem dL_law_1122 : decode cL_law 1122 = .ok (.iaload, 1) := dg_L_law_1104.2.2.2.2.2.2.2.2.2.2.2.2.2.2.1
theorem dL_law_1123 : decode cL_law 1123 = .ok (.aload_n 0, 1) := dg_L_law_1104.2.2.2.2.2.2.2.2.2.2.2.2.2.2.2
theorem dg_L_law_1124 : (decode cL_law 1124 = .ok (.iload_n 3, 1)) ∧ (decode cL_law 1125 = .ok (.iconst 3, 1)) ∧ (decode cL_law 1126 = .ok (.iadd, 1)) ∧ (decode cL_law 1127 = .ok (.iaload, 1)) ∧ (decode cL_law 1128 = .ok (.invokevirtual 97, 3)) ∧ (decode cL_law 1131 = .ok (.pop, 1)) ∧ (decode cL_law 1132 = .ok (.aload_n 2, 1)) ∧ (decode cL_law 1133 = .ok (.aload_n 0, 1)) ∧ (decode cL_law 1134 = .ok (.iload_n 3, 1)) ∧ (decode cL_law 1135 = .ok (.iconst 1, 1)) ∧ (decode cL_law 1136 = .ok (.iadd, 1)) ∧ (decode cL_law 1137 = .ok (.iaload, 1)) ∧ (decode cL_law 1138 = .ok (.aload_n 0, 1)) ∧ (decode cL_law 1139 = .ok (.iload_n 3, 1)) ∧ (decode cL_law 1140 = .ok (.iconst 2, 1)) ∧ (decode cL_law 1141 = .ok (.iadd, 1)) := by decide +kernel
theorem dL_law_1124 : decode cL_law 1124 = .ok (.iload_n 3, 1) := dg_L_law_1124.1
theorem dL_law_1125 : decode cL_law 1125 = .ok (.iconst 3, 1) := dg_L_law_1124.2.1
theorem dL_law_1126 : decode cL_law 1126 = .ok (.iadd, 1) := dg_L_law_1124.2.2.1
theorem dL_law_1127 : decode cL_law 1127 = .ok (.iaload, 1) := dg_L_law_1124.2.2.2.1
theorem dL_law_1128 : decode cL_law 1128 = .ok (.invokevirtual 97, 3) := dg_L_law_1124.2.2.2.2.1
theorem dL_law_1131 : decode cL_law 1131 = .ok (.pop, 1) := dg_L_law_1124.2.2.2.2.2.1
theorem dL_law_1132 : decode cL_law 1132 = .ok (.aload_n 2, 1) := dg_L_law_1124.2.2.2.2.2.2.1
theorem dL_law_1133 : decode cL_law 1133 = .ok (.aload_n 0, 1) := dg_L_law_1124.2.2.2.2.2.2.2.1
theorem dL_law_1134 : decode cL_law 1134 = .ok (.iload_n 3, 1) := dg_L_law_1124.2.2.2.2.2.2.2.2.1
theorem dL_law_1135 : decode cL_law 1135 = .ok (.iconst 1, 1) := dg_L_law_1124.2.2.2.2.2.2.2.2.2.1
theorem dL_law_1136 : decode cL_law 1136 = .ok (.iadd, 1) := dg_L_law_1124.2.2.2.2.2.2.2.2.2.2.1
theorem dL_law_1137 : decode cL_law 1137 = .ok (.iaload, 1) := dg_L_law_1124.2.2.2.2.2.2.2.2.2.2.2.1
theorem dL_law_1138 : decode cL_law 1138 = .ok (.aload_n 0, 1) := dg_L_law_1124.2.2.2.2.2.2.2.2.2.2.2.2.1
theorem dL_law_1139 : decode cL_law 1139 = .ok (.iload_n 3, 1) := dg_L_law_1124.2.2.2.2.2.2.2.2.2.2.2.2.2.1
theorem dL_law_1140 : decode cL_law 1140 = .ok (.iconst 2, 1) := dg_L_law_1124.2.2.2.2.2.2.2.2.2.2.2.2.2.2.1
theorem dL_law_1141 : decode cL_law 1141 = .ok (.iadd, 1) := dg_L_law_1124.2.2.2.2.2.2.2.2.2.2.2.2.2.2.2
theorem dg_L_law_1142 : (decode cL_law 1142 = .ok (.iaload, 1)) ∧ (decode cL_law 1143 = .ok (.aload_n 0, 1)) ∧ (decode cL_law 1144 = .ok (.iload_n 3, 1)) ∧ (decode cL_law 1145 = .ok (.iconst 3, 1)) ∧ (decode cL_law 1146 = .ok (.iadd, 1)) ∧ (decode cL_law 1147 = .ok (.iaload, 1)) ∧ (decode cL_law 1148 = .ok (.invokevirtual 100, 3)) ∧ (decode cL_law 1151 = .ok (.pop, 1)) ∧ (decode cL_law 1152 = .ok (.goto 719, 3)) ∧ (decode cL_law 1155 = .ok (.aload_n 1, 1)) ∧ (decode cL_law 1156 = .ok (.aload_n 0, 1)) ∧ (decode cL_law 1157 = .ok (.iload_n 3, 1)) ∧ (decode cL_law 1158 = .ok (.iconst 1, 1)) ∧ (decode cL_law 1159 = .ok (.iadd, 1)) ∧ (decode cL_law 1160 = .ok (.iaload, 1)) ∧ (decode cL_law 1161 = .ok (.aload_n 0, 1)) := by decide +kernel
theorem dL_law_1142 : decode cL_law 1142 = .ok (.iaload, 1) := dg_L_law_1142.1
theorem dL_law_1143 : decode cL_law 1143 = .ok (.aload_n 0, 1) := dg_L_law_1142.2.1
theorem dL_law_1144 : decode cL_law 1144 = .ok (.iload_n 3, 1) := dg_L_law_1142.2.2.1
theorem dL_law_1145 : decode cL_law 1145 = .ok (.iconst 3, 1) := dg_L_law_1142.2.2.2.1
theorem dL_law_1146 : decode cL_law 1146 = .ok (.iadd, 1) := dg_L_law_1142.2.2.2.2.1
theorem dL_law_1147 : decode cL_law 1147 = .ok (.iaload, 1) := dg_L_law_1142.2.2.2.2.2.1
theorem dL_law_1148 : decode cL_law 1148 = .ok (.invokevirtual 100, 3) := dg_L_law_1142.2.2.2.2.2.2.1
theorem dL_law_1151 : decode cL_law 1151 = .ok (.pop, 1) := dg_L_law_1142.2.2.2.2.2.2.2.1
theorem dL_law_1152 : decode cL_law 1152 = .ok (.goto 719, 3) := dg_L_law_1142.2.2.2.2.2.2.2.2.1
theorem dL_law_1155 : decode cL_law 1155 = .ok (.aload_n 1, 1) := dg_L_law_1142.2.2.2.2.2.2.2.2.2.1
theorem dL_law_1156 : decode cL_law 1156 = .ok (.aload_n 0, 1) := dg_L_law_1142.2.2.2.2.2.2.2.2.2.2.1
theorem dL_law_1157 : decode cL_law 1157 = .ok (.iload_n 3, 1) := dg_L_law_1142.2.2.2.2.2.2.2.2.2.2.2.1
theorem dL_law_1158 : decode cL_law 1158 = .ok (.iconst 1, 1) := dg_L_law_1142.2.2.2.2.2.2.2.2.2.2.2.2.1
theorem dL_law_1159 : decode cL_law 1159 = .ok (.iadd, 1) := dg_L_law_1142.2.2.2.2.2.2.2.2.2.2.2.2.2.1
theorem dL_law_1160 : decode cL_law 1160 = .ok (.iaload, 1) := dg_L_law_1142.2.2.2.2.2.2.2.2.2.2.2.2.2.2.1
theorem dL_law_1161 : decode cL_law 1161 = .ok (.aload_n 0, 1) := dg_L_law_1142.2.2.2.2.2.2.2.2.2.2.2.2.2.2.2
theorem dg_L_law_1162 : (decode cL_law 1162 = .ok (.iload_n 3, 1)) ∧ (decode cL_law 1163 = .ok (.iconst 2, 1)) ∧ (decode cL_law 1164 = .ok (.iadd, 1)) ∧ (decode cL_law 1165 = .ok (.iaload, 1)) ∧ (decode cL_law 1166 = .ok (.i2l, 1)) ∧ (decode cL_law 1167 = .ok (.bipush 32, 2)) ∧ (decode cL_law 1169 = .ok (.lshl, 1)) ∧ (decode cL_law 1170 = .ok (.aload_n 0, 1)) ∧ (decode cL_law 1171 = .ok (.iload_n 3, 1)) ∧ (decode cL_law 1172 = .ok (.iconst 3, 1)) ∧ (decode cL_law 1173 = .ok (.iadd, 1)) ∧ (decode cL_law 1174 = .ok (.iaload, 1)) ∧ (decode cL_law 1175 = .ok (.i2l, 1)) ∧ (decode cL_law 1176 = .ok (.ldc2_w 49, 3)) ∧ (decode cL_law 1179 = .ok (.land, 1)) ∧ (decode cL_law 1180 = .ok (.lor, 1)) := by decide +kernel
theorem dL_law_1162 : decode cL_law 1162 = .ok (.iload_n 3, 1) := dg_L_law_1162.1
theorem dL_law_1163 : decode cL_law 1163 = .ok (.iconst 2, 1) := dg_L_law_1162.2.1
theorem dL_law_1164 : decode cL_law 1164 = .ok (.iadd, 1) := dg_L_law_1162.2.2.1
theorem dL_law_1165 : decode cL_law 1165 = .ok (.iaload, 1) := dg_L_law_1162.2.2.2.1
theorem dL_law_1166 : decode cL_law 1166 = .ok (.i2l, 1) := dg_L_law_1162.2.2.2.2.1
theorem dL_law_1167 : decode cL_law 1167 = .ok (.bipush 32, 2) := dg_L_law_1162.2.2.2.2.2.1
theorem dL_law_1169 : decode cL_law 1169 = .ok (.lshl, 1) := dg_L_law_1162.2.2.2.2.2.2.1
theorem dL_law_1170 : decode cL_law 1170 = .ok (.aload_n 0, 1) := dg_L_law_1162.2.2.2.2.2.2.2.1
theorem dL_law_1171 : decode cL_law 1171 = .ok (.iload_n 3, 1) := dg_L_law_1162.2.2.2.2.2.2.2.2.1
theorem dL_law_1172 : decode cL_law 1172 = .ok (.iconst 3, 1) := dg_L_law_1162.2.2.2.2.2.2.2.2.2.1
theorem dL_law_1173 : decode cL_law 1173 = .ok (.iadd, 1) := dg_L_law_1162.2.2.2.2.2.2.2.2.2.2.1
theorem dL_law_1174 : decode cL_law 1174 = .ok (.iaload, 1) := dg_L_law_1162.2.2.2.2.2.2.2.2.2.2.2.1
theorem dL_law_1175 : decode cL_law 1175 = .ok (.i2l, 1) := dg_L_law_1162.2.2.2.2.2.2.2.2.2.2.2.2.1
theorem dL_law_1176 : decode cL_law 1176 = .ok (.ldc2_w 49, 3) := dg_L_law_1162.2.2.2.2.2.2.2.2.2.2.2.2.2.1
theorem dL_law_1179 : decode cL_law 1179 = .ok (.land, 1) := dg_L_law_1162.2.2.2.2.2.2.2.2.2.2.2.2.2.2.1
theorem dL_law_1180 : decode cL_law 1180 = .ok (.lor, 1) := dg_L_law_1162.2.2.2.2.2.2.2.2.2.2.2.2.2.2.2
theorem dg_L_law_1181 : (decode cL_law 1181 = .ok (.invokevirtual 101, 3)) ∧ (decode cL_law 1184 = .ok (.pop, 1)) ∧ (decode cL_law 1185 = .ok (.aload_n 2, 1)) ∧ (decode cL_law 1186 = .ok (.aload_n 0, 1)) ∧ (decode cL_law 1187 = .ok (.iload_n 3, 1)) ∧ (decode cL_law 1188 = .ok (.iconst 1, 1)) ∧ (decode cL_law 1189 = .ok (.iadd, 1)) ∧ (decode cL_law 1190 = .ok (.iaload, 1)) ∧ (decode cL_law 1191 = .ok (.aload_n 0, 1)) ∧ (decode cL_law 1192 = .ok (.iload_n 3, 1)) ∧ (decode cL_law 1193 = .ok (.iconst 2, 1)) ∧ (decode cL_law 1194 = .ok (.iadd, 1)) ∧ (decode cL_law 1195 = .ok (.iaload, 1)) ∧ (decode cL_law 1196 = .ok (.i2l, 1)) ∧ (decode cL_law 1197 = .ok (.bipush 32, 2)) ∧ (decode cL_law 1199 = .ok (.lshl, 1)) := by decide +kernel
theorem dL_law_1181 : decode cL_law 1181 = .ok (.invokevirtual 101, 3) := dg_L_law_1181.1
theorem dL_law_1184 : decode cL_law 1184 = .ok (.pop, 1) := dg_L_law_1181.2.1
theorem dL_law_1185 : decode cL_law 1185 = .ok (.aload_n 2, 1) := dg_L_law_1181.2.2.1
theorem dL_law_1186 : decode cL_law 1186 = .ok (.aload_n 0, 1) := dg_L_law_1181.2.2.2.1
theorem dL_law_1187 : decode cL_law 1187 = .ok (.iload_n 3, 1) := dg_L_law_1181.2.2.2.2.1
theorem dL_law_1188 : decode cL_law 1188 = .ok (.iconst 1, 1) := dg_L_law_1181.2.2.2.2.2.1
theorem dL_law_1189 : decode cL_law 1189 = .ok (.iadd, 1) := dg_L_law_1181.2.2.2.2.2.2.1
theorem dL_law_1190 : decode cL_law 1190 = .ok (.iaload, 1) := dg_L_law_1181.2.2.2.2.2.2.2.1
theorem dL_law_1191 : decode cL_law 1191 = .ok (.aload_n 0, 1) := dg_L_law_1181.2.2.2.2.2.2.2.2.1
theorem dL_law_1192 : decode cL_law 1192 = .ok (.iload_n 3, 1) := dg_L_law_1181.2.2.2.2.2.2.2.2.2.1
theorem dL_law_1193 : decode cL_law 1193 = .ok (.iconst 2, 1) := dg_L_law_1181.2.2.2.2.2.2.2.2.2.2.1
theorem dL_law_1194 : decode cL_law 1194 = .ok (.iadd, 1) := dg_L_law_1181.2.2.2.2.2.2.2.2.2.2.2.1
theorem dL_law_1195 : decode cL_law 1195 = .ok (.iaload, 1) := dg_L_law_1181.2.2.2.2.2.2.2.2.2.2.2.2.1
theorem dL_law_1196 : decode cL_law 1196 = .ok (.i2l, 1) := dg_L_law_1181.2.2.2.2.2.2.2.2.2.2.2.2.2.1
theorem dL_law_1197 : decode cL_law 1197 = .ok (.bipush 32, 2) := dg_L_law_1181.2.2.2.2.2.2.2.2.2.2.2.2.2.2.1
theorem dL_law_1199 : decode cL_law 1199 = .ok (.lshl, 1) := dg_L_law_1181.2.2.2.2.2.2.2.2.2.2.2.2.2.2.2
theorem dg_L_law_1200 : (decode cL_law 1200 = .ok (.aload_n 0, 1)) ∧ (decode cL_law 1201 = .ok (.iload_n 3, 1)) ∧ (decode cL_law 1202 = .ok (.iconst 3, 1)) ∧ (decode cL_law 1203 = .ok (.iadd, 1)) ∧ (decode cL_law 1204 = .ok (.iaload, 1)) ∧ (decode cL_law 1205 = .ok (.i2l, 1)) ∧ (decode cL_law 1206 = .ok (.ldc2_w 49, 3)) ∧ (decode cL_law 1209 = .ok (.land, 1)) ∧ (decode cL_law 1210 = .ok (.lor, 1)) ∧ (decode cL_law 1211 = .ok (.invokevirtual 105, 3)) ∧ (decode cL_law 1214 = .ok (.pop, 1)) ∧ (decode cL_law 1215 = .ok (.goto 656, 3)) ∧ (decode cL_law 1218 = .ok (.aload_n 1, 1)) ∧ (decode cL_law 1219 = .ok (.aload_n 0, 1)) ∧ (decode cL_law 1220 = .ok (.iload_n 3, 1)) ∧ (decode cL_law 1221 = .ok (.iconst 1, 1)) := by decide +kernel
theorem dL_law_1200 : decode cL_law 1200 = .ok (.aload_n 0, 1) := dg_L_law_1200.1
theorem dL_law_1201 : decode cL_law 1201 = .ok (.iload_n 3, 1) := dg_L_law_1200.2.1
theorem dL_law_1202 : decode cL_law 1202 = .ok (.iconst 3, 1) := dg_L_law_1200.2.2.1
theorem dL_law_1203 : decode cL_law 1203 = .ok (.iadd, 1) := dg_L_law_1200.2.2.2.1
theorem dL_law_1204 : decode cL_law 1204 = .ok (.iaload, 1) := dg_L_law_1200.2.2.2.2.1
theorem dL_law_1205 : decode cL_law 1205 = .ok (.i2l, 1) := dg_L_law_1200.2.2.2.2.2.1
theorem dL_law_1206 : decode cL_law 1206 = .ok (.ldc2_w 49, 3) := dg_L_law_1200.2.2.2.2.2.2.1
theorem dL_law_1209 : decode cL_law 1209 = .ok (.land, 1) := dg_L_law_1200.2.2.2.2.2.2.2.1
theorem dL_law_1210 : decode cL_law 1210 = .ok (.lor, 1) := dg_L_law_1200.2.2.2.2.2.2.2.2.1
theorem dL_law_1211 : decode cL_law 1211 = .ok (.invokevirtual 105, 3) := dg_L_law_1200.2.2.2.2.2.2.2.2.2.1
theorem dL_law_1214 : decode cL_law 1214 = .ok (.pop, 1) := dg_L_law_1200.2.2.2.2.2.2.2.2.2.2.1
theorem dL_law_1215 : decode cL_law 1215 = .ok (.goto 656, 3) := dg_L_law_1200.2.2.2.2.2.2.2.2.2.2.2.1
theorem dL_law_1218 : decode cL_law 1218 = .ok (.aload_n 1, 1) := dg_L_law_1200.2.2.2.2.2.2.2.2.2.2.2.2.1
theorem dL_law_1219 : decode cL_law 1219 = .ok (.aload_n 0, 1) := dg_L_law_1200.2.2.2.2.2.2.2.2.2.2.2.2.2.1
theorem dL_law_1220 : decode cL_law 1220 = .ok (.iload_n 3, 1) := dg_L_law_1200.2.2.2.2.2.2.2.2.2.2.2.2.2.2.1
theorem dL_law_1221 : decode cL_law 1221 = .ok (.iconst 1, 1) := dg_L_law_1200.2.2.2.2.2.2.2.2.2.2.2.2.2.2.2
theorem dg_L_law_1222 : (decode cL_law 1222 = .ok (.iadd, 1)) ∧ (decode cL_law 1223 = .ok (.iaload, 1)) ∧ (decode cL_law 1224 = .ok (.aload_n 0, 1)) ∧ (decode cL_law 1225 = .ok (.iload_n 3, 1)) ∧ (decode cL_law 1226 = .ok (.iconst 2, 1)) ∧ (decode cL_law 1227 = .ok (.iadd, 1)) ∧ (decode cL_law 1228 = .ok (.iaload, 1)) ∧ (decode cL_law 1229 = .ok (.invokevirtual 106, 3)) ∧ (decode cL_law 1232 = .ok (.pop, 1)) ∧ (decode cL_law 1233 = .ok (.aload_n 2, 1)) ∧ (decode cL_law 1234 = .ok (.aload_n 0, 1)) ∧ (decode cL_law 1235 = .ok (.iload_n 3, 1)) ∧ (decode cL_law 1236 = .ok (.iconst 1, 1)) ∧ (decode cL_law 1237 = .ok (.iadd, 1)) ∧ (decode cL_law 1238 = .ok (.iaload, 1)) ∧ (decode cL_law 1239 = .ok (.aload_n 0, 1)) := by decide +kernel
theorem dL_law_1222 : decode cL_law 1222 = .ok (.iadd, 1) := dg_L_law_1222.1
theorem dL_law_1223 : decode cL_law 1223 = .ok (.iaload, 1) := dg_L_law_1222.2.1
theorem dL_law_1224 : decode cL_law 1224 = .ok (.aload_n 0, 1) := dg_L_law_1222.2.2.1
theorem dL_law_1225 : decode cL_law 1225 = .ok (.iload_n 3, 1) := dg_L_law_1222.2.2.2.1
theorem dL_law_1226 : decode cL_law 1226 = .ok (.iconst 2, 1) := dg_L_law_1222.2.2.2.2.1
theorem dL_law_1227 : decode cL_law 1227 = .ok (.iadd, 1) := dg_L_law_1222.2.2.2.2.2.1
theorem dL_law_1228 : decode cL_law 1228 = .ok (.iaload, 1) := dg_L_law_1222.2.2.2.2.2.2.1
theorem dL_law_1229 : decode cL_law 1229 = .ok (.invokevirtual 106, 3) := dg_L_law_1222.2.2.2.2.2.2.2.1
theorem dL_law_1232 : decode cL_law 1232 = .ok (.pop, 1) := dg_L_law_1222.2.2.2.2.2.2.2.2.1
theorem dL_law_1233 : decode cL_law 1233 = .ok (.aload_n 2, 1) := dg_L_law_1222.2.2.2.2.2.2.2.2.2.1
theorem dL_law_1234 : decode cL_law 1234 = .ok (.aload_n 0, 1) := dg_L_law_1222.2.2.2.2.2.2.2.2.2.2.1
theorem dL_law_1235 : decode cL_law 1235 = .ok (.iload_n 3, 1) := dg_L_law_1222.2.2.2.2.2.2.2.2.2.2.2.1
theorem dL_law_1236 : decode cL_law 1236 = .ok (.iconst 1, 1) := dg_L_law_1222.2.2.2.2.2.2.2.2.2.2.2.2.1
theorem dL_law_1237 : decode cL_law 1237 = .ok (.iadd, 1) := dg_L_law_1222.2.2.2.2.2.2.2.2.2.2.2.2.2.1
theorem dL_law_1238 : decode cL_law 1238 = .ok (.iaload, 1) := dg_L_law_1222.2.2.2.2.2.2.2.2.2.2.2.2.2.2.1
theorem dL_law_1239 : decode cL_law 1239 = .ok (.aload_n 0, 1) := dg_L_law_1222.2.2.2.2.2.2.2.2.2.2.2.2.2.2.2
theorem dg_L_law_1240 : (decode cL_law 1240 = .ok (.iload_n 3, 1)) ∧ (decode cL_law 1241 = .ok (.iconst 2, 1)) ∧ (decode cL_law 1242 = .ok (.iadd, 1)) ∧ (decode cL_law 1243 = .ok (.iaload, 1)) ∧ (decode cL_law 1244 = .ok (.invokevirtual 109, 3)) ∧ (decode cL_law 1247 = .ok (.pop, 1)) ∧ (decode cL_law 1248 = .ok (.goto 623, 3)) ∧ (decode cL_law 1251 = .ok (.aload_n 1, 1)) ∧ (decode cL_law 1252 = .ok (.aload_n 0, 1)) ∧ (decode cL_law 1253 = .ok (.iload_n 3, 1)) ∧ (decode cL_law 1254 = .ok (.iconst 1, 1)) ∧ (decode cL_law 1255 = .ok (.iadd, 1)) ∧ (decode cL_law 1256 = .ok (.iaload, 1)) ∧ (decode cL_law 1257 = .ok (.invokevirtual 110, 3)) ∧ (decode cL_law 1260 = .ok (.aload_n 2, 1)) ∧ (decode cL_law 1261 = .ok (.aload_n 0, 1)) := by decide +kernel
theorem dL_law_1240 : decode cL_law 1240 = .ok (.iload_n 3, 1) := dg_L_law_1240.1
theorem dL_law_1241 : decode cL_law 1241 = .ok (.iconst 2, 1) := dg_L_law_1240.2.1
theorem dL_law_1242 : decode cL_law 1242 = .ok (.iadd, 1) := dg_L_law_1240.2.2.1
theorem dL_law_1243 : decode cL_law 1243 = .ok (.iaload, 1) := dg_L_law_1240.2.2.2.1
theorem dL_law_1244 : decode cL_law 1244 = .ok (.invokevirtual 109, 3) := dg_L_law_1240.2.2.2.2.1
theorem dL_law_1247 : decode cL_law 1247 = .ok (.pop, 1) := dg_L_law_1240.2.2.2.2.2.1
theorem dL_law_1248 : decode cL_law 1248 = .ok (.goto 623, 3) := dg_L_law_1240.2.2.2.2.2.2.1
theorem dL_law_1251 : decode cL_law 1251 = .ok (.aload_n 1, 1) := dg_L_law_1240.2.2.2.2.2.2.2.1
theorem dL_law_1252 : decode cL_law 1252 = .ok (.aload_n 0, 1) := dg_L_law_1240.2.2.2.2.2.2.2.2.1
theorem dL_law_1253 : decode cL_law 1253 = .ok (.iload_n 3, 1) := dg_L_law_1240.2.2.2.2.2.2.2.2.2.1
theorem dL_law_1254 : decode cL_law 1254 = .ok (.iconst 1, 1) := dg_L_law_1240.2.2.2.2.2.2.2.2.2.2.1
theorem dL_law_1255 : decode cL_law 1255 = .ok (.iadd, 1) := dg_L_law_1240.2.2.2.2.2.2.2.2.2.2.2.1
theorem dL_law_1256 : decode cL_law 1256 = .ok (.iaload, 1) := dg_L_law_1240.2.2.2.2.2.2.2.2.2.2.2.2.1
theorem dL_law_1257 : decode cL_law 1257 = .ok (.invokevirtual 110, 3) := dg_L_law_1240.2.2.2.2.2.2.2.2.2.2.2.2.2.1
theorem dL_law_1260 : decode cL_law 1260 = .ok (.aload_n 2, 1) := dg_L_law_1240.2.2.2.2.2.2.2.2.2.2.2.2.2.2.1
theorem dL_law_1261 : decode cL_law 1261 = .ok (.aload_n 0, 1) := dg_L_law_1240.2.2.2.2.2.2.2.2.2.2.2.2.2.2.2
theorem dg_L_law_1262 : (decode cL_law 1262 = .ok (.iload_n 3, 1)) ∧ (decode cL_law 1263 = .ok (.iconst 1, 1)) ∧ (decode cL_law 1264 = .ok (.iadd, 1)) ∧ (decode cL_law 1265 = .ok (.iaload, 1)) ∧ (decode cL_law 1266 = .ok (.invokevirtual 113, 3)) ∧ (decode cL_law 1269 = .ok (.if_icmp .eq 602, 3)) ∧ (decode cL_law 1272 = .ok (.iconst 0, 1)) ∧ (decode cL_law 1273 = .ok (.ireturn, 1)) ∧ (decode cL_law 1274 = .ok (.aload_n 1, 1)) ∧ (decode cL_law 1275 = .ok (.aload_n 0, 1)) ∧ (decode cL_law 1276 = .ok (.iload_n 3, 1)) ∧ (decode cL_law 1277 = .ok (.iconst 1, 1)) ∧ (decode cL_law 1278 = .ok (.iadd, 1)) ∧ (decode cL_law 1279 = .ok (.iaload, 1)) ∧ (decode cL_law 1280 = .ok (.aload_n 0, 1)) ∧ (decode cL_law 1281 = .ok (.iload_n 3, 1)) := by decide +kernel
theorem dL_law_1262 : decode cL_law 1262 = .ok (.iload_n 3, 1) := dg_L_law_1262.1
theorem dL_law_1263 : decode cL_law 1263 = .ok (.iconst 1, 1) := dg_L_law_1262.2.1
theorem dL_law_1264 : decode cL_law 1264 = .ok (.iadd, 1) := dg_L_law_1262.2.2.1
theorem dL_law_1265 : decode cL_law 1265 = .ok (.iaload, 1) := dg_L_law_1262.2.2.2.1
theorem dL_law_1266 : decode cL_law 1266 = .ok (.invokevirtual 113, 3) := dg_L_law_1262.2.2.2.2.1
theorem dL_law_1269 : decode cL_law 1269 = .ok (.if_icmp .eq 602, 3) := dg_L_law_1262.2.2.2.2.2.1
theorem dL_law_1272 : decode cL_law 1272 = .ok (.iconst 0, 1) := dg_L_law_1262.2.2.2.2.2.2.1
theorem dL_law_1273 : decode cL_law 1273 = .ok (.ireturn, 1) := dg_L_law_1262.2.2.2.2.2.2.2.1
theorem dL_law_1274 : decode cL_law 1274 = .ok (.aload_n 1, 1) := dg_L_law_1262.2.2.2.2.2.2.2.2.1
theorem dL_law_1275 : decode cL_law 1275 = .ok (.aload_n 0, 1) := dg_L_law_1262.2.2.2.2.2.2.2.2.2.1
theorem dL_law_1276 : decode cL_law 1276 = .ok (.iload_n 3, 1) := dg_L_law_1262.2.2.2.2.2.2.2.2.2.2.1
theorem dL_law_1277 : decode cL_law 1277 = .ok (.iconst 1, 1) := dg_L_law_1262.2.2.2.2.2.2.2.2.2.2.2.1
theorem dL_law_1278 : decode cL_law 1278 = .ok (.iadd, 1) := dg_L_law_1262.2.2.2.2.2.2.2.2.2.2.2.2.1
theorem dL_law_1279 : decode cL_law 1279 = .ok (.iaload, 1) := dg_L_law_1262.2.2.2.2.2.2.2.2.2.2.2.2.2.1
theorem dL_law_1280 : decode cL_law 1280 = .ok (.aload_n 0, 1) := dg_L_law_1262.2.2.2.2.2.2.2.2.2.2.2.2.2.2.1
theorem dL_law_1281 : decode cL_law 1281 = .ok (.iload_n 3, 1) := dg_L_law_1262.2.2.2.2.2.2.2.2.2.2.2.2.2.2.2
theorem dg_L_law_1282 : (decode cL_law 1282 = .ok (.iconst 2, 1)) ∧ (decode cL_law 1283 = .ok (.iadd, 1)) ∧ (decode cL_law 1284 = .ok (.iaload, 1)) ∧ (decode cL_law 1285 = .ok (.aload_n 0, 1)) ∧ (decode cL_law 1286 = .ok (.iload_n 3, 1)) ∧ (decode cL_law 1287 = .ok (.iconst 3, 1)) ∧ (decode cL_law 1288 = .ok (.iadd, 1)) ∧ (decode cL_law 1289 = .ok (.iaload, 1)) ∧ (decode cL_law 1290 = .ok (.aload_n 0, 1)) ∧ (decode cL_law 1291 = .ok (.iload_n 3, 1)) ∧ (decode cL_law 1292 = .ok (.iconst 4, 1)) ∧ (decode cL_law 1293 = .ok (.iadd, 1)) ∧ (decode cL_law 1294 = .ok (.iaload, 1)) ∧ (decode cL_law 1295 = .ok (.aload_n 0, 1)) ∧ (decode cL_law 1296 = .ok (.iload_n 3, 1)) ∧ (decode cL_law 1297 = .ok (.iconst 5, 1)) := by decide +kernel
theorem dL_law_1282 : decode cL_law 1282 = .ok (.iconst 2, 1) := dg_L_law_1282.1
theorem dL_law_1283 : decode cL_law 1283 = .ok (.iadd, 1) := dg_L_law_1282.2.1
theorem dL_law_1284 : decode cL_law 1284 = .ok (.iaload, 1) := dg_L_law_1282.2.2.1
theorem dL_law_1285 : decode cL_law 1285 = .ok (.aload_n 0, 1) := dg_L_law_1282.2.2.2.1
theorem dL_law_1286 : decode cL_law 1286 = .ok (.iload_n 3, 1) := dg_L_law_1282.2.2.2.2.1
theorem dL_law_1287 : decode cL_law 1287 = .ok (.iconst 3, 1) := dg_L_law_1282.2.2.2.2.2.1
theorem dL_law_1288 : decode cL_law 1288 = .ok (.iadd, 1) := dg_L_law_1282.2.2.2.2.2.2.1
theorem dL_law_1289 : decode cL_law 1289 = .ok (.iaload, 1) := dg_L_law_1282.2.2.2.2.2.2.2.1
theorem dL_law_1290 : decode cL_law 1290 = .ok (.aload_n 0, 1) := dg_L_law_1282.2.2.2.2.2.2.2.2.1
theorem dL_law_1291 : decode cL_law 1291 = .ok (.iload_n 3, 1) := dg_L_law_1282.2.2.2.2.2.2.2.2.2.1
theorem dL_law_1292 : decode cL_law 1292 = .ok (.iconst 4, 1) := dg_L_law_1282.2.2.2.2.2.2.2.2.2.2.1
theorem dL_law_1293 : decode cL_law 1293 = .ok (.iadd, 1) := dg_L_law_1282.2.2.2.2.2.2.2.2.2.2.2.1
theorem dL_law_1294 : decode cL_law 1294 = .ok (.iaload, 1) := dg_L_law_1282.2.2.2.2.2.2.2.2.2.2.2.2.1
theorem dL_law_1295 : decode cL_law 1295 = .ok (.aload_n 0, 1) := dg_L_law_1282.2.2.2.2.2.2.2.2.2.2.2.2.2.1
theorem dL_law_1296 : decode cL_law 1296 = .ok (.iload_n 3, 1) := dg_L_law_1282.2.2.2.2.2.2.2.2.2.2.2.2.2.2.1
theorem dL_law_1297 : decode cL_law 1297 = .ok (.iconst 5, 1) := dg_L_law_1282.2.2.2.2.2.2.2.2.2.2.2.2.2.2.2
theorem dg_L_law_1298 : (decode cL_law 1298 = .ok (.iadd, 1)) ∧ (decode cL_law 1299 = .ok (.iaload, 1)) ∧ (decode cL_law 1300 = .ok (.invokevirtual 114, 3)) ∧ (decode cL_law 1303 = .ok (.pop, 1)) ∧ (decode cL_law 1304 = .ok (.aload_n 2, 1)) ∧ (decode cL_law 1305 = .ok (.aload_n 0, 1)) ∧ (decode cL_law 1306 = .ok (.iload_n 3, 1)) ∧ (decode cL_law 1307 = .ok (.iconst 1, 1)) ∧ (decode cL_law 1308 = .ok (.iadd, 1)) ∧ (decode cL_law 1309 = .ok (.iaload, 1)) ∧ (decode cL_law 1310 = .ok (.aload_n 0, 1)) ∧ (decode cL_law 1311 = .ok (.iload_n 3, 1)) ∧ (decode cL_law 1312 = .ok (.iconst 2, 1)) ∧ (decode cL_law 1313 = .ok (.iadd, 1)) ∧ (decode cL_law 1314 = .ok (.iaload, 1)) ∧ (decode cL_law 1315 = .ok (.aload_n 0, 1)) := by decide +kernel
theorem dL_law_1298 : decode cL_law 1298 = .ok (.iadd, 1) := dg_L_law_1298.1
theorem dL_law_1299 : decode cL_law 1299 = .ok (.iaload, 1) := dg_L_law_1298.2.1
theorem dL_law_1300 : decode cL_law 1300 = .ok (.invokevirtual 114, 3) := dg_L_law_1298.2.2.1
theorem dL_law_1303 : decode cL_law 1303 = .ok (.pop, 1) := dg_L_law_1298.2.2.2.1
theorem dL_law_1304 : decode cL_law 1304 = .ok (.aload_n 2, 1) := dg_L_law_1298.2.2.2.2.1
theorem dL_law_1305 : decode cL_law 1305 = .ok (.aload_n 0, 1) := dg_L_law_1298.2.2.2.2.2.1
theorem dL_law_1306 : decode cL_law 1306 = .ok (.iload_n 3, 1) := dg_L_law_1298.2.2.2.2.2.2.1
theorem dL_law_1307 : decode cL_law 1307 = .ok (.iconst 1, 1) := dg_L_law_1298.2.2.2.2.2.2.2.1
theorem dL_law_1308 : decode cL_law 1308 = .ok (.iadd, 1) := dg_L_law_1298.2.2.2.2.2.2.2.2.1
theorem dL_law_1309 : decode cL_law 1309 = .ok (.iaload, 1) := dg_L_law_1298.2.2.2.2.2.2.2.2.2.1
theorem dL_law_1310 : decode cL_law 1310 = .ok (.aload_n 0, 1) := dg_L_law_1298.2.2.2.2.2.2.2.2.2.2.1
theorem dL_law_1311 : decode cL_law 1311 = .ok (.iload_n 3, 1) := dg_L_law_1298.2.2.2.2.2.2.2.2.2.2.2.1
theorem dL_law_1312 : decode cL_law 1312 = .ok (.iconst 2, 1) := dg_L_law_1298.2.2.2.2.2.2.2.2.2.2.2.2.1
theorem dL_law_1313 : decode cL_law 1313 = .ok (.iadd, 1) := dg_L_law_1298.2.2.2.2.2.2.2.2.2.2.2.2.2.1
theorem dL_law_1314 : decode cL_law 1314 = .ok (.iaload, 1) := dg_L_law_1298.2.2.2.2.2.2.2.2.2.2.2.2.2.2.1
theorem dL_law_1315 : decode cL_law 1315 = .ok (.aload_n 0, 1) := dg_L_law_1298.2.2.2.2.2.2.2.2.2.2.2.2.2.2.2
theorem dg_L_law_1316 : (decode cL_law 1316 = .ok (.iload_n 3, 1)) ∧ (decode cL_law 1317 = .ok (.iconst 3, 1)) ∧ (decode cL_law 1318 = .ok (.iadd, 1)) ∧ (decode cL_law 1319 = .ok (.iaload, 1)) ∧ (decode cL_law 1320 = .ok (.aload_n 0, 1)) ∧ (decode cL_law 1321 = .ok (.iload_n 3, 1)) ∧ (decode cL_law 1322 = .ok (.iconst 4, 1)) ∧ (decode cL_law 1323 = .ok (.iadd, 1)) ∧ (decode cL_law 1324 = .ok (.iaload, 1)) ∧ (decode cL_law 1325 = .ok (.aload_n 0, 1)) ∧ (decode cL_law 1326 = .ok (.iload_n 3, 1)) ∧ (decode cL_law 1327 = .ok (.iconst 5, 1)) ∧ (decode cL_law 1328 = .ok (.iadd, 1)) ∧ (decode cL_law 1329 = .ok (.iaload, 1)) ∧ (decode cL_law 1330 = .ok (.invokevirtual 117, 3)) ∧ (decode cL_law 1333 = .ok (.pop, 1)) := by decide +kernel
theorem dL_law_1316 : decode cL_law 1316 = .ok (.iload_n 3, 1) := dg_L_law_1316.1
theorem dL_law_1317 : decode cL_law 1317 = .ok (.iconst 3, 1) := dg_L_law_1316.2.1
theorem dL_law_1318 : decode cL_law 1318 = .ok (.iadd, 1) := dg_L_law_1316.2.2.1
theorem dL_law_1319 : decode cL_law 1319 = .ok (.iaload, 1) := dg_L_law_1316.2.2.2.1
theorem dL_law_1320 : decode cL_law 1320 = .ok (.aload_n 0, 1) := dg_L_law_1316.2.2.2.2.1
theorem dL_law_1321 : decode cL_law 1321 = .ok (.iload_n 3, 1) := dg_L_law_1316.2.2.2.2.2.1
theorem dL_law_1322 : decode cL_law 1322 = .ok (.iconst 4, 1) := dg_L_law_1316.2.2.2.2.2.2.1
theorem dL_law_1323 : decode cL_law 1323 = .ok (.iadd, 1) := dg_L_law_1316.2.2.2.2.2.2.2.1
theorem dL_law_1324 : decode cL_law 1324 = .ok (.iaload, 1) := dg_L_law_1316.2.2.2.2.2.2.2.2.1
theorem dL_law_1325 : decode cL_law 1325 = .ok (.aload_n 0, 1) := dg_L_law_1316.2.2.2.2.2.2.2.2.2.1
theorem dL_law_1326 : decode cL_law 1326 = .ok (.iload_n 3, 1) := dg_L_law_1316.2.2.2.2.2.2.2.2.2.2.1
theorem dL_law_1327 : decode cL_law 1327 = .ok (.iconst 5, 1) := dg_L_law_1316.2.2.2.2.2.2.2.2.2.2.2.1
theorem dL_law_1328 : decode cL_law 1328 = .ok (.iadd, 1) := dg_L_law_1316.2.2.2.2.2.2.2.2.2.2.2.2.1
theorem dL_law_1329 : decode cL_law 1329 = .ok (.iaload, 1) := dg_L_law_1316.2.2.2.2.2.2.2.2.2.2.2.2.2.1
theorem dL_law_1330 : decode cL_law 1330 = .ok (.invokevirtual 117, 3) := dg_L_law_1316.2.2.2.2.2.2.2.2.2.2.2.2.2.2.1
theorem dL_law_1333 : decode cL_law 1333 = .ok (.pop, 1) := dg_L_law_1316.2.2.2.2.2.2.2.2.2.2.2.2.2.2.2
theorem dg_L_law_1334 : (decode cL_law 1334 = .ok (.goto 537, 3)) ∧ (decode cL_law 1337 = .ok (.aload_n 1, 1)) ∧ (decode cL_law 1338 = .ok (.aload_n 0, 1)) ∧ (decode cL_law 1339 = .ok (.iload_n 3, 1)) ∧ (decode cL_law 1340 = .ok (.iconst 1, 1)) ∧ (decode cL_law 1341 = .ok (.iadd, 1)) ∧ (decode cL_law 1342 = .ok (.iaload, 1)) ∧ (decode cL_law 1343 = .ok (.aload_n 0, 1)) ∧ (decode cL_law 1344 = .ok (.iload_n 3, 1)) ∧ (decode cL_law 1345 = .ok (.iconst 2, 1)) ∧ (decode cL_law 1346 = .ok (.iadd, 1)) ∧ (decode cL_law 1347 = .ok (.iaload, 1)) ∧ (decode cL_law 1348 = .ok (.i2l, 1)) ∧ (decode cL_law 1349 = .ok (.bipush 32, 2)) ∧ (decode cL_law 1351 = .ok (.lshl, 1)) ∧ (decode cL_law 1352 = .ok (.aload_n 0, 1)) := by decide +kernel
theorem dL_law_1334 : decode cL_law 1334 = .ok (.goto 537, 3) := dg_L_law_1334.1
theorem dL_law_1337 : decode cL_law 1337 = .ok (.aload_n 1, 1) := dg_L_law_1334.2.1
theorem dL_law_1338 : decode cL_law 1338 = .ok (.aload_n 0, 1) := dg_L_law_1334.2.2.1
theorem dL_law_1339 : decode cL_law 1339 = .ok (.iload_n 3, 1) := dg_L_law_1334.2.2.2.1
theorem dL_law_1340 : decode cL_law 1340 = .ok (.iconst 1, 1) := dg_L_law_1334.2.2.2.2.1
theorem dL_law_1341 : decode cL_law 1341 = .ok (.iadd, 1) := dg_L_law_1334.2.2.2.2.2.1
theorem dL_law_1342 : decode cL_law 1342 = .ok (.iaload, 1) := dg_L_law_1334.2.2.2.2.2.2.1
theorem dL_law_1343 : decode cL_law 1343 = .ok (.aload_n 0, 1) := dg_L_law_1334.2.2.2.2.2.2.2.1
theorem dL_law_1344 : decode cL_law 1344 = .ok (.iload_n 3, 1) := dg_L_law_1334.2.2.2.2.2.2.2.2.1
theorem dL_law_1345 : decode cL_law 1345 = .ok (.iconst 2, 1) := dg_L_law_1334.2.2.2.2.2.2.2.2.2.1
theorem dL_law_1346 : decode cL_law 1346 = .ok (.iadd, 1) := dg_L_law_1334.2.2.2.2.2.2.2.2.2.2.1
theorem dL_law_1347 : decode cL_law 1347 = .ok (.iaload, 1) := dg_L_law_1334.2.2.2.2.2.2.2.2.2.2.2.1
theorem dL_law_1348 : decode cL_law 1348 = .ok (.i2l, 1) := dg_L_law_1334.2.2.2.2.2.2.2.2.2.2.2.2.1
theorem dL_law_1349 : decode cL_law 1349 = .ok (.bipush 32, 2) := dg_L_law_1334.2.2.2.2.2.2.2.2.2.2.2.2.2.1
theorem dL_law_1351 : decode cL_law 1351 = .ok (.lshl, 1) := dg_L_law_1334.2.2.2.2.2.2.2.2.2.2.2.2.2.2.1
theorem dL_law_1352 : decode cL_law 1352 = .ok (.aload_n 0, 1) := dg_L_law_1334.2.2.2.2.2.2.2.2.2.2.2.2.2.2.2
theorem dg_L_law_1353 : (decode cL_law 1353 = .ok (.iload_n 3, 1)) ∧ (decode cL_law 1354 = .ok (.iconst 3, 1)) ∧ (decode cL_law 1355 = .ok (.iadd, 1)) ∧ (decode cL_law 1356 = .ok (.iaload, 1)) ∧ (decode cL_law 1357 = .ok (.i2l, 1)) ∧ (decode cL_law 1358 = .ok (.ldc2_w 49, 3)) ∧ (decode cL_law 1361 = .ok (.land, 1)) ∧ (decode cL_law 1362 = .ok (.lor, 1)) ∧ (decode cL_law 1363 = .ok (.invokevirtual 118, 3)) ∧ (decode cL_law 1366 = .ok (.pop, 1)) ∧ (decode cL_law 1367 = .ok (.aload_n 2, 1)) ∧ (decode cL_law 1368 = .ok (.aload_n 0, 1)) ∧ (decode cL_law 1369 = .ok (.iload_n 3, 1)) ∧ (decode cL_law 1370 = .ok (.iconst 1, 1)) ∧ (decode cL_law 1371 = .ok (.iadd, 1)) ∧ (decode cL_law 1372 = .ok (.iaload, 1)) := by decide +kernel
theorem dL_law_1353 : decode cL_law 1353 = .ok (.iload_n 3, 1) := dg_L_law_1353.1
theorem dL_law_1354 : decode cL_law 1354 = .ok (.iconst 3, 1) := dg_L_law_1353.2.1
theorem dL_law_1355 : decode cL_law 1355 = .ok (.iadd, 1) := dg_L_law_1353.2.2.1
theorem dL_law_1356 : decode cL_law 1356 = .ok (.iaload, 1) := dg_L_law_1353.2.2.2.1
theorem dL_law_1357 : decode cL_law 1357 = .ok (.i2l, 1) := dg_L_law_1353.2.2.2.2.1
theorem dL_law_1358 : decode cL_law 1358 = .ok (.ldc2_w 49, 3) := dg_L_law_1353.2.2.2.2.2.1
theorem dL_law_1361 : decode cL_law 1361 = .ok (.land, 1) := dg_L_law_1353.2.2.2.2.2.2.1
theorem dL_law_1362 : decode cL_law 1362 = .ok (.lor, 1) := dg_L_law_1353.2.2.2.2.2.2.2.1
theorem dL_law_1363 : decode cL_law 1363 = .ok (.invokevirtual 118, 3) := dg_L_law_1353.2.2.2.2.2.2.2.2.1
theorem dL_law_1366 : decode cL_law 1366 = .ok (.pop, 1) := dg_L_law_1353.2.2.2.2.2.2.2.2.2.1
theorem dL_law_1367 : decode cL_law 1367 = .ok (.aload_n 2, 1) := dg_L_law_1353.2.2.2.2.2.2.2.2.2.2.1
theorem dL_law_1368 : decode cL_law 1368 = .ok (.aload_n 0, 1) := dg_L_law_1353.2.2.2.2.2.2.2.2.2.2.2.1
theorem dL_law_1369 : decode cL_law 1369 = .ok (.iload_n 3, 1) := dg_L_law_1353.2.2.2.2.2.2.2.2.2.2.2.2.1
theorem dL_law_1370 : decode cL_law 1370 = .ok (.iconst 1, 1) := dg_L_law_1353.2.2.2.2.2.2.2.2.2.2.2.2.2.1
theorem dL_law_1371 : decode cL_law 1371 = .ok (.iadd, 1) := dg_L_law_1353.2.2.2.2.2.2.2.2.2.2.2.2.2.2.1
theorem dL_law_1372 : decode cL_law 1372 = .ok (.iaload, 1) := dg_L_law_1353.2.2.2.2.2.2.2.2.2.2.2.2.2.2.2
theorem dg_L_law_1373 : (decode cL_law 1373 = .ok (.aload_n 0, 1)) ∧ (decode cL_law 1374 = .ok (.iload_n 3, 1)) ∧ (decode cL_law 1375 = .ok (.iconst 2, 1)) ∧ (decode cL_law 1376 = .ok (.iadd, 1)) ∧ (decode cL_law 1377 = .ok (.iaload, 1)) ∧ (decode cL_law 1378 = .ok (.i2l, 1)) ∧ (decode cL_law 1379 = .ok (.bipush 32, 2)) ∧ (decode cL_law 1381 = .ok (.lshl, 1)) ∧ (decode cL_law 1382 = .ok (.aload_n 0, 1)) ∧ (decode cL_law 1383 = .ok (.iload_n 3, 1)) ∧ (decode cL_law 1384 = .ok (.iconst 3, 1)) ∧ (decode cL_law 1385 = .ok (.iadd, 1)) ∧ (decode cL_law 1386 = .ok (.iaload, 1)) ∧ (decode cL_law 1387 = .ok (.i2l, 1)) ∧ (decode cL_law 1388 = .ok (.ldc2_w 49, 3)) ∧ (decode cL_law 1391 = .ok (.land, 1)) := by decide +kernel
theorem dL_law_1373 : decode cL_law 1373 = .ok (.aload_n 0, 1) := dg_L_law_1373.1
theorem dL_law_1374 : decode cL_law 1374 = .ok (.iload_n 3, 1) := dg_L_law_1373.2.1
theorem dL_law_1375 : decode cL_law 1375 = .ok (.iconst 2, 1) := dg_L_law_1373.2.2.1
theorem dL_law_1376 : decode cL_law 1376 = .ok (.iadd, 1) := dg_L_law_1373.2.2.2.1
theorem dL_law_1377 : decode cL_law 1377 = .ok (.iaload, 1) := dg_L_law_1373.2.2.2.2.1
theorem dL_law_1378 : decode cL_law 1378 = .ok (.i2l, 1) := dg_L_law_1373.2.2.2.2.2.1
theorem dL_law_1379 : decode cL_law 1379 = .ok (.bipush 32, 2) := dg_L_law_1373.2.2.2.2.2.2.1
theorem dL_law_1381 : decode cL_law 1381 = .ok (.lshl, 1) := dg_L_law_1373.2.2.2.2.2.2.2.1
theorem dL_law_1382 : decode cL_law 1382 = .ok (.aload_n 0, 1) := dg_L_law_1373.2.2.2.2.2.2.2.2.1
theorem dL_law_1383 : decode cL_law 1383 = .ok (.iload_n 3, 1) := dg_L_law_1373.2.2.2.2.2.2.2.2.2.1
theorem dL_law_1384 : decode cL_law 1384 = .ok (.iconst 3, 1) := dg_L_law_1373.2.2.2.2.2.2.2.2.2.2.1
theorem dL_law_1385 : decode cL_law 1385 = .ok (.iadd, 1) := dg_L_law_1373.2.2.2.2.2.2.2.2.2.2.2.1
theorem dL_law_1386 : decode cL_law 1386 = .ok (.iaload, 1) := dg_L_law_1373.2.2.2.2.2.2.2.2.2.2.2.2.1
theorem dL_law_1387 : decode cL_law 1387 = .ok (.i2l, 1) := dg_L_law_1373.2.2.2.2.2.2.2.2.2.2.2.2.2.1
theorem dL_law_1388 : decode cL_law 1388 = .ok (.ldc2_w 49, 3) := dg_L_law_1373.2.2.2.2.2.2.2.2.2.2.2.2.2.2.1
theorem dL_law_1391 : decode cL_law 1391 = .ok (.land, 1) := dg_L_law_1373.2.2.2.2.2.2.2.2.2.2.2.2.2.2.2
theorem dg_L_law_1392 : (decode cL_law 1392 = .ok (.lor, 1)) ∧ (decode cL_law 1393 = .ok (.invokevirtual 121, 3)) ∧ (decode cL_law 1396 = .ok (.pop, 1)) ∧ (decode cL_law 1397 = .ok (.goto 474, 3)) ∧ (decode cL_law 1400 = .ok (.aload_n 1, 1)) ∧ (decode cL_law 1401 = .ok (.aload_n 0, 1)) ∧ (decode cL_law 1402 = .ok (.iload_n 3, 1)) ∧ (decode cL_law 1403 = .ok (.iconst 1, 1)) ∧ (decode cL_law 1404 = .ok (.iadd, 1)) ∧ (decode cL_law 1405 = .ok (.iaload, 1)) ∧ (decode cL_law 1406 = .ok (.aload_n 0, 1)) ∧ (decode cL_law 1407 = .ok (.iload_n 3, 1)) ∧ (decode cL_law 1408 = .ok (.iconst 2, 1)) ∧ (decode cL_law 1409 = .ok (.iadd, 1)) ∧ (decode cL_law 1410 = .ok (.iaload, 1)) ∧ (decode cL_law 1411 = .ok (.i2l, 1)) := by decide +kernel
theorem dL_law_1392 : decode cL_law 1392 = .ok (.lor, 1) := dg_L_law_1392.1
theorem dL_law_1393 : decode cL_law 1393 = .ok (.invokevirtual 121, 3) := dg_L_law_1392.2.1
theorem dL_law_1396 : decode cL_law 1396 = .ok (.pop, 1) := dg_L_law_1392.2.2.1
theorem dL_law_1397 : decode cL_law 1397 = .ok (.goto 474, 3) := dg_L_law_1392.2.2.2.1
theorem dL_law_1400 : decode cL_law 1400 = .ok (.aload_n 1, 1) := dg_L_law_1392.2.2.2.2.1
theorem dL_law_1401 : decode cL_law 1401 = .ok (.aload_n 0, 1) := dg_L_law_1392.2.2.2.2.2.1
theorem dL_law_1402 : decode cL_law 1402 = .ok (.iload_n 3, 1) := dg_L_law_1392.2.2.2.2.2.2.1
theorem dL_law_1403 : decode cL_law 1403 = .ok (.iconst 1, 1) := dg_L_law_1392.2.2.2.2.2.2.2.1
theorem dL_law_1404 : decode cL_law 1404 = .ok (.iadd, 1) := dg_L_law_1392.2.2.2.2.2.2.2.2.1
theorem dL_law_1405 : decode cL_law 1405 = .ok (.iaload, 1) := dg_L_law_1392.2.2.2.2.2.2.2.2.2.1
theorem dL_law_1406 : decode cL_law 1406 = .ok (.aload_n 0, 1) := dg_L_law_1392.2.2.2.2.2.2.2.2.2.2.1
theorem dL_law_1407 : decode cL_law 1407 = .ok (.iload_n 3, 1) := dg_L_law_1392.2.2.2.2.2.2.2.2.2.2.2.1
theorem dL_law_1408 : decode cL_law 1408 = .ok (.iconst 2, 1) := dg_L_law_1392.2.2.2.2.2.2.2.2.2.2.2.2.1
theorem dL_law_1409 : decode cL_law 1409 = .ok (.iadd, 1) := dg_L_law_1392.2.2.2.2.2.2.2.2.2.2.2.2.2.1
theorem dL_law_1410 : decode cL_law 1410 = .ok (.iaload, 1) := dg_L_law_1392.2.2.2.2.2.2.2.2.2.2.2.2.2.2.1
theorem dL_law_1411 : decode cL_law 1411 = .ok (.i2l, 1) := dg_L_law_1392.2.2.2.2.2.2.2.2.2.2.2.2.2.2.2
theorem dg_L_law_1412 : (decode cL_law 1412 = .ok (.bipush 32, 2)) ∧ (decode cL_law 1414 = .ok (.lshl, 1)) ∧ (decode cL_law 1415 = .ok (.aload_n 0, 1)) ∧ (decode cL_law 1416 = .ok (.iload_n 3, 1)) ∧ (decode cL_law 1417 = .ok (.iconst 3, 1)) ∧ (decode cL_law 1418 = .ok (.iadd, 1)) ∧ (decode cL_law 1419 = .ok (.iaload, 1)) ∧ (decode cL_law 1420 = .ok (.i2l, 1)) ∧ (decode cL_law 1421 = .ok (.ldc2_w 49, 3)) ∧ (decode cL_law 1424 = .ok (.land, 1)) ∧ (decode cL_law 1425 = .ok (.lor, 1)) ∧ (decode cL_law 1426 = .ok (.aload_n 0, 1)) ∧ (decode cL_law 1427 = .ok (.iload_n 3, 1)) ∧ (decode cL_law 1428 = .ok (.iconst 4, 1)) ∧ (decode cL_law 1429 = .ok (.iadd, 1)) ∧ (decode cL_law 1430 = .ok (.iaload, 1)) := by decide +kernel
theorem dL_law_1412 : decode cL_law 1412 = .ok (.bipush 32, 2) := dg_L_law_1412.1
theorem dL_law_1414 : decode cL_law 1414 = .ok (.lshl, 1) := dg_L_law_1412.2.1
theorem dL_law_1415 : decode cL_law 1415 = .ok (.aload_n 0, 1) := dg_L_law_1412.2.2.1
theorem dL_law_1416 : decode cL_law 1416 = .ok (.iload_n 3, 1) := dg_L_law_1412.2.2.2.1
theorem dL_law_1417 : decode cL_law 1417 = .ok (.iconst 3, 1) := dg_L_law_1412.2.2.2.2.1
theorem dL_law_1418 : decode cL_law 1418 = .ok (.iadd, 1) := dg_L_law_1412.2.2.2.2.2.1
theorem dL_law_1419 : decode cL_law 1419 = .ok (.iaload, 1) := dg_L_law_1412.2.2.2.2.2.2.1
theorem dL_law_1420 : decode cL_law 1420 = .ok (.i2l, 1) := dg_L_law_1412.2.2.2.2.2.2.2.1
theorem dL_law_1421 : decode cL_law 1421 = .ok (.ldc2_w 49, 3) := dg_L_law_1412.2.2.2.2.2.2.2.2.1
theorem dL_law_1424 : decode cL_law 1424 = .ok (.land, 1) := dg_L_law_1412.2.2.2.2.2.2.2.2.2.1
theorem dL_law_1425 : decode cL_law 1425 = .ok (.lor, 1) := dg_L_law_1412.2.2.2.2.2.2.2.2.2.2.1
theorem dL_law_1426 : decode cL_law 1426 = .ok (.aload_n 0, 1) := dg_L_law_1412.2.2.2.2.2.2.2.2.2.2.2.1
theorem dL_law_1427 : decode cL_law 1427 = .ok (.iload_n 3, 1) := dg_L_law_1412.2.2.2.2.2.2.2.2.2.2.2.2.1
theorem dL_law_1428 : decode cL_law 1428 = .ok (.iconst 4, 1) := dg_L_law_1412.2.2.2.2.2.2.2.2.2.2.2.2.2.1
theorem dL_law_1429 : decode cL_law 1429 = .ok (.iadd, 1) := dg_L_law_1412.2.2.2.2.2.2.2.2.2.2.2.2.2.2.1
theorem dL_law_1430 : decode cL_law 1430 = .ok (.iaload, 1) := dg_L_law_1412.2.2.2.2.2.2.2.2.2.2.2.2.2.2.2
theorem dg_L_law_1431 : (decode cL_law 1431 = .ok (.i2l, 1)) ∧ (decode cL_law 1432 = .ok (.bipush 32, 2)) ∧ (decode cL_law 1434 = .ok (.lshl, 1)) ∧ (decode cL_law 1435 = .ok (.aload_n 0, 1)) ∧ (decode cL_law 1436 = .ok (.iload_n 3, 1)) ∧ (decode cL_law 1437 = .ok (.iconst 5, 1)) ∧ (decode cL_law 1438 = .ok (.iadd, 1)) ∧ (decode cL_law 1439 = .ok (.iaload, 1)) ∧ (decode cL_law 1440 = .ok (.i2l, 1)) ∧ (decode cL_law 1441 = .ok (.ldc2_w 49, 3)) ∧ (decode cL_law 1444 = .ok (.land, 1)) ∧ (decode cL_law 1445 = .ok (.lor, 1)) ∧ (decode cL_law 1446 = .ok (.aload_n 0, 1)) ∧ (decode cL_law 1447 = .ok (.iload_n 3, 1)) ∧ (decode cL_law 1448 = .ok (.bipush 6, 2)) ∧ (decode cL_law 1450 = .ok (.iadd, 1)) := by decide +kernel
theorem dL_law_1431 : decode cL_law 1431 = .ok (.i2l, 1) := dg_L_law_1431.1
theorem dL_law_1432 : decode cL_law 1432 = .ok (.bipush 32, 2) := dg_L_law_1431.2.1
theorem dL_law_1434 : decode cL_law 1434 = .ok (.lshl, 1) := dg_L_law_1431.2.2.1
theorem dL_law_1435 : decode cL_law 1435 = .ok (.aload_n 0, 1) := dg_L_law_1431.2.2.2.1
theorem dL_law_1436 : decode cL_law 1436 = .ok (.iload_n 3, 1) := dg_L_law_1431.2.2.2.2.1
theorem dL_law_1437 : decode cL_law 1437 = .ok (.iconst 5, 1) := dg_L_law_1431.2.2.2.2.2.1
theorem dL_law_1438 : decode cL_law 1438 = .ok (.iadd, 1) := dg_L_law_1431.2.2.2.2.2.2.1
theorem dL_law_1439 : decode cL_law 1439 = .ok (.iaload, 1) := dg_L_law_1431.2.2.2.2.2.2.2.1
theorem dL_law_1440 : decode cL_law 1440 = .ok (.i2l, 1) := dg_L_law_1431.2.2.2.2.2.2.2.2.1
theorem dL_law_1441 : decode cL_law 1441 = .ok (.ldc2_w 49, 3) := dg_L_law_1431.2.2.2.2.2.2.2.2.2.1
theorem dL_law_1444 : decode cL_law 1444 = .ok (.land, 1) := dg_L_law_1431.2.2.2.2.2.2.2.2.2.2.1
theorem dL_law_1445 : decode cL_law 1445 = .ok (.lor, 1) := dg_L_law_1431.2.2.2.2.2.2.2.2.2.2.2.1
theorem dL_law_1446 : decode cL_law 1446 = .ok (.aload_n 0, 1) := dg_L_law_1431.2.2.2.2.2.2.2.2.2.2.2.2.1
theorem dL_law_1447 : decode cL_law 1447 = .ok (.iload_n 3, 1) := dg_L_law_1431.2.2.2.2.2.2.2.2.2.2.2.2.2.1
theorem dL_law_1448 : decode cL_law 1448 = .ok (.bipush 6, 2) := dg_L_law_1431.2.2.2.2.2.2.2.2.2.2.2.2.2.2.1
theorem dL_law_1450 : decode cL_law 1450 = .ok (.iadd, 1) := dg_L_law_1431.2.2.2.2.2.2.2.2.2.2.2.2.2.2.2
theorem dg_L_law_1451 : (decode cL_law 1451 = .ok (.iaload, 1)) ∧ (decode cL_law 1452 = .ok (.i2l, 1)) ∧ (decode cL_law 1453 = .ok (.bipush 32, 2)) ∧ (decode cL_law 1455 = .ok (.lshl, 1)) ∧ (decode cL_law 1456 = .ok (.aload_n 0, 1)) ∧ (decode cL_law 1457 = .ok (.iload_n 3, 1)) ∧ (decode cL_law 1458 = .ok (.bipush 7, 2)) ∧ (decode cL_law 1460 = .ok (.iadd, 1)) ∧ (decode cL_law 1461 = .ok (.iaload, 1)) ∧ (decode cL_law 1462 = .ok (.i2l, 1)) ∧ (decode cL_law 1463 = .ok (.ldc2_w 49, 3)) ∧ (decode cL_law 1466 = .ok (.land, 1)) ∧ (decode cL_law 1467 = .ok (.lor, 1)) ∧ (decode cL_law 1468 = .ok (.invokevirtual 122, 3)) ∧ (decode cL_law 1471 = .ok (.pop, 1)) ∧ (decode cL_law 1472 = .ok (.aload_n 2, 1)) := by decide +kernel
theorem dL_law_1451 : decode cL_law 1451 = .ok (.iaload, 1) := dg_L_law_1451.1
theorem dL_law_1452 : decode cL_law 1452 = .ok (.i2l, 1) := dg_L_law_1451.2.1
theorem dL_law_1453 : decode cL_law 1453 = .ok (.bipush 32, 2) := dg_L_law_1451.2.2.1
theorem dL_law_1455 : decode cL_law 1455 = .ok (.lshl, 1) := dg_L_law_1451.2.2.2.1
theorem dL_law_1456 : decode cL_law 1456 = .ok (.aload_n 0, 1) := dg_L_law_1451.2.2.2.2.1
theorem dL_law_1457 : decode cL_law 1457 = .ok (.iload_n 3, 1) := dg_L_law_1451.2.2.2.2.2.1
theorem dL_law_1458 : decode cL_law 1458 = .ok (.bipush 7, 2) := dg_L_law_1451.2.2.2.2.2.2.1
theorem dL_law_1460 : decode cL_law 1460 = .ok (.iadd, 1) := dg_L_law_1451.2.2.2.2.2.2.2.1
theorem dL_law_1461 : decode cL_law 1461 = .ok (.iaload, 1) := dg_L_law_1451.2.2.2.2.2.2.2.2.1
theorem dL_law_1462 : decode cL_law 1462 = .ok (.i2l, 1) := dg_L_law_1451.2.2.2.2.2.2.2.2.2.1
theorem dL_law_1463 : decode cL_law 1463 = .ok (.ldc2_w 49, 3) := dg_L_law_1451.2.2.2.2.2.2.2.2.2.2.1
theorem dL_law_1466 : decode cL_law 1466 = .ok (.land, 1) := dg_L_law_1451.2.2.2.2.2.2.2.2.2.2.2.1
theorem dL_law_1467 : decode cL_law 1467 = .ok (.lor, 1) := dg_L_law_1451.2.2.2.2.2.2.2.2.2.2.2.2.1
theorem dL_law_1468 : decode cL_law 1468 = .ok (.invokevirtual 122, 3) := dg_L_law_1451.2.2.2.2.2.2.2.2.2.2.2.2.2.1
theorem dL_law_1471 : decode cL_law 1471 = .ok (.pop, 1) := dg_L_law_1451.2.2.2.2.2.2.2.2.2.2.2.2.2.2.1
theorem dL_law_1472 : decode cL_law 1472 = .ok (.aload_n 2, 1) := dg_L_law_1451.2.2.2.2.2.2.2.2.2.2.2.2.2.2.2
