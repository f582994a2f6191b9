theorem d_La_law_1001 : decode m_law.2.1 1001 = .ok (.ireturn, 1) := by decide +kernel
theorem d_La_law_1002 : decode m_law.2.1 1002 = .ok (.aload_n 1, 1) := by decide +kernel
theorem d_La_law_1003 : decode m_law.2.1 1003 = .ok (.aload_n 0, 1) := by decide +kernel
theorem d_La_law_1004 : decode m_law.2.1 1004 = .ok (.iload_n 3, 1) := by decide +kernel
theorem d_La_law_1005 : decode m_law.2.1 1005 = .ok (.iconst 1, 1) := by decide +kernel
theorem d_La_law_1006 : decode m_law.2.1 1006 = .ok (.iadd, 1) := by decide +kernel
theorem d_La_law_1007 : decode m_law.2.1 1007 = .ok (.iaload, 1) := by decide +kernel
theorem d_La_law_1008 : decode m_law.2.1 1008 = .ok (.aload_n 0, 1) := by decide +kernel
theorem d_La_law_1009 : decode m_law.2.1 1009 = .ok (.iload_n 3, 1) := by decide +kernel
theorem d_La_law_1010 : decode m_law.2.1 1010 = .ok (.iconst 2, 1) := by decide +kernel
theorem d_La_law_1011 : decode m_law.2.1 1011 = .ok (.iadd, 1) := by decide +kernel
theorem d_La_law_1012 : decode m_law.2.1 1012 = .ok (.iaload, 1) := by decide +kernel
theorem d_La_law_1013 : decode m_law.2.1 1013 = .ok (.aload_n 0, 1) := by decide +kernel
theorem d_La_law_1014 : decode m_law.2.1 1014 = .ok (.iload_n 3, 1) := by decide +kernel
theorem d_La_law_1015 : decode m_law.2.1 1015 = .ok (.iconst 3, 1) := by decide +kernel
theorem d_La_law_1016 : decode m_law.2.1 1016 = .ok (.iadd, 1) := by decide +kernel
theorem d_La_law_1017 : decode m_law.2.1 1017 = .ok (.iaload, 1) := by decide +kernel
theorem d_La_law_1018 : decode m_law.2.1 1018 = .ok (.aload_n 0, 1) := by decide +kernel
theorem d_La_law_1019 : decode m_law.2.1 1019 = .ok (.iload_n 3, 1) := by decide +kernel
theorem d_La_law_1020 : decode m_law.2.1 1020 = .ok (.iconst 4, 1) := by decide +kernel
theorem d_La_law_1021 : decode m_law.2.1 1021 = .ok (.iadd, 1) := by decide +kernel
theorem d_La_law_1022 : decode m_law.2.1 1022 = .ok (.iaload, 1) := by decide +kernel
theorem d_La_law_1023 : decode m_law.2.1 1023 = .ok (.invokevirtual 138, 3) := by decide +kernel
theorem d_La_law_1026 : decode m_law.2.1 1026 = .ok (.aload_n 2, 1) := by decide +kernel
theorem d_La_law_1027 : decode m_law.2.1 1027 = .ok (.aload_n 0, 1) := by decide +kernel
theorem d_La_law_1028 : decode m_law.2.1 1028 = .ok (.iload_n 3, 1) := by decide +kernel
theorem d_La_law_1029 : decode m_law.2.1 1029 = .ok (.iconst 1, 1) := by decide +kernel
theorem d_La_law_1030 : decode m_law.2.1 1030 = .ok (.iadd, 1) := by decide +kernel
theorem d_La_law_1031 : decode m_law.2.1 1031 = .ok (.iaload, 1) := by decide +kernel
theorem d_La_law_1032 : decode m_law.2.1 1032 = .ok (.aload_n 0, 1) := by decide +kernel
theorem d_La_law_1033 : decode m_law.2.1 1033 = .ok (.iload_n 3, 1) := by decide +kernel
theorem d_La_law_1034 : decode m_law.2.1 1034 = .ok (.iconst 2, 1) := by decide +kernel
theorem d_La_law_1035 : decode m_law.2.1 1035 = .ok (.iadd, 1) := by decide +kernel
theorem d_La_law_1036 : decode m_law.2.1 1036 = .ok (.iaload, 1) := by decide +kernel
theorem d_La_law_1037 : decode m_law.2.1 1037 = .ok (.aload_n 0, 1) := by decide +kernel
theorem d_La_law_1038 : decode m_law.2.1 1038 = .ok (.iload_n 3, 1) := by decide +kernel
theorem d_La_law_1039 : decode m_law.2.1 1039 = .ok (.iconst 3, 1) := by decide +kernel
theorem d_La_law_1040 : decode m_law.2.1 1040 = .ok (.iadd, 1) := by decide +kernel
theorem d_La_law_1041 : decode m_law.2.1 1041 = .ok (.iaload, 1) := by decide +kernel
theorem d_La_law_1042 : decode m_law.2.1 1042 = .ok (.aload_n 0, 1) := by decide +kernel
theorem d_La_law_1043 : decode m_law.2.1 1043 = .ok (.iload_n 3, 1) := by decide +kernel
theorem d_La_law_1044 : decode m_law.2.1 1044 = .ok (.iconst 4, 1) := by decide +kernel
theorem d_La_law_1045 : decode m_law.2.1 1045 = .ok (.iadd, 1) := by decide +kernel
theorem d_La_law_1046 : decode m_law.2.1 1046 = .ok (.iaload, 1) := by decide +kernel
theorem d_La_law_1047 : decode m_law.2.1 1047 = .ok (.invokevirtual 141, 3) := by decide +kernel
theorem d_La_law_1050 : decode m_law.2.1 1050 = .ok (.if_icmp .eq 200, 3) := by decide +kernel
theorem d_La_law_1053 : decode m_law.2.1 1053 = .ok (.iconst 0, 1) := by decide +kernel
theorem d_La_law_1054 : decode m_law.2.1 1054 = .ok (.ireturn, 1) := by decide +kernel
theorem d_La_law_1055 : decode m_law.2.1 1055 = .ok (.aload_n 1, 1) := by decide +kernel
theorem d_La_law_1056 : decode m_law.2.1 1056 = .ok (.aload_n 0, 1) := by decide +kernel
theorem d_La_law_1057 : decode m_law.2.1 1057 = .ok (.iload_n 3, 1) := by decide +kernel
theorem d_La_law_1058 : decode m_law.2.1 1058 = .ok (.iconst 1, 1) := by decide +kernel
theorem d_La_law_1059 : decode m_law.2.1 1059 = .ok (.iadd, 1) := by decide +kernel
theorem d_La_law_1060 : decode m_law.2.1 1060 = .ok (.iaload, 1) := by decide +kernel
theorem d_La_law_1061 : decode m_law.2.1 1061 = .ok (.aload_n 0, 1) := by decide +kernel
theorem d_La_law_1062 : decode m_law.2.1 1062 = .ok (.iload_n 3, 1) := by decide +kernel
theorem d_La_law_1063 : decode m_law.2.1 1063 = .ok (.iconst 2, 1) := by decide +kernel
theorem d_La_law_1064 : decode m_law.2.1 1064 = .ok (.iadd, 1) := by decide +kernel
theorem d_La_law_1065 : decode m_law.2.1 1065 = .ok (.iaload, 1) := by decide +kernel
theorem d_La_law_1066 : decode m_law.2.1 1066 = .ok (.aload_n 0, 1) := by decide +kernel
theorem d_La_law_1067 : decode m_law.2.1 1067 = .ok (.iload_n 3, 1) := by decide +kernel
theorem d_La_law_1068 : decode m_law.2.1 1068 = .ok (.iconst 3, 1) := by decide +kernel
theorem d_La_law_1069 : decode m_law.2.1 1069 = .ok (.iadd, 1) := by decide +kernel
theorem d_La_law_1070 : decode m_law.2.1 1070 = .ok (.iaload, 1) := by decide +kernel
theorem d_La_law_1071 : decode m_law.2.1 1071 = .ok (.aload_n 0, 1) := by decide +kernel
theorem d_La_law_1072 : decode m_law.2.1 1072 = .ok (.iload_n 3, 1) := by decide +kernel
theorem d_La_law_1073 : decode m_law.2.1 1073 = .ok (.iconst 4, 1) := by decide +kernel
theorem d_La_law_1074 : decode m_law.2.1 1074 = .ok (.iadd, 1) := by decide +kernel
theorem d_La_law_1075 : decode m_law.2.1 1075 = .ok (.iaload, 1) := by decide +kernel
theorem d_La_law_1076 : decode m_law.2.1 1076 = .ok (.aload_n 0, 1) := by decide +kernel
theorem d_La_law_1077 : decode m_law.2.1 1077 = .ok (.iload_n 3, 1) := by decide +kernel
theorem d_La_law_1078 : decode m_law.2.1 1078 = .ok (.iconst 5, 1) := by decide +kernel
theorem d_La_law_1079 : decode m_law.2.1 1079 = .ok (.iadd, 1) := by decide +kernel
theorem d_La_law_1080 : decode m_law.2.1 1080 = .ok (.iaload, 1) := by decide +kernel
theorem d_La_law_1081 : decode m_law.2.1 1081 = .ok (.invokevirtual 142, 3) := by decide +kernel
theorem d_La_law_1084 : decode m_law.2.1 1084 = .ok (.aload_n 2, 1) := by decide +kernel
theorem d_La_law_1085 : decode m_law.2.1 1085 = .ok (.aload_n 0, 1) := by decide +kernel
theorem d_La_law_1086 : decode m_law.2.1 1086 = .ok (.iload_n 3, 1) := by decide +kernel
theorem d_La_law_1087 : decode m_law.2.1 1087 = .ok (.iconst 1, 1) := by decide +kernel
theorem d_La_law_1088 : decode m_law.2.1 1088 = .ok (.iadd, 1) := by decide +kernel
theorem d_La_law_1089 : decode m_law.2.1 1089 = .ok (.iaload, 1) := by decide +kernel
theorem d_La_law_1090 : decode m_law.2.1 1090 = .ok (.aload_n 0, 1) := by decide +kernel
theorem d_La_law_1091 : decode m_law.2.1 1091 = .ok (.iload_n 3, 1) := by decide +kernel
theorem d_La_law_1092 : decode m_law.2.1 1092 = .ok (.iconst 2, 1) := by decide +kernel
theorem d_La_law_1093 : decode m_law.2.1 1093 = .ok (.iadd, 1) := by decide +kernel
theorem d_La_law_1094 : decode m_law.2.1 1094 = .ok (.iaload, 1) := by decide +kernel
theorem d_La_law_1095 : decode m_law.2.1 1095 = .ok (.aload_n 0, 1) := by decide +kernel
theorem d_La_law_1096 : decode m_law.2.1 1096 = .ok (.iload_n 3, 1) := by decide +kernel
theorem d_La_law_1097 : decode m_law.2.1 1097 = .ok (.iconst 3, 1) := by decide +kernel
theorem d_La_law_1098 : decode m_law.2.1 1098 = .ok (.iadd, 1) := by decide +kernel
theorem d_La_law_1099 : decode m_law.2.1 1099 = .ok (.iaload, 1) := by decide +kernel
theorem d_La_law_1100 : decode m_law.2.1 1100 = .ok (.aload_n 0, 1) := by decide +kernel
theorem d_La_law_1101 : decode m_law.2.1 1101 = .ok (.iload_n 3, 1) := by decide +kernel
theorem d_La_law_1102 : decode m_law.2.1 1102 = .ok (.iconst 4, 1) := by decide +kernel
theorem d_La_law_1103 : decode m_law.2.1 1103 = .ok (.iadd, 1) := by decide +kernel
theorem d_La_law_1104 : decode m_law.2.1 1104 = .ok (.iaload, 1) := by decide +kernel
theorem d_La_law_1105 : decode m_law.2.1 1105 = .ok (.aload_n 0, 1) := by decide +kernel
theorem d_La_law_1106 : decode m_law.2.1 1106 = .ok (.iload_n 3, 1) := by decide +kernel
theorem d_La_law_1107 : decode m_law.2.1 1107 = .ok (.iconst 5, 1) := by decide +kernel
theorem d_La_law_1108 : decode m_law.2.1 1108 = .ok (.iadd, 1) := by decide +kernel
theorem d_La_law_1109 : decode m_law.2.1 1109 = .ok (.iaload, 1) := by decide +kernel
theorem d_La_law_1110 : decode m_law.2.1 1110 = .ok (.invokevirtual 146, 3) := by decide +kernel
theorem d_La_law_1113 : decode m_law.2.1 1113 = .ok (.if_icmp .eq 137, 3) := by decide +kernel
theorem d_La_law_1116 : decode m_law.2.1 1116 = .ok (.iconst 0, 1) := by decide +kernel
theorem d_La_law_1117 : decode m_law.2.1 1117 = .ok (.ireturn, 1) := by decide +kernel
theorem d_La_law_1118 : decode m_law.2.1 1118 = .ok (.aload_n 1, 1) := by decide +kernel
theorem d_La_law_1119 : decode m_law.2.1 1119 = .ok (.aload_n 0, 1) := by decide +kernel
theorem d_La_law_1120 : decode m_law.2.1 1120 = .ok (.iload_n 3, 1) := by decide +kernel
theorem d_La_law_1121 : decode m_law.2.1 1121 = .ok (.iconst 1, 1) := by decide +kernel
theorem d_La_law_1122 : decode m_law.2.1 1122 = .ok (.iadd, 1) := by decide +kernel
theorem d_La_law_1123 : decode m_law.2.1 1123 = .ok (.iaload, 1) := by decide +kernel
theorem d_La_law_1124 : decode m_law.2.1 1124 = .ok (.aload_n 0, 1) := by decide +kernel
theorem d_La_law_1125 : decode m_law.2.1 1125 = .ok (.iload_n 3, 1) := by decide +kernel
theorem d_La_law_1126 : decode m_law.2.1 1126 = .ok (.iconst 2, 1) := by decide +kernel
theorem d_La_law_1127 : decode m_law.2.1 1127 = .ok (.iadd, 1) := by decide +kernel
theorem d_La_law_1128 : decode m_law.2.1 1128 = .ok (.iaload, 1) := by decide +kernel
theorem d_La_law_1129 : decode m_law.2.1 1129 = .ok (.aload_n 0, 1) := by decide +kernel
theorem d_La_law_1130 : decode m_law.2.1 1130 = .ok (.iload_n 3, 1) := by decide +kernel
theorem d_La_law_1131 : decode m_law.2.1 1131 = .ok (.iconst 3, 1) := by decide +kernel
theorem d_La_law_1132 : decode m_law.2.1 1132 = .ok (.iadd, 1) := by decide +kernel
theorem d_La_law_1133 : decode m_law.2.1 1133 = .ok (.iaload, 1) := by decide +kernel
theorem d_La_law_1134 : decode m_law.2.1 1134 = .ok (.aload_n 0, 1) := by decide +kernel
theorem d_La_law_1135 : decode m_law.2.1 1135 = .ok (.iload_n 3, 1) := by decide +kernel
theorem d_La_law_1136 : decode m_law.2.1 1136 = .ok (.iconst 4, 1) := by decide +kernel
theorem d_La_law_1137 : decode m_law.2.1 1137 = .ok (.iadd, 1) := by decide +kernel
theorem d_La_law_1138 : decode m_law.2.1 1138 = .ok (.iaload, 1) := by decide +kernel
theorem d_La_law_1139 : decode m_law.2.1 1139 = .ok (.invokevirtual 147, 3) := by decide +kernel
theorem d_La_law_1142 : decode m_law.2.1 1142 = .ok (.aload_n 2, 1) := by decide +kernel
theorem d_La_law_1143 : decode m_law.2.1 1143 = .ok (.aload_n 0, 1) := by decide +kernel
theorem d_La_law_1144 : decode m_law.2.1 1144 = .ok (.iload_n 3, 1) := by decide +kernel
theorem d_La_law_1145 : decode m_law.2.1 1145 = .ok (.iconst 1, 1) := by decide +kernel
theorem d_La_law_1146 : decode m_law.2.1 1146 = .ok (.iadd, 1) := by decide +kernel
theorem d_La_law_1147 : decode m_law.2.1 1147 = .ok (.iaload, 1) := by decide +kernel
theorem d_La_law_1148 : decode m_law.2.1 1148 = .ok (.aload_n 0, 1) := by decide +kernel
theorem d_La_law_1149 : decode m_law.2.1 1149 = .ok (.iload_n 3, 1) := by decide +kernel
theorem d_La_law_1150 : decode m_law.2.1 1150 = .ok (.iconst 2, 1) := by decide +kernel
theorem d_La_law_1151 : decode m_law.2.1 1151 = .ok (.iadd, 1) := by decide +kernel
theorem d_La_law_1152 : decode m_law.2.1 1152 = .ok (.iaload, 1) := by decide +kernel
theorem d_La_law_1153 : decode m_law.2.1 1153 = .ok (.aload_n 0, 1) := by decide +kernel
theorem d_La_law_1154 : decode m_law.2.1 1154 = .ok (.iload_n 3, 1) := by decide +kernel
theorem d_La_law_1155 : decode m_law.2.1 1155 = .ok (.iconst 3, 1) := by decide +kernel
theorem d_La_law_1156 : decode m_law.2.1 1156 = .ok (.iadd, 1) := by decide +kernel
theorem d_La_law_1157 : decode m_law.2.1 1157 = .ok (.iaload, 1) := by decide +kernel
theorem d_La_law_1158 : decode m_law.2.1 1158 = .ok (.aload_n 0, 1) := by decide +kernel
theorem d_La_law_1159 : decode m_law.2.1 1159 = .ok (.iload_n 3, 1) := by decide +kernel
theorem d_La_law_1160 : decode m_law.2.1 1160 = .ok (.iconst 4, 1) := by decide +kernel
theorem d_La_law_1161 : decode m_law.2.1 1161 = .ok (.iadd, 1) := by decide +kernel
theorem d_La_law_1162 : decode m_law.2.1 1162 = .ok (.iaload, 1) := by decide +kernel
theorem d_La_law_1163 : decode m_law.2.1 1163 = .ok (.invokevirtual 150, 3) := by decide +kernel
theorem d_La_law_1166 : decode m_law.2.1 1166 = .ok (.if_icmp .eq 84, 3) := by decide +kernel
theorem d_La_law_1169 : decode m_law.2.1 1169 = .ok (.iconst 0, 1) := by decide +kernel
theorem d_La_law_1170 : decode m_law.2.1 1170 = .ok (.ireturn, 1) := by decide +kernel
theorem d_La_law_1171 : decode m_law.2.1 1171 = .ok (.aload_n 1, 1) := by decide +kernel
theorem d_La_law_1172 : decode m_law.2.1 1172 = .ok (.aload_n 0, 1) := by decide +kernel
theorem d_La_law_1173 : decode m_law.2.1 1173 = .ok (.iload_n 3, 1) := by decide +kernel
theorem d_La_law_1174 : decode m_law.2.1 1174 = .ok (.iconst 1, 1) := by decide +kernel
theorem d_La_law_1175 : decode m_law.2.1 1175 = .ok (.iadd, 1) := by decide +kernel
theorem d_La_law_1176 : decode m_law.2.1 1176 = .ok (.iaload, 1) := by decide +kernel
theorem d_La_law_1177 : decode m_law.2.1 1177 = .ok (.aload_n 0, 1) := by decide +kernel
theorem d_La_law_1178 : decode m_law.2.1 1178 = .ok (.iload_n 3, 1) := by decide +kernel
theorem d_La_law_1179 : decode m_law.2.1 1179 = .ok (.iconst 2, 1) := by decide +kernel
theorem d_La_law_1180 : decode m_law.2.1 1180 = .ok (.iadd, 1) := by decide +kernel
theorem d_La_law_1181 : decode m_law.2.1 1181 = .ok (.iaload, 1) := by decide +kernel
theorem d_La_law_1182 : decode m_law.2.1 1182 = .ok (.invokevirtual 151, 3) := by decide +kernel
theorem d_La_law_1185 : decode m_law.2.1 1185 = .ok (.aload_n 2, 1) := by decide +kernel
theorem d_La_law_1186 : decode m_law.2.1 1186 = .ok (.aload_n 0, 1) := by decide +kernel
theorem d_La_law_1187 : decode m_law.2.1 1187 = .ok (.iload_n 3, 1) := by decide +kernel
theorem d_La_law_1188 : decode m_law.2.1 1188 = .ok (.iconst 1, 1) := by decide +kernel
theorem d_La_law_1189 : decode m_law.2.1 1189 = .ok (.iadd, 1) := by decide +kernel
theorem d_La_law_1190 : decode m_law.2.1 1190 = .ok (.iaload, 1) := by decide +kernel
theorem d_La_law_1191 : decode m_law.2.1 1191 = .ok (.aload_n 0, 1) := by decide +kernel
theorem d_La_law_1192 : decode m_law.2.1 1192 = .ok (.iload_n 3, 1) := by decide +kernel
theorem d_La_law_1193 : decode m_law.2.1 1193 = .ok (.iconst 2, 1) := by decide +kernel
theorem d_La_law_1194 : decode m_law.2.1 1194 = .ok (.iadd, 1) := by decide +kernel
theorem d_La_law_1195 : decode m_law.2.1 1195 = .ok (.iaload, 1) := by decide +kernel
theorem d_La_law_1196 : decode m_law.2.1 1196 = .ok (.invokevirtual 154, 3) := by decide +kernel
theorem d_La_law_1199 : decode m_law.2.1 1199 = .ok (.if_icmp .eq 51, 3) := by decide +kernel
theorem d_La_law_1202 : decode m_law.2.1 1202 = .ok (.iconst 0, 1) := by decide +kernel
theorem d_La_law_1203 : decode m_law.2.1 1203 = .ok (.ireturn, 1) := by decide +kernel
theorem d_La_law_1204 : decode m_law.2.1 1204 = .ok (.aload_n 1, 1) := by decide +kernel
theorem d_La_law_1205 : decode m_law.2.1 1205 = .ok (.aload_n 0, 1) := by decide +kernel
theorem d_La_law_1206 : decode m_law.2.1 1206 = .ok (.iload_n 3, 1) := by decide +kernel
theorem d_La_law_1207 : decode m_law.2.1 1207 = .ok (.iconst 1, 1) := by decide +kernel
theorem d_La_law_1208 : decode m_law.2.1 1208 = .ok (.iadd, 1) := by decide +kernel
theorem d_La_law_1209 : decode m_law.2.1 1209 = .ok (.iaload, 1) := by decide +kernel
theorem d_La_law_1210 : decode m_law.2.1 1210 = .ok (.invokevirtual 155, 3) := by decide +kernel
theorem d_La_law_1213 : decode m_law.2.1 1213 = .ok (.aload_n 2, 1) := by decide +kernel
theorem d_La_law_1214 : decode m_law.2.1 1214 = .ok (.aload_n 0, 1) := by decide +kernel
theorem d_La_law_1215 : decode m_law.2.1 1215 = .ok (.iload_n 3, 1) := by decide +kernel
theorem d_La_law_1216 : decode m_law.2.1 1216 = .ok (.iconst 1, 1) := by decide +kernel
theorem d_La_law_1217 : decode m_law.2.1 1217 = .ok (.iadd, 1) := by decide +kernel
theorem d_La_law_1218 : decode m_law.2.1 1218 = .ok (.iaload, 1) := by decide +kernel
theorem d_La_law_1219 : decode m_law.2.1 1219 = .ok (.invokevirtual 158, 3) := by decide +kernel
theorem d_La_law_1222 : decode m_law.2.1 1222 = .ok (.if_icmp .eq 28, 3) := by decide +kernel
theorem d_La_law_1225 : decode m_law.2.1 1225 = .ok (.iconst 0, 1) := by decide +kernel
theorem d_La_law_1226 : decode m_law.2.1 1226 = .ok (.ireturn, 1) := by decide +kernel
theorem d_La_law_1227 : decode m_law.2.1 1227 = .ok (.aload_n 1, 1) := by decide +kernel
theorem d_La_law_1228 : decode m_law.2.1 1228 = .ok (.aload_n 0, 1) := by decide +kernel
theorem d_La_law_1229 : decode m_law.2.1 1229 = .ok (.iload_n 3, 1) := by decide +kernel
theorem d_La_law_1230 : decode m_law.2.1 1230 = .ok (.iconst 1, 1) := by decide +kernel
theorem d_La_law_1231 : decode m_law.2.1 1231 = .ok (.iadd, 1) := by decide +kernel
theorem d_La_law_1232 : decode m_law.2.1 1232 = .ok (.iaload, 1) := by decide +kernel
theorem d_La_law_1233 : decode m_law.2.1 1233 = .ok (.invokevirtual 159, 3) := by decide +kernel
theorem d_La_law_1236 : decode m_law.2.1 1236 = .ok (.aload_n 2, 1) := by decide +kernel
theorem d_La_law_1237 : decode m_law.2.1 1237 = .ok (.aload_n 0, 1) := by decide +kernel
theorem d_La_law_1238 : decode m_law.2.1 1238 = .ok (.iload_n 3, 1) := by decide +kernel
theorem d_La_law_1239 : decode m_law.2.1 1239 = .ok (.iconst 1, 1) := by decide +kernel
theorem d_La_law_1240 : decode m_law.2.1 1240 = .ok (.iadd, 1) := by decide +kernel
theorem d_La_law_1241 : decode m_law.2.1 1241 = .ok (.iaload, 1) := by decide +kernel
theorem d_La_law_1242 : decode m_law.2.1 1242 = .ok (.invokevirtual 162, 3) := by decide +kernel
theorem d_La_law_1245 : decode m_law.2.1 1245 = .ok (.if_icmp .eq 5, 3) := by decide +kernel
theorem d_La_law_1248 : decode m_law.2.1 1248 = .ok (.iconst 0, 1) := by decide +kernel
theorem d_La_law_1249 : decode m_law.2.1 1249 = .ok (.ireturn, 1) := by decide +kernel
theorem d_La_law_1250 : decode m_law.2.1 1250 = .ok (.iinc 3 6, 3) := by decide +kernel
theorem d_La_law_1253 : decode m_law.2.1 1253 = .ok (.goto (-1235), 3) := by decide +kernel
theorem d_La_law_1256 : decode m_law.2.1 1256 = .ok (.iconst 1, 1) := by decide +kernel
theorem d_La_law_1257 : decode m_law.2.1 1257 = .ok (.ireturn, 1) := by decide +kernel
