theorem xd_law_976 : decode code 976 = .ok (.invokevirtual 110, 3) := by decide +kernel
theorem xd_law_979 : decode code 979 = .ok (.aload_n 2, 1) := by decide +kernel
theorem xd_law_980 : decode code 980 = .ok (.aload_n 0, 1) := by decide +kernel
theorem xd_law_981 : decode code 981 = .ok (.iload_n 3, 1) := by decide +kernel
theorem xd_law_982 : decode code 982 = .ok (.iconst 1, 1) := by decide +kernel
theorem xd_law_983 : decode code 983 = .ok (.iadd, 1) := by decide +kernel
theorem xd_law_984 : decode code 984 = .ok (.iaload, 1) := by decide +kernel
theorem xd_law_985 : decode code 985 = .ok (.aload_n 0, 1) := by decide +kernel
theorem xd_law_986 : decode code 986 = .ok (.iload_n 3, 1) := by decide +kernel
theorem xd_law_987 : decode code 987 = .ok (.iconst 2, 1) := by decide +kernel
theorem xd_law_988 : decode code 988 = .ok (.iadd, 1) := by decide +kernel
theorem xd_law_989 : decode code 989 = .ok (.iaload, 1) := by decide +kernel
theorem xd_law_990 : decode code 990 = .ok (.invokevirtual 113, 3) := by decide +kernel
theorem xd_law_993 : decode code 993 = .ok (.if_icmp .eq 255, 3) := by decide +kernel
theorem xd_law_996 : decode code 996 = .ok (.iconst 0, 1) := by decide +kernel
theorem xd_law_997 : decode code 997 = .ok (.ireturn, 1) := by decide +kernel
theorem xd_law_998 : decode code 998 = .ok (.aload_n 1, 1) := by decide +kernel
theorem xd_law_999 : decode code 999 = .ok (.aload_n 0, 1) := by decide +kernel
theorem xd_law_1000 : decode code 1000 = .ok (.iload_n 3, 1) := by decide +kernel
theorem xd_law_1001 : decode code 1001 = .ok (.iconst 1, 1) := by decide +kernel
theorem xd_law_1002 : decode code 1002 = .ok (.iadd, 1) := by decide +kernel
theorem xd_law_1003 : decode code 1003 = .ok (.iaload, 1) := by decide +kernel
theorem xd_law_1004 : decode code 1004 = .ok (.invokevirtual 114, 3) := by decide +kernel
theorem xd_law_1007 : decode code 1007 = .ok (.aload_n 2, 1) := by decide +kernel
theorem xd_law_1008 : decode code 1008 = .ok (.aload_n 0, 1) := by decide +kernel
theorem xd_law_1009 : decode code 1009 = .ok (.iload_n 3, 1) := by decide +kernel
theorem xd_law_1010 : decode code 1010 = .ok (.iconst 1, 1) := by decide +kernel
theorem xd_law_1011 : decode code 1011 = .ok (.iadd, 1) := by decide +kernel
theorem xd_law_1012 : decode code 1012 = .ok (.iaload, 1) := by decide +kernel
theorem xd_law_1013 : decode code 1013 = .ok (.invokevirtual 117, 3) := by decide +kernel
theorem xd_law_1016 : decode code 1016 = .ok (.if_icmp .eq 232, 3) := by decide +kernel
theorem xd_law_1019 : decode code 1019 = .ok (.iconst 0, 1) := by decide +kernel
theorem xd_law_1020 : decode code 1020 = .ok (.ireturn, 1) := by decide +kernel
theorem xd_law_1021 : decode code 1021 = .ok (.aload_n 1, 1) := by decide +kernel
theorem xd_law_1022 : decode code 1022 = .ok (.invokevirtual 118, 3) := by decide +kernel
theorem xd_law_1025 : decode code 1025 = .ok (.aload_n 2, 1) := by decide +kernel
theorem xd_law_1026 : decode code 1026 = .ok (.invokevirtual 121, 3) := by decide +kernel
theorem xd_law_1029 : decode code 1029 = .ok (.if_icmp .eq 219, 3) := by decide +kernel
theorem xd_law_1032 : decode code 1032 = .ok (.iconst 0, 1) := by decide +kernel
theorem xd_law_1033 : decode code 1033 = .ok (.ireturn, 1) := by decide +kernel
theorem xd_law_1034 : decode code 1034 = .ok (.aload_n 1, 1) := by decide +kernel
theorem xd_law_1035 : decode code 1035 = .ok (.aload_n 0, 1) := by decide +kernel
theorem xd_law_1036 : decode code 1036 = .ok (.iload_n 3, 1) := by decide +kernel
theorem xd_law_1037 : decode code 1037 = .ok (.iconst 1, 1) := by decide +kernel
theorem xd_law_1038 : decode code 1038 = .ok (.iadd, 1) := by decide +kernel
theorem xd_law_1039 : decode code 1039 = .ok (.iaload, 1) := by decide +kernel
theorem xd_law_1040 : decode code 1040 = .ok (.aload_n 0, 1) := by decide +kernel
theorem xd_law_1041 : decode code 1041 = .ok (.iload_n 3, 1) := by decide +kernel
theorem xd_law_1042 : decode code 1042 = .ok (.iconst 2, 1) := by decide +kernel
theorem xd_law_1043 : decode code 1043 = .ok (.iadd, 1) := by decide +kernel
theorem xd_law_1044 : decode code 1044 = .ok (.iaload, 1) := by decide +kernel
theorem xd_law_1045 : decode code 1045 = .ok (.aload_n 0, 1) := by decide +kernel
theorem xd_law_1046 : decode code 1046 = .ok (.iload_n 3, 1) := by decide +kernel
theorem xd_law_1047 : decode code 1047 = .ok (.iconst 3, 1) := by decide +kernel
theorem xd_law_1048 : decode code 1048 = .ok (.iadd, 1) := by decide +kernel
theorem xd_law_1049 : decode code 1049 = .ok (.iaload, 1) := by decide +kernel
theorem xd_law_1050 : decode code 1050 = .ok (.invokevirtual 122, 3) := by decide +kernel
theorem xd_law_1053 : decode code 1053 = .ok (.aload_n 2, 1) := by decide +kernel
theorem xd_law_1054 : decode code 1054 = .ok (.aload_n 0, 1) := by decide +kernel
theorem xd_law_1055 : decode code 1055 = .ok (.iload_n 3, 1) := by decide +kernel
theorem xd_law_1056 : decode code 1056 = .ok (.iconst 1, 1) := by decide +kernel
theorem xd_law_1057 : decode code 1057 = .ok (.iadd, 1) := by decide +kernel
theorem xd_law_1058 : decode code 1058 = .ok (.iaload, 1) := by decide +kernel
theorem xd_law_1059 : decode code 1059 = .ok (.aload_n 0, 1) := by decide +kernel
theorem xd_law_1060 : decode code 1060 = .ok (.iload_n 3, 1) := by decide +kernel
theorem xd_law_1061 : decode code 1061 = .ok (.iconst 2, 1) := by decide +kernel
theorem xd_law_1062 : decode code 1062 = .ok (.iadd, 1) := by decide +kernel
theorem xd_law_1063 : decode code 1063 = .ok (.iaload, 1) := by decide +kernel
theorem xd_law_1064 : decode code 1064 = .ok (.aload_n 0, 1) := by decide +kernel
theorem xd_law_1065 : decode code 1065 = .ok (.iload_n 3, 1) := by decide +kernel
theorem xd_law_1066 : decode code 1066 = .ok (.iconst 3, 1) := by decide +kernel
theorem xd_law_1067 : decode code 1067 = .ok (.iadd, 1) := by decide +kernel
theorem xd_law_1068 : decode code 1068 = .ok (.iaload, 1) := by decide +kernel
theorem xd_law_1069 : decode code 1069 = .ok (.invokevirtual 125, 3) := by decide +kernel
theorem xd_law_1072 : decode code 1072 = .ok (.if_icmp .eq 176, 3) := by decide +kernel
theorem xd_law_1075 : decode code 1075 = .ok (.iconst 0, 1) := by decide +kernel
theorem xd_law_1076 : decode code 1076 = .ok (.ireturn, 1) := by decide +kernel
theorem xd_law_1077 : decode code 1077 = .ok (.aload_n 1, 1) := by decide +kernel
theorem xd_law_1078 : decode code 1078 = .ok (.aload_n 0, 1) := by decide +kernel
theorem xd_law_1079 : decode code 1079 = .ok (.iload_n 3, 1) := by decide +kernel
theorem xd_law_1080 : decode code 1080 = .ok (.iconst 1, 1) := by decide +kernel
theorem xd_law_1081 : decode code 1081 = .ok (.iadd, 1) := by decide +kernel
theorem xd_law_1082 : decode code 1082 = .ok (.iaload, 1) := by decide +kernel
theorem xd_law_1083 : decode code 1083 = .ok (.invokevirtual 126, 3) := by decide +kernel
theorem xd_law_1086 : decode code 1086 = .ok (.aload_n 2, 1) := by decide +kernel
theorem xd_law_1087 : decode code 1087 = .ok (.aload_n 0, 1) := by decide +kernel
theorem xd_law_1088 : decode code 1088 = .ok (.iload_n 3, 1) := by decide +kernel
theorem xd_law_1089 : decode code 1089 = .ok (.iconst 1, 1) := by decide +kernel
theorem xd_law_1090 : decode code 1090 = .ok (.iadd, 1) := by decide +kernel
theorem xd_law_1091 : decode code 1091 = .ok (.iaload, 1) := by decide +kernel
theorem xd_law_1092 : decode code 1092 = .ok (.invokevirtual 129, 3) := by decide +kernel
theorem xd_law_1095 : decode code 1095 = .ok (.if_icmp .eq 153, 3) := by decide +kernel
theorem xd_law_1098 : decode code 1098 = .ok (.iconst 0, 1) := by decide +kernel
theorem xd_law_1099 : decode code 1099 = .ok (.ireturn, 1) := by decide +kernel
theorem xd_law_1100 : decode code 1100 = .ok (.aload_n 1, 1) := by decide +kernel
theorem xd_law_1101 : decode code 1101 = .ok (.aload_n 0, 1) := by decide +kernel
theorem xd_law_1102 : decode code 1102 = .ok (.iload_n 3, 1) := by decide +kernel
theorem xd_law_1103 : decode code 1103 = .ok (.iconst 1, 1) := by decide +kernel
theorem xd_law_1104 : decode code 1104 = .ok (.iadd, 1) := by decide +kernel
theorem xd_law_1105 : decode code 1105 = .ok (.iaload, 1) := by decide +kernel
theorem xd_law_1106 : decode code 1106 = .ok (.invokevirtual 130, 3) := by decide +kernel
theorem xd_law_1109 : decode code 1109 = .ok (.aload_n 2, 1) := by decide +kernel
theorem xd_law_1110 : decode code 1110 = .ok (.aload_n 0, 1) := by decide +kernel
theorem xd_law_1111 : decode code 1111 = .ok (.iload_n 3, 1) := by decide +kernel
theorem xd_law_1112 : decode code 1112 = .ok (.iconst 1, 1) := by decide +kernel
theorem xd_law_1113 : decode code 1113 = .ok (.iadd, 1) := by decide +kernel
theorem xd_law_1114 : decode code 1114 = .ok (.iaload, 1) := by decide +kernel
theorem xd_law_1115 : decode code 1115 = .ok (.invokevirtual 133, 3) := by decide +kernel
theorem xd_law_1118 : decode code 1118 = .ok (.if_icmp .eq 130, 3) := by decide +kernel
theorem xd_law_1121 : decode code 1121 = .ok (.iconst 0, 1) := by decide +kernel
theorem xd_law_1122 : decode code 1122 = .ok (.ireturn, 1) := by decide +kernel
theorem xd_law_1123 : decode code 1123 = .ok (.aload_n 1, 1) := by decide +kernel
theorem xd_law_1124 : decode code 1124 = .ok (.aload_n 0, 1) := by decide +kernel
theorem xd_law_1125 : decode code 1125 = .ok (.iload_n 3, 1) := by decide +kernel
theorem xd_law_1126 : decode code 1126 = .ok (.iconst 1, 1) := by decide +kernel
theorem xd_law_1127 : decode code 1127 = .ok (.iadd, 1) := by decide +kernel
theorem xd_law_1128 : decode code 1128 = .ok (.iaload, 1) := by decide +kernel
theorem xd_law_1129 : decode code 1129 = .ok (.aload_n 0, 1) := by decide +kernel
theorem xd_law_1130 : decode code 1130 = .ok (.iload_n 3, 1) := by decide +kernel
theorem xd_law_1131 : decode code 1131 = .ok (.iconst 2, 1) := by decide +kernel
theorem xd_law_1132 : decode code 1132 = .ok (.iadd, 1) := by decide +kernel
theorem xd_law_1133 : decode code 1133 = .ok (.iaload, 1) := by decide +kernel
theorem xd_law_1134 : decode code 1134 = .ok (.aload_n 0, 1) := by decide +kernel
theorem xd_law_1135 : decode code 1135 = .ok (.iload_n 3, 1) := by decide +kernel
theorem xd_law_1136 : decode code 1136 = .ok (.iconst 3, 1) := by decide +kernel
theorem xd_law_1137 : decode code 1137 = .ok (.iadd, 1) := by decide +kernel
theorem xd_law_1138 : decode code 1138 = .ok (.iaload, 1) := by decide +kernel
theorem xd_law_1139 : decode code 1139 = .ok (.invokevirtual 134, 3) := by decide +kernel
theorem xd_law_1142 : decode code 1142 = .ok (.aload_n 2, 1) := by decide +kernel
theorem xd_law_1143 : decode code 1143 = .ok (.aload_n 0, 1) := by decide +kernel
theorem xd_law_1144 : decode code 1144 = .ok (.iload_n 3, 1) := by decide +kernel
theorem xd_law_1145 : decode code 1145 = .ok (.iconst 1, 1) := by decide +kernel
theorem xd_law_1146 : decode code 1146 = .ok (.iadd, 1) := by decide +kernel
theorem xd_law_1147 : decode code 1147 = .ok (.iaload, 1) := by decide +kernel
theorem xd_law_1148 : decode code 1148 = .ok (.aload_n 0, 1) := by decide +kernel
theorem xd_law_1149 : decode code 1149 = .ok (.iload_n 3, 1) := by decide +kernel
theorem xd_law_1150 : decode code 1150 = .ok (.iconst 2, 1) := by decide +kernel
theorem xd_law_1151 : decode code 1151 = .ok (.iadd, 1) := by decide +kernel
theorem xd_law_1152 : decode code 1152 = .ok (.iaload, 1) := by decide +kernel
theorem xd_law_1153 : decode code 1153 = .ok (.aload_n 0, 1) := by decide +kernel
theorem xd_law_1154 : decode code 1154 = .ok (.iload_n 3, 1) := by decide +kernel
theorem xd_law_1155 : decode code 1155 = .ok (.iconst 3, 1) := by decide +kernel
theorem xd_law_1156 : decode code 1156 = .ok (.iadd, 1) := by decide +kernel
theorem xd_law_1157 : decode code 1157 = .ok (.iaload, 1) := by decide +kernel
theorem xd_law_1158 : decode code 1158 = .ok (.invokevirtual 137, 3) := by decide +kernel
theorem xd_law_1161 : decode code 1161 = .ok (.if_icmp .eq 87, 3) := by decide +kernel
theorem xd_law_1164 : decode code 1164 = .ok (.iconst 0, 1) := by decide +kernel
theorem xd_law_1165 : decode code 1165 = .ok (.ireturn, 1) := by decide +kernel
theorem xd_law_1166 : decode code 1166 = .ok (.aload_n 1, 1) := by decide +kernel
theorem xd_law_1167 : decode code 1167 = .ok (.aload_n 0, 1) := by decide +kernel
theorem xd_law_1168 : decode code 1168 = .ok (.iload_n 3, 1) := by decide +kernel
theorem xd_law_1169 : decode code 1169 = .ok (.iconst 1, 1) := by decide +kernel
theorem xd_law_1170 : decode code 1170 = .ok (.iadd, 1) := by decide +kernel
theorem xd_law_1171 : decode code 1171 = .ok (.iaload, 1) := by decide +kernel
theorem xd_law_1172 : decode code 1172 = .ok (.invokevirtual 138, 3) := by decide +kernel
theorem xd_law_1175 : decode code 1175 = .ok (.aload_n 2, 1) := by decide +kernel
theorem xd_law_1176 : decode code 1176 = .ok (.aload_n 0, 1) := by decide +kernel
theorem xd_law_1177 : decode code 1177 = .ok (.iload_n 3, 1) := by decide +kernel
theorem xd_law_1178 : decode code 1178 = .ok (.iconst 1, 1) := by decide +kernel
theorem xd_law_1179 : decode code 1179 = .ok (.iadd, 1) := by decide +kernel
theorem xd_law_1180 : decode code 1180 = .ok (.iaload, 1) := by decide +kernel
theorem xd_law_1181 : decode code 1181 = .ok (.invokevirtual 141, 3) := by decide +kernel
theorem xd_law_1184 : decode code 1184 = .ok (.if_icmp .eq 64, 3) := by decide +kernel
theorem xd_law_1187 : decode code 1187 = .ok (.iconst 0, 1) := by decide +kernel
theorem xd_law_1188 : decode code 1188 = .ok (.ireturn, 1) := by decide +kernel
theorem xd_law_1189 : decode code 1189 = .ok (.aload_n 1, 1) := by decide +kernel
theorem xd_law_1190 : decode code 1190 = .ok (.aload_n 0, 1) := by decide +kernel
theorem xd_law_1191 : decode code 1191 = .ok (.iload_n 3, 1) := by decide +kernel
theorem xd_law_1192 : decode code 1192 = .ok (.iconst 1, 1) := by decide +kernel
theorem xd_law_1193 : decode code 1193 = .ok (.iadd, 1) := by decide +kernel
theorem xd_law_1194 : decode code 1194 = .ok (.iaload, 1) := by decide +kernel
theorem xd_law_1195 : decode code 1195 = .ok (.invokevirtual 142, 3) := by decide +kernel
theorem xd_law_1198 : decode code 1198 = .ok (.aload_n 2, 1) := by decide +kernel
theorem xd_law_1199 : decode code 1199 = .ok (.aload_n 0, 1) := by decide +kernel
theorem xd_law_1200 : decode code 1200 = .ok (.iload_n 3, 1) := by decide +kernel
theorem xd_law_1201 : decode code 1201 = .ok (.iconst 1, 1) := by decide +kernel
theorem xd_law_1202 : decode code 1202 = .ok (.iadd, 1) := by decide +kernel
theorem xd_law_1203 : decode code 1203 = .ok (.iaload, 1) := by decide +kernel
theorem xd_law_1204 : decode code 1204 = .ok (.invokevirtual 145, 3) := by decide +kernel
theorem xd_law_1207 : decode code 1207 = .ok (.if_icmp .eq 41, 3) := by decide +kernel
theorem xd_law_1210 : decode code 1210 = .ok (.iconst 0, 1) := by decide +kernel
theorem xd_law_1211 : decode code 1211 = .ok (.ireturn, 1) := by decide +kernel
theorem xd_law_1212 : decode code 1212 = .ok (.aload_n 1, 1) := by decide +kernel
theorem xd_law_1213 : decode code 1213 = .ok (.aload_n 0, 1) := by decide +kernel
theorem xd_law_1214 : decode code 1214 = .ok (.iload_n 3, 1) := by decide +kernel
theorem xd_law_1215 : decode code 1215 = .ok (.iconst 1, 1) := by decide +kernel
theorem xd_law_1216 : decode code 1216 = .ok (.iadd, 1) := by decide +kernel
theorem xd_law_1217 : decode code 1217 = .ok (.iaload, 1) := by decide +kernel
theorem xd_law_1218 : decode code 1218 = .ok (.invokevirtual 146, 3) := by decide +kernel
theorem xd_law_1221 : decode code 1221 = .ok (.aload_n 2, 1) := by decide +kernel
theorem xd_law_1222 : decode code 1222 = .ok (.aload_n 0, 1) := by decide +kernel
theorem xd_law_1223 : decode code 1223 = .ok (.iload_n 3, 1) := by decide +kernel
theorem xd_law_1224 : decode code 1224 = .ok (.iconst 1, 1) := by decide +kernel
theorem xd_law_1225 : decode code 1225 = .ok (.iadd, 1) := by decide +kernel
theorem xd_law_1226 : decode code 1226 = .ok (.iaload, 1) := by decide +kernel
theorem xd_law_1227 : decode code 1227 = .ok (.invokevirtual 149, 3) := by decide +kernel
theorem xd_law_1230 : decode code 1230 = .ok (.if_icmp .eq 18, 3) := by decide +kernel
theorem xd_law_1233 : decode code 1233 = .ok (.iconst 0, 1) := by decide +kernel
theorem xd_law_1234 : decode code 1234 = .ok (.ireturn, 1) := by decide +kernel
theorem xd_law_1235 : decode code 1235 = .ok (.aload_n 1, 1) := by decide +kernel
theorem xd_law_1236 : decode code 1236 = .ok (.invokevirtual 150, 3) := by decide +kernel
theorem xd_law_1239 : decode code 1239 = .ok (.aload_n 2, 1) := by decide +kernel
theorem xd_law_1240 : decode code 1240 = .ok (.invokevirtual 153, 3) := by decide +kernel
theorem xd_law_1243 : decode code 1243 = .ok (.if_icmp .eq 5, 3) := by decide +kernel
theorem xd_law_1246 : decode code 1246 = .ok (.iconst 0, 1) := by decide +kernel
theorem xd_law_1247 : decode code 1247 = .ok (.ireturn, 1) := by decide +kernel
theorem xd_law_1248 : decode code 1248 = .ok (.iinc 3 4, 3) := by decide +kernel
theorem xd_law_1251 : decode code 1251 = .ok (.goto (-1233), 3) := by decide +kernel
theorem xd_law_1254 : decode code 1254 = .ok (.iconst 1, 1) := by decide +kernel
theorem xd_law_1255 : decode code 1255 = .ok (.ireturn, 1) := by decide +kernel
