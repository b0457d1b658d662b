theorem d_LW_law_981 : decode code 981 = .ok (.aload_n 0, 1) := by decide +kernel
theorem d_LW_law_982 : decode code 982 = .ok (.iload 4, 2) := by decide +kernel
theorem d_LW_law_984 : decode code 984 = .ok (.iconst 1, 1) := by decide +kernel
theorem d_LW_law_985 : decode code 985 = .ok (.iadd, 1) := by decide +kernel
theorem d_LW_law_986 : decode code 986 = .ok (.iaload, 1) := by decide +kernel
theorem d_LW_law_987 : decode code 987 = .ok (.aload_n 0, 1) := by decide +kernel
theorem d_LW_law_988 : decode code 988 = .ok (.iload 4, 2) := by decide +kernel
theorem d_LW_law_990 : decode code 990 = .ok (.iconst 2, 1) := by decide +kernel
theorem d_LW_law_991 : decode code 991 = .ok (.iadd, 1) := by decide +kernel
theorem d_LW_law_992 : decode code 992 = .ok (.iaload, 1) := by decide +kernel
theorem d_LW_law_993 : decode code 993 = .ok (.invokevirtual 130, 3) := by decide +kernel
theorem d_LW_law_996 : decode code 996 = .ok (.istore 6, 2) := by decide +kernel
theorem d_LW_law_998 : decode code 998 = .ok (.aload_n 2, 1) := by decide +kernel
theorem d_LW_law_999 : decode code 999 = .ok (.invokevirtual 88, 3) := by decide +kernel
theorem d_LW_law_1002 : decode code 1002 = .ok (.iload 5, 2) := by decide +kernel
theorem d_LW_law_1004 : decode code 1004 = .ok (.if_icmp .eq 5, 3) := by decide +kernel
theorem d_LW_law_1007 : decode code 1007 = .ok (.iconst 0, 1) := by decide +kernel
theorem d_LW_law_1008 : decode code 1008 = .ok (.ireturn, 1) := by decide +kernel
theorem d_LW_law_1009 : decode code 1009 = .ok (.iload 5, 2) := by decide +kernel
theorem d_LW_law_1011 : decode code 1011 = .ok (.ifCond .ne 15, 3) := by decide +kernel
theorem d_LW_law_1014 : decode code 1014 = .ok (.aload_n 3, 1) := by decide +kernel
theorem d_LW_law_1015 : decode code 1015 = .ok (.iconst 0, 1) := by decide +kernel
theorem d_LW_law_1016 : decode code 1016 = .ok (.laload, 1) := by decide +kernel
theorem d_LW_law_1017 : decode code 1017 = .ok (.iload 6, 2) := by decide +kernel
theorem d_LW_law_1019 : decode code 1019 = .ok (.i2l, 1) := by decide +kernel
theorem d_LW_law_1020 : decode code 1020 = .ok (.lcmp, 1) := by decide +kernel
theorem d_LW_law_1021 : decode code 1021 = .ok (.ifCond .eq 5, 3) := by decide +kernel
theorem d_LW_law_1024 : decode code 1024 = .ok (.iconst 0, 1) := by decide +kernel
theorem d_LW_law_1025 : decode code 1025 = .ok (.ireturn, 1) := by decide +kernel
theorem d_LW_law_1026 : decode code 1026 = .ok (.goto 387, 3) := by decide +kernel
theorem d_LW_law_1029 : decode code 1029 = .ok (.aload_n 1, 1) := by decide +kernel
theorem d_LW_law_1030 : decode code 1030 = .ok (.aload_n 0, 1) := by decide +kernel
theorem d_LW_law_1031 : decode code 1031 = .ok (.iload 4, 2) := by decide +kernel
theorem d_LW_law_1033 : decode code 1033 = .ok (.iconst 1, 1) := by decide +kernel
theorem d_LW_law_1034 : decode code 1034 = .ok (.iadd, 1) := by decide +kernel
theorem d_LW_law_1035 : decode code 1035 = .ok (.iaload, 1) := by decide +kernel
theorem d_LW_law_1036 : decode code 1036 = .ok (.aload_n 0, 1) := by decide +kernel
theorem d_LW_law_1037 : decode code 1037 = .ok (.iload 4, 2) := by decide +kernel
theorem d_LW_law_1039 : decode code 1039 = .ok (.iconst 2, 1) := by decide +kernel
theorem d_LW_law_1040 : decode code 1040 = .ok (.iadd, 1) := by decide +kernel
theorem d_LW_law_1041 : decode code 1041 = .ok (.iaload, 1) := by decide +kernel
theorem d_LW_law_1042 : decode code 1042 = .ok (.aload_n 3, 1) := by decide +kernel
theorem d_LW_law_1043 : decode code 1043 = .ok (.invokestatic 131, 3) := by decide +kernel
theorem d_LW_law_1046 : decode code 1046 = .ok (.istore 5, 2) := by decide +kernel
theorem d_LW_law_1048 : decode code 1048 = .ok (.aload_n 2, 1) := by decide +kernel
theorem d_LW_law_1049 : decode code 1049 = .ok (.aload_n 0, 1) := by decide +kernel
theorem d_LW_law_1050 : decode code 1050 = .ok (.iload 4, 2) := by decide +kernel
theorem d_LW_law_1052 : decode code 1052 = .ok (.iconst 1, 1) := by decide +kernel
theorem d_LW_law_1053 : decode code 1053 = .ok (.iadd, 1) := by decide +kernel
theorem d_LW_law_1054 : decode code 1054 = .ok (.iaload, 1) := by decide +kernel
theorem d_LW_law_1055 : decode code 1055 = .ok (.aload_n 0, 1) := by decide +kernel
theorem d_LW_law_1056 : decode code 1056 = .ok (.iload 4, 2) := by decide +kernel
theorem d_LW_law_1058 : decode code 1058 = .ok (.iconst 2, 1) := by decide +kernel
theorem d_LW_law_1059 : decode code 1059 = .ok (.iadd, 1) := by decide +kernel
theorem d_LW_law_1060 : decode code 1060 = .ok (.iaload, 1) := by decide +kernel
theorem d_LW_law_1061 : decode code 1061 = .ok (.invokevirtual 133, 3) := by decide +kernel
theorem d_LW_law_1064 : decode code 1064 = .ok (.istore 6, 2) := by decide +kernel
theorem d_LW_law_1066 : decode code 1066 = .ok (.aload_n 2, 1) := by decide +kernel
theorem d_LW_law_1067 : decode code 1067 = .ok (.invokevirtual 88, 3) := by decide +kernel
theorem d_LW_law_1070 : decode code 1070 = .ok (.iload 5, 2) := by decide +kernel
theorem d_LW_law_1072 : decode code 1072 = .ok (.if_icmp .eq 5, 3) := by decide +kernel
theorem d_LW_law_1075 : decode code 1075 = .ok (.iconst 0, 1) := by decide +kernel
theorem d_LW_law_1076 : decode code 1076 = .ok (.ireturn, 1) := by decide +kernel
theorem d_LW_law_1077 : decode code 1077 = .ok (.iload 5, 2) := by decide +kernel
theorem d_LW_law_1079 : decode code 1079 = .ok (.ifCond .ne 15, 3) := by decide +kernel
theorem d_LW_law_1082 : decode code 1082 = .ok (.aload_n 3, 1) := by decide +kernel
theorem d_LW_law_1083 : decode code 1083 = .ok (.iconst 0, 1) := by decide +kernel
theorem d_LW_law_1084 : decode code 1084 = .ok (.laload, 1) := by decide +kernel
theorem d_LW_law_1085 : decode code 1085 = .ok (.iload 6, 2) := by decide +kernel
theorem d_LW_law_1087 : decode code 1087 = .ok (.i2l, 1) := by decide +kernel
theorem d_LW_law_1088 : decode code 1088 = .ok (.lcmp, 1) := by decide +kernel
theorem d_LW_law_1089 : decode code 1089 = .ok (.ifCond .eq 5, 3) := by decide +kernel
theorem d_LW_law_1092 : decode code 1092 = .ok (.iconst 0, 1) := by decide +kernel
theorem d_LW_law_1093 : decode code 1093 = .ok (.ireturn, 1) := by decide +kernel
theorem d_LW_law_1094 : decode code 1094 = .ok (.goto 319, 3) := by decide +kernel
theorem d_LW_law_1097 : decode code 1097 = .ok (.aload_n 1, 1) := by decide +kernel
theorem d_LW_law_1098 : decode code 1098 = .ok (.aload_n 0, 1) := by decide +kernel
theorem d_LW_law_1099 : decode code 1099 = .ok (.iload 4, 2) := by decide +kernel
theorem d_LW_law_1101 : decode code 1101 = .ok (.iconst 1, 1) := by decide +kernel
theorem d_LW_law_1102 : decode code 1102 = .ok (.iadd, 1) := by decide +kernel
theorem d_LW_law_1103 : decode code 1103 = .ok (.iaload, 1) := by decide +kernel
theorem d_LW_law_1104 : decode code 1104 = .ok (.aload_n 3, 1) := by decide +kernel
theorem d_LW_law_1105 : decode code 1105 = .ok (.invokestatic 134, 3) := by decide +kernel
theorem d_LW_law_1108 : decode code 1108 = .ok (.istore 5, 2) := by decide +kernel
theorem d_LW_law_1110 : decode code 1110 = .ok (.aload_n 2, 1) := by decide +kernel
theorem d_LW_law_1111 : decode code 1111 = .ok (.aload_n 0, 1) := by decide +kernel
theorem d_LW_law_1112 : decode code 1112 = .ok (.iload 4, 2) := by decide +kernel
theorem d_LW_law_1114 : decode code 1114 = .ok (.iconst 1, 1) := by decide +kernel
theorem d_LW_law_1115 : decode code 1115 = .ok (.iadd, 1) := by decide +kernel
theorem d_LW_law_1116 : decode code 1116 = .ok (.iaload, 1) := by decide +kernel
theorem d_LW_law_1117 : decode code 1117 = .ok (.invokevirtual 136, 3) := by decide +kernel
theorem d_LW_law_1120 : decode code 1120 = .ok (.istore 6, 2) := by decide +kernel
theorem d_LW_law_1122 : decode code 1122 = .ok (.aload_n 2, 1) := by decide +kernel
theorem d_LW_law_1123 : decode code 1123 = .ok (.invokevirtual 88, 3) := by decide +kernel
theorem d_LW_law_1126 : decode code 1126 = .ok (.iload 5, 2) := by decide +kernel
theorem d_LW_law_1128 : decode code 1128 = .ok (.if_icmp .eq 5, 3) := by decide +kernel
theorem d_LW_law_1131 : decode code 1131 = .ok (.iconst 0, 1) := by decide +kernel
theorem d_LW_law_1132 : decode code 1132 = .ok (.ireturn, 1) := by decide +kernel
theorem d_LW_law_1133 : decode code 1133 = .ok (.iload 5, 2) := by decide +kernel
theorem d_LW_law_1135 : decode code 1135 = .ok (.ifCond .ne 15, 3) := by decide +kernel
theorem d_LW_law_1138 : decode code 1138 = .ok (.aload_n 3, 1) := by decide +kernel
theorem d_LW_law_1139 : decode code 1139 = .ok (.iconst 0, 1) := by decide +kernel
theorem d_LW_law_1140 : decode code 1140 = .ok (.laload, 1) := by decide +kernel
theorem d_LW_law_1141 : decode code 1141 = .ok (.iload 6, 2) := by decide +kernel
theorem d_LW_law_1143 : decode code 1143 = .ok (.i2l, 1) := by decide +kernel
theorem d_LW_law_1144 : decode code 1144 = .ok (.lcmp, 1) := by decide +kernel
theorem d_LW_law_1145 : decode code 1145 = .ok (.ifCond .eq 5, 3) := by decide +kernel
theorem d_LW_law_1148 : decode code 1148 = .ok (.iconst 0, 1) := by decide +kernel
theorem d_LW_law_1149 : decode code 1149 = .ok (.ireturn, 1) := by decide +kernel
theorem d_LW_law_1150 : decode code 1150 = .ok (.goto 263, 3) := by decide +kernel
theorem d_LW_law_1153 : decode code 1153 = .ok (.aload_n 1, 1) := by decide +kernel
theorem d_LW_law_1154 : decode code 1154 = .ok (.aload_n 0, 1) := by decide +kernel
theorem d_LW_law_1155 : decode code 1155 = .ok (.iload 4, 2) := by decide +kernel
theorem d_LW_law_1157 : decode code 1157 = .ok (.iconst 1, 1) := by decide +kernel
theorem d_LW_law_1158 : decode code 1158 = .ok (.iadd, 1) := by decide +kernel
theorem d_LW_law_1159 : decode code 1159 = .ok (.iaload, 1) := by decide +kernel
theorem d_LW_law_1160 : decode code 1160 = .ok (.aload_n 0, 1) := by decide +kernel
theorem d_LW_law_1161 : decode code 1161 = .ok (.iload 4, 2) := by decide +kernel
theorem d_LW_law_1163 : decode code 1163 = .ok (.iconst 2, 1) := by decide +kernel
theorem d_LW_law_1164 : decode code 1164 = .ok (.iadd, 1) := by decide +kernel
theorem d_LW_law_1165 : decode code 1165 = .ok (.iaload, 1) := by decide +kernel
theorem d_LW_law_1166 : decode code 1166 = .ok (.aload_n 0, 1) := by decide +kernel
theorem d_LW_law_1167 : decode code 1167 = .ok (.iload 4, 2) := by decide +kernel
theorem d_LW_law_1169 : decode code 1169 = .ok (.iconst 3, 1) := by decide +kernel
theorem d_LW_law_1170 : decode code 1170 = .ok (.iadd, 1) := by decide +kernel
theorem d_LW_law_1171 : decode code 1171 = .ok (.iaload, 1) := by decide +kernel
theorem d_LW_law_1172 : decode code 1172 = .ok (.aload_n 3, 1) := by decide +kernel
theorem d_LW_law_1173 : decode code 1173 = .ok (.invokestatic 137, 3) := by decide +kernel
theorem d_LW_law_1176 : decode code 1176 = .ok (.istore 5, 2) := by decide +kernel
theorem d_LW_law_1178 : decode code 1178 = .ok (.aload_n 2, 1) := by decide +kernel
theorem d_LW_law_1179 : decode code 1179 = .ok (.aload_n 0, 1) := by decide +kernel
theorem d_LW_law_1180 : decode code 1180 = .ok (.iload 4, 2) := by decide +kernel
theorem d_LW_law_1182 : decode code 1182 = .ok (.iconst 1, 1) := by decide +kernel
theorem d_LW_law_1183 : decode code 1183 = .ok (.iadd, 1) := by decide +kernel
theorem d_LW_law_1184 : decode code 1184 = .ok (.iaload, 1) := by decide +kernel
theorem d_LW_law_1185 : decode code 1185 = .ok (.aload_n 0, 1) := by decide +kernel
theorem d_LW_law_1186 : decode code 1186 = .ok (.iload 4, 2) := by decide +kernel
theorem d_LW_law_1188 : decode code 1188 = .ok (.iconst 2, 1) := by decide +kernel
theorem d_LW_law_1189 : decode code 1189 = .ok (.iadd, 1) := by decide +kernel
theorem d_LW_law_1190 : decode code 1190 = .ok (.iaload, 1) := by decide +kernel
theorem d_LW_law_1191 : decode code 1191 = .ok (.aload_n 0, 1) := by decide +kernel
theorem d_LW_law_1192 : decode code 1192 = .ok (.iload 4, 2) := by decide +kernel
theorem d_LW_law_1194 : decode code 1194 = .ok (.iconst 3, 1) := by decide +kernel
theorem d_LW_law_1195 : decode code 1195 = .ok (.iadd, 1) := by decide +kernel
theorem d_LW_law_1196 : decode code 1196 = .ok (.iaload, 1) := by decide +kernel
theorem d_LW_law_1197 : decode code 1197 = .ok (.invokevirtual 140, 3) := by decide +kernel
theorem d_LW_law_1200 : decode code 1200 = .ok (.istore 6, 2) := by decide +kernel
theorem d_LW_law_1202 : decode code 1202 = .ok (.aload_n 2, 1) := by decide +kernel
theorem d_LW_law_1203 : decode code 1203 = .ok (.invokevirtual 88, 3) := by decide +kernel
theorem d_LW_law_1206 : decode code 1206 = .ok (.iload 5, 2) := by decide +kernel
theorem d_LW_law_1208 : decode code 1208 = .ok (.if_icmp .eq 5, 3) := by decide +kernel
theorem d_LW_law_1211 : decode code 1211 = .ok (.iconst 0, 1) := by decide +kernel
theorem d_LW_law_1212 : decode code 1212 = .ok (.ireturn, 1) := by decide +kernel
theorem d_LW_law_1213 : decode code 1213 = .ok (.iload 5, 2) := by decide +kernel
theorem d_LW_law_1215 : decode code 1215 = .ok (.ifCond .ne 15, 3) := by decide +kernel
theorem d_LW_law_1218 : decode code 1218 = .ok (.aload_n 3, 1) := by decide +kernel
theorem d_LW_law_1219 : decode code 1219 = .ok (.iconst 0, 1) := by decide +kernel
theorem d_LW_law_1220 : decode code 1220 = .ok (.laload, 1) := by decide +kernel
theorem d_LW_law_1221 : decode code 1221 = .ok (.iload 6, 2) := by decide +kernel
theorem d_LW_law_1223 : decode code 1223 = .ok (.i2l, 1) := by decide +kernel
theorem d_LW_law_1224 : decode code 1224 = .ok (.lcmp, 1) := by decide +kernel
theorem d_LW_law_1225 : decode code 1225 = .ok (.ifCond .eq 5, 3) := by decide +kernel
theorem d_LW_law_1228 : decode code 1228 = .ok (.iconst 0, 1) := by decide +kernel
theorem d_LW_law_1229 : decode code 1229 = .ok (.ireturn, 1) := by decide +kernel
theorem d_LW_law_1230 : decode code 1230 = .ok (.goto 183, 3) := by decide +kernel
theorem d_LW_law_1233 : decode code 1233 = .ok (.aload_n 1, 1) := by decide +kernel
theorem d_LW_law_1234 : decode code 1234 = .ok (.aload_n 0, 1) := by decide +kernel
theorem d_LW_law_1235 : decode code 1235 = .ok (.iload 4, 2) := by decide +kernel
theorem d_LW_law_1237 : decode code 1237 = .ok (.iconst 1, 1) := by decide +kernel
theorem d_LW_law_1238 : decode code 1238 = .ok (.iadd, 1) := by decide +kernel
theorem d_LW_law_1239 : decode code 1239 = .ok (.iaload, 1) := by decide +kernel
theorem d_LW_law_1240 : decode code 1240 = .ok (.aload_n 0, 1) := by decide +kernel
theorem d_LW_law_1241 : decode code 1241 = .ok (.iload 4, 2) := by decide +kernel
theorem d_LW_law_1243 : decode code 1243 = .ok (.iconst 2, 1) := by decide +kernel
theorem d_LW_law_1244 : decode code 1244 = .ok (.iadd, 1) := by decide +kernel
theorem d_LW_law_1245 : decode code 1245 = .ok (.iaload, 1) := by decide +kernel
theorem d_LW_law_1246 : decode code 1246 = .ok (.aload_n 3, 1) := by decide +kernel
theorem d_LW_law_1247 : decode code 1247 = .ok (.invokestatic 141, 3) := by decide +kernel
theorem d_LW_law_1250 : decode code 1250 = .ok (.istore 5, 2) := by decide +kernel
theorem d_LW_law_1252 : decode code 1252 = .ok (.aload_n 2, 1) := by decide +kernel
theorem d_LW_law_1253 : decode code 1253 = .ok (.aload_n 0, 1) := by decide +kernel
theorem d_LW_law_1254 : decode code 1254 = .ok (.iload 4, 2) := by decide +kernel
theorem d_LW_law_1256 : decode code 1256 = .ok (.iconst 1, 1) := by decide +kernel
theorem d_LW_law_1257 : decode code 1257 = .ok (.iadd, 1) := by decide +kernel
theorem d_LW_law_1258 : decode code 1258 = .ok (.iaload, 1) := by decide +kernel
theorem d_LW_law_1259 : decode code 1259 = .ok (.aload_n 0, 1) := by decide +kernel
theorem d_LW_law_1260 : decode code 1260 = .ok (.iload 4, 2) := by decide +kernel
theorem d_LW_law_1262 : decode code 1262 = .ok (.iconst 2, 1) := by decide +kernel
theorem d_LW_law_1263 : decode code 1263 = .ok (.iadd, 1) := by decide +kernel
theorem d_LW_law_1264 : decode code 1264 = .ok (.iaload, 1) := by decide +kernel
theorem d_LW_law_1265 : decode code 1265 = .ok (.invokevirtual 143, 3) := by decide +kernel
theorem d_LW_law_1268 : decode code 1268 = .ok (.istore 6, 2) := by decide +kernel
theorem d_LW_law_1270 : decode code 1270 = .ok (.aload_n 2, 1) := by decide +kernel
theorem d_LW_law_1271 : decode code 1271 = .ok (.invokevirtual 88, 3) := by decide +kernel
theorem d_LW_law_1274 : decode code 1274 = .ok (.iload 5, 2) := by decide +kernel
theorem d_LW_law_1276 : decode code 1276 = .ok (.if_icmp .eq 5, 3) := by decide +kernel
theorem d_LW_law_1279 : decode code 1279 = .ok (.iconst 0, 1) := by decide +kernel
theorem d_LW_law_1280 : decode code 1280 = .ok (.ireturn, 1) := by decide +kernel
theorem d_LW_law_1281 : decode code 1281 = .ok (.iload 5, 2) := by decide +kernel
theorem d_LW_law_1283 : decode code 1283 = .ok (.ifCond .ne 15, 3) := by decide +kernel
theorem d_LW_law_1286 : decode code 1286 = .ok (.aload_n 3, 1) := by decide +kernel
theorem d_LW_law_1287 : decode code 1287 = .ok (.iconst 0, 1) := by decide +kernel
theorem d_LW_law_1288 : decode code 1288 = .ok (.laload, 1) := by decide +kernel
theorem d_LW_law_1289 : decode code 1289 = .ok (.iload 6, 2) := by decide +kernel
theorem d_LW_law_1291 : decode code 1291 = .ok (.i2l, 1) := by decide +kernel
theorem d_LW_law_1292 : decode code 1292 = .ok (.lcmp, 1) := by decide +kernel
theorem d_LW_law_1293 : decode code 1293 = .ok (.ifCond .eq 5, 3) := by decide +kernel
theorem d_LW_law_1296 : decode code 1296 = .ok (.iconst 0, 1) := by decide +kernel
theorem d_LW_law_1297 : decode code 1297 = .ok (.ireturn, 1) := by decide +kernel
theorem d_LW_law_1298 : decode code 1298 = .ok (.goto 115, 3) := by decide +kernel
theorem d_LW_law_1301 : decode code 1301 = .ok (.aload_n 1, 1) := by decide +kernel
theorem d_LW_law_1302 : decode code 1302 = .ok (.aload_n 0, 1) := by decide +kernel
theorem d_LW_law_1303 : decode code 1303 = .ok (.iload 4, 2) := by decide +kernel
theorem d_LW_law_1305 : decode code 1305 = .ok (.iconst 1, 1) := by decide +kernel
theorem d_LW_law_1306 : decode code 1306 = .ok (.iadd, 1) := by decide +kernel
theorem d_LW_law_1307 : decode code 1307 = .ok (.iaload, 1) := by decide +kernel
theorem d_LW_law_1308 : decode code 1308 = .ok (.aload_n 3, 1) := by decide +kernel
theorem d_LW_law_1309 : decode code 1309 = .ok (.invokestatic 144, 3) := by decide +kernel
theorem d_LW_law_1312 : decode code 1312 = .ok (.istore 5, 2) := by decide +kernel
theorem d_LW_law_1314 : decode code 1314 = .ok (.aload_n 2, 1) := by decide +kernel
theorem d_LW_law_1315 : decode code 1315 = .ok (.aload_n 0, 1) := by decide +kernel
theorem d_LW_law_1316 : decode code 1316 = .ok (.iload 4, 2) := by decide +kernel
theorem d_LW_law_1318 : decode code 1318 = .ok (.iconst 1, 1) := by decide +kernel
theorem d_LW_law_1319 : decode code 1319 = .ok (.iadd, 1) := by decide +kernel
theorem d_LW_law_1320 : decode code 1320 = .ok (.iaload, 1) := by decide +kernel
theorem d_LW_law_1321 : decode code 1321 = .ok (.invokevirtual 146, 3) := by decide +kernel
theorem d_LW_law_1324 : decode code 1324 = .ok (.istore 6, 2) := by decide +kernel
theorem d_LW_law_1326 : decode code 1326 = .ok (.aload_n 2, 1) := by decide +kernel
theorem d_LW_law_1327 : decode code 1327 = .ok (.invokevirtual 88, 3) := by decide +kernel
theorem d_LW_law_1330 : decode code 1330 = .ok (.iload 5, 2) := by decide +kernel
theorem d_LW_law_1332 : decode code 1332 = .ok (.if_icmp .eq 5, 3) := by decide +kernel
theorem d_LW_law_1335 : decode code 1335 = .ok (.iconst 0, 1) := by decide +kernel
theorem d_LW_law_1336 : decode code 1336 = .ok (.ireturn, 1) := by decide +kernel
theorem d_LW_law_1337 : decode code 1337 = .ok (.iload 5, 2) := by decide +kernel
theorem d_LW_law_1339 : decode code 1339 = .ok (.ifCond .ne 15, 3) := by decide +kernel
theorem d_LW_law_1342 : decode code 1342 = .ok (.aload_n 3, 1) := by decide +kernel
theorem d_LW_law_1343 : decode code 1343 = .ok (.iconst 0, 1) := by decide +kernel
theorem d_LW_law_1344 : decode code 1344 = .ok (.laload, 1) := by decide +kernel
theorem d_LW_law_1345 : decode code 1345 = .ok (.iload 6, 2) := by decide +kernel
theorem d_LW_law_1347 : decode code 1347 = .ok (.i2l, 1) := by decide +kernel
theorem d_LW_law_1348 : decode code 1348 = .ok (.lcmp, 1) := by decide +kernel
theorem d_LW_law_1349 : decode code 1349 = .ok (.ifCond .eq 5, 3) := by decide +kernel
theorem d_LW_law_1352 : decode code 1352 = .ok (.iconst 0, 1) := by decide +kernel
theorem d_LW_law_1353 : decode code 1353 = .ok (.ireturn, 1) := by decide +kernel
theorem d_LW_law_1354 : decode code 1354 = .ok (.goto 59, 3) := by decide +kernel
theorem d_LW_law_1357 : decode code 1357 = .ok (.aload_n 1, 1) := by decide +kernel
theorem d_LW_law_1358 : decode code 1358 = .ok (.aload_n 0, 1) := by decide +kernel
theorem d_LW_law_1359 : decode code 1359 = .ok (.iload 4, 2) := by decide +kernel
theorem d_LW_law_1361 : decode code 1361 = .ok (.iconst 1, 1) := by decide +kernel
theorem d_LW_law_1362 : decode code 1362 = .ok (.iadd, 1) := by decide +kernel
theorem d_LW_law_1363 : decode code 1363 = .ok (.iaload, 1) := by decide +kernel
theorem d_LW_law_1364 : decode code 1364 = .ok (.aload_n 3, 1) := by decide +kernel
theorem d_LW_law_1365 : decode code 1365 = .ok (.invokestatic 147, 3) := by decide +kernel
theorem d_LW_law_1368 : decode code 1368 = .ok (.istore 5, 2) := by decide +kernel
theorem d_LW_law_1370 : decode code 1370 = .ok (.aload_n 2, 1) := by decide +kernel
theorem d_LW_law_1371 : decode code 1371 = .ok (.aload_n 0, 1) := by decide +kernel
theorem d_LW_law_1372 : decode code 1372 = .ok (.iload 4, 2) := by decide +kernel
theorem d_LW_law_1374 : decode code 1374 = .ok (.iconst 1, 1) := by decide +kernel
theorem d_LW_law_1375 : decode code 1375 = .ok (.iadd, 1) := by decide +kernel
theorem d_LW_law_1376 : decode code 1376 = .ok (.iaload, 1) := by decide +kernel
theorem d_LW_law_1377 : decode code 1377 = .ok (.invokevirtual 149, 3) := by decide +kernel
theorem d_LW_law_1380 : decode code 1380 = .ok (.istore 6, 2) := by decide +kernel
theorem d_LW_law_1382 : decode code 1382 = .ok (.aload_n 2, 1) := by decide +kernel
theorem d_LW_law_1383 : decode code 1383 = .ok (.invokevirtual 88, 3) := by decide +kernel
theorem d_LW_law_1386 : decode code 1386 = .ok (.iload 5, 2) := by decide +kernel
theorem d_LW_law_1388 : decode code 1388 = .ok (.if_icmp .eq 5, 3) := by decide +kernel
theorem d_LW_law_1391 : decode code 1391 = .ok (.iconst 0, 1) := by decide +kernel
theorem d_LW_law_1392 : decode code 1392 = .ok (.ireturn, 1) := by decide +kernel
theorem d_LW_law_1393 : decode code 1393 = .ok (.iload 5, 2) := by decide +kernel
theorem d_LW_law_1395 : decode code 1395 = .ok (.ifCond .ne 15, 3) := by decide +kernel
theorem d_LW_law_1398 : decode code 1398 = .ok (.aload_n 3, 1) := by decide +kernel
theorem d_LW_law_1399 : decode code 1399 = .ok (.iconst 0, 1) := by decide +kernel
theorem d_LW_law_1400 : decode code 1400 = .ok (.laload, 1) := by decide +kernel
theorem d_LW_law_1401 : decode code 1401 = .ok (.iload 6, 2) := by decide +kernel
theorem d_LW_law_1403 : decode code 1403 = .ok (.i2l, 1) := by decide +kernel
theorem d_LW_law_1404 : decode code 1404 = .ok (.lcmp, 1) := by decide +kernel
theorem d_LW_law_1405 : decode code 1405 = .ok (.ifCond .eq 5, 3) := by decide +kernel
theorem d_LW_law_1408 : decode code 1408 = .ok (.iconst 0, 1) := by decide +kernel
theorem d_LW_law_1409 : decode code 1409 = .ok (.ireturn, 1) := by decide +kernel
theorem d_LW_law_1410 : decode code 1410 = .ok (.goto 3, 3) := by decide +kernel
theorem d_LW_law_1413 : decode code 1413 = .ok (.iinc 4 6, 3) := by decide +kernel
theorem d_LW_law_1416 : decode code 1416 = .ok (.goto (-1393), 3) := by decide +kernel
theorem d_LW_law_1419 : decode code 1419 = .ok (.iconst 1, 1) := by decide +kernel
theorem d_LW_law_1420 : decode code 1420 = .ok (.ireturn, 1) := by decide +kernel
