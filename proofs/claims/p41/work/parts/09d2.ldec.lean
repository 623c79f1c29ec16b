theorem dL_law_967 : decode cL_law 967 = .ok (.iastore, 1) := by decide +kernel
theorem dL_law_968 : decode cL_law 968 = .ok (.goto 477, 3) := by decide +kernel
theorem dL_law_971 : decode cL_law 971 = .ok (.iload 18, 2) := by decide +kernel
theorem dL_law_973 : decode cL_law 973 = .ok (.bipush 12, 2) := by decide +kernel
theorem dL_law_975 : decode cL_law 975 = .ok (.if_icmp .ne 124, 3) := by decide +kernel
theorem dL_law_978 : decode cL_law 978 = .ok (.iload 21, 2) := by decide +kernel
theorem dL_law_980 : decode cL_law 980 = .ok (.ifCond .le 119, 3) := by decide +kernel
theorem dL_law_983 : decode cL_law 983 = .ok (.iload 17, 2) := by decide +kernel
theorem dL_law_985 : decode cL_law 985 = .ok (.bipush 12, 2) := by decide +kernel
theorem dL_law_987 : decode cL_law 987 = .ok (.iand, 1) := by decide +kernel
theorem dL_law_988 : decode cL_law 988 = .ok (.ifCond .ne 111, 3) := by decide +kernel
theorem dL_law_991 : decode cL_law 991 = .ok (.iload 17, 2) := by decide +kernel
theorem dL_law_993 : decode cL_law 993 = .ok (.iconst 4, 1) := by decide +kernel
theorem dL_law_994 : decode cL_law 994 = .ok (.ishr, 1) := by decide +kernel
theorem dL_law_995 : decode cL_law 995 = .ok (.iload 21, 2) := by decide +kernel
theorem dL_law_997 : decode cL_law 997 = .ok (.irem, 1) := by decide +kernel
theorem dL_law_998 : decode cL_law 998 = .ok (.istore 22, 2) := by decide +kernel
theorem dL_law_1000 : decode cL_law 1000 = .ok (.aload_n 1, 1) := by decide +kernel
theorem dL_law_1001 : decode cL_law 1001 = .ok (.iload 19, 2) := by decide +kernel
theorem dL_law_1003 : decode cL_law 1003 = .ok (.iload 22, 2) := by decide +kernel
theorem dL_law_1005 : decode cL_law 1005 = .ok (.invokevirtual 71, 3) := by decide +kernel
theorem dL_law_1008 : decode cL_law 1008 = .ok (.istore 23, 2) := by decide +kernel
theorem dL_law_1010 : decode cL_law 1010 = .ok (.aload_n 1, 1) := by decide +kernel
theorem dL_law_1011 : decode cL_law 1011 = .ok (.iconst 5, 1) := by decide +kernel
theorem dL_law_1012 : decode cL_law 1012 = .ok (.iload 19, 2) := by decide +kernel
theorem dL_law_1014 : decode cL_law 1014 = .ok (.iload 22, 2) := by decide +kernel
theorem dL_law_1016 : decode cL_law 1016 = .ok (.invokestatic 61, 3) := by decide +kernel
theorem dL_law_1019 : decode cL_law 1019 = .ok (.istore 24, 2) := by decide +kernel
theorem dL_law_1021 : decode cL_law 1021 = .ok (.iload 23, 2) := by decide +kernel
theorem dL_law_1023 : decode cL_law 1023 = .ok (.ifCond .ne 29, 3) := by decide +kernel
theorem dL_law_1026 : decode cL_law 1026 = .ok (.iload 24, 2) := by decide +kernel
theorem dL_law_1028 : decode cL_law 1028 = .ok (.bipush (-13), 2) := by decide +kernel
theorem dL_law_1030 : decode cL_law 1030 = .ok (.if_icmp .ne 18, 3) := by decide +kernel
theorem dL_law_1033 : decode cL_law 1033 = .ok (.aload_n 1, 1) := by decide +kernel
theorem dL_law_1034 : decode cL_law 1034 = .ok (.iload 19, 2) := by decide +kernel
theorem dL_law_1036 : decode cL_law 1036 = .ok (.invokevirtual 49, 3) := by decide +kernel
theorem dL_law_1039 : decode cL_law 1039 = .ok (.iload 20, 2) := by decide +kernel
theorem dL_law_1041 : decode cL_law 1041 = .ok (.if_icmp .ne 7, 3) := by decide +kernel
theorem dL_law_1044 : decode cL_law 1044 = .ok (.iconst 1, 1) := by decide +kernel
theorem dL_law_1045 : decode cL_law 1045 = .ok (.goto 49, 3) := by decide +kernel
theorem dL_law_1048 : decode cL_law 1048 = .ok (.iconst 0, 1) := by decide +kernel
theorem dL_law_1049 : decode cL_law 1049 = .ok (.goto 45, 3) := by decide +kernel
theorem dL_law_1052 : decode cL_law 1052 = .ok (.iload 24, 2) := by decide +kernel
theorem dL_law_1054 : decode cL_law 1054 = .ok (.ifCond .lt 39, 3) := by decide +kernel
theorem dL_law_1057 : decode cL_law 1057 = .ok (.aload_n 1, 1) := by decide +kernel
theorem dL_law_1058 : decode cL_law 1058 = .ok (.iload 19, 2) := by decide +kernel
theorem dL_law_1060 : decode cL_law 1060 = .ok (.invokevirtual 64, 3) := by decide +kernel
theorem dL_law_1063 : decode cL_law 1063 = .ok (.aload_n 2, 1) := by decide +kernel
theorem dL_law_1064 : decode cL_law 1064 = .ok (.bipush 16, 2) := by decide +kernel
theorem dL_law_1066 : decode cL_law 1066 = .ok (.iload 19, 2) := by decide +kernel
theorem dL_law_1068 : decode cL_law 1068 = .ok (.imul, 1) := by decide +kernel
theorem dL_law_1069 : decode cL_law 1069 = .ok (.iload 22, 2) := by decide +kernel
theorem dL_law_1071 : decode cL_law 1071 = .ok (.iadd, 1) := by decide +kernel
theorem dL_law_1072 : decode cL_law 1072 = .ok (.laload, 1) := by decide +kernel
theorem dL_law_1073 : decode cL_law 1073 = .ok (.lcmp, 1) := by decide +kernel
theorem dL_law_1074 : decode cL_law 1074 = .ok (.ifCond .ne 19, 3) := by decide +kernel
theorem dL_law_1077 : decode cL_law 1077 = .ok (.aload_n 1, 1) := by decide +kernel
theorem dL_law_1078 : decode cL_law 1078 = .ok (.iconst 5, 1) := by decide +kernel
theorem dL_law_1079 : decode cL_law 1079 = .ok (.iload 19, 2) := by decide +kernel
theorem dL_law_1081 : decode cL_law 1081 = .ok (.iload 22, 2) := by decide +kernel
theorem dL_law_1083 : decode cL_law 1083 = .ok (.invokestatic 61, 3) := by decide +kernel
theorem dL_law_1086 : decode cL_law 1086 = .ok (.ifCond .ne 7, 3) := by decide +kernel
theorem dL_law_1089 : decode cL_law 1089 = .ok (.iconst 1, 1) := by decide +kernel
theorem dL_law_1090 : decode cL_law 1090 = .ok (.goto 4, 3) := by decide +kernel
theorem dL_law_1093 : decode cL_law 1093 = .ok (.iconst 0, 1) := by decide +kernel
theorem dL_law_1094 : decode cL_law 1094 = .ok (.istore 13, 2) := by decide +kernel
theorem dL_law_1096 : decode cL_law 1096 = .ok (.goto 349, 3) := by decide +kernel
theorem dL_law_1099 : decode cL_law 1099 = .ok (.iload 21, 2) := by decide +kernel
theorem dL_law_1101 : decode cL_law 1101 = .ok (.bipush 16, 2) := by decide +kernel
theorem dL_law_1103 : decode cL_law 1103 = .ok (.if_icmp .ge 342, 3) := by decide +kernel
theorem dL_law_1106 : decode cL_law 1106 = .ok (.iconst 0, 1) := by decide +kernel
theorem dL_law_1107 : decode cL_law 1107 = .ok (.istore 22, 2) := by decide +kernel
theorem dL_law_1109 : decode cL_law 1109 = .ok (.iconst 0, 1) := by decide +kernel
theorem dL_law_1110 : decode cL_law 1110 = .ok (.istore 23, 2) := by decide +kernel
theorem dL_law_1112 : decode cL_law 1112 = .ok (.iconst 0, 1) := by decide +kernel
theorem dL_law_1113 : decode cL_law 1113 = .ok (.istore 24, 2) := by decide +kernel
theorem dL_law_1115 : decode cL_law 1115 = .ok (.iconst 0, 1) := by decide +kernel
theorem dL_law_1116 : decode cL_law 1116 = .ok (.istore 25, 2) := by decide +kernel
theorem dL_law_1118 : decode cL_law 1118 = .ok (.iload 25, 2) := by decide +kernel
theorem dL_law_1120 : decode cL_law 1120 = .ok (.iconst 4, 1) := by decide +kernel
theorem dL_law_1121 : decode cL_law 1121 = .ok (.if_icmp .ge 129, 3) := by decide +kernel
theorem dL_law_1124 : decode cL_law 1124 = .ok (.aload_n 1, 1) := by decide +kernel
theorem dL_law_1125 : decode cL_law 1125 = .ok (.iload 25, 2) := by decide +kernel
theorem dL_law_1127 : decode cL_law 1127 = .ok (.invokevirtual 136, 3) := by decide +kernel
theorem dL_law_1130 : decode cL_law 1130 = .ok (.istore 26, 2) := by decide +kernel
theorem dL_law_1132 : decode cL_law 1132 = .ok (.iload 24, 2) := by decide +kernel
theorem dL_law_1134 : decode cL_law 1134 = .ok (.iload 26, 2) := by decide +kernel
theorem dL_law_1136 : decode cL_law 1136 = .ok (.iconst 2, 1) := by decide +kernel
theorem dL_law_1137 : decode cL_law 1137 = .ok (.iload 25, 2) := by decide +kernel
theorem dL_law_1139 : decode cL_law 1139 = .ok (.imul, 1) := by decide +kernel
theorem dL_law_1140 : decode cL_law 1140 = .ok (.ishl, 1) := by decide +kernel
theorem dL_law_1141 : decode cL_law 1141 = .ok (.iadd, 1) := by decide +kernel
theorem dL_law_1142 : decode cL_law 1142 = .ok (.istore 24, 2) := by decide +kernel
theorem dL_law_1144 : decode cL_law 1144 = .ok (.iload 22, 2) := by decide +kernel
theorem dL_law_1146 : decode cL_law 1146 = .ok (.iload 26, 2) := by decide +kernel
theorem dL_law_1148 : decode cL_law 1148 = .ok (.ifCond .le 7, 3) := by decide +kernel
theorem dL_law_1151 : decode cL_law 1151 = .ok (.iconst 1, 1) := by decide +kernel
theorem dL_law_1152 : decode cL_law 1152 = .ok (.goto 4, 3) := by decide +kernel
theorem dL_law_1155 : decode cL_law 1155 = .ok (.iconst 0, 1) := by decide +kernel
theorem dL_law_1156 : decode cL_law 1156 = .ok (.iadd, 1) := by decide +kernel
theorem dL_law_1157 : decode cL_law 1157 = .ok (.istore 22, 2) := by decide +kernel
theorem dL_law_1159 : decode cL_law 1159 = .ok (.iload 23, 2) := by decide +kernel
theorem dL_law_1161 : decode cL_law 1161 = .ok (.iload 26, 2) := by decide +kernel
theorem dL_law_1163 : decode cL_law 1163 = .ok (.iconst 1, 1) := by decide +kernel
theorem dL_law_1164 : decode cL_law 1164 = .ok (.if_icmp .ne 12, 3) := by decide +kernel
theorem dL_law_1167 : decode cL_law 1167 = .ok (.aload_n 1, 1) := by decide +kernel
theorem dL_law_1168 : decode cL_law 1168 = .ok (.iload 25, 2) := by decide +kernel
theorem dL_law_1170 : decode cL_law 1170 = .ok (.invokevirtual 58, 3) := by decide +kernel
theorem dL_law_1173 : decode cL_law 1173 = .ok (.goto 19, 3) := by decide +kernel
theorem dL_law_1176 : decode cL_law 1176 = .ok (.iload 26, 2) := by decide +kernel
theorem dL_law_1178 : decode cL_law 1178 = .ok (.iconst 2, 1) := by decide +kernel
theorem dL_law_1179 : decode cL_law 1179 = .ok (.if_icmp .ne 12, 3) := by decide +kernel
theorem dL_law_1182 : decode cL_law 1182 = .ok (.aload_n 1, 1) := by decide +kernel
theorem dL_law_1183 : decode cL_law 1183 = .ok (.iload 25, 2) := by decide +kernel
theorem dL_law_1185 : decode cL_law 1185 = .ok (.invokevirtual 7, 3) := by decide +kernel
theorem dL_law_1188 : decode cL_law 1188 = .ok (.goto 4, 3) := by decide +kernel
theorem dL_law_1191 : decode cL_law 1191 = .ok (.iconst 0, 1) := by decide +kernel
theorem dL_law_1192 : decode cL_law 1192 = .ok (.iadd, 1) := by decide +kernel
theorem dL_law_1193 : decode cL_law 1193 = .ok (.istore 23, 2) := by decide +kernel
theorem dL_law_1195 : decode cL_law 1195 = .ok (.aload_n 2, 1) := by decide +kernel
theorem dL_law_1196 : decode cL_law 1196 = .ok (.bipush 16, 2) := by decide +kernel
theorem dL_law_1198 : decode cL_law 1198 = .ok (.iload 25, 2) := by decide +kernel
theorem dL_law_1200 : decode cL_law 1200 = .ok (.imul, 1) := by decide +kernel
theorem dL_law_1201 : decode cL_law 1201 = .ok (.iload 21, 2) := by decide +kernel
theorem dL_law_1203 : decode cL_law 1203 = .ok (.iadd, 1) := by decide +kernel
theorem dL_law_1204 : decode cL_law 1204 = .ok (.aload_n 1, 1) := by decide +kernel
theorem dL_law_1205 : decode cL_law 1205 = .ok (.iload 25, 2) := by decide +kernel
theorem dL_law_1207 : decode cL_law 1207 = .ok (.invokevirtual 64, 3) := by decide +kernel
theorem dL_law_1210 : decode cL_law 1210 = .ok (.lastore, 1) := by decide +kernel
theorem dL_law_1211 : decode cL_law 1211 = .ok (.iload 13, 2) := by decide +kernel
theorem dL_law_1213 : decode cL_law 1213 = .ok (.ifCond .eq 28, 3) := by decide +kernel
theorem dL_law_1216 : decode cL_law 1216 = .ok (.iload 26, 2) := by decide +kernel
theorem dL_law_1218 : decode cL_law 1218 = .ok (.ifCond .eq 19, 3) := by decide +kernel
theorem dL_law_1221 : decode cL_law 1221 = .ok (.aload_n 3, 1) := by decide +kernel
theorem dL_law_1222 : decode cL_law 1222 = .ok (.iload 25, 2) := by decide +kernel
theorem dL_law_1224 : decode cL_law 1224 = .ok (.iaload, 1) := by decide +kernel
theorem dL_law_1225 : decode cL_law 1225 = .ok (.ifCond .le 16, 3) := by decide +kernel
theorem dL_law_1228 : decode cL_law 1228 = .ok (.aload_n 3, 1) := by decide +kernel
theorem dL_law_1229 : decode cL_law 1229 = .ok (.iload 25, 2) := by decide +kernel
theorem dL_law_1231 : decode cL_law 1231 = .ok (.iaload, 1) := by decide +kernel
theorem dL_law_1232 : decode cL_law 1232 = .ok (.iload 12, 2) := by decide +kernel
theorem dL_law_1234 : decode cL_law 1234 = .ok (.if_icmp .lt 7, 3) := by decide +kernel
theorem dL_law_1237 : decode cL_law 1237 = .ok (.iconst 1, 1) := by decide +kernel
theorem dL_law_1238 : decode cL_law 1238 = .ok (.goto 4, 3) := by decide +kernel
theorem dL_law_1241 : decode cL_law 1241 = .ok (.iconst 0, 1) := by decide +kernel
theorem dL_law_1242 : decode cL_law 1242 = .ok (.istore 13, 2) := by decide +kernel
theorem dL_law_1244 : decode cL_law 1244 = .ok (.iinc 25 1, 3) := by decide +kernel
theorem dL_law_1247 : decode cL_law 1247 = .ok (.goto (-129), 3) := by decide +kernel
theorem dL_law_1250 : decode cL_law 1250 = .ok (.iload 13, 2) := by decide +kernel
theorem dL_law_1252 : decode cL_law 1252 = .ok (.ifCond .eq 38, 3) := by decide +kernel
theorem dL_law_1255 : decode cL_law 1255 = .ok (.iload 23, 2) := by decide +kernel
theorem dL_law_1257 : decode cL_law 1257 = .ok (.iload 11, 2) := by decide +kernel
theorem dL_law_1259 : decode cL_law 1259 = .ok (.if_icmp .gt 31, 3) := by decide +kernel
theorem dL_law_1262 : decode cL_law 1262 = .ok (.aload_n 1, 1) := by decide +kernel
theorem dL_law_1263 : decode cL_law 1263 = .ok (.bipush 7, 2) := by decide +kernel
theorem dL_law_1265 : decode cL_law 1265 = .ok (.iconst 0, 1) := by decide +kernel
theorem dL_law_1266 : decode cL_law 1266 = .ok (.iconst 0, 1) := by decide +kernel
theorem dL_law_1267 : decode cL_law 1267 = .ok (.invokestatic 61, 3) := by decide +kernel
theorem dL_law_1270 : decode cL_law 1270 = .ok (.iload 22, 2) := by decide +kernel
theorem dL_law_1272 : decode cL_law 1272 = .ok (.if_icmp .ne 18, 3) := by decide +kernel
theorem dL_law_1275 : decode cL_law 1275 = .ok (.aload_n 1, 1) := by decide +kernel
theorem dL_law_1276 : decode cL_law 1276 = .ok (.invokevirtual 96, 3) := by decide +kernel
theorem dL_law_1279 : decode cL_law 1279 = .ok (.iload 21, 2) := by decide +kernel
theorem dL_law_1281 : decode cL_law 1281 = .ok (.iconst 1, 1) := by decide +kernel
theorem dL_law_1282 : decode cL_law 1282 = .ok (.iadd, 1) := by decide +kernel
theorem dL_law_1283 : decode cL_law 1283 = .ok (.if_icmp .ne 7, 3) := by decide +kernel
theorem dL_law_1286 : decode cL_law 1286 = .ok (.iconst 1, 1) := by decide +kernel
theorem dL_law_1287 : decode cL_law 1287 = .ok (.goto 4, 3) := by decide +kernel
theorem dL_law_1290 : decode cL_law 1290 = .ok (.iconst 0, 1) := by decide +kernel
theorem dL_law_1291 : decode cL_law 1291 = .ok (.istore 13, 2) := by decide +kernel
theorem dL_law_1293 : decode cL_law 1293 = .ok (.iconst 0, 1) := by decide +kernel
theorem dL_law_1294 : decode cL_law 1294 = .ok (.istore 25, 2) := by decide +kernel
theorem dL_law_1296 : decode cL_law 1296 = .ok (.iload 25, 2) := by decide +kernel
theorem dL_law_1298 : decode cL_law 1298 = .ok (.iconst 4, 1) := by decide +kernel
theorem dL_law_1299 : decode cL_law 1299 = .ok (.if_icmp .ge 146, 3) := by decide +kernel
theorem dL_law_1302 : decode cL_law 1302 = .ok (.iload 13, 2) := by decide +kernel
theorem dL_law_1304 : decode cL_law 1304 = .ok (.ifCond .eq 141, 3) := by decide +kernel
theorem dL_law_1307 : decode cL_law 1307 = .ok (.aload_n 1, 1) := by decide +kernel
theorem dL_law_1308 : decode cL_law 1308 = .ok (.iload 25, 2) := by decide +kernel
theorem dL_law_1310 : decode cL_law 1310 = .ok (.iload 21, 2) := by decide +kernel
theorem dL_law_1312 : decode cL_law 1312 = .ok (.invokevirtual 71, 3) := by decide +kernel
theorem dL_law_1315 : decode cL_law 1315 = .ok (.istore 26, 2) := by decide +kernel
theorem dL_law_1317 : decode cL_law 1317 = .ok (.iload 26, 2) := by decide +kernel
theorem dL_law_1319 : decode cL_law 1319 = .ok (.ifCond .ne 7, 3) := by decide +kernel
theorem dL_law_1322 : decode cL_law 1322 = .ok (.iconst 0, 1) := by decide +kernel
theorem dL_law_1323 : decode cL_law 1323 = .ok (.goto 11, 3) := by decide +kernel
theorem dL_law_1326 : decode cL_law 1326 = .ok (.aload_n 1, 1) := by decide +kernel
theorem dL_law_1327 : decode cL_law 1327 = .ok (.iload 25, 2) := by decide +kernel
theorem dL_law_1329 : decode cL_law 1329 = .ok (.iload 21, 2) := by decide +kernel
theorem dL_law_1331 : decode cL_law 1331 = .ok (.invokevirtual 13, 3) := by decide +kernel
theorem dL_law_1334 : decode cL_law 1334 = .ok (.istore 27, 2) := by decide +kernel
theorem dL_law_1336 : decode cL_law 1336 = .ok (.aload_n 1, 1) := by decide +kernel
theorem dL_law_1337 : decode cL_law 1337 = .ok (.iload 25, 2) := by decide +kernel
theorem dL_law_1339 : decode cL_law 1339 = .ok (.invokevirtual 139, 3) := by decide +kernel
theorem dL_law_1342 : decode cL_law 1342 = .ok (.aload 5, 2) := by decide +kernel
theorem dL_law_1344 : decode cL_law 1344 = .ok (.iload 25, 2) := by decide +kernel
theorem dL_law_1346 : decode cL_law 1346 = .ok (.iaload, 1) := by decide +kernel
theorem dL_law_1347 : decode cL_law 1347 = .ok (.isub, 1) := by decide +kernel
theorem dL_law_1348 : decode cL_law 1348 = .ok (.istore 28, 2) := by decide +kernel
theorem dL_law_1350 : decode cL_law 1350 = .ok (.iload 26, 2) := by decide +kernel
theorem dL_law_1352 : decode cL_law 1352 = .ok (.iload 24, 2) := by decide +kernel
theorem dL_law_1354 : decode cL_law 1354 = .ok (.iconst 2, 1) := by decide +kernel
theorem dL_law_1355 : decode cL_law 1355 = .ok (.iload 25, 2) := by decide +kernel
theorem dL_law_1357 : decode cL_law 1357 = .ok (.imul, 1) := by decide +kernel
theorem dL_law_1358 : decode cL_law 1358 = .ok (.ishr, 1) := by decide +kernel
theorem dL_law_1359 : decode cL_law 1359 = .ok (.iconst 3, 1) := by decide +kernel
theorem dL_law_1360 : decode cL_law 1360 = .ok (.iand, 1) := by decide +kernel
theorem dL_law_1361 : decode cL_law 1361 = .ok (.if_icmp .ne 64, 3) := by decide +kernel
theorem dL_law_1364 : decode cL_law 1364 = .ok (.iload 28, 2) := by decide +kernel
theorem dL_law_1366 : decode cL_law 1366 = .ok (.iload 27, 2) := by decide +kernel
theorem dL_law_1368 : decode cL_law 1368 = .ok (.iload 12, 2) := by decide +kernel
theorem dL_law_1370 : decode cL_law 1370 = .ok (.imul, 1) := by decide +kernel
theorem dL_law_1371 : decode cL_law 1371 = .ok (.if_icmp .lt 54, 3) := by decide +kernel
theorem dL_law_1374 : decode cL_law 1374 = .ok (.iload 28, 2) := by decide +kernel
theorem dL_law_1376 : decode cL_law 1376 = .ok (.iload 27, 2) := by decide +kernel
theorem dL_law_1378 : decode cL_law 1378 = .ok (.aload_n 3, 1) := by decide +kernel
theorem dL_law_1379 : decode cL_law 1379 = .ok (.iload 25, 2) := by decide +kernel
theorem dL_law_1381 : decode cL_law 1381 = .ok (.iaload, 1) := by decide +kernel
theorem dL_law_1382 : decode cL_law 1382 = .ok (.imul, 1) := by decide +kernel
theorem dL_law_1383 : decode cL_law 1383 = .ok (.if_icmp .gt 42, 3) := by decide +kernel
theorem dL_law_1386 : decode cL_law 1386 = .ok (.iload 26, 2) := by decide +kernel
theorem dL_law_1388 : decode cL_law 1388 = .ok (.ifCond .eq 18, 3) := by decide +kernel
theorem dL_law_1391 : decode cL_law 1391 = .ok (.aload_n 1, 1) := by decide +kernel
theorem dL_law_1392 : decode cL_law 1392 = .ok (.iload 25, 2) := by decide +kernel
theorem dL_law_1394 : decode cL_law 1394 = .ok (.invokevirtual 7, 3) := by decide +kernel
theorem dL_law_1397 : decode cL_law 1397 = .ok (.aload_n 1, 1) := by decide +kernel
theorem dL_law_1398 : decode cL_law 1398 = .ok (.iload 25, 2) := by decide +kernel
theorem dL_law_1400 : decode cL_law 1400 = .ok (.invokevirtual 46, 3) := by decide +kernel
theorem dL_law_1403 : decode cL_law 1403 = .ok (.if_icmp .ne 22, 3) := by decide +kernel
theorem dL_law_1406 : decode cL_law 1406 = .ok (.iload 26, 2) := by decide +kernel
theorem dL_law_1408 : decode cL_law 1408 = .ok (.iconst 1, 1) := by decide +kernel
theorem dL_law_1409 : decode cL_law 1409 = .ok (.if_icmp .ne 12, 3) := by decide +kernel
theorem dL_law_1412 : decode cL_law 1412 = .ok (.aload_n 1, 1) := by decide +kernel
theorem dL_law_1413 : decode cL_law 1413 = .ok (.iload 25, 2) := by decide +kernel
theorem dL_law_1415 : decode cL_law 1415 = .ok (.invokevirtual 68, 3) := by decide +kernel
theorem dL_law_1418 : decode cL_law 1418 = .ok (.ifCond .ne 7, 3) := by decide +kernel
theorem dL_law_1421 : decode cL_law 1421 = .ok (.iconst 1, 1) := by decide +kernel
theorem dL_law_1422 : decode cL_law 1422 = .ok (.goto 4, 3) := by decide +kernel
theorem dL_law_1425 : decode cL_law 1425 = .ok (.iconst 0, 1) := by decide +kernel
theorem dL_law_1426 : decode cL_law 1426 = .ok (.istore 13, 2) := by decide +kernel
theorem dL_law_1428 : decode cL_law 1428 = .ok (.aload 5, 2) := by decide +kernel
theorem dL_law_1430 : decode cL_law 1430 = .ok (.iload 25, 2) := by decide +kernel
theorem dL_law_1432 : decode cL_law 1432 = .ok (.aload_n 1, 1) := by decide +kernel
theorem dL_law_1433 : decode cL_law 1433 = .ok (.iload 25, 2) := by decide +kernel
theorem dL_law_1435 : decode cL_law 1435 = .ok (.invokevirtual 139, 3) := by decide +kernel
theorem dL_law_1438 : decode cL_law 1438 = .ok (.iastore, 1) := by decide +kernel
theorem dL_law_1439 : decode cL_law 1439 = .ok (.iinc 25 1, 3) := by decide +kernel
theorem dL_law_1442 : decode cL_law 1442 = .ok (.goto (-146), 3) := by decide +kernel
theorem dL_law_1445 : decode cL_law 1445 = .ok (.aload_n 1, 1) := by decide +kernel
theorem dL_law_1446 : decode cL_law 1446 = .ok (.invokevirtual 96, 3) := by decide +kernel
theorem dL_law_1449 : decode cL_law 1449 = .ok (.istore 21, 2) := by decide +kernel
theorem dL_law_1451 : decode cL_law 1451 = .ok (.iload 13, 2) := by decide +kernel
theorem dL_law_1453 : decode cL_law 1453 = .ok (.ifCond .eq 101, 3) := by decide +kernel
theorem dL_law_1456 : decode cL_law 1456 = .ok (.iload 15, 2) := by decide +kernel
theorem dL_law_1458 : decode cL_law 1458 = .ok (.iconst 2, 1) := by decide +kernel
theorem dL_law_1459 : decode cL_law 1459 = .ok (.irem, 1) := by decide +kernel
theorem dL_law_1460 : decode cL_law 1460 = .ok (.ifCond .gt 16, 3) := by decide +kernel
theorem dL_law_1463 : decode cL_law 1463 = .ok (.aload_n 1, 1) := by decide +kernel
theorem dL_law_1464 : decode cL_law 1464 = .ok (.iload 19, 2) := by decide +kernel
theorem dL_law_1466 : decode cL_law 1466 = .ok (.iload 7, 2) := by decide +kernel
theorem dL_law_1468 : decode cL_law 1468 = .ok (.iload 8, 2) := by decide +kernel
theorem dL_law_1470 : decode cL_law 1470 = .ok (.invokestatic 142, 3) := by decide +kernel
theorem dL_law_1473 : decode cL_law 1473 = .ok (.ifCond .eq 81, 3) := by decide +kernel
theorem dL_law_1476 : decode cL_law 1476 = .ok (.aload_n 1, 1) := by decide +kernel
theorem dL_law_1477 : decode cL_law 1477 = .ok (.iload 19, 2) := by decide +kernel
theorem dL_law_1479 : decode cL_law 1479 = .ok (.invokevirtual 139, 3) := by decide +kernel
theorem dL_law_1482 : decode cL_law 1482 = .ok (.aload 5, 2) := by decide +kernel
theorem dL_law_1484 : decode cL_law 1484 = .ok (.iload 19, 2) := by decide +kernel
theorem dL_law_1486 : decode cL_law 1486 = .ok (.iaload, 1) := by decide +kernel
theorem dL_law_1487 : decode cL_law 1487 = .ok (.if_icmp .ne 67, 3) := by decide +kernel
theorem dL_law_1490 : decode cL_law 1490 = .ok (.aload_n 1, 1) := by decide +kernel
theorem dL_law_1491 : decode cL_law 1491 = .ok (.iload 19, 2) := by decide +kernel
theorem dL_law_1493 : decode cL_law 1493 = .ok (.invokevirtual 146, 3) := by decide +kernel
theorem dL_law_1496 : decode cL_law 1496 = .ok (.aload 6, 2) := by decide +kernel
theorem dL_law_1498 : decode cL_law 1498 = .ok (.iload 19, 2) := by decide +kernel
theorem dL_law_1500 : decode cL_law 1500 = .ok (.iaload, 1) := by decide +kernel
theorem dL_law_1501 : decode cL_law 1501 = .ok (.if_icmp .ne 53, 3) := by decide +kernel
theorem dL_law_1504 : decode cL_law 1504 = .ok (.aload_n 1, 1) := by decide +kernel
theorem dL_law_1505 : decode cL_law 1505 = .ok (.invokevirtual 93, 3) := by decide +kernel
theorem dL_law_1508 : decode cL_law 1508 = .ok (.aload 5, 2) := by decide +kernel
theorem dL_law_1510 : decode cL_law 1510 = .ok (.iconst 0, 1) := by decide +kernel
theorem dL_law_1511 : decode cL_law 1511 = .ok (.iaload, 1) := by decide +kernel
theorem dL_law_1512 : decode cL_law 1512 = .ok (.aload 5, 2) := by decide +kernel
theorem dL_law_1514 : decode cL_law 1514 = .ok (.iconst 1, 1) := by decide +kernel
theorem dL_law_1515 : decode cL_law 1515 = .ok (.iaload, 1) := by decide +kernel
theorem dL_law_1516 : decode cL_law 1516 = .ok (.iadd, 1) := by decide +kernel
theorem dL_law_1517 : decode cL_law 1517 = .ok (.aload 5, 2) := by decide +kernel
theorem dL_law_1519 : decode cL_law 1519 = .ok (.iconst 2, 1) := by decide +kernel
theorem dL_law_1520 : decode cL_law 1520 = .ok (.iaload, 1) := by decide +kernel
theorem dL_law_1521 : decode cL_law 1521 = .ok (.iadd, 1) := by decide +kernel
theorem dL_law_1522 : decode cL_law 1522 = .ok (.aload 5, 2) := by decide +kernel
theorem dL_law_1524 : decode cL_law 1524 = .ok (.iconst 3, 1) := by decide +kernel
theorem dL_law_1525 : decode cL_law 1525 = .ok (.iaload, 1) := by decide +kernel
theorem dL_law_1526 : decode cL_law 1526 = .ok (.iadd, 1) := by decide +kernel
theorem dL_law_1527 : decode cL_law 1527 = .ok (.aload 6, 2) := by decide +kernel
theorem dL_law_1529 : decode cL_law 1529 = .ok (.iconst 0, 1) := by decide +kernel
theorem dL_law_1530 : decode cL_law 1530 = .ok (.iaload, 1) := by decide +kernel
theorem dL_law_1531 : decode cL_law 1531 = .ok (.isub, 1) := by decide +kernel
theorem dL_law_1532 : decode cL_law 1532 = .ok (.aload 6, 2) := by decide +kernel
theorem dL_law_1534 : decode cL_law 1534 = .ok (.iconst 1, 1) := by decide +kernel
theorem dL_law_1535 : decode cL_law 1535 = .ok (.iaload, 1) := by decide +kernel
theorem dL_law_1536 : decode cL_law 1536 = .ok (.isub, 1) := by decide +kernel
theorem dL_law_1537 : decode cL_law 1537 = .ok (.aload 6, 2) := by decide +kernel
theorem dL_law_1539 : decode cL_law 1539 = .ok (.iconst 2, 1) := by decide +kernel
theorem dL_law_1540 : decode cL_law 1540 = .ok (.iaload, 1) := by decide +kernel
theorem dL_law_1541 : decode cL_law 1541 = .ok (.isub, 1) := by decide +kernel
theorem dL_law_1542 : decode cL_law 1542 = .ok (.aload 6, 2) := by decide +kernel
theorem dL_law_1544 : decode cL_law 1544 = .ok (.iconst 3, 1) := by decide +kernel
theorem dL_law_1545 : decode cL_law 1545 = .ok (.iaload, 1) := by decide +kernel
theorem dL_law_1546 : decode cL_law 1546 = .ok (.isub, 1) := by decide +kernel
theorem dL_law_1547 : decode cL_law 1547 = .ok (.if_icmp .ne 7, 3) := by decide +kernel
theorem dL_law_1550 : decode cL_law 1550 = .ok (.iconst 1, 1) := by decide +kernel
theorem dL_law_1551 : decode cL_law 1551 = .ok (.goto 4, 3) := by decide +kernel
theorem dL_law_1554 : decode cL_law 1554 = .ok (.iconst 0, 1) := by decide +kernel
theorem dL_law_1555 : decode cL_law 1555 = .ok (.istore 13, 2) := by decide +kernel
theorem dL_law_1557 : decode cL_law 1557 = .ok (.iload 13, 2) := by decide +kernel
theorem dL_law_1559 : decode cL_law 1559 = .ok (.ifCond .eq 40, 3) := by decide +kernel
theorem dL_law_1562 : decode cL_law 1562 = .ok (.iload 21, 2) := by decide +kernel
theorem dL_law_1564 : decode cL_law 1564 = .ok (.ifCond .eq 31, 3) := by decide +kernel
theorem dL_law_1567 : decode cL_law 1567 = .ok (.iload 15, 2) := by decide +kernel
theorem dL_law_1569 : decode cL_law 1569 = .ok (.iconst 2, 1) := by decide +kernel
theorem dL_law_1570 : decode cL_law 1570 = .ok (.irem, 1) := by decide +kernel
theorem dL_law_1571 : decode cL_law 1571 = .ok (.ifCond .eq 24, 3) := by decide +kernel
theorem dL_law_1574 : decode cL_law 1574 = .ok (.aload_n 1, 1) := by decide +kernel
theorem dL_law_1575 : decode cL_law 1575 = .ok (.iload 19, 2) := by decide +kernel
theorem dL_law_1577 : decode cL_law 1577 = .ok (.iload 17, 2) := by decide +kernel
theorem dL_law_1579 : decode cL_law 1579 = .ok (.iconst 5, 1) := by decide +kernel
theorem dL_law_1580 : decode cL_law 1580 = .ok (.ishr, 1) := by decide +kernel
theorem dL_law_1581 : decode cL_law 1581 = .ok (.iload 21, 2) := by decide +kernel
theorem dL_law_1583 : decode cL_law 1583 = .ok (.irem, 1) := by decide +kernel
theorem dL_law_1584 : decode cL_law 1584 = .ok (.aload_n 2, 1) := by decide +kernel
theorem dL_law_1585 : decode cL_law 1585 = .ok (.iload 9, 2) := by decide +kernel
theorem dL_law_1587 : decode cL_law 1587 = .ok (.iload 10, 2) := by decide +kernel
theorem dL_law_1589 : decode cL_law 1589 = .ok (.invokestatic 149, 3) := by decide +kernel
theorem dL_law_1592 : decode cL_law 1592 = .ok (.ifCond .eq 7, 3) := by decide +kernel
theorem dL_law_1595 : decode cL_law 1595 = .ok (.iconst 1, 1) := by decide +kernel
theorem dL_law_1596 : decode cL_law 1596 = .ok (.goto 4, 3) := by decide +kernel
theorem dL_law_1599 : decode cL_law 1599 = .ok (.iconst 0, 1) := by decide +kernel
theorem dL_law_1600 : decode cL_law 1600 = .ok (.istore 13, 2) := by decide +kernel
theorem dL_law_1602 : decode cL_law 1602 = .ok (.iinc 15 1, 3) := by decide +kernel
theorem dL_law_1605 : decode cL_law 1605 = .ok (.goto (-1489), 3) := by decide +kernel
theorem dL_law_1608 : decode cL_law 1608 = .ok (.iload 13, 2) := by decide +kernel
theorem dL_law_1610 : decode cL_law 1610 = .ok (.ireturn, 1) := by decide +kernel

