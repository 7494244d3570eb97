/-! the law's instructions, 2 -/
theorem dW_1015 : decode code 1015 = .ok (.aload_n 1, 1) := by decide +kernel
theorem dW_1016 : decode code 1016 = .ok (.aload_n 0, 1) := by decide +kernel
theorem dW_1017 : decode code 1017 = .ok (.iload 5, 2) := by decide +kernel
theorem dW_1019 : decode code 1019 = .ok (.iconst 1, 1) := by decide +kernel
theorem dW_1020 : decode code 1020 = .ok (.iadd, 1) := by decide +kernel
theorem dW_1021 : decode code 1021 = .ok (.iaload, 1) := by decide +kernel
theorem dW_1022 : decode code 1022 = .ok (.aload_n 3, 1) := by decide +kernel
theorem dW_1023 : decode code 1023 = .ok (.invokestatic 206, 3) := by decide +kernel
theorem dW_1026 : decode code 1026 = .ok (.istore 6, 2) := by decide +kernel
theorem dW_1028 : decode code 1028 = .ok (.aload_n 2, 1) := by decide +kernel
theorem dW_1029 : decode code 1029 = .ok (.aload_n 0, 1) := by decide +kernel
theorem dW_1030 : decode code 1030 = .ok (.iload 5, 2) := by decide +kernel
theorem dW_1032 : decode code 1032 = .ok (.iconst 1, 1) := by decide +kernel
theorem dW_1033 : decode code 1033 = .ok (.iadd, 1) := by decide +kernel
theorem dW_1034 : decode code 1034 = .ok (.iaload, 1) := by decide +kernel
theorem dW_1035 : decode code 1035 = .ok (.invokevirtual 208, 3) := by decide +kernel
theorem dW_1038 : decode code 1038 = .ok (.istore 7, 2) := by decide +kernel
theorem dW_1040 : decode code 1040 = .ok (.aload_n 2, 1) := by decide +kernel
theorem dW_1041 : decode code 1041 = .ok (.invokevirtual 144, 3) := by decide +kernel
theorem dW_1044 : decode code 1044 = .ok (.iload 6, 2) := by decide +kernel
theorem dW_1046 : decode code 1046 = .ok (.if_icmp .eq 5, 3) := by decide +kernel
theorem dW_1051 : decode code 1051 = .ok (.iload 6, 2) := by decide +kernel
theorem dW_1053 : decode code 1053 = .ok (.ifCond .ne 15, 3) := by decide +kernel
theorem dW_1056 : decode code 1056 = .ok (.aload_n 3, 1) := by decide +kernel
theorem dW_1057 : decode code 1057 = .ok (.iconst 0, 1) := by decide +kernel
theorem dW_1058 : decode code 1058 = .ok (.laload, 1) := by decide +kernel
theorem dW_1059 : decode code 1059 = .ok (.iload 7, 2) := by decide +kernel
theorem dW_1061 : decode code 1061 = .ok (.i2l, 1) := by decide +kernel
theorem dW_1062 : decode code 1062 = .ok (.lcmp, 1) := by decide +kernel
theorem dW_1063 : decode code 1063 = .ok (.ifCond .eq 5, 3) := by decide +kernel
theorem dW_1068 : decode code 1068 = .ok (.goto 1840, 3) := by decide +kernel
theorem dW_1071 : decode code 1071 = .ok (.aload_n 1, 1) := by decide +kernel
theorem dW_1072 : decode code 1072 = .ok (.aload_n 0, 1) := by decide +kernel
theorem dW_1073 : decode code 1073 = .ok (.iload 5, 2) := by decide +kernel
theorem dW_1075 : decode code 1075 = .ok (.iconst 1, 1) := by decide +kernel
theorem dW_1076 : decode code 1076 = .ok (.iadd, 1) := by decide +kernel
theorem dW_1077 : decode code 1077 = .ok (.iaload, 1) := by decide +kernel
theorem dW_1078 : decode code 1078 = .ok (.aload_n 3, 1) := by decide +kernel
theorem dW_1079 : decode code 1079 = .ok (.invokestatic 209, 3) := by decide +kernel
theorem dW_1082 : decode code 1082 = .ok (.istore 6, 2) := by decide +kernel
theorem dW_1084 : decode code 1084 = .ok (.aload_n 2, 1) := by decide +kernel
theorem dW_1085 : decode code 1085 = .ok (.aload_n 0, 1) := by decide +kernel
theorem dW_1086 : decode code 1086 = .ok (.iload 5, 2) := by decide +kernel
theorem dW_1088 : decode code 1088 = .ok (.iconst 1, 1) := by decide +kernel
theorem dW_1089 : decode code 1089 = .ok (.iadd, 1) := by decide +kernel
theorem dW_1090 : decode code 1090 = .ok (.iaload, 1) := by decide +kernel
theorem dW_1091 : decode code 1091 = .ok (.invokevirtual 211, 3) := by decide +kernel
theorem dW_1094 : decode code 1094 = .ok (.istore 7, 2) := by decide +kernel
theorem dW_1096 : decode code 1096 = .ok (.aload_n 2, 1) := by decide +kernel
theorem dW_1097 : decode code 1097 = .ok (.invokevirtual 144, 3) := by decide +kernel
theorem dW_1100 : decode code 1100 = .ok (.iload 6, 2) := by decide +kernel
theorem dW_1102 : decode code 1102 = .ok (.if_icmp .eq 5, 3) := by decide +kernel
theorem dW_1107 : decode code 1107 = .ok (.iload 6, 2) := by decide +kernel
theorem dW_1109 : decode code 1109 = .ok (.ifCond .ne 15, 3) := by decide +kernel
theorem dW_1112 : decode code 1112 = .ok (.aload_n 3, 1) := by decide +kernel
theorem dW_1113 : decode code 1113 = .ok (.iconst 0, 1) := by decide +kernel
theorem dW_1114 : decode code 1114 = .ok (.laload, 1) := by decide +kernel
theorem dW_1115 : decode code 1115 = .ok (.iload 7, 2) := by decide +kernel
theorem dW_1117 : decode code 1117 = .ok (.i2l, 1) := by decide +kernel
theorem dW_1118 : decode code 1118 = .ok (.lcmp, 1) := by decide +kernel
theorem dW_1119 : decode code 1119 = .ok (.ifCond .eq 5, 3) := by decide +kernel
theorem dW_1124 : decode code 1124 = .ok (.goto 1784, 3) := by decide +kernel
theorem dW_1127 : decode code 1127 = .ok (.aload_n 1, 1) := by decide +kernel
theorem dW_1128 : decode code 1128 = .ok (.aload_n 0, 1) := by decide +kernel
theorem dW_1129 : decode code 1129 = .ok (.iload 5, 2) := by decide +kernel
theorem dW_1131 : decode code 1131 = .ok (.iconst 1, 1) := by decide +kernel
theorem dW_1132 : decode code 1132 = .ok (.iadd, 1) := by decide +kernel
theorem dW_1133 : decode code 1133 = .ok (.iaload, 1) := by decide +kernel
theorem dW_1134 : decode code 1134 = .ok (.aload_n 3, 1) := by decide +kernel
theorem dW_1135 : decode code 1135 = .ok (.invokestatic 212, 3) := by decide +kernel
theorem dW_1138 : decode code 1138 = .ok (.istore 6, 2) := by decide +kernel
theorem dW_1140 : decode code 1140 = .ok (.aload_n 2, 1) := by decide +kernel
theorem dW_1141 : decode code 1141 = .ok (.aload_n 0, 1) := by decide +kernel
theorem dW_1142 : decode code 1142 = .ok (.iload 5, 2) := by decide +kernel
theorem dW_1144 : decode code 1144 = .ok (.iconst 1, 1) := by decide +kernel
theorem dW_1145 : decode code 1145 = .ok (.iadd, 1) := by decide +kernel
theorem dW_1146 : decode code 1146 = .ok (.iaload, 1) := by decide +kernel
theorem dW_1147 : decode code 1147 = .ok (.invokevirtual 214, 3) := by decide +kernel
theorem dW_1150 : decode code 1150 = .ok (.istore 7, 2) := by decide +kernel
theorem dW_1152 : decode code 1152 = .ok (.aload_n 2, 1) := by decide +kernel
theorem dW_1153 : decode code 1153 = .ok (.invokevirtual 144, 3) := by decide +kernel
theorem dW_1156 : decode code 1156 = .ok (.iload 6, 2) := by decide +kernel
theorem dW_1158 : decode code 1158 = .ok (.if_icmp .eq 5, 3) := by decide +kernel
theorem dW_1163 : decode code 1163 = .ok (.iload 6, 2) := by decide +kernel
theorem dW_1165 : decode code 1165 = .ok (.ifCond .ne 15, 3) := by decide +kernel
theorem dW_1168 : decode code 1168 = .ok (.aload_n 3, 1) := by decide +kernel
theorem dW_1169 : decode code 1169 = .ok (.iconst 0, 1) := by decide +kernel
theorem dW_1170 : decode code 1170 = .ok (.laload, 1) := by decide +kernel
theorem dW_1171 : decode code 1171 = .ok (.iload 7, 2) := by decide +kernel
theorem dW_1173 : decode code 1173 = .ok (.i2l, 1) := by decide +kernel
theorem dW_1174 : decode code 1174 = .ok (.lcmp, 1) := by decide +kernel
theorem dW_1175 : decode code 1175 = .ok (.ifCond .eq 5, 3) := by decide +kernel
theorem dW_1180 : decode code 1180 = .ok (.goto 1728, 3) := by decide +kernel
theorem dW_1183 : decode code 1183 = .ok (.aload_n 1, 1) := by decide +kernel
theorem dW_1184 : decode code 1184 = .ok (.aload_n 0, 1) := by decide +kernel
theorem dW_1185 : decode code 1185 = .ok (.iload 5, 2) := by decide +kernel
theorem dW_1187 : decode code 1187 = .ok (.iconst 1, 1) := by decide +kernel
theorem dW_1188 : decode code 1188 = .ok (.iadd, 1) := by decide +kernel
theorem dW_1189 : decode code 1189 = .ok (.iaload, 1) := by decide +kernel
theorem dW_1190 : decode code 1190 = .ok (.aload_n 3, 1) := by decide +kernel
theorem dW_1191 : decode code 1191 = .ok (.invokestatic 215, 3) := by decide +kernel
theorem dW_1194 : decode code 1194 = .ok (.istore 6, 2) := by decide +kernel
theorem dW_1196 : decode code 1196 = .ok (.aload_n 2, 1) := by decide +kernel
theorem dW_1197 : decode code 1197 = .ok (.aload_n 0, 1) := by decide +kernel
theorem dW_1198 : decode code 1198 = .ok (.iload 5, 2) := by decide +kernel
theorem dW_1200 : decode code 1200 = .ok (.iconst 1, 1) := by decide +kernel
theorem dW_1201 : decode code 1201 = .ok (.iadd, 1) := by decide +kernel
theorem dW_1202 : decode code 1202 = .ok (.iaload, 1) := by decide +kernel
theorem dW_1203 : decode code 1203 = .ok (.invokevirtual 217, 3) := by decide +kernel
theorem dW_1206 : decode code 1206 = .ok (.istore 7, 2) := by decide +kernel
theorem dW_1208 : decode code 1208 = .ok (.aload_n 2, 1) := by decide +kernel
theorem dW_1209 : decode code 1209 = .ok (.invokevirtual 144, 3) := by decide +kernel
theorem dW_1212 : decode code 1212 = .ok (.iload 6, 2) := by decide +kernel
theorem dW_1214 : decode code 1214 = .ok (.if_icmp .eq 5, 3) := by decide +kernel
theorem dW_1219 : decode code 1219 = .ok (.iload 6, 2) := by decide +kernel
theorem dW_1221 : decode code 1221 = .ok (.ifCond .ne 15, 3) := by decide +kernel
theorem dW_1224 : decode code 1224 = .ok (.aload_n 3, 1) := by decide +kernel
theorem dW_1225 : decode code 1225 = .ok (.iconst 0, 1) := by decide +kernel
theorem dW_1226 : decode code 1226 = .ok (.laload, 1) := by decide +kernel
theorem dW_1227 : decode code 1227 = .ok (.iload 7, 2) := by decide +kernel
theorem dW_1229 : decode code 1229 = .ok (.i2l, 1) := by decide +kernel
theorem dW_1230 : decode code 1230 = .ok (.lcmp, 1) := by decide +kernel
theorem dW_1231 : decode code 1231 = .ok (.ifCond .eq 5, 3) := by decide +kernel
theorem dW_1236 : decode code 1236 = .ok (.goto 1672, 3) := by decide +kernel
theorem dW_1239 : decode code 1239 = .ok (.aload_n 1, 1) := by decide +kernel
theorem dW_1240 : decode code 1240 = .ok (.aload_n 0, 1) := by decide +kernel
theorem dW_1241 : decode code 1241 = .ok (.iload 5, 2) := by decide +kernel
theorem dW_1243 : decode code 1243 = .ok (.iconst 1, 1) := by decide +kernel
theorem dW_1244 : decode code 1244 = .ok (.iadd, 1) := by decide +kernel
theorem dW_1245 : decode code 1245 = .ok (.iaload, 1) := by decide +kernel
theorem dW_1246 : decode code 1246 = .ok (.aload_n 3, 1) := by decide +kernel
theorem dW_1247 : decode code 1247 = .ok (.invokestatic 218, 3) := by decide +kernel
theorem dW_1250 : decode code 1250 = .ok (.istore 6, 2) := by decide +kernel
theorem dW_1252 : decode code 1252 = .ok (.aload_n 2, 1) := by decide +kernel
theorem dW_1253 : decode code 1253 = .ok (.aload_n 0, 1) := by decide +kernel
theorem dW_1254 : decode code 1254 = .ok (.iload 5, 2) := by decide +kernel
theorem dW_1256 : decode code 1256 = .ok (.iconst 1, 1) := by decide +kernel
theorem dW_1257 : decode code 1257 = .ok (.iadd, 1) := by decide +kernel
theorem dW_1258 : decode code 1258 = .ok (.iaload, 1) := by decide +kernel
theorem dW_1259 : decode code 1259 = .ok (.invokevirtual 220, 3) := by decide +kernel
theorem dW_1262 : decode code 1262 = .ok (.istore 7, 2) := by decide +kernel
theorem dW_1264 : decode code 1264 = .ok (.aload_n 2, 1) := by decide +kernel
theorem dW_1265 : decode code 1265 = .ok (.invokevirtual 144, 3) := by decide +kernel
theorem dW_1268 : decode code 1268 = .ok (.iload 6, 2) := by decide +kernel
theorem dW_1270 : decode code 1270 = .ok (.if_icmp .eq 5, 3) := by decide +kernel
theorem dW_1275 : decode code 1275 = .ok (.iload 6, 2) := by decide +kernel
theorem dW_1277 : decode code 1277 = .ok (.ifCond .ne 22, 3) := by decide +kernel
theorem dW_1280 : decode code 1280 = .ok (.aload_n 3, 1) := by decide +kernel
theorem dW_1281 : decode code 1281 = .ok (.iconst 0, 1) := by decide +kernel
theorem dW_1282 : decode code 1282 = .ok (.laload, 1) := by decide +kernel
theorem dW_1283 : decode code 1283 = .ok (.iload 7, 2) := by decide +kernel
theorem dW_1285 : decode code 1285 = .ok (.ifCond .eq 7, 3) := by decide +kernel
theorem dW_1288 : decode code 1288 = .ok (.lconst 1, 1) := by decide +kernel
theorem dW_1289 : decode code 1289 = .ok (.goto 4, 3) := by decide +kernel
theorem dW_1292 : decode code 1292 = .ok (.lconst 0, 1) := by decide +kernel
theorem dW_1293 : decode code 1293 = .ok (.lcmp, 1) := by decide +kernel
theorem dW_1294 : decode code 1294 = .ok (.ifCond .eq 5, 3) := by decide +kernel
theorem dW_1299 : decode code 1299 = .ok (.goto 1609, 3) := by decide +kernel
theorem dW_1302 : decode code 1302 = .ok (.aload_n 1, 1) := by decide +kernel
theorem dW_1303 : decode code 1303 = .ok (.aload_n 0, 1) := by decide +kernel
theorem dW_1304 : decode code 1304 = .ok (.iload 5, 2) := by decide +kernel
theorem dW_1306 : decode code 1306 = .ok (.iconst 1, 1) := by decide +kernel
theorem dW_1307 : decode code 1307 = .ok (.iadd, 1) := by decide +kernel
theorem dW_1308 : decode code 1308 = .ok (.iaload, 1) := by decide +kernel
theorem dW_1309 : decode code 1309 = .ok (.aload_n 3, 1) := by decide +kernel
theorem dW_1310 : decode code 1310 = .ok (.invokestatic 221, 3) := by decide +kernel
theorem dW_1313 : decode code 1313 = .ok (.istore 6, 2) := by decide +kernel
theorem dW_1315 : decode code 1315 = .ok (.aload_n 2, 1) := by decide +kernel
theorem dW_1316 : decode code 1316 = .ok (.aload_n 0, 1) := by decide +kernel
theorem dW_1317 : decode code 1317 = .ok (.iload 5, 2) := by decide +kernel
theorem dW_1319 : decode code 1319 = .ok (.iconst 1, 1) := by decide +kernel
theorem dW_1320 : decode code 1320 = .ok (.iadd, 1) := by decide +kernel
theorem dW_1321 : decode code 1321 = .ok (.iaload, 1) := by decide +kernel
theorem dW_1322 : decode code 1322 = .ok (.invokevirtual 223, 3) := by decide +kernel
theorem dW_1325 : decode code 1325 = .ok (.istore 7, 2) := by decide +kernel
theorem dW_1327 : decode code 1327 = .ok (.aload_n 2, 1) := by decide +kernel
theorem dW_1328 : decode code 1328 = .ok (.invokevirtual 144, 3) := by decide +kernel
theorem dW_1331 : decode code 1331 = .ok (.iload 6, 2) := by decide +kernel
theorem dW_1333 : decode code 1333 = .ok (.if_icmp .eq 5, 3) := by decide +kernel
theorem dW_1338 : decode code 1338 = .ok (.iload 6, 2) := by decide +kernel
theorem dW_1340 : decode code 1340 = .ok (.ifCond .ne 15, 3) := by decide +kernel
theorem dW_1343 : decode code 1343 = .ok (.aload_n 3, 1) := by decide +kernel
theorem dW_1344 : decode code 1344 = .ok (.iconst 0, 1) := by decide +kernel
theorem dW_1345 : decode code 1345 = .ok (.laload, 1) := by decide +kernel
theorem dW_1346 : decode code 1346 = .ok (.iload 7, 2) := by decide +kernel
theorem dW_1348 : decode code 1348 = .ok (.i2l, 1) := by decide +kernel
theorem dW_1349 : decode code 1349 = .ok (.lcmp, 1) := by decide +kernel
theorem dW_1350 : decode code 1350 = .ok (.ifCond .eq 5, 3) := by decide +kernel
theorem dW_1355 : decode code 1355 = .ok (.goto 1553, 3) := by decide +kernel
theorem dW_1358 : decode code 1358 = .ok (.aload_n 1, 1) := by decide +kernel
theorem dW_1359 : decode code 1359 = .ok (.invokevirtual 224, 3) := by decide +kernel
theorem dW_1362 : decode code 1362 = .ok (.aload_n 2, 1) := by decide +kernel
theorem dW_1363 : decode code 1363 = .ok (.invokevirtual 227, 3) := by decide +kernel
theorem dW_1366 : decode code 1366 = .ok (.if_icmp .eq 1542, 3) := by decide +kernel
theorem dW_1371 : decode code 1371 = .ok (.aload_n 1, 1) := by decide +kernel
theorem dW_1372 : decode code 1372 = .ok (.invokevirtual 228, 3) := by decide +kernel
theorem dW_1375 : decode code 1375 = .ok (.aload_n 2, 1) := by decide +kernel
theorem dW_1376 : decode code 1376 = .ok (.invokevirtual 231, 3) := by decide +kernel
theorem dW_1379 : decode code 1379 = .ok (.if_icmp .eq 1529, 3) := by decide +kernel
theorem dW_1384 : decode code 1384 = .ok (.aload_n 1, 1) := by decide +kernel
theorem dW_1385 : decode code 1385 = .ok (.invokevirtual 232, 3) := by decide +kernel
theorem dW_1388 : decode code 1388 = .ok (.aload_n 2, 1) := by decide +kernel
theorem dW_1389 : decode code 1389 = .ok (.invokevirtual 235, 3) := by decide +kernel
theorem dW_1392 : decode code 1392 = .ok (.if_icmp .eq 1516, 3) := by decide +kernel
theorem dW_1397 : decode code 1397 = .ok (.aload_n 1, 1) := by decide +kernel
theorem dW_1398 : decode code 1398 = .ok (.invokevirtual 236, 3) := by decide +kernel
theorem dW_1401 : decode code 1401 = .ok (.dstore 6, 2) := by decide +kernel
theorem dW_1403 : decode code 1403 = .ok (.aload_n 2, 1) := by decide +kernel
theorem dW_1404 : decode code 1404 = .ok (.invokevirtual 240, 3) := by decide +kernel
theorem dW_1407 : decode code 1407 = .ok (.dstore 8, 2) := by decide +kernel
theorem dW_1409 : decode code 1409 = .ok (.dload 6, 2) := by decide +kernel
theorem dW_1411 : decode code 1411 = .ok (.dload 8, 2) := by decide +kernel
theorem dW_1413 : decode code 1413 = .ok (.dcmp .l, 1) := by decide +kernel
theorem dW_1414 : decode code 1414 = .ok (.ifCond .eq 21, 3) := by decide +kernel
theorem dW_1435 : decode code 1435 = .ok (.goto 1473, 3) := by decide +kernel
theorem dW_1438 : decode code 1438 = .ok (.aload_n 1, 1) := by decide +kernel
theorem dW_1439 : decode code 1439 = .ok (.invokevirtual 241, 3) := by decide +kernel
theorem dW_1442 : decode code 1442 = .ok (.aload_n 2, 1) := by decide +kernel
theorem dW_1443 : decode code 1443 = .ok (.invokevirtual 245, 3) := by decide +kernel
theorem dW_1446 : decode code 1446 = .ok (.lcmp, 1) := by decide +kernel
