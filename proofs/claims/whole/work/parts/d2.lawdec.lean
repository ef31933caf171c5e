/-! by program (wip/whole/gen_law.py): the law: decode rows, words -/
theorem dL_law_1016 : decode cL_law 1016 = .ok (.iload 7, 2) := by decide +kernel
theorem dL_law_1018 : decode cL_law 1018 = .ok (.i2l, 1) := by decide +kernel
theorem dL_law_1019 : decode cL_law 1019 = .ok (.lcmp, 1) := by decide +kernel
theorem dL_law_1020 : decode cL_law 1020 = .ok (.ifCond .eq 5, 3) := by decide +kernel
theorem dL_law_1025 : decode cL_law 1025 = .ok (.goto 1019, 3) := by decide +kernel
theorem dL_law_1028 : decode cL_law 1028 = .ok (.aload_n 1, 1) := by decide +kernel
theorem dL_law_1029 : decode cL_law 1029 = .ok (.aload_n 0, 1) := by decide +kernel
theorem dL_law_1030 : decode cL_law 1030 = .ok (.iload 5, 2) := by decide +kernel
theorem dL_law_1032 : decode cL_law 1032 = .ok (.iconst 1, 1) := by decide +kernel
theorem dL_law_1033 : decode cL_law 1033 = .ok (.iadd, 1) := by decide +kernel
theorem dL_law_1034 : decode cL_law 1034 = .ok (.iaload, 1) := by decide +kernel
theorem dL_law_1035 : decode cL_law 1035 = .ok (.aload_n 0, 1) := by decide +kernel
theorem dL_law_1036 : decode cL_law 1036 = .ok (.iload 5, 2) := by decide +kernel
theorem dL_law_1038 : decode cL_law 1038 = .ok (.iconst 2, 1) := by decide +kernel
theorem dL_law_1039 : decode cL_law 1039 = .ok (.iadd, 1) := by decide +kernel
theorem dL_law_1040 : decode cL_law 1040 = .ok (.iaload, 1) := by decide +kernel
theorem dL_law_1041 : decode cL_law 1041 = .ok (.aload_n 3, 1) := by decide +kernel
theorem dL_law_1042 : decode cL_law 1042 = .ok (.invokestatic 158, 3) := by decide +kernel
theorem dL_law_1045 : decode cL_law 1045 = .ok (.istore 6, 2) := by decide +kernel
theorem dL_law_1047 : decode cL_law 1047 = .ok (.aload_n 2, 1) := by decide +kernel
theorem dL_law_1048 : decode cL_law 1048 = .ok (.aload_n 0, 1) := by decide +kernel
theorem dL_law_1049 : decode cL_law 1049 = .ok (.iload 5, 2) := by decide +kernel
theorem dL_law_1051 : decode cL_law 1051 = .ok (.iconst 1, 1) := by decide +kernel
theorem dL_law_1052 : decode cL_law 1052 = .ok (.iadd, 1) := by decide +kernel
theorem dL_law_1053 : decode cL_law 1053 = .ok (.iaload, 1) := by decide +kernel
theorem dL_law_1054 : decode cL_law 1054 = .ok (.aload_n 0, 1) := by decide +kernel
theorem dL_law_1055 : decode cL_law 1055 = .ok (.iload 5, 2) := by decide +kernel
theorem dL_law_1057 : decode cL_law 1057 = .ok (.iconst 2, 1) := by decide +kernel
theorem dL_law_1058 : decode cL_law 1058 = .ok (.iadd, 1) := by decide +kernel
theorem dL_law_1059 : decode cL_law 1059 = .ok (.iaload, 1) := by decide +kernel
theorem dL_law_1060 : decode cL_law 1060 = .ok (.invokevirtual 160, 3) := by decide +kernel
theorem dL_law_1063 : decode cL_law 1063 = .ok (.istore 7, 2) := by decide +kernel
theorem dL_law_1065 : decode cL_law 1065 = .ok (.aload_n 2, 1) := by decide +kernel
theorem dL_law_1066 : decode cL_law 1066 = .ok (.invokevirtual 121, 3) := by decide +kernel
theorem dL_law_1069 : decode cL_law 1069 = .ok (.iload 6, 2) := by decide +kernel
theorem dL_law_1071 : decode cL_law 1071 = .ok (.if_icmp .eq 5, 3) := by decide +kernel
theorem dL_law_1076 : decode cL_law 1076 = .ok (.iload 6, 2) := by decide +kernel
theorem dL_law_1078 : decode cL_law 1078 = .ok (.ifCond .ne 15, 3) := by decide +kernel
theorem dL_law_1081 : decode cL_law 1081 = .ok (.aload_n 3, 1) := by decide +kernel
theorem dL_law_1082 : decode cL_law 1082 = .ok (.iconst 0, 1) := by decide +kernel
theorem dL_law_1083 : decode cL_law 1083 = .ok (.laload, 1) := by decide +kernel
theorem dL_law_1084 : decode cL_law 1084 = .ok (.iload 7, 2) := by decide +kernel
theorem dL_law_1086 : decode cL_law 1086 = .ok (.i2l, 1) := by decide +kernel
theorem dL_law_1087 : decode cL_law 1087 = .ok (.lcmp, 1) := by decide +kernel
theorem dL_law_1088 : decode cL_law 1088 = .ok (.ifCond .eq 5, 3) := by decide +kernel
theorem dL_law_1093 : decode cL_law 1093 = .ok (.goto 951, 3) := by decide +kernel
theorem dL_law_1096 : decode cL_law 1096 = .ok (.aload_n 1, 1) := by decide +kernel
theorem dL_law_1097 : decode cL_law 1097 = .ok (.invokevirtual 161, 3) := by decide +kernel
theorem dL_law_1100 : decode cL_law 1100 = .ok (.aload_n 2, 1) := by decide +kernel
theorem dL_law_1101 : decode cL_law 1101 = .ok (.invokevirtual 164, 3) := by decide +kernel
theorem dL_law_1104 : decode cL_law 1104 = .ok (.if_icmp .eq 940, 3) := by decide +kernel
theorem dL_law_1109 : decode cL_law 1109 = .ok (.aload_n 1, 1) := by decide +kernel
theorem dL_law_1110 : decode cL_law 1110 = .ok (.aload_n 3, 1) := by decide +kernel
theorem dL_law_1111 : decode cL_law 1111 = .ok (.invokestatic 165, 3) := by decide +kernel
theorem dL_law_1114 : decode cL_law 1114 = .ok (.istore 6, 2) := by decide +kernel
theorem dL_law_1116 : decode cL_law 1116 = .ok (.aload_n 2, 1) := by decide +kernel
theorem dL_law_1117 : decode cL_law 1117 = .ok (.invokevirtual 168, 3) := by decide +kernel
theorem dL_law_1120 : decode cL_law 1120 = .ok (.istore 7, 2) := by decide +kernel
theorem dL_law_1122 : decode cL_law 1122 = .ok (.aload_n 2, 1) := by decide +kernel
theorem dL_law_1123 : decode cL_law 1123 = .ok (.invokevirtual 121, 3) := by decide +kernel
theorem dL_law_1126 : decode cL_law 1126 = .ok (.iload 6, 2) := by decide +kernel
theorem dL_law_1128 : decode cL_law 1128 = .ok (.if_icmp .eq 5, 3) := by decide +kernel
theorem dL_law_1133 : decode cL_law 1133 = .ok (.iload 6, 2) := by decide +kernel
theorem dL_law_1135 : decode cL_law 1135 = .ok (.ifCond .ne 15, 3) := by decide +kernel
theorem dL_law_1138 : decode cL_law 1138 = .ok (.aload_n 3, 1) := by decide +kernel
theorem dL_law_1139 : decode cL_law 1139 = .ok (.iconst 0, 1) := by decide +kernel
theorem dL_law_1140 : decode cL_law 1140 = .ok (.laload, 1) := by decide +kernel
theorem dL_law_1141 : decode cL_law 1141 = .ok (.iload 7, 2) := by decide +kernel
theorem dL_law_1143 : decode cL_law 1143 = .ok (.i2l, 1) := by decide +kernel
theorem dL_law_1144 : decode cL_law 1144 = .ok (.lcmp, 1) := by decide +kernel
theorem dL_law_1145 : decode cL_law 1145 = .ok (.ifCond .eq 5, 3) := by decide +kernel
theorem dL_law_1150 : decode cL_law 1150 = .ok (.goto 894, 3) := by decide +kernel
theorem dL_law_1153 : decode cL_law 1153 = .ok (.aload_n 1, 1) := by decide +kernel
theorem dL_law_1154 : decode cL_law 1154 = .ok (.aload_n 0, 1) := by decide +kernel
theorem dL_law_1155 : decode cL_law 1155 = .ok (.iload 5, 2) := by decide +kernel
theorem dL_law_1157 : decode cL_law 1157 = .ok (.iconst 1, 1) := by decide +kernel
theorem dL_law_1158 : decode cL_law 1158 = .ok (.iadd, 1) := by decide +kernel
theorem dL_law_1159 : decode cL_law 1159 = .ok (.iaload, 1) := by decide +kernel
theorem dL_law_1160 : decode cL_law 1160 = .ok (.i2c, 1) := by decide +kernel
theorem dL_law_1161 : decode cL_law 1161 = .ok (.aload_n 3, 1) := by decide +kernel
theorem dL_law_1162 : decode cL_law 1162 = .ok (.invokestatic 169, 3) := by decide +kernel
theorem dL_law_1165 : decode cL_law 1165 = .ok (.istore 6, 2) := by decide +kernel
theorem dL_law_1167 : decode cL_law 1167 = .ok (.aload_n 2, 1) := by decide +kernel
theorem dL_law_1168 : decode cL_law 1168 = .ok (.aload_n 0, 1) := by decide +kernel
theorem dL_law_1169 : decode cL_law 1169 = .ok (.iload 5, 2) := by decide +kernel
theorem dL_law_1171 : decode cL_law 1171 = .ok (.iconst 1, 1) := by decide +kernel
theorem dL_law_1172 : decode cL_law 1172 = .ok (.iadd, 1) := by decide +kernel
theorem dL_law_1173 : decode cL_law 1173 = .ok (.iaload, 1) := by decide +kernel
theorem dL_law_1174 : decode cL_law 1174 = .ok (.i2c, 1) := by decide +kernel
theorem dL_law_1175 : decode cL_law 1175 = .ok (.invokevirtual 172, 3) := by decide +kernel
theorem dL_law_1178 : decode cL_law 1178 = .ok (.istore 7, 2) := by decide +kernel
theorem dL_law_1180 : decode cL_law 1180 = .ok (.aload_n 2, 1) := by decide +kernel
theorem dL_law_1181 : decode cL_law 1181 = .ok (.invokevirtual 121, 3) := by decide +kernel
theorem dL_law_1184 : decode cL_law 1184 = .ok (.iload 6, 2) := by decide +kernel
theorem dL_law_1186 : decode cL_law 1186 = .ok (.if_icmp .eq 5, 3) := by decide +kernel
theorem dL_law_1191 : decode cL_law 1191 = .ok (.iload 6, 2) := by decide +kernel
theorem dL_law_1193 : decode cL_law 1193 = .ok (.ifCond .ne 15, 3) := by decide +kernel
theorem dL_law_1196 : decode cL_law 1196 = .ok (.aload_n 3, 1) := by decide +kernel
theorem dL_law_1197 : decode cL_law 1197 = .ok (.iconst 0, 1) := by decide +kernel
theorem dL_law_1198 : decode cL_law 1198 = .ok (.laload, 1) := by decide +kernel
theorem dL_law_1199 : decode cL_law 1199 = .ok (.iload 7, 2) := by decide +kernel
theorem dL_law_1201 : decode cL_law 1201 = .ok (.i2l, 1) := by decide +kernel
theorem dL_law_1202 : decode cL_law 1202 = .ok (.lcmp, 1) := by decide +kernel
theorem dL_law_1203 : decode cL_law 1203 = .ok (.ifCond .eq 5, 3) := by decide +kernel
theorem dL_law_1208 : decode cL_law 1208 = .ok (.goto 836, 3) := by decide +kernel
theorem dL_law_1211 : decode cL_law 1211 = .ok (.aload_n 1, 1) := by decide +kernel
theorem dL_law_1212 : decode cL_law 1212 = .ok (.aload_n 3, 1) := by decide +kernel
theorem dL_law_1213 : decode cL_law 1213 = .ok (.invokestatic 173, 3) := by decide +kernel
theorem dL_law_1216 : decode cL_law 1216 = .ok (.istore 6, 2) := by decide +kernel
theorem dL_law_1218 : decode cL_law 1218 = .ok (.aload_n 2, 1) := by decide +kernel
theorem dL_law_1219 : decode cL_law 1219 = .ok (.invokevirtual 175, 3) := by decide +kernel
theorem dL_law_1222 : decode cL_law 1222 = .ok (.istore 7, 2) := by decide +kernel
theorem dL_law_1224 : decode cL_law 1224 = .ok (.aload_n 2, 1) := by decide +kernel
theorem dL_law_1225 : decode cL_law 1225 = .ok (.invokevirtual 121, 3) := by decide +kernel
theorem dL_law_1228 : decode cL_law 1228 = .ok (.iload 6, 2) := by decide +kernel
theorem dL_law_1230 : decode cL_law 1230 = .ok (.if_icmp .eq 5, 3) := by decide +kernel
theorem dL_law_1235 : decode cL_law 1235 = .ok (.iload 6, 2) := by decide +kernel
theorem dL_law_1237 : decode cL_law 1237 = .ok (.ifCond .ne 15, 3) := by decide +kernel
theorem dL_law_1240 : decode cL_law 1240 = .ok (.aload_n 3, 1) := by decide +kernel
theorem dL_law_1241 : decode cL_law 1241 = .ok (.iconst 0, 1) := by decide +kernel
theorem dL_law_1242 : decode cL_law 1242 = .ok (.laload, 1) := by decide +kernel
theorem dL_law_1243 : decode cL_law 1243 = .ok (.iload 7, 2) := by decide +kernel
theorem dL_law_1245 : decode cL_law 1245 = .ok (.i2l, 1) := by decide +kernel
theorem dL_law_1246 : decode cL_law 1246 = .ok (.lcmp, 1) := by decide +kernel
theorem dL_law_1247 : decode cL_law 1247 = .ok (.ifCond .eq 5, 3) := by decide +kernel
theorem dL_law_1252 : decode cL_law 1252 = .ok (.goto 792, 3) := by decide +kernel
theorem dL_law_1255 : decode cL_law 1255 = .ok (.aload_n 1, 1) := by decide +kernel
theorem dL_law_1256 : decode cL_law 1256 = .ok (.aload_n 3, 1) := by decide +kernel
theorem dL_law_1257 : decode cL_law 1257 = .ok (.invokestatic 176, 3) := by decide +kernel
theorem dL_law_1260 : decode cL_law 1260 = .ok (.istore 6, 2) := by decide +kernel
theorem dL_law_1262 : decode cL_law 1262 = .ok (.aload_n 2, 1) := by decide +kernel
theorem dL_law_1263 : decode cL_law 1263 = .ok (.invokevirtual 178, 3) := by decide +kernel
theorem dL_law_1266 : decode cL_law 1266 = .ok (.istore 7, 2) := by decide +kernel
theorem dL_law_1268 : decode cL_law 1268 = .ok (.aload_n 2, 1) := by decide +kernel
theorem dL_law_1269 : decode cL_law 1269 = .ok (.invokevirtual 121, 3) := by decide +kernel
theorem dL_law_1272 : decode cL_law 1272 = .ok (.iload 6, 2) := by decide +kernel
theorem dL_law_1274 : decode cL_law 1274 = .ok (.if_icmp .eq 5, 3) := by decide +kernel
theorem dL_law_1279 : decode cL_law 1279 = .ok (.iload 6, 2) := by decide +kernel
theorem dL_law_1281 : decode cL_law 1281 = .ok (.ifCond .ne 15, 3) := by decide +kernel
theorem dL_law_1284 : decode cL_law 1284 = .ok (.aload_n 3, 1) := by decide +kernel
theorem dL_law_1285 : decode cL_law 1285 = .ok (.iconst 0, 1) := by decide +kernel
theorem dL_law_1286 : decode cL_law 1286 = .ok (.laload, 1) := by decide +kernel
theorem dL_law_1287 : decode cL_law 1287 = .ok (.iload 7, 2) := by decide +kernel
theorem dL_law_1289 : decode cL_law 1289 = .ok (.i2l, 1) := by decide +kernel
theorem dL_law_1290 : decode cL_law 1290 = .ok (.lcmp, 1) := by decide +kernel
theorem dL_law_1291 : decode cL_law 1291 = .ok (.ifCond .eq 5, 3) := by decide +kernel
theorem dL_law_1296 : decode cL_law 1296 = .ok (.goto 748, 3) := by decide +kernel
theorem dL_law_1299 : decode cL_law 1299 = .ok (.aload_n 1, 1) := by decide +kernel
theorem dL_law_1300 : decode cL_law 1300 = .ok (.aload_n 0, 1) := by decide +kernel
theorem dL_law_1301 : decode cL_law 1301 = .ok (.iload 5, 2) := by decide +kernel
theorem dL_law_1303 : decode cL_law 1303 = .ok (.iconst 1, 1) := by decide +kernel
theorem dL_law_1304 : decode cL_law 1304 = .ok (.iadd, 1) := by decide +kernel
theorem dL_law_1305 : decode cL_law 1305 = .ok (.iaload, 1) := by decide +kernel
theorem dL_law_1306 : decode cL_law 1306 = .ok (.aload_n 0, 1) := by decide +kernel
theorem dL_law_1307 : decode cL_law 1307 = .ok (.iload 5, 2) := by decide +kernel
theorem dL_law_1309 : decode cL_law 1309 = .ok (.iconst 2, 1) := by decide +kernel
theorem dL_law_1310 : decode cL_law 1310 = .ok (.iadd, 1) := by decide +kernel
theorem dL_law_1311 : decode cL_law 1311 = .ok (.iaload, 1) := by decide +kernel
theorem dL_law_1312 : decode cL_law 1312 = .ok (.aload_n 0, 1) := by decide +kernel
theorem dL_law_1313 : decode cL_law 1313 = .ok (.iload 5, 2) := by decide +kernel
theorem dL_law_1315 : decode cL_law 1315 = .ok (.iconst 3, 1) := by decide +kernel
theorem dL_law_1316 : decode cL_law 1316 = .ok (.iadd, 1) := by decide +kernel
theorem dL_law_1317 : decode cL_law 1317 = .ok (.iaload, 1) := by decide +kernel
theorem dL_law_1318 : decode cL_law 1318 = .ok (.aload_n 3, 1) := by decide +kernel
theorem dL_law_1319 : decode cL_law 1319 = .ok (.invokestatic 179, 3) := by decide +kernel
theorem dL_law_1322 : decode cL_law 1322 = .ok (.istore 6, 2) := by decide +kernel
theorem dL_law_1324 : decode cL_law 1324 = .ok (.aload_n 2, 1) := by decide +kernel
theorem dL_law_1325 : decode cL_law 1325 = .ok (.aload_n 0, 1) := by decide +kernel
theorem dL_law_1326 : decode cL_law 1326 = .ok (.iload 5, 2) := by decide +kernel
theorem dL_law_1328 : decode cL_law 1328 = .ok (.iconst 1, 1) := by decide +kernel
theorem dL_law_1329 : decode cL_law 1329 = .ok (.iadd, 1) := by decide +kernel
theorem dL_law_1330 : decode cL_law 1330 = .ok (.iaload, 1) := by decide +kernel
theorem dL_law_1331 : decode cL_law 1331 = .ok (.aload_n 0, 1) := by decide +kernel
theorem dL_law_1332 : decode cL_law 1332 = .ok (.iload 5, 2) := by decide +kernel
theorem dL_law_1334 : decode cL_law 1334 = .ok (.iconst 2, 1) := by decide +kernel
theorem dL_law_1335 : decode cL_law 1335 = .ok (.iadd, 1) := by decide +kernel
theorem dL_law_1336 : decode cL_law 1336 = .ok (.iaload, 1) := by decide +kernel
theorem dL_law_1337 : decode cL_law 1337 = .ok (.aload_n 0, 1) := by decide +kernel
theorem dL_law_1338 : decode cL_law 1338 = .ok (.iload 5, 2) := by decide +kernel
theorem dL_law_1340 : decode cL_law 1340 = .ok (.iconst 3, 1) := by decide +kernel
theorem dL_law_1341 : decode cL_law 1341 = .ok (.iadd, 1) := by decide +kernel
theorem dL_law_1342 : decode cL_law 1342 = .ok (.iaload, 1) := by decide +kernel
theorem dL_law_1343 : decode cL_law 1343 = .ok (.invokevirtual 181, 3) := by decide +kernel
theorem dL_law_1346 : decode cL_law 1346 = .ok (.istore 7, 2) := by decide +kernel
theorem dL_law_1348 : decode cL_law 1348 = .ok (.aload_n 2, 1) := by decide +kernel
theorem dL_law_1349 : decode cL_law 1349 = .ok (.invokevirtual 121, 3) := by decide +kernel
theorem dL_law_1352 : decode cL_law 1352 = .ok (.iload 6, 2) := by decide +kernel
theorem dL_law_1354 : decode cL_law 1354 = .ok (.if_icmp .eq 5, 3) := by decide +kernel
theorem dL_law_1359 : decode cL_law 1359 = .ok (.iload 6, 2) := by decide +kernel
theorem dL_law_1361 : decode cL_law 1361 = .ok (.ifCond .ne 15, 3) := by decide +kernel
theorem dL_law_1364 : decode cL_law 1364 = .ok (.aload_n 3, 1) := by decide +kernel
theorem dL_law_1365 : decode cL_law 1365 = .ok (.iconst 0, 1) := by decide +kernel
theorem dL_law_1366 : decode cL_law 1366 = .ok (.laload, 1) := by decide +kernel
theorem dL_law_1367 : decode cL_law 1367 = .ok (.iload 7, 2) := by decide +kernel
theorem dL_law_1369 : decode cL_law 1369 = .ok (.i2l, 1) := by decide +kernel
theorem dL_law_1370 : decode cL_law 1370 = .ok (.lcmp, 1) := by decide +kernel
theorem dL_law_1371 : decode cL_law 1371 = .ok (.ifCond .eq 5, 3) := by decide +kernel
theorem dL_law_1376 : decode cL_law 1376 = .ok (.goto 668, 3) := by decide +kernel
theorem dL_law_1379 : decode cL_law 1379 = .ok (.aload_n 1, 1) := by decide +kernel
theorem dL_law_1380 : decode cL_law 1380 = .ok (.aload_n 0, 1) := by decide +kernel
theorem dL_law_1381 : decode cL_law 1381 = .ok (.iload 5, 2) := by decide +kernel
theorem dL_law_1383 : decode cL_law 1383 = .ok (.iconst 1, 1) := by decide +kernel
theorem dL_law_1384 : decode cL_law 1384 = .ok (.iadd, 1) := by decide +kernel
theorem dL_law_1385 : decode cL_law 1385 = .ok (.iaload, 1) := by decide +kernel
theorem dL_law_1386 : decode cL_law 1386 = .ok (.aload_n 0, 1) := by decide +kernel
theorem dL_law_1387 : decode cL_law 1387 = .ok (.iload 5, 2) := by decide +kernel
theorem dL_law_1389 : decode cL_law 1389 = .ok (.iconst 2, 1) := by decide +kernel
theorem dL_law_1390 : decode cL_law 1390 = .ok (.iadd, 1) := by decide +kernel
theorem dL_law_1391 : decode cL_law 1391 = .ok (.iaload, 1) := by decide +kernel
theorem dL_law_1392 : decode cL_law 1392 = .ok (.aload_n 0, 1) := by decide +kernel
theorem dL_law_1393 : decode cL_law 1393 = .ok (.iload 5, 2) := by decide +kernel
theorem dL_law_1395 : decode cL_law 1395 = .ok (.iconst 3, 1) := by decide +kernel
theorem dL_law_1396 : decode cL_law 1396 = .ok (.iadd, 1) := by decide +kernel
theorem dL_law_1397 : decode cL_law 1397 = .ok (.iaload, 1) := by decide +kernel
theorem dL_law_1398 : decode cL_law 1398 = .ok (.aload_n 3, 1) := by decide +kernel
theorem dL_law_1399 : decode cL_law 1399 = .ok (.invokestatic 182, 3) := by decide +kernel
theorem dL_law_1402 : decode cL_law 1402 = .ok (.istore 6, 2) := by decide +kernel
theorem dL_law_1404 : decode cL_law 1404 = .ok (.aload_n 2, 1) := by decide +kernel
theorem dL_law_1405 : decode cL_law 1405 = .ok (.aload_n 0, 1) := by decide +kernel
theorem dL_law_1406 : decode cL_law 1406 = .ok (.iload 5, 2) := by decide +kernel
theorem dL_law_1408 : decode cL_law 1408 = .ok (.iconst 1, 1) := by decide +kernel
theorem dL_law_1409 : decode cL_law 1409 = .ok (.iadd, 1) := by decide +kernel
theorem dL_law_1410 : decode cL_law 1410 = .ok (.iaload, 1) := by decide +kernel
theorem dL_law_1411 : decode cL_law 1411 = .ok (.aload_n 0, 1) := by decide +kernel
theorem dL_law_1412 : decode cL_law 1412 = .ok (.iload 5, 2) := by decide +kernel
theorem dL_law_1414 : decode cL_law 1414 = .ok (.iconst 2, 1) := by decide +kernel
theorem dL_law_1415 : decode cL_law 1415 = .ok (.iadd, 1) := by decide +kernel
theorem dL_law_1416 : decode cL_law 1416 = .ok (.iaload, 1) := by decide +kernel
theorem dL_law_1417 : decode cL_law 1417 = .ok (.aload_n 0, 1) := by decide +kernel
theorem dL_law_1418 : decode cL_law 1418 = .ok (.iload 5, 2) := by decide +kernel
theorem dL_law_1420 : decode cL_law 1420 = .ok (.iconst 3, 1) := by decide +kernel
theorem dL_law_1421 : decode cL_law 1421 = .ok (.iadd, 1) := by decide +kernel
theorem dL_law_1422 : decode cL_law 1422 = .ok (.iaload, 1) := by decide +kernel
theorem dL_law_1423 : decode cL_law 1423 = .ok (.invokevirtual 184, 3) := by decide +kernel
theorem dL_law_1426 : decode cL_law 1426 = .ok (.istore 7, 2) := by decide +kernel
theorem dL_law_1428 : decode cL_law 1428 = .ok (.aload_n 2, 1) := by decide +kernel
theorem dL_law_1429 : decode cL_law 1429 = .ok (.invokevirtual 121, 3) := by decide +kernel
theorem dL_law_1432 : decode cL_law 1432 = .ok (.iload 6, 2) := by decide +kernel
theorem dL_law_1434 : decode cL_law 1434 = .ok (.if_icmp .eq 5, 3) := by decide +kernel
theorem dL_law_1439 : decode cL_law 1439 = .ok (.iload 6, 2) := by decide +kernel
theorem dL_law_1441 : decode cL_law 1441 = .ok (.ifCond .ne 15, 3) := by decide +kernel
theorem dL_law_1444 : decode cL_law 1444 = .ok (.aload_n 3, 1) := by decide +kernel
theorem dL_law_1445 : decode cL_law 1445 = .ok (.iconst 0, 1) := by decide +kernel
theorem dL_law_1446 : decode cL_law 1446 = .ok (.laload, 1) := by decide +kernel
theorem dL_law_1447 : decode cL_law 1447 = .ok (.iload 7, 2) := by decide +kernel
theorem dL_law_1449 : decode cL_law 1449 = .ok (.i2l, 1) := by decide +kernel
theorem dL_law_1450 : decode cL_law 1450 = .ok (.lcmp, 1) := by decide +kernel
theorem dL_law_1451 : decode cL_law 1451 = .ok (.ifCond .eq 5, 3) := by decide +kernel
theorem dL_law_1456 : decode cL_law 1456 = .ok (.goto 588, 3) := by decide +kernel
theorem dL_law_1459 : decode cL_law 1459 = .ok (.aload_n 1, 1) := by decide +kernel
theorem dL_law_1460 : decode cL_law 1460 = .ok (.aload_n 0, 1) := by decide +kernel
theorem dL_law_1461 : decode cL_law 1461 = .ok (.iload 5, 2) := by decide +kernel
theorem dL_law_1463 : decode cL_law 1463 = .ok (.iconst 1, 1) := by decide +kernel
theorem dL_law_1464 : decode cL_law 1464 = .ok (.iadd, 1) := by decide +kernel
theorem dL_law_1465 : decode cL_law 1465 = .ok (.iaload, 1) := by decide +kernel
theorem dL_law_1466 : decode cL_law 1466 = .ok (.aload_n 0, 1) := by decide +kernel
theorem dL_law_1467 : decode cL_law 1467 = .ok (.iload 5, 2) := by decide +kernel
theorem dL_law_1469 : decode cL_law 1469 = .ok (.iconst 2, 1) := by decide +kernel
theorem dL_law_1470 : decode cL_law 1470 = .ok (.iadd, 1) := by decide +kernel
theorem dL_law_1471 : decode cL_law 1471 = .ok (.iaload, 1) := by decide +kernel
theorem dL_law_1472 : decode cL_law 1472 = .ok (.aload_n 0, 1) := by decide +kernel
theorem dL_law_1473 : decode cL_law 1473 = .ok (.iload 5, 2) := by decide +kernel
theorem dL_law_1475 : decode cL_law 1475 = .ok (.iconst 3, 1) := by decide +kernel
theorem dL_law_1476 : decode cL_law 1476 = .ok (.iadd, 1) := by decide +kernel
theorem dL_law_1477 : decode cL_law 1477 = .ok (.iaload, 1) := by decide +kernel
theorem dL_law_1478 : decode cL_law 1478 = .ok (.aload_n 3, 1) := by decide +kernel
theorem dL_law_1479 : decode cL_law 1479 = .ok (.invokestatic 185, 3) := by decide +kernel
theorem dL_law_1482 : decode cL_law 1482 = .ok (.istore 6, 2) := by decide +kernel
theorem dL_law_1484 : decode cL_law 1484 = .ok (.aload_n 2, 1) := by decide +kernel
theorem dL_law_1485 : decode cL_law 1485 = .ok (.aload_n 0, 1) := by decide +kernel
theorem dL_law_1486 : decode cL_law 1486 = .ok (.iload 5, 2) := by decide +kernel
theorem dL_law_1488 : decode cL_law 1488 = .ok (.iconst 1, 1) := by decide +kernel
theorem dL_law_1489 : decode cL_law 1489 = .ok (.iadd, 1) := by decide +kernel
theorem dL_law_1490 : decode cL_law 1490 = .ok (.iaload, 1) := by decide +kernel
theorem dL_law_1491 : decode cL_law 1491 = .ok (.aload_n 0, 1) := by decide +kernel
theorem dL_law_1492 : decode cL_law 1492 = .ok (.iload 5, 2) := by decide +kernel
theorem dL_law_1494 : decode cL_law 1494 = .ok (.iconst 2, 1) := by decide +kernel
theorem dL_law_1495 : decode cL_law 1495 = .ok (.iadd, 1) := by decide +kernel
theorem dL_law_1496 : decode cL_law 1496 = .ok (.iaload, 1) := by decide +kernel
theorem dL_law_1497 : decode cL_law 1497 = .ok (.aload_n 0, 1) := by decide +kernel
theorem dL_law_1498 : decode cL_law 1498 = .ok (.iload 5, 2) := by decide +kernel
theorem dL_law_1500 : decode cL_law 1500 = .ok (.iconst 3, 1) := by decide +kernel
theorem dL_law_1501 : decode cL_law 1501 = .ok (.iadd, 1) := by decide +kernel
theorem dL_law_1502 : decode cL_law 1502 = .ok (.iaload, 1) := by decide +kernel
theorem dL_law_1503 : decode cL_law 1503 = .ok (.invokevirtual 187, 3) := by decide +kernel
theorem dL_law_1506 : decode cL_law 1506 = .ok (.istore 7, 2) := by decide +kernel
theorem dL_law_1508 : decode cL_law 1508 = .ok (.aload_n 2, 1) := by decide +kernel
theorem dL_law_1509 : decode cL_law 1509 = .ok (.invokevirtual 121, 3) := by decide +kernel
theorem dL_law_1512 : decode cL_law 1512 = .ok (.iload 6, 2) := by decide +kernel
theorem dL_law_1514 : decode cL_law 1514 = .ok (.if_icmp .eq 5, 3) := by decide +kernel
theorem dL_law_1519 : decode cL_law 1519 = .ok (.iload 6, 2) := by decide +kernel
theorem dL_law_1521 : decode cL_law 1521 = .ok (.ifCond .ne 15, 3) := by decide +kernel
theorem dL_law_1524 : decode cL_law 1524 = .ok (.aload_n 3, 1) := by decide +kernel
theorem dL_law_1525 : decode cL_law 1525 = .ok (.iconst 0, 1) := by decide +kernel
theorem dL_law_1526 : decode cL_law 1526 = .ok (.laload, 1) := by decide +kernel
theorem dL_law_1527 : decode cL_law 1527 = .ok (.iload 7, 2) := by decide +kernel
theorem dL_law_1529 : decode cL_law 1529 = .ok (.i2l, 1) := by decide +kernel
theorem dL_law_1530 : decode cL_law 1530 = .ok (.lcmp, 1) := by decide +kernel
theorem dL_law_1531 : decode cL_law 1531 = .ok (.ifCond .eq 5, 3) := by decide +kernel
theorem dL_law_1536 : decode cL_law 1536 = .ok (.goto 508, 3) := by decide +kernel
theorem dL_law_1539 : decode cL_law 1539 = .ok (.aload_n 1, 1) := by decide +kernel
theorem dL_law_1540 : decode cL_law 1540 = .ok (.aload_n 0, 1) := by decide +kernel
theorem dL_law_1541 : decode cL_law 1541 = .ok (.iload 5, 2) := by decide +kernel
theorem dL_law_1543 : decode cL_law 1543 = .ok (.iconst 1, 1) := by decide +kernel
theorem dL_law_1544 : decode cL_law 1544 = .ok (.iadd, 1) := by decide +kernel
theorem dL_law_1545 : decode cL_law 1545 = .ok (.iaload, 1) := by decide +kernel
theorem dL_law_1546 : decode cL_law 1546 = .ok (.aload_n 0, 1) := by decide +kernel
theorem dL_law_1547 : decode cL_law 1547 = .ok (.iload 5, 2) := by decide +kernel
theorem dL_law_1549 : decode cL_law 1549 = .ok (.iconst 2, 1) := by decide +kernel
theorem dL_law_1550 : decode cL_law 1550 = .ok (.iadd, 1) := by decide +kernel
theorem dL_law_1551 : decode cL_law 1551 = .ok (.iaload, 1) := by decide +kernel
theorem dL_law_1552 : decode cL_law 1552 = .ok (.aload_n 3, 1) := by decide +kernel
theorem dL_law_1553 : decode cL_law 1553 = .ok (.invokestatic 188, 3) := by decide +kernel
theorem dL_law_1556 : decode cL_law 1556 = .ok (.istore 6, 2) := by decide +kernel
theorem dL_law_1558 : decode cL_law 1558 = .ok (.aload_n 2, 1) := by decide +kernel
theorem dL_law_1559 : decode cL_law 1559 = .ok (.aload_n 0, 1) := by decide +kernel
theorem dL_law_1560 : decode cL_law 1560 = .ok (.iload 5, 2) := by decide +kernel
theorem dL_law_1562 : decode cL_law 1562 = .ok (.iconst 1, 1) := by decide +kernel
theorem dL_law_1563 : decode cL_law 1563 = .ok (.iadd, 1) := by decide +kernel
theorem dL_law_1564 : decode cL_law 1564 = .ok (.iaload, 1) := by decide +kernel
theorem dL_law_1565 : decode cL_law 1565 = .ok (.aload_n 0, 1) := by decide +kernel
theorem dL_law_1566 : decode cL_law 1566 = .ok (.iload 5, 2) := by decide +kernel
theorem dL_law_1568 : decode cL_law 1568 = .ok (.iconst 2, 1) := by decide +kernel
theorem dL_law_1569 : decode cL_law 1569 = .ok (.iadd, 1) := by decide +kernel
theorem dL_law_1570 : decode cL_law 1570 = .ok (.iaload, 1) := by decide +kernel
theorem dL_law_1571 : decode cL_law 1571 = .ok (.invokevirtual 190, 3) := by decide +kernel
theorem dL_law_1574 : decode cL_law 1574 = .ok (.istore 7, 2) := by decide +kernel
theorem dL_law_1576 : decode cL_law 1576 = .ok (.aload_n 2, 1) := by decide +kernel
theorem dL_law_1577 : decode cL_law 1577 = .ok (.invokevirtual 121, 3) := by decide +kernel
theorem dL_law_1580 : decode cL_law 1580 = .ok (.iload 6, 2) := by decide +kernel
theorem dL_law_1582 : decode cL_law 1582 = .ok (.if_icmp .eq 5, 3) := by decide +kernel
theorem dL_law_1587 : decode cL_law 1587 = .ok (.iload 6, 2) := by decide +kernel
theorem dL_law_1589 : decode cL_law 1589 = .ok (.ifCond .ne 15, 3) := by decide +kernel
theorem dL_law_1592 : decode cL_law 1592 = .ok (.aload_n 3, 1) := by decide +kernel
theorem dL_law_1593 : decode cL_law 1593 = .ok (.iconst 0, 1) := by decide +kernel
theorem dL_law_1594 : decode cL_law 1594 = .ok (.laload, 1) := by decide +kernel
theorem dL_law_1595 : decode cL_law 1595 = .ok (.iload 7, 2) := by decide +kernel
theorem dL_law_1597 : decode cL_law 1597 = .ok (.i2l, 1) := by decide +kernel
theorem dL_law_1598 : decode cL_law 1598 = .ok (.lcmp, 1) := by decide +kernel
theorem dL_law_1599 : decode cL_law 1599 = .ok (.ifCond .eq 5, 3) := by decide +kernel
theorem dL_law_1604 : decode cL_law 1604 = .ok (.goto 440, 3) := by decide +kernel
theorem dL_law_1607 : decode cL_law 1607 = .ok (.aload_n 1, 1) := by decide +kernel
theorem dL_law_1608 : decode cL_law 1608 = .ok (.aload_n 0, 1) := by decide +kernel
theorem dL_law_1609 : decode cL_law 1609 = .ok (.iload 5, 2) := by decide +kernel
theorem dL_law_1611 : decode cL_law 1611 = .ok (.iconst 1, 1) := by decide +kernel
theorem dL_law_1612 : decode cL_law 1612 = .ok (.iadd, 1) := by decide +kernel
theorem dL_law_1613 : decode cL_law 1613 = .ok (.iaload, 1) := by decide +kernel
theorem dL_law_1614 : decode cL_law 1614 = .ok (.aload_n 3, 1) := by decide +kernel
theorem dL_law_1615 : decode cL_law 1615 = .ok (.invokestatic 191, 3) := by decide +kernel
theorem dL_law_1618 : decode cL_law 1618 = .ok (.istore 6, 2) := by decide +kernel
theorem dL_law_1620 : decode cL_law 1620 = .ok (.aload_n 2, 1) := by decide +kernel
theorem dL_law_1621 : decode cL_law 1621 = .ok (.aload_n 0, 1) := by decide +kernel
theorem dL_law_1622 : decode cL_law 1622 = .ok (.iload 5, 2) := by decide +kernel
theorem dL_law_1624 : decode cL_law 1624 = .ok (.iconst 1, 1) := by decide +kernel
theorem dL_law_1625 : decode cL_law 1625 = .ok (.iadd, 1) := by decide +kernel
theorem dL_law_1626 : decode cL_law 1626 = .ok (.iaload, 1) := by decide +kernel
theorem dL_law_1627 : decode cL_law 1627 = .ok (.invokevirtual 193, 3) := by decide +kernel
theorem dL_law_1630 : decode cL_law 1630 = .ok (.istore 7, 2) := by decide +kernel
theorem dL_law_1632 : decode cL_law 1632 = .ok (.aload_n 2, 1) := by decide +kernel
theorem dL_law_1633 : decode cL_law 1633 = .ok (.invokevirtual 121, 3) := by decide +kernel
theorem dL_law_1636 : decode cL_law 1636 = .ok (.iload 6, 2) := by decide +kernel
theorem dL_law_1638 : decode cL_law 1638 = .ok (.if_icmp .eq 5, 3) := by decide +kernel
theorem dL_law_1643 : decode cL_law 1643 = .ok (.iload 6, 2) := by decide +kernel
theorem dL_law_1645 : decode cL_law 1645 = .ok (.ifCond .ne 15, 3) := by decide +kernel
theorem dL_law_1648 : decode cL_law 1648 = .ok (.aload_n 3, 1) := by decide +kernel
theorem dL_law_1649 : decode cL_law 1649 = .ok (.iconst 0, 1) := by decide +kernel
theorem dL_law_1650 : decode cL_law 1650 = .ok (.laload, 1) := by decide +kernel
theorem dL_law_1651 : decode cL_law 1651 = .ok (.iload 7, 2) := by decide +kernel
theorem dL_law_1653 : decode cL_law 1653 = .ok (.i2l, 1) := by decide +kernel
theorem dL_law_1654 : decode cL_law 1654 = .ok (.lcmp, 1) := by decide +kernel
theorem dL_law_1655 : decode cL_law 1655 = .ok (.ifCond .eq 5, 3) := by decide +kernel
theorem dL_law_1660 : decode cL_law 1660 = .ok (.goto 384, 3) := by decide +kernel
theorem dL_law_1663 : decode cL_law 1663 = .ok (.aload_n 1, 1) := by decide +kernel
theorem dL_law_1664 : decode cL_law 1664 = .ok (.aload_n 0, 1) := by decide +kernel
theorem dL_law_1665 : decode cL_law 1665 = .ok (.iload 5, 2) := by decide +kernel
theorem dL_law_1667 : decode cL_law 1667 = .ok (.iconst 1, 1) := by decide +kernel
theorem dL_law_1668 : decode cL_law 1668 = .ok (.iadd, 1) := by decide +kernel
theorem dL_law_1669 : decode cL_law 1669 = .ok (.iaload, 1) := by decide +kernel
theorem dL_law_1670 : decode cL_law 1670 = .ok (.aload_n 3, 1) := by decide +kernel
theorem dL_law_1671 : decode cL_law 1671 = .ok (.invokestatic 194, 3) := by decide +kernel
theorem dL_law_1674 : decode cL_law 1674 = .ok (.istore 6, 2) := by decide +kernel
theorem dL_law_1676 : decode cL_law 1676 = .ok (.aload_n 2, 1) := by decide +kernel
theorem dL_law_1677 : decode cL_law 1677 = .ok (.aload_n 0, 1) := by decide +kernel
theorem dL_law_1678 : decode cL_law 1678 = .ok (.iload 5, 2) := by decide +kernel
theorem dL_law_1680 : decode cL_law 1680 = .ok (.iconst 1, 1) := by decide +kernel
theorem dL_law_1681 : decode cL_law 1681 = .ok (.iadd, 1) := by decide +kernel
theorem dL_law_1682 : decode cL_law 1682 = .ok (.iaload, 1) := by decide +kernel
theorem dL_law_1683 : decode cL_law 1683 = .ok (.invokevirtual 196, 3) := by decide +kernel
theorem dL_law_1686 : decode cL_law 1686 = .ok (.istore 7, 2) := by decide +kernel
theorem dL_law_1688 : decode cL_law 1688 = .ok (.aload_n 2, 1) := by decide +kernel
theorem dL_law_1689 : decode cL_law 1689 = .ok (.invokevirtual 121, 3) := by decide +kernel
theorem dL_law_1692 : decode cL_law 1692 = .ok (.iload 6, 2) := by decide +kernel
theorem dL_law_1694 : decode cL_law 1694 = .ok (.if_icmp .eq 5, 3) := by decide +kernel
theorem dL_law_1699 : decode cL_law 1699 = .ok (.iload 6, 2) := by decide +kernel
theorem dL_law_1701 : decode cL_law 1701 = .ok (.ifCond .ne 15, 3) := by decide +kernel
theorem dL_law_1704 : decode cL_law 1704 = .ok (.aload_n 3, 1) := by decide +kernel
theorem dL_law_1705 : decode cL_law 1705 = .ok (.iconst 0, 1) := by decide +kernel
theorem dL_law_1706 : decode cL_law 1706 = .ok (.laload, 1) := by decide +kernel
theorem dL_law_1707 : decode cL_law 1707 = .ok (.iload 7, 2) := by decide +kernel
theorem dL_law_1709 : decode cL_law 1709 = .ok (.i2l, 1) := by decide +kernel
theorem dL_law_1710 : decode cL_law 1710 = .ok (.lcmp, 1) := by decide +kernel
theorem dL_law_1711 : decode cL_law 1711 = .ok (.ifCond .eq 5, 3) := by decide +kernel
theorem dL_law_1716 : decode cL_law 1716 = .ok (.goto 328, 3) := by decide +kernel
theorem dL_law_1719 : decode cL_law 1719 = .ok (.aload_n 1, 1) := by decide +kernel
theorem dL_law_1720 : decode cL_law 1720 = .ok (.aload_n 0, 1) := by decide +kernel
theorem dL_law_1721 : decode cL_law 1721 = .ok (.iload 5, 2) := by decide +kernel
theorem dL_law_1723 : decode cL_law 1723 = .ok (.iconst 1, 1) := by decide +kernel
theorem dL_law_1724 : decode cL_law 1724 = .ok (.iadd, 1) := by decide +kernel
theorem dL_law_1725 : decode cL_law 1725 = .ok (.iaload, 1) := by decide +kernel
theorem dL_law_1726 : decode cL_law 1726 = .ok (.aload_n 0, 1) := by decide +kernel
theorem dL_law_1727 : decode cL_law 1727 = .ok (.iload 5, 2) := by decide +kernel
theorem dL_law_1729 : decode cL_law 1729 = .ok (.iconst 2, 1) := by decide +kernel
theorem dL_law_1730 : decode cL_law 1730 = .ok (.iadd, 1) := by decide +kernel
theorem dL_law_1731 : decode cL_law 1731 = .ok (.iaload, 1) := by decide +kernel
theorem dL_law_1732 : decode cL_law 1732 = .ok (.aload_n 3, 1) := by decide +kernel
theorem dL_law_1733 : decode cL_law 1733 = .ok (.invokestatic 197, 3) := by decide +kernel
theorem dL_law_1736 : decode cL_law 1736 = .ok (.istore 6, 2) := by decide +kernel
theorem dL_law_1738 : decode cL_law 1738 = .ok (.aload_n 2, 1) := by decide +kernel
theorem dL_law_1739 : decode cL_law 1739 = .ok (.aload_n 0, 1) := by decide +kernel
theorem dL_law_1740 : decode cL_law 1740 = .ok (.iload 5, 2) := by decide +kernel
theorem dL_law_1742 : decode cL_law 1742 = .ok (.iconst 1, 1) := by decide +kernel
theorem dL_law_1743 : decode cL_law 1743 = .ok (.iadd, 1) := by decide +kernel
theorem dL_law_1744 : decode cL_law 1744 = .ok (.iaload, 1) := by decide +kernel
theorem dL_law_1745 : decode cL_law 1745 = .ok (.aload_n 0, 1) := by decide +kernel
theorem dL_law_1746 : decode cL_law 1746 = .ok (.iload 5, 2) := by decide +kernel
theorem dL_law_1748 : decode cL_law 1748 = .ok (.iconst 2, 1) := by decide +kernel
theorem dL_law_1749 : decode cL_law 1749 = .ok (.iadd, 1) := by decide +kernel
theorem dL_law_1750 : decode cL_law 1750 = .ok (.iaload, 1) := by decide +kernel
theorem dL_law_1751 : decode cL_law 1751 = .ok (.invokevirtual 199, 3) := by decide +kernel
theorem dL_law_1754 : decode cL_law 1754 = .ok (.istore 7, 2) := by decide +kernel
theorem dL_law_1756 : decode cL_law 1756 = .ok (.aload_n 2, 1) := by decide +kernel
theorem dL_law_1757 : decode cL_law 1757 = .ok (.invokevirtual 121, 3) := by decide +kernel
theorem dL_law_1760 : decode cL_law 1760 = .ok (.iload 6, 2) := by decide +kernel
theorem dL_law_1762 : decode cL_law 1762 = .ok (.if_icmp .eq 5, 3) := by decide +kernel
theorem dL_law_1767 : decode cL_law 1767 = .ok (.iload 6, 2) := by decide +kernel
theorem dL_law_1769 : decode cL_law 1769 = .ok (.ifCond .ne 15, 3) := by decide +kernel
theorem dL_law_1772 : decode cL_law 1772 = .ok (.aload_n 3, 1) := by decide +kernel
theorem dL_law_1773 : decode cL_law 1773 = .ok (.iconst 0, 1) := by decide +kernel
theorem dL_law_1774 : decode cL_law 1774 = .ok (.laload, 1) := by decide +kernel
theorem dL_law_1775 : decode cL_law 1775 = .ok (.iload 7, 2) := by decide +kernel
theorem dL_law_1777 : decode cL_law 1777 = .ok (.i2l, 1) := by decide +kernel
theorem dL_law_1778 : decode cL_law 1778 = .ok (.lcmp, 1) := by decide +kernel
theorem dL_law_1779 : decode cL_law 1779 = .ok (.ifCond .eq 5, 3) := by decide +kernel
theorem dL_law_1784 : decode cL_law 1784 = .ok (.goto 260, 3) := by decide +kernel
theorem dL_law_1787 : decode cL_law 1787 = .ok (.aload_n 1, 1) := by decide +kernel
theorem dL_law_1788 : decode cL_law 1788 = .ok (.aload 4, 2) := by decide +kernel
theorem dL_law_1790 : decode cL_law 1790 = .ok (.invokestatic 200, 3) := by decide +kernel
theorem dL_law_1793 : decode cL_law 1793 = .ok (.istore 6, 2) := by decide +kernel
theorem dL_law_1795 : decode cL_law 1795 = .ok (.aload_n 2, 1) := by decide +kernel
theorem dL_law_1796 : decode cL_law 1796 = .ok (.invokevirtual 203, 3) := by decide +kernel
theorem dL_law_1799 : decode cL_law 1799 = .ok (.dstore 7, 2) := by decide +kernel
theorem dL_law_1801 : decode cL_law 1801 = .ok (.aload_n 2, 1) := by decide +kernel
theorem dL_law_1802 : decode cL_law 1802 = .ok (.invokevirtual 121, 3) := by decide +kernel
theorem dL_law_1805 : decode cL_law 1805 = .ok (.iload 6, 2) := by decide +kernel
theorem dL_law_1807 : decode cL_law 1807 = .ok (.if_icmp .eq 5, 3) := by decide +kernel
theorem dL_law_1812 : decode cL_law 1812 = .ok (.iload 6, 2) := by decide +kernel
theorem dL_law_1814 : decode cL_law 1814 = .ok (.ifCond .ne 35, 3) := by decide +kernel
theorem dL_law_1817 : decode cL_law 1817 = .ok (.aload 4, 2) := by decide +kernel
theorem dL_law_1819 : decode cL_law 1819 = .ok (.iconst 0, 1) := by decide +kernel
theorem dL_law_1820 : decode cL_law 1820 = .ok (.daload, 1) := by decide +kernel
theorem dL_law_1821 : decode cL_law 1821 = .ok (.dload 7, 2) := by decide +kernel
theorem dL_law_1823 : decode cL_law 1823 = .ok (.dcmp .l, 1) := by decide +kernel
theorem dL_law_1824 : decode cL_law 1824 = .ok (.ifCond .eq 25, 3) := by decide +kernel
theorem dL_law_1849 : decode cL_law 1849 = .ok (.goto 195, 3) := by decide +kernel
theorem dL_law_1852 : decode cL_law 1852 = .ok (.aload_n 1, 1) := by decide +kernel
theorem dL_law_1853 : decode cL_law 1853 = .ok (.aload_n 0, 1) := by decide +kernel
theorem dL_law_1854 : decode cL_law 1854 = .ok (.iload 5, 2) := by decide +kernel
theorem dL_law_1856 : decode cL_law 1856 = .ok (.iconst 1, 1) := by decide +kernel
theorem dL_law_1857 : decode cL_law 1857 = .ok (.iadd, 1) := by decide +kernel
theorem dL_law_1858 : decode cL_law 1858 = .ok (.iaload, 1) := by decide +kernel
theorem dL_law_1859 : decode cL_law 1859 = .ok (.aload 4, 2) := by decide +kernel
theorem dL_law_1861 : decode cL_law 1861 = .ok (.invokestatic 204, 3) := by decide +kernel
theorem dL_law_1864 : decode cL_law 1864 = .ok (.istore 6, 2) := by decide +kernel
theorem dL_law_1866 : decode cL_law 1866 = .ok (.aload_n 2, 1) := by decide +kernel
theorem dL_law_1867 : decode cL_law 1867 = .ok (.aload_n 0, 1) := by decide +kernel
theorem dL_law_1868 : decode cL_law 1868 = .ok (.iload 5, 2) := by decide +kernel
theorem dL_law_1870 : decode cL_law 1870 = .ok (.iconst 1, 1) := by decide +kernel
theorem dL_law_1871 : decode cL_law 1871 = .ok (.iadd, 1) := by decide +kernel
theorem dL_law_1872 : decode cL_law 1872 = .ok (.iaload, 1) := by decide +kernel
theorem dL_law_1873 : decode cL_law 1873 = .ok (.invokevirtual 207, 3) := by decide +kernel
theorem dL_law_1876 : decode cL_law 1876 = .ok (.fstore 7, 2) := by decide +kernel
theorem dL_law_1878 : decode cL_law 1878 = .ok (.aload_n 2, 1) := by decide +kernel
theorem dL_law_1879 : decode cL_law 1879 = .ok (.invokevirtual 121, 3) := by decide +kernel
theorem dL_law_1882 : decode cL_law 1882 = .ok (.iload 6, 2) := by decide +kernel
theorem dL_law_1884 : decode cL_law 1884 = .ok (.if_icmp .eq 5, 3) := by decide +kernel
theorem dL_law_1889 : decode cL_law 1889 = .ok (.iload 6, 2) := by decide +kernel
theorem dL_law_1891 : decode cL_law 1891 = .ok (.ifCond .ne 36, 3) := by decide +kernel
theorem dL_law_1894 : decode cL_law 1894 = .ok (.aload 4, 2) := by decide +kernel
theorem dL_law_1896 : decode cL_law 1896 = .ok (.iconst 0, 1) := by decide +kernel
theorem dL_law_1897 : decode cL_law 1897 = .ok (.daload, 1) := by decide +kernel
theorem dL_law_1898 : decode cL_law 1898 = .ok (.fload 7, 2) := by decide +kernel
theorem dL_law_1900 : decode cL_law 1900 = .ok (.f2d, 1) := by decide +kernel
theorem dL_law_1901 : decode cL_law 1901 = .ok (.dcmp .l, 1) := by decide +kernel
theorem dL_law_1902 : decode cL_law 1902 = .ok (.ifCond .eq 25, 3) := by decide +kernel
theorem dL_law_1927 : decode cL_law 1927 = .ok (.goto 117, 3) := by decide +kernel
theorem dL_law_1930 : decode cL_law 1930 = .ok (.aload_n 1, 1) := by decide +kernel
theorem dL_law_1931 : decode cL_law 1931 = .ok (.invokevirtual 208, 3) := by decide +kernel
theorem dL_law_1934 : decode cL_law 1934 = .ok (.aload_n 2, 1) := by decide +kernel
theorem dL_law_1935 : decode cL_law 1935 = .ok (.invokevirtual 212, 3) := by decide +kernel
theorem dL_law_1938 : decode cL_law 1938 = .ok (.if_icmp .eq 106, 3) := by decide +kernel
theorem dL_law_1943 : decode cL_law 1943 = .ok (.aload_n 1, 1) := by decide +kernel
theorem dL_law_1944 : decode cL_law 1944 = .ok (.aload_n 3, 1) := by decide +kernel
theorem dL_law_1945 : decode cL_law 1945 = .ok (.invokestatic 213, 3) := by decide +kernel
theorem dL_law_1948 : decode cL_law 1948 = .ok (.istore 6, 2) := by decide +kernel
theorem dL_law_1950 : decode cL_law 1950 = .ok (.aload_n 2, 1) := by decide +kernel
theorem dL_law_1951 : decode cL_law 1951 = .ok (.invokevirtual 215, 3) := by decide +kernel
theorem dL_law_1954 : decode cL_law 1954 = .ok (.istore 7, 2) := by decide +kernel
theorem dL_law_1956 : decode cL_law 1956 = .ok (.aload_n 2, 1) := by decide +kernel
theorem dL_law_1957 : decode cL_law 1957 = .ok (.invokevirtual 121, 3) := by decide +kernel
theorem dL_law_1960 : decode cL_law 1960 = .ok (.iload 6, 2) := by decide +kernel
theorem dL_law_1962 : decode cL_law 1962 = .ok (.if_icmp .eq 5, 3) := by decide +kernel
theorem dL_law_1967 : decode cL_law 1967 = .ok (.iload 6, 2) := by decide +kernel
theorem dL_law_1969 : decode cL_law 1969 = .ok (.ifCond .ne 15, 3) := by decide +kernel
theorem dL_law_1972 : decode cL_law 1972 = .ok (.aload_n 3, 1) := by decide +kernel
theorem dL_law_1973 : decode cL_law 1973 = .ok (.iconst 0, 1) := by decide +kernel
theorem dL_law_1974 : decode cL_law 1974 = .ok (.laload, 1) := by decide +kernel
theorem dL_law_1975 : decode cL_law 1975 = .ok (.iload 7, 2) := by decide +kernel
theorem dL_law_1977 : decode cL_law 1977 = .ok (.i2l, 1) := by decide +kernel
theorem dL_law_1978 : decode cL_law 1978 = .ok (.lcmp, 1) := by decide +kernel
theorem dL_law_1979 : decode cL_law 1979 = .ok (.ifCond .eq 5, 3) := by decide +kernel
theorem dL_law_1984 : decode cL_law 1984 = .ok (.goto 60, 3) := by decide +kernel
theorem dL_law_1987 : decode cL_law 1987 = .ok (.aload_n 1, 1) := by decide +kernel
theorem dL_law_1988 : decode cL_law 1988 = .ok (.invokevirtual 216, 3) := by decide +kernel
theorem dL_law_1991 : decode cL_law 1991 = .ok (.aload_n 2, 1) := by decide +kernel
theorem dL_law_1992 : decode cL_law 1992 = .ok (.invokevirtual 219, 3) := by decide +kernel
theorem dL_law_1995 : decode cL_law 1995 = .ok (.if_icmp .eq 49, 3) := by decide +kernel
theorem dL_law_2000 : decode cL_law 2000 = .ok (.aload_n 1, 1) := by decide +kernel
theorem dL_law_2001 : decode cL_law 2001 = .ok (.aload_n 3, 1) := by decide +kernel
theorem dL_law_2002 : decode cL_law 2002 = .ok (.invokestatic 220, 3) := by decide +kernel
theorem dL_law_2005 : decode cL_law 2005 = .ok (.istore 6, 2) := by decide +kernel
theorem dL_law_2007 : decode cL_law 2007 = .ok (.aload_n 2, 1) := by decide +kernel
theorem dL_law_2008 : decode cL_law 2008 = .ok (.invokevirtual 222, 3) := by decide +kernel
theorem dL_law_2011 : decode cL_law 2011 = .ok (.istore 7, 2) := by decide +kernel
theorem dL_law_2013 : decode cL_law 2013 = .ok (.aload_n 2, 1) := by decide +kernel
theorem dL_law_2014 : decode cL_law 2014 = .ok (.invokevirtual 121, 3) := by decide +kernel
theorem dL_law_2017 : decode cL_law 2017 = .ok (.iload 6, 2) := by decide +kernel
theorem dL_law_2019 : decode cL_law 2019 = .ok (.if_icmp .eq 5, 3) := by decide +kernel
theorem dL_law_2024 : decode cL_law 2024 = .ok (.iload 6, 2) := by decide +kernel
theorem dL_law_2026 : decode cL_law 2026 = .ok (.ifCond .ne 15, 3) := by decide +kernel
theorem dL_law_2029 : decode cL_law 2029 = .ok (.aload_n 3, 1) := by decide +kernel
theorem dL_law_2030 : decode cL_law 2030 = .ok (.iconst 0, 1) := by decide +kernel
theorem dL_law_2031 : decode cL_law 2031 = .ok (.laload, 1) := by decide +kernel
theorem dL_law_2032 : decode cL_law 2032 = .ok (.iload 7, 2) := by decide +kernel
theorem dL_law_2034 : decode cL_law 2034 = .ok (.i2l, 1) := by decide +kernel
theorem dL_law_2035 : decode cL_law 2035 = .ok (.lcmp, 1) := by decide +kernel
theorem dL_law_2036 : decode cL_law 2036 = .ok (.ifCond .eq 5, 3) := by decide +kernel
theorem dL_law_2041 : decode cL_law 2041 = .ok (.goto 3, 3) := by decide +kernel
theorem dL_law_2044 : decode cL_law 2044 = .ok (.iinc 5 6, 3) := by decide +kernel
theorem dL_law_2047 : decode cL_law 2047 = .ok (.goto (-2019), 3) := by decide +kernel
theorem dL_law_2050 : decode cL_law 2050 = .ok (.iconst 1, 1) := by decide +kernel
theorem dL_law_2051 : decode cL_law 2051 = .ok (.ireturn, 1) := by decide +kernel
theorem mLRL_115 : Cond.methodLink RL 115 yL_size ∈ az_gw := az_t 585 (by decide +kernel) (by decide +kernel)
theorem knX12_size : az_kn yX12_size cX12_size 4 (some .int) 2 := ⟨az_t 1176 (by decide +kernel) (by decide +kernel), az_t 12 (by decide +kernel) (by decide +kernel), by decide +kernel, by decide +kernel, by decide +kernel⟩
theorem imX12_size : Cond.instanceMethod yX12_size ∈ az_gw := az_t 1174 (by decide +kernel) (by decide +kernel)
theorem seX12_size : Cond.selects RX12 yX12_size yX12_size ∈ az_gw := az_t 1175 (by decide +kernel) (by decide +kernel)
theorem mLRL_120 : Cond.methodLink RL 120 yX12_size ∈ az_gw := az_t 1173 (by decide +kernel) (by decide +kernel)
theorem knX12_thrown : az_kn yX12_thrown cX12_thrown 1 (some .int) 0 := ⟨az_t 1172 (by decide +kernel) (by decide +kernel), az_t 12 (by decide +kernel) (by decide +kernel), by decide +kernel, by decide +kernel, by decide +kernel⟩
theorem imX12_thrown : Cond.instanceMethod yX12_thrown ∈ az_gw := az_t 1170 (by decide +kernel) (by decide +kernel)
theorem seX12_thrown : Cond.selects RX12 yX12_thrown yX12_thrown ∈ az_gw := az_t 1171 (by decide +kernel) (by decide +kernel)
theorem mLRL_121 : Cond.methodLink RL 121 yX12_thrown ∈ az_gw := az_t 1169 (by decide +kernel) (by decide +kernel)
theorem cwL_size : Cond.codeWith yL_size cL_size 5 (some .int) [(0, 10, 13, 13)] ∈ az_gw := az_t 587 (by decide +kernel) (by decide +kernel)
theorem stL_size : Cond.static yL_size ∈ az_gw := az_t 586 (by decide +kernel) (by decide +kernel)
theorem iniRL : Cond.initialized RL ∈ az_gw := az_t 0 (by decide +kernel) (by decide +kernel)
theorem mLRL_124 : Cond.methodLink RL 124 yL_setDemand ∈ az_gw := az_t 669 (by decide +kernel) (by decide +kernel)
theorem knX12_setDemand : az_kn yX12_setDemand cX12_setDemand 6 (some .int) 3 := ⟨az_t 1183 (by decide +kernel) (by decide +kernel), az_t 12 (by decide +kernel) (by decide +kernel), by decide +kernel, by decide +kernel, by decide +kernel⟩
theorem imX12_setDemand : Cond.instanceMethod yX12_setDemand ∈ az_gw := az_t 1181 (by decide +kernel) (by decide +kernel)
theorem seX12_setDemand : Cond.selects RX12 yX12_setDemand yX12_setDemand ∈ az_gw := az_t 1182 (by decide +kernel) (by decide +kernel)
theorem mLRL_127 : Cond.methodLink RL 127 yX12_setDemand ∈ az_gw := az_t 1180 (by decide +kernel) (by decide +kernel)
theorem cwL_setDemand : Cond.codeWith yL_setDemand cL_setDemand 6 (some .int) [(0, 12, 15, 19), (0, 12, 19, 13)] ∈ az_gw := az_t 671 (by decide +kernel) (by decide +kernel)
theorem stL_setDemand : Cond.static yL_setDemand ∈ az_gw := az_t 670 (by decide +kernel) (by decide +kernel)
theorem mLRL_128 : Cond.methodLink RL 128 yL_setReserve ∈ az_gw := az_t 732 (by decide +kernel) (by decide +kernel)
theorem knX12_setReserve : az_kn yX12_setReserve cX12_setReserve 4 (some .int) 2 := ⟨az_t 1200 (by decide +kernel) (by decide +kernel), az_t 12 (by decide +kernel) (by decide +kernel), by decide +kernel, by decide +kernel, by decide +kernel⟩
theorem imX12_setReserve : Cond.instanceMethod yX12_setReserve ∈ az_gw := az_t 1198 (by decide +kernel) (by decide +kernel)
theorem seX12_setReserve : Cond.selects RX12 yX12_setReserve yX12_setReserve ∈ az_gw := az_t 1199 (by decide +kernel) (by decide +kernel)
theorem mLRL_130 : Cond.methodLink RL 130 yX12_setReserve ∈ az_gw := az_t 1197 (by decide +kernel) (by decide +kernel)
theorem cwL_setReserve : Cond.codeWith yL_setReserve cL_setReserve 5 (some .int) [(0, 10, 13, 19), (0, 10, 17, 13)] ∈ az_gw := az_t 734 (by decide +kernel) (by decide +kernel)
theorem stL_setReserve : Cond.static yL_setReserve ∈ az_gw := az_t 733 (by decide +kernel) (by decide +kernel)
theorem mLRL_131 : Cond.methodLink RL 131 yL_setLine ∈ az_gw := az_t 739 (by decide +kernel) (by decide +kernel)
theorem knX12_setLine : az_kn yX12_setLine cX12_setLine 5 (some .int) 3 := ⟨az_t 1204 (by decide +kernel) (by decide +kernel), az_t 12 (by decide +kernel) (by decide +kernel), by decide +kernel, by decide +kernel, by decide +kernel⟩
theorem imX12_setLine : Cond.instanceMethod yX12_setLine ∈ az_gw := az_t 1202 (by decide +kernel) (by decide +kernel)
theorem seX12_setLine : Cond.selects RX12 yX12_setLine yX12_setLine ∈ az_gw := az_t 1203 (by decide +kernel) (by decide +kernel)
theorem mLRL_133 : Cond.methodLink RL 133 yX12_setLine ∈ az_gw := az_t 1201 (by decide +kernel) (by decide +kernel)
theorem cwL_setLine : Cond.codeWith yL_setLine cL_setLine 6 (some .int) [(0, 12, 15, 19), (0, 12, 19, 13)] ∈ az_gw := az_t 741 (by decide +kernel) (by decide +kernel)
theorem stL_setLine : Cond.static yL_setLine ∈ az_gw := az_t 740 (by decide +kernel) (by decide +kernel)
theorem mLRL_134 : Cond.methodLink RL 134 yL_addUnit ∈ az_gw := az_t 746 (by decide +kernel) (by decide +kernel)
theorem knX12_addUnit : az_kn yX12_addUnit cX12_addUnit 9 (some .int) 5 := ⟨az_t 1208 (by decide +kernel) (by decide +kernel), az_t 12 (by decide +kernel) (by decide +kernel), by decide +kernel, by decide +kernel, by decide +kernel⟩
theorem imX12_addUnit : Cond.instanceMethod yX12_addUnit ∈ az_gw := az_t 1206 (by decide +kernel) (by decide +kernel)
theorem seX12_addUnit : Cond.selects RX12 yX12_addUnit yX12_addUnit ∈ az_gw := az_t 1207 (by decide +kernel) (by decide +kernel)
theorem mLRL_137 : Cond.methodLink RL 137 yX12_addUnit ∈ az_gw := az_t 1205 (by decide +kernel) (by decide +kernel)
theorem cwL_addUnit : Cond.codeWith yL_addUnit cL_addUnit 8 (some .int) [(0, 16, 19, 19), (0, 16, 23, 13), (0, 16, 27, 31)] ∈ az_gw := az_t 748 (by decide +kernel) (by decide +kernel)
theorem stL_addUnit : Cond.static yL_addUnit ∈ az_gw := az_t 747 (by decide +kernel) (by decide +kernel)
theorem mLRL_138 : Cond.methodLink RL 138 yL_setUnit ∈ az_gw := az_t 774 (by decide +kernel) (by decide +kernel)
theorem knX12_setUnit : az_kn yX12_setUnit cX12_setUnit 5 (some .int) 3 := ⟨az_t 1216 (by decide +kernel) (by decide +kernel), az_t 12 (by decide +kernel) (by decide +kernel), by decide +kernel, by decide +kernel, by decide +kernel⟩
theorem imX12_setUnit : Cond.instanceMethod yX12_setUnit ∈ az_gw := az_t 1214 (by decide +kernel) (by decide +kernel)
theorem seX12_setUnit : Cond.selects RX12 yX12_setUnit yX12_setUnit ∈ az_gw := az_t 1215 (by decide +kernel) (by decide +kernel)
theorem mLRL_140 : Cond.methodLink RL 140 yX12_setUnit ∈ az_gw := az_t 1213 (by decide +kernel) (by decide +kernel)
theorem cwL_setUnit : Cond.codeWith yL_setUnit cL_setUnit 6 (some .int) [(0, 12, 15, 19), (0, 12, 19, 13)] ∈ az_gw := az_t 776 (by decide +kernel) (by decide +kernel)
theorem stL_setUnit : Cond.static yL_setUnit ∈ az_gw := az_t 775 (by decide +kernel) (by decide +kernel)
theorem mLRL_141 : Cond.methodLink RL 141 yL_unit ∈ az_gw := az_t 788 (by decide +kernel) (by decide +kernel)
theorem knX12_unit : az_kn yX12_unit cX12_unit 5 (some .int) 2 := ⟨az_t 1232 (by decide +kernel) (by decide +kernel), az_t 12 (by decide +kernel) (by decide +kernel), by decide +kernel, by decide +kernel, by decide +kernel⟩
theorem imX12_unit : Cond.instanceMethod yX12_unit ∈ az_gw := az_t 1230 (by decide +kernel) (by decide +kernel)
theorem seX12_unit : Cond.selects RX12 yX12_unit yX12_unit ∈ az_gw := az_t 1231 (by decide +kernel) (by decide +kernel)
theorem mLRL_143 : Cond.methodLink RL 143 yX12_unit ∈ az_gw := az_t 1229 (by decide +kernel) (by decide +kernel)
theorem cwL_unit : Cond.codeWith yL_unit cL_unit 5 (some .int) [(0, 10, 13, 19), (0, 10, 17, 13)] ∈ az_gw := az_t 790 (by decide +kernel) (by decide +kernel)
theorem stL_unit : Cond.static yL_unit ∈ az_gw := az_t 789 (by decide +kernel) (by decide +kernel)
theorem knX12_commit : az_kn yX12_commit cX12_commit 8 (some .int) 4 := ⟨az_t 1313 (by decide +kernel) (by decide +kernel), az_t 12 (by decide +kernel) (by decide +kernel), by decide +kernel, by decide +kernel, by decide +kernel⟩
theorem imX12_commit : Cond.instanceMethod yX12_commit ∈ az_gw := az_t 1311 (by decide +kernel) (by decide +kernel)
theorem seX12_commit : Cond.selects RX12 yX12_commit yX12_commit ∈ az_gw := az_t 1312 (by decide +kernel) (by decide +kernel)
theorem mLRL_147 : Cond.methodLink RL 147 yX12_commit ∈ az_gw := az_t 1310 (by decide +kernel) (by decide +kernel)
theorem mLRL_144 : Cond.methodLink RL 144 yL_commit ∈ az_gw := az_t 799 (by decide +kernel) (by decide +kernel)
theorem cwL_commit : Cond.codeWith yL_commit cL_commit 7 (some .int) [(0, 14, 17, 19), (0, 14, 21, 13)] ∈ az_gw := az_t 801 (by decide +kernel) (by decide +kernel)
theorem stL_commit : Cond.static yL_commit ∈ az_gw := az_t 800 (by decide +kernel) (by decide +kernel)
theorem mLRL_148 : Cond.methodLink RL 148 yL_addOutage ∈ az_gw := az_t 807 (by decide +kernel) (by decide +kernel)
theorem knX12_addOutage : az_kn yX12_addOutage cX12_addOutage 5 (some .int) 3 := ⟨az_t 1317 (by decide +kernel) (by decide +kernel), az_t 12 (by decide +kernel) (by decide +kernel), by decide +kernel, by decide +kernel, by decide +kernel⟩
theorem imX12_addOutage : Cond.instanceMethod yX12_addOutage ∈ az_gw := az_t 1315 (by decide +kernel) (by decide +kernel)
theorem seX12_addOutage : Cond.selects RX12 yX12_addOutage yX12_addOutage ∈ az_gw := az_t 1316 (by decide +kernel) (by decide +kernel)
theorem mLRL_150 : Cond.methodLink RL 150 yX12_addOutage ∈ az_gw := az_t 1314 (by decide +kernel) (by decide +kernel)
theorem cwL_addOutage : Cond.codeWith yL_addOutage cL_addOutage 6 (some .int) [(0, 12, 15, 19), (0, 12, 19, 13), (0, 12, 23, 31)] ∈ az_gw := az_t 809 (by decide +kernel) (by decide +kernel)
theorem stL_addOutage : Cond.static yL_addOutage ∈ az_gw := az_t 808 (by decide +kernel) (by decide +kernel)
theorem mLRL_151 : Cond.methodLink RL 151 yL_removeOutage ∈ az_gw := az_t 814 (by decide +kernel) (by decide +kernel)
theorem knX12_removeOutage : az_kn yX12_removeOutage cX12_removeOutage 2 (some .int) 1 := ⟨az_t 1321 (by decide +kernel) (by decide +kernel), az_t 12 (by decide +kernel) (by decide +kernel), by decide +kernel, by decide +kernel, by decide +kernel⟩
theorem imX12_removeOutage : Cond.instanceMethod yX12_removeOutage ∈ az_gw := az_t 1319 (by decide +kernel) (by decide +kernel)
theorem seX12_removeOutage : Cond.selects RX12 yX12_removeOutage yX12_removeOutage ∈ az_gw := az_t 1320 (by decide +kernel) (by decide +kernel)
theorem mLRL_154 : Cond.methodLink RL 154 yX12_removeOutage ∈ az_gw := az_t 1318 (by decide +kernel) (by decide +kernel)
theorem cwL_removeOutage : Cond.codeWith yL_removeOutage cL_removeOutage 4 (some .int) [(0, 9, 12, 19)] ∈ az_gw := az_t 816 (by decide +kernel) (by decide +kernel)
theorem stL_removeOutage : Cond.static yL_removeOutage ∈ az_gw := az_t 815 (by decide +kernel) (by decide +kernel)
theorem mLRL_155 : Cond.methodLink RL 155 yL_setPolicy ∈ az_gw := az_t 826 (by decide +kernel) (by decide +kernel)
theorem knX12_setPolicy : az_kn yX12_setPolicy cX12_setPolicy 3 (some .int) 1 := ⟨az_t 1329 (by decide +kernel) (by decide +kernel), az_t 12 (by decide +kernel) (by decide +kernel), by decide +kernel, by decide +kernel, by decide +kernel⟩
theorem imX12_setPolicy : Cond.instanceMethod yX12_setPolicy ∈ az_gw := az_t 1327 (by decide +kernel) (by decide +kernel)
theorem seX12_setPolicy : Cond.selects RX12 yX12_setPolicy yX12_setPolicy ∈ az_gw := az_t 1328 (by decide +kernel) (by decide +kernel)
theorem mLRL_157 : Cond.methodLink RL 157 yX12_setPolicy ∈ az_gw := az_t 1326 (by decide +kernel) (by decide +kernel)
theorem cwL_setPolicy : Cond.codeWith yL_setPolicy cL_setPolicy 4 (some .int) [(0, 9, 12, 13)] ∈ az_gw := az_t 828 (by decide +kernel) (by decide +kernel)
theorem stL_setPolicy : Cond.static yL_setPolicy ∈ az_gw := az_t 827 (by decide +kernel) (by decide +kernel)
theorem mLRL_158 : Cond.methodLink RL 158 yL_outage ∈ az_gw := az_t 833 (by decide +kernel) (by decide +kernel)
theorem knX12_outage : az_kn yX12_outage cX12_outage 3 (some .int) 2 := ⟨az_t 1333 (by decide +kernel) (by decide +kernel), az_t 12 (by decide +kernel) (by decide +kernel), by decide +kernel, by decide +kernel, by decide +kernel⟩
theorem imX12_outage : Cond.instanceMethod yX12_outage ∈ az_gw := az_t 1331 (by decide +kernel) (by decide +kernel)
theorem seX12_outage : Cond.selects RX12 yX12_outage yX12_outage ∈ az_gw := az_t 1332 (by decide +kernel) (by decide +kernel)
theorem mLRL_160 : Cond.methodLink RL 160 yX12_outage ∈ az_gw := az_t 1330 (by decide +kernel) (by decide +kernel)
theorem cwL_outage : Cond.codeWith yL_outage cL_outage 5 (some .int) [(0, 10, 13, 19), (0, 10, 17, 13)] ∈ az_gw := az_t 835 (by decide +kernel) (by decide +kernel)
theorem stL_outage : Cond.static yL_outage ∈ az_gw := az_t 834 (by decide +kernel) (by decide +kernel)
theorem knX11_planByMerit : az_kn yX11_planByMerit cX11_planByMerit 1 (some .int) 0 := ⟨az_t 396 (by decide +kernel) (by decide +kernel), az_t 1 (by decide +kernel) (by decide +kernel), by decide +kernel, by decide +kernel, by decide +kernel⟩
theorem imX11_planByMerit : Cond.instanceMethod yX11_planByMerit ∈ az_gw := az_t 394 (by decide +kernel) (by decide +kernel)
theorem seX11_planByMerit : Cond.selects RX11 yX11_planByMerit yX11_planByMerit ∈ az_gw := az_t 395 (by decide +kernel) (by decide +kernel)
theorem mLRL_161 : Cond.methodLink RL 161 yX11_planByMerit ∈ az_gw := az_t 393 (by decide +kernel) (by decide +kernel)
theorem knX12_planByMerit : az_kn yX12_planByMerit cX12_planByMerit 4 (some .int) 0 := ⟨az_t 1349 (by decide +kernel) (by decide +kernel), az_t 12 (by decide +kernel) (by decide +kernel), by decide +kernel, by decide +kernel, by decide +kernel⟩
theorem imX12_planByMerit : Cond.instanceMethod yX12_planByMerit ∈ az_gw := az_t 1347 (by decide +kernel) (by decide +kernel)
theorem seX12_planByMerit : Cond.selects RX12 yX12_planByMerit yX12_planByMerit ∈ az_gw := az_t 1348 (by decide +kernel) (by decide +kernel)
theorem mLRL_164 : Cond.methodLink RL 164 yX12_planByMerit ∈ az_gw := az_t 1346 (by decide +kernel) (by decide +kernel)
theorem mLRL_165 : Cond.methodLink RL 165 yL_search ∈ az_gw := az_t 840 (by decide +kernel) (by decide +kernel)
theorem knX12_search : az_kn yX12_search cX12_search 6 (some .int) 0 := ⟨az_t 1369 (by decide +kernel) (by decide +kernel), az_t 12 (by decide +kernel) (by decide +kernel), by decide +kernel, by decide +kernel, by decide +kernel⟩
theorem imX12_search : Cond.instanceMethod yX12_search ∈ az_gw := az_t 1367 (by decide +kernel) (by decide +kernel)
theorem seX12_search : Cond.selects RX12 yX12_search yX12_search ∈ az_gw := az_t 1368 (by decide +kernel) (by decide +kernel)
theorem mLRL_168 : Cond.methodLink RL 168 yX12_search ∈ az_gw := az_t 1366 (by decide +kernel) (by decide +kernel)
theorem cwL_search : Cond.codeWith yL_search cL_search 3 (some .int) [(0, 8, 11, 60), (0, 8, 14, 31)] ∈ az_gw := az_t 842 (by decide +kernel) (by decide +kernel)
theorem stL_search : Cond.static yL_search ∈ az_gw := az_t 841 (by decide +kernel) (by decide +kernel)
theorem mLRL_169 : Cond.methodLink RL 169 yL_append ∈ az_gw := az_t 893 (by decide +kernel) (by decide +kernel)
theorem knX12_append : az_kn yX12_append cX12_append 2 (some .int) 1 := ⟨az_t 1401 (by decide +kernel) (by decide +kernel), az_t 12 (by decide +kernel) (by decide +kernel), by decide +kernel, by decide +kernel, by decide +kernel⟩
theorem imX12_append : Cond.instanceMethod yX12_append ∈ az_gw := az_t 1399 (by decide +kernel) (by decide +kernel)
theorem seX12_append : Cond.selects RX12 yX12_append yX12_append ∈ az_gw := az_t 1400 (by decide +kernel) (by decide +kernel)
theorem mLRL_172 : Cond.methodLink RL 172 yX12_append ∈ az_gw := az_t 1398 (by decide +kernel) (by decide +kernel)
theorem cwL_append : Cond.codeWith yL_append cL_append 4 (some .int) [(0, 9, 12, 13), (0, 9, 15, 31)] ∈ az_gw := az_t 895 (by decide +kernel) (by decide +kernel)
theorem stL_append : Cond.static yL_append ∈ az_gw := az_t 894 (by decide +kernel) (by decide +kernel)
theorem mLRL_173 : Cond.methodLink RL 173 yL_readPlan ∈ az_gw := az_t 904 (by decide +kernel) (by decide +kernel)
theorem knX12_readPlan : az_kn yX12_readPlan cX12_readPlan 2 (some .int) 0 := ⟨az_t 1405 (by decide +kernel) (by decide +kernel), az_t 12 (by decide +kernel) (by decide +kernel), by decide +kernel, by decide +kernel, by decide +kernel⟩
theorem imX12_readPlan : Cond.instanceMethod yX12_readPlan ∈ az_gw := az_t 1403 (by decide +kernel) (by decide +kernel)
theorem seX12_readPlan : Cond.selects RX12 yX12_readPlan yX12_readPlan ∈ az_gw := az_t 1404 (by decide +kernel) (by decide +kernel)
theorem mLRL_175 : Cond.methodLink RL 175 yX12_readPlan ∈ az_gw := az_t 1402 (by decide +kernel) (by decide +kernel)
theorem cwL_readPlan : Cond.codeWith yL_readPlan cL_readPlan 3 (some .int) [(0, 8, 11, 13), (0, 8, 14, 60)] ∈ az_gw := az_t 906 (by decide +kernel) (by decide +kernel)
theorem stL_readPlan : Cond.static yL_readPlan ∈ az_gw := az_t 905 (by decide +kernel) (by decide +kernel)
theorem mLRL_176 : Cond.methodLink RL 176 yL_errorPosition ∈ az_gw := az_t 931 (by decide +kernel) (by decide +kernel)
theorem knX12_errorPosition : az_kn yX12_errorPosition cX12_errorPosition 1 (some .int) 0 := ⟨az_t 1417 (by decide +kernel) (by decide +kernel), az_t 12 (by decide +kernel) (by decide +kernel), by decide +kernel, by decide +kernel, by decide +kernel⟩
theorem imX12_errorPosition : Cond.instanceMethod yX12_errorPosition ∈ az_gw := az_t 1415 (by decide +kernel) (by decide +kernel)
theorem seX12_errorPosition : Cond.selects RX12 yX12_errorPosition yX12_errorPosition ∈ az_gw := az_t 1416 (by decide +kernel) (by decide +kernel)
theorem mLRL_178 : Cond.methodLink RL 178 yX12_errorPosition ∈ az_gw := az_t 1414 (by decide +kernel) (by decide +kernel)
theorem cwL_errorPosition : Cond.codeWith yL_errorPosition cL_errorPosition 3 (some .int) [(0, 8, 11, 72)] ∈ az_gw := az_t 933 (by decide +kernel) (by decide +kernel)
theorem stL_errorPosition : Cond.static yL_errorPosition ∈ az_gw := az_t 932 (by decide +kernel) (by decide +kernel)
theorem mLRL_179 : Cond.methodLink RL 179 yL_output ∈ az_gw := az_t 954 (by decide +kernel) (by decide +kernel)
theorem knX12_output : az_kn yX12_output cX12_output 5 (some .int) 3 := ⟨az_t 1421 (by decide +kernel) (by decide +kernel), az_t 12 (by decide +kernel) (by decide +kernel), by decide +kernel, by decide +kernel, by decide +kernel⟩
theorem imX12_output : Cond.instanceMethod yX12_output ∈ az_gw := az_t 1419 (by decide +kernel) (by decide +kernel)
theorem seX12_output : Cond.selects RX12 yX12_output yX12_output ∈ az_gw := az_t 1420 (by decide +kernel) (by decide +kernel)
theorem mLRL_181 : Cond.methodLink RL 181 yX12_output ∈ az_gw := az_t 1418 (by decide +kernel) (by decide +kernel)
theorem cwL_output : Cond.codeWith yL_output cL_output 6 (some .int) [(0, 12, 15, 19), (0, 12, 19, 13)] ∈ az_gw := az_t 956 (by decide +kernel) (by decide +kernel)
theorem stL_output : Cond.static yL_output ∈ az_gw := az_t 955 (by decide +kernel) (by decide +kernel)
theorem mLRL_182 : Cond.methodLink RL 182 yL_delivered ∈ az_gw := az_t 961 (by decide +kernel) (by decide +kernel)
theorem knX12_delivered : az_kn yX12_delivered cX12_delivered 4 (some .int) 3 := ⟨az_t 1425 (by decide +kernel) (by decide +kernel), az_t 12 (by decide +kernel) (by decide +kernel), by decide +kernel, by decide +kernel, by decide +kernel⟩
theorem imX12_delivered : Cond.instanceMethod yX12_delivered ∈ az_gw := az_t 1423 (by decide +kernel) (by decide +kernel)
theorem seX12_delivered : Cond.selects RX12 yX12_delivered yX12_delivered ∈ az_gw := az_t 1424 (by decide +kernel) (by decide +kernel)
theorem mLRL_184 : Cond.methodLink RL 184 yX12_delivered ∈ az_gw := az_t 1422 (by decide +kernel) (by decide +kernel)
theorem cwL_delivered : Cond.codeWith yL_delivered cL_delivered 6 (some .int) [(0, 12, 15, 19)] ∈ az_gw := az_t 963 (by decide +kernel) (by decide +kernel)
theorem stL_delivered : Cond.static yL_delivered ∈ az_gw := az_t 962 (by decide +kernel) (by decide +kernel)
theorem mLRL_185 : Cond.methodLink RL 185 yL_bus ∈ az_gw := az_t 968 (by decide +kernel) (by decide +kernel)
theorem knX12_bus : az_kn yX12_bus cX12_bus 4 (some .int) 3 := ⟨az_t 1429 (by decide +kernel) (by decide +kernel), az_t 12 (by decide +kernel) (by decide +kernel), by decide +kernel, by decide +kernel, by decide +kernel⟩
theorem imX12_bus : Cond.instanceMethod yX12_bus ∈ az_gw := az_t 1427 (by decide +kernel) (by decide +kernel)
theorem seX12_bus : Cond.selects RX12 yX12_bus yX12_bus ∈ az_gw := az_t 1428 (by decide +kernel) (by decide +kernel)
theorem mLRL_187 : Cond.methodLink RL 187 yX12_bus ∈ az_gw := az_t 1426 (by decide +kernel) (by decide +kernel)
theorem cwL_bus : Cond.codeWith yL_bus cL_bus 6 (some .int) [(0, 12, 15, 19), (0, 12, 19, 13)] ∈ az_gw := az_t 970 (by decide +kernel) (by decide +kernel)
theorem stL_bus : Cond.static yL_bus ∈ az_gw := az_t 969 (by decide +kernel) (by decide +kernel)
theorem mLRL_188 : Cond.methodLink RL 188 yL_hour ∈ az_gw := az_t 975 (by decide +kernel) (by decide +kernel)
theorem knX12_hour : az_kn yX12_hour cX12_hour 3 (some .int) 2 := ⟨az_t 1433 (by decide +kernel) (by decide +kernel), az_t 12 (by decide +kernel) (by decide +kernel), by decide +kernel, by decide +kernel, by decide +kernel⟩
theorem imX12_hour : Cond.instanceMethod yX12_hour ∈ az_gw := az_t 1431 (by decide +kernel) (by decide +kernel)
theorem seX12_hour : Cond.selects RX12 yX12_hour yX12_hour ∈ az_gw := az_t 1432 (by decide +kernel) (by decide +kernel)
theorem mLRL_190 : Cond.methodLink RL 190 yX12_hour ∈ az_gw := az_t 1430 (by decide +kernel) (by decide +kernel)
theorem cwL_hour : Cond.codeWith yL_hour cL_hour 5 (some .int) [(0, 10, 13, 19), (0, 10, 17, 13)] ∈ az_gw := az_t 977 (by decide +kernel) (by decide +kernel)
theorem stL_hour : Cond.static yL_hour ∈ az_gw := az_t 976 (by decide +kernel) (by decide +kernel)
theorem mLRL_191 : Cond.methodLink RL 191 yL_total ∈ az_gw := az_t 982 (by decide +kernel) (by decide +kernel)
theorem knX12_total : az_kn yX12_total cX12_total 2 (some .int) 1 := ⟨az_t 1441 (by decide +kernel) (by decide +kernel), az_t 12 (by decide +kernel) (by decide +kernel), by decide +kernel, by decide +kernel, by decide +kernel⟩
theorem imX12_total : Cond.instanceMethod yX12_total ∈ az_gw := az_t 1439 (by decide +kernel) (by decide +kernel)
theorem seX12_total : Cond.selects RX12 yX12_total yX12_total ∈ az_gw := az_t 1440 (by decide +kernel) (by decide +kernel)
theorem mLRL_193 : Cond.methodLink RL 193 yX12_total ∈ az_gw := az_t 1438 (by decide +kernel) (by decide +kernel)
theorem cwL_total : Cond.codeWith yL_total cL_total 4 (some .int) [(0, 9, 12, 13)] ∈ az_gw := az_t 984 (by decide +kernel) (by decide +kernel)
theorem stL_total : Cond.static yL_total ∈ az_gw := az_t 983 (by decide +kernel) (by decide +kernel)
theorem mLRL_194 : Cond.methodLink RL 194 yL_violationCount ∈ az_gw := az_t 993 (by decide +kernel) (by decide +kernel)
theorem knX12_violationCount : az_kn yX12_violationCount cX12_violationCount 2 (some .int) 1 := ⟨az_t 1337 (by decide +kernel) (by decide +kernel), az_t 12 (by decide +kernel) (by decide +kernel), by decide +kernel, by decide +kernel, by decide +kernel⟩
theorem imX12_violationCount : Cond.instanceMethod yX12_violationCount ∈ az_gw := az_t 1335 (by decide +kernel) (by decide +kernel)
theorem seX12_violationCount : Cond.selects RX12 yX12_violationCount yX12_violationCount ∈ az_gw := az_t 1336 (by decide +kernel) (by decide +kernel)
theorem mLRL_196 : Cond.methodLink RL 196 yX12_violationCount ∈ az_gw := az_t 1334 (by decide +kernel) (by decide +kernel)
theorem cwL_violationCount : Cond.codeWith yL_violationCount cL_violationCount 4 (some .int) [(0, 9, 12, 13)] ∈ az_gw := az_t 995 (by decide +kernel) (by decide +kernel)
theorem stL_violationCount : Cond.static yL_violationCount ∈ az_gw := az_t 994 (by decide +kernel) (by decide +kernel)
theorem mLRL_197 : Cond.methodLink RL 197 yL_violation ∈ az_gw := az_t 1000 (by decide +kernel) (by decide +kernel)
theorem knX12_violation : az_kn yX12_violation cX12_violation 3 (some .int) 2 := ⟨az_t 1345 (by decide +kernel) (by decide +kernel), az_t 12 (by decide +kernel) (by decide +kernel), by decide +kernel, by decide +kernel, by decide +kernel⟩
theorem imX12_violation : Cond.instanceMethod yX12_violation ∈ az_gw := az_t 1343 (by decide +kernel) (by decide +kernel)
theorem seX12_violation : Cond.selects RX12 yX12_violation yX12_violation ∈ az_gw := az_t 1344 (by decide +kernel) (by decide +kernel)
theorem mLRL_199 : Cond.methodLink RL 199 yX12_violation ∈ az_gw := az_t 1342 (by decide +kernel) (by decide +kernel)
theorem cwL_violation : Cond.codeWith yL_violation cL_violation 5 (some .int) [(0, 10, 13, 72), (0, 10, 17, 13)] ∈ az_gw := az_t 1002 (by decide +kernel) (by decide +kernel)
theorem stL_violation : Cond.static yL_violation ∈ az_gw := az_t 1001 (by decide +kernel) (by decide +kernel)
theorem mLRL_200 : Cond.methodLink RL 200 yL_meanCost ∈ az_gw := az_t 1007 (by decide +kernel) (by decide +kernel)
theorem knX12_meanCost : az_kn yX12_meanCost cX12_meanCost 4 (some .double) 0 := ⟨az_t 1457 (by decide +kernel) (by decide +kernel), az_t 12 (by decide +kernel) (by decide +kernel), by decide +kernel, by decide +kernel, by decide +kernel⟩
theorem imX12_meanCost : Cond.instanceMethod yX12_meanCost ∈ az_gw := az_t 1455 (by decide +kernel) (by decide +kernel)
theorem seX12_meanCost : Cond.selects RX12 yX12_meanCost yX12_meanCost ∈ az_gw := az_t 1456 (by decide +kernel) (by decide +kernel)
theorem mLRL_203 : Cond.methodLink RL 203 yX12_meanCost ∈ az_gw := az_t 1454 (by decide +kernel) (by decide +kernel)
theorem cwL_meanCost : Cond.codeWith yL_meanCost cL_meanCost 3 (some .int) [(0, 7, 10, 99)] ∈ az_gw := az_t 1009 (by decide +kernel) (by decide +kernel)
theorem stL_meanCost : Cond.static yL_meanCost ∈ az_gw := az_t 1008 (by decide +kernel) (by decide +kernel)
theorem mLRL_204 : Cond.methodLink RL 204 yL_load ∈ az_gw := az_t 1033 (by decide +kernel) (by decide +kernel)
theorem knX12_load : az_kn yX12_load cX12_load 5 (some .float) 1 := ⟨az_t 1465 (by decide +kernel) (by decide +kernel), az_t 12 (by decide +kernel) (by decide +kernel), by decide +kernel, by decide +kernel, by decide +kernel⟩
theorem imX12_load : Cond.instanceMethod yX12_load ∈ az_gw := az_t 1463 (by decide +kernel) (by decide +kernel)
theorem seX12_load : Cond.selects RX12 yX12_load yX12_load ∈ az_gw := az_t 1464 (by decide +kernel) (by decide +kernel)
theorem mLRL_207 : Cond.methodLink RL 207 yX12_load ∈ az_gw := az_t 1462 (by decide +kernel) (by decide +kernel)
theorem cwL_load : Cond.codeWith yL_load cL_load 4 (some .int) [(0, 9, 12, 19), (0, 9, 15, 99)] ∈ az_gw := az_t 1035 (by decide +kernel) (by decide +kernel)
theorem stL_load : Cond.static yL_load ∈ az_gw := az_t 1034 (by decide +kernel) (by decide +kernel)
theorem knX11_isConsistent : az_kn yX11_isConsistent cX11_isConsistent 2 (some .boolean) 0 := ⟨az_t 483 (by decide +kernel) (by decide +kernel), az_t 1 (by decide +kernel) (by decide +kernel), by decide +kernel, by decide +kernel, by decide +kernel⟩
theorem imX11_isConsistent : Cond.instanceMethod yX11_isConsistent ∈ az_gw := az_t 481 (by decide +kernel) (by decide +kernel)
theorem seX11_isConsistent : Cond.selects RX11 yX11_isConsistent yX11_isConsistent ∈ az_gw := az_t 482 (by decide +kernel) (by decide +kernel)
theorem mLRL_208 : Cond.methodLink RL 208 yX11_isConsistent ∈ az_gw := az_t 480 (by decide +kernel) (by decide +kernel)
theorem knX12_isConsistent : az_kn yX12_isConsistent cX12_isConsistent 3 (some .boolean) 0 := ⟨az_t 1469 (by decide +kernel) (by decide +kernel), az_t 12 (by decide +kernel) (by decide +kernel), by decide +kernel, by decide +kernel, by decide +kernel⟩
theorem imX12_isConsistent : Cond.instanceMethod yX12_isConsistent ∈ az_gw := az_t 1467 (by decide +kernel) (by decide +kernel)
theorem seX12_isConsistent : Cond.selects RX12 yX12_isConsistent yX12_isConsistent ∈ az_gw := az_t 1468 (by decide +kernel) (by decide +kernel)
theorem mLRL_212 : Cond.methodLink RL 212 yX12_isConsistent ∈ az_gw := az_t 1466 (by decide +kernel) (by decide +kernel)
theorem mLRL_213 : Cond.methodLink RL 213 yL_undo ∈ az_gw := az_t 1040 (by decide +kernel) (by decide +kernel)
theorem knX12_undo : az_kn yX12_undo cX12_undo 1 (some .int) 0 := ⟨az_t 1485 (by decide +kernel) (by decide +kernel), az_t 12 (by decide +kernel) (by decide +kernel), by decide +kernel, by decide +kernel, by decide +kernel⟩
theorem imX12_undo : Cond.instanceMethod yX12_undo ∈ az_gw := az_t 1483 (by decide +kernel) (by decide +kernel)
theorem seX12_undo : Cond.selects RX12 yX12_undo yX12_undo ∈ az_gw := az_t 1484 (by decide +kernel) (by decide +kernel)
theorem mLRL_215 : Cond.methodLink RL 215 yX12_undo ∈ az_gw := az_t 1482 (by decide +kernel) (by decide +kernel)
theorem cwL_undo : Cond.codeWith yL_undo cL_undo 3 (some .int) [(0, 8, 11, 31)] ∈ az_gw := az_t 1042 (by decide +kernel) (by decide +kernel)
theorem stL_undo : Cond.static yL_undo ∈ az_gw := az_t 1041 (by decide +kernel) (by decide +kernel)
theorem knX11_snapshot : az_kn yX11_snapshot cX11_snapshot 1 (some .int) 0 := ⟨az_t 583 (by decide +kernel) (by decide +kernel), az_t 1 (by decide +kernel) (by decide +kernel), by decide +kernel, by decide +kernel, by decide +kernel⟩
theorem imX11_snapshot : Cond.instanceMethod yX11_snapshot ∈ az_gw := az_t 581 (by decide +kernel) (by decide +kernel)
theorem seX11_snapshot : Cond.selects RX11 yX11_snapshot yX11_snapshot ∈ az_gw := az_t 582 (by decide +kernel) (by decide +kernel)
theorem mLRL_216 : Cond.methodLink RL 216 yX11_snapshot ∈ az_gw := az_t 580 (by decide +kernel) (by decide +kernel)
theorem knX12_snapshot : az_kn yX12_snapshot cX12_snapshot 1 (some .int) 0 := ⟨az_t 1489 (by decide +kernel) (by decide +kernel), az_t 12 (by decide +kernel) (by decide +kernel), by decide +kernel, by decide +kernel, by decide +kernel⟩
theorem imX12_snapshot : Cond.instanceMethod yX12_snapshot ∈ az_gw := az_t 1487 (by decide +kernel) (by decide +kernel)
theorem seX12_snapshot : Cond.selects RX12 yX12_snapshot yX12_snapshot ∈ az_gw := az_t 1488 (by decide +kernel) (by decide +kernel)
theorem mLRL_219 : Cond.methodLink RL 219 yX12_snapshot ∈ az_gw := az_t 1486 (by decide +kernel) (by decide +kernel)
theorem mLRL_220 : Cond.methodLink RL 220 yL_restore ∈ az_gw := az_t 1051 (by decide +kernel) (by decide +kernel)
theorem knX12_restore : az_kn yX12_restore cX12_restore 1 (some .int) 0 := ⟨az_t 1493 (by decide +kernel) (by decide +kernel), az_t 12 (by decide +kernel) (by decide +kernel), by decide +kernel, by decide +kernel, by decide +kernel⟩
theorem imX12_restore : Cond.instanceMethod yX12_restore ∈ az_gw := az_t 1491 (by decide +kernel) (by decide +kernel)
theorem seX12_restore : Cond.selects RX12 yX12_restore yX12_restore ∈ az_gw := az_t 1492 (by decide +kernel) (by decide +kernel)
theorem mLRL_222 : Cond.methodLink RL 222 yX12_restore ∈ az_gw := az_t 1490 (by decide +kernel) (by decide +kernel)
theorem cwL_restore : Cond.codeWith yL_restore cL_restore 3 (some .int) [(0, 8, 11, 31)] ∈ az_gw := az_t 1053 (by decide +kernel) (by decide +kernel)
theorem stL_restore : Cond.static yL_restore ∈ az_gw := az_t 1052 (by decide +kernel) (by decide +kernel)
theorem knX11_init : az_kn yX11_init cX11_init 1 none 0 := ⟨az_t 32 (by decide +kernel) (by decide +kernel), az_t 1 (by decide +kernel) (by decide +kernel), by decide +kernel, by decide +kernel, by decide +kernel⟩
theorem imX11_init : Cond.instanceMethod yX11_init ∈ az_gw := az_t 31 (by decide +kernel) (by decide +kernel)
theorem mLRL_111 : Cond.methodLink RL 111 yX11_init ∈ az_gw := az_t 30 (by decide +kernel) (by decide +kernel)
theorem knX12_init : az_kn yX12_init cX12_init 1 none 0 := ⟨az_t 1062 (by decide +kernel) (by decide +kernel), az_t 12 (by decide +kernel) (by decide +kernel), by decide +kernel, by decide +kernel, by decide +kernel⟩
theorem imX12_init : Cond.instanceMethod yX12_init ∈ az_gw := az_t 1061 (by decide +kernel) (by decide +kernel)
theorem mLRL_114 : Cond.methodLink RL 114 yX12_init ∈ az_gw := az_t 1060 (by decide +kernel) (by decide +kernel)
theorem acl_double : Cond.arrayClass .double ∈ az_gw := az_t 1495 (by decide +kernel) (by decide +kernel)
theorem acl_long : Cond.arrayClass .long ∈ az_gw := az_t 1494 (by decide +kernel) (by decide +kernel)
theorem ckRL_112 : Cond.classLink RL 112 RX12 ∈ az_gw := az_t 1058 (by decide +kernel) (by decide +kernel)
theorem cinRX12 : Cond.instantiable RX12 33 ∈ az_gw := az_t 1059 (by decide +kernel) (by decide +kernel)
theorem ciniRX12 : Cond.initialized RX12 ∈ az_gw := az_t 12 (by decide +kernel) (by decide +kernel)
theorem ckRL_8 : Cond.classLink RL 8 RX11 ∈ az_gw := az_t 28 (by decide +kernel) (by decide +kernel)
theorem cinRX11 : Cond.instantiable RX11 10 ∈ az_gw := az_t 29 (by decide +kernel) (by decide +kernel)
theorem ciniRX11 : Cond.initialized RX11 ∈ az_gw := az_t 1 (by decide +kernel) (by decide +kernel)
theorem gwRJ0 : ∀ w ∈ u_ws RJ0 TJ0 2, w ∈ az_gw := az_cls [701, 703] (by decide +kernel) (by decide +kernel)
theorem cinRJ0 : Cond.instantiable RJ0 4 ∈ az_gw := az_t 699 (by decide +kernel) (by decide +kernel)
theorem gwRJx00060 : ∀ w ∈ u_ws RJx00060 TJx00060 6, w ∈ az_gw := az_cls [688, 689, 690, 691, 692, 693] (by decide +kernel) (by decide +kernel)
theorem cinRJx00060 : Cond.instantiable RJx00060 6 ∈ az_gw := az_t 673 (by decide +kernel) (by decide +kernel)
