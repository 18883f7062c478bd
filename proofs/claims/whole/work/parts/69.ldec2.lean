theorem d_law_1097 : decode code 1097 = .ok (.aload_n 3, 1) := by decide +kernel
theorem d_law_1098 : decode code 1098 = .ok (.invokestatic 144, 3) := by decide +kernel
theorem d_law_1101 : decode code 1101 = .ok (.istore 5, 2) := by decide +kernel
theorem d_law_1103 : decode code 1103 = .ok (.aload_n 2, 1) := by decide +kernel
theorem d_law_1104 : decode code 1104 = .ok (.aload_n 0, 1) := by decide +kernel
theorem d_law_1105 : decode code 1105 = .ok (.iload 4, 2) := by decide +kernel
theorem d_law_1107 : decode code 1107 = .ok (.iconst 1, 1) := by decide +kernel
theorem d_law_1108 : decode code 1108 = .ok (.iadd, 1) := by decide +kernel
theorem d_law_1109 : decode code 1109 = .ok (.iaload, 1) := by decide +kernel
theorem d_law_1110 : decode code 1110 = .ok (.invokevirtual 146, 3) := by decide +kernel
theorem d_law_1113 : decode code 1113 = .ok (.istore 6, 2) := by decide +kernel
theorem d_law_1115 : decode code 1115 = .ok (.aload_n 2, 1) := by decide +kernel
theorem d_law_1116 : decode code 1116 = .ok (.invokevirtual 100, 3) := by decide +kernel
theorem d_law_1119 : decode code 1119 = .ok (.iload 5, 2) := by decide +kernel
theorem d_law_1121 : decode code 1121 = .ok (.if_icmp .eq 5, 3) := by decide +kernel
theorem d_law_1124 : decode code 1124 = .ok (.iconst 0, 1) := by decide +kernel
theorem d_law_1125 : decode code 1125 = .ok (.ireturn, 1) := by decide +kernel
theorem d_law_1126 : decode code 1126 = .ok (.iload 5, 2) := by decide +kernel
theorem d_law_1128 : decode code 1128 = .ok (.ifCond .ne 15, 3) := by decide +kernel
theorem d_law_1131 : decode code 1131 = .ok (.aload_n 3, 1) := by decide +kernel
theorem d_law_1132 : decode code 1132 = .ok (.iconst 0, 1) := by decide +kernel
theorem d_law_1133 : decode code 1133 = .ok (.laload, 1) := by decide +kernel
theorem d_law_1134 : decode code 1134 = .ok (.iload 6, 2) := by decide +kernel
theorem d_law_1136 : decode code 1136 = .ok (.i2l, 1) := by decide +kernel
theorem d_law_1137 : decode code 1137 = .ok (.lcmp, 1) := by decide +kernel
theorem d_law_1138 : decode code 1138 = .ok (.ifCond .eq 5, 3) := by decide +kernel
theorem d_law_1141 : decode code 1141 = .ok (.iconst 0, 1) := by decide +kernel
theorem d_law_1142 : decode code 1142 = .ok (.ireturn, 1) := by decide +kernel
theorem d_law_1143 : decode code 1143 = .ok (.goto 486, 3) := by decide +kernel
theorem d_law_1146 : decode code 1146 = .ok (.aload_n 1, 1) := by decide +kernel
theorem d_law_1147 : decode code 1147 = .ok (.aload_n 0, 1) := by decide +kernel
theorem d_law_1148 : decode code 1148 = .ok (.iload 4, 2) := by decide +kernel
theorem d_law_1150 : decode code 1150 = .ok (.iconst 1, 1) := by decide +kernel
theorem d_law_1151 : decode code 1151 = .ok (.iadd, 1) := by decide +kernel
theorem d_law_1152 : decode code 1152 = .ok (.iaload, 1) := by decide +kernel
theorem d_law_1153 : decode code 1153 = .ok (.aload_n 3, 1) := by decide +kernel
theorem d_law_1154 : decode code 1154 = .ok (.invokestatic 147, 3) := by decide +kernel
theorem d_law_1157 : decode code 1157 = .ok (.istore 5, 2) := by decide +kernel
theorem d_law_1159 : decode code 1159 = .ok (.aload_n 2, 1) := by decide +kernel
theorem d_law_1160 : decode code 1160 = .ok (.aload_n 0, 1) := by decide +kernel
theorem d_law_1161 : decode code 1161 = .ok (.iload 4, 2) := by decide +kernel
theorem d_law_1163 : decode code 1163 = .ok (.iconst 1, 1) := by decide +kernel
theorem d_law_1164 : decode code 1164 = .ok (.iadd, 1) := by decide +kernel
theorem d_law_1165 : decode code 1165 = .ok (.iaload, 1) := by decide +kernel
theorem d_law_1166 : decode code 1166 = .ok (.invokevirtual 149, 3) := by decide +kernel
theorem d_law_1169 : decode code 1169 = .ok (.istore 6, 2) := by decide +kernel
theorem d_law_1171 : decode code 1171 = .ok (.aload_n 2, 1) := by decide +kernel
theorem d_law_1172 : decode code 1172 = .ok (.invokevirtual 100, 3) := by decide +kernel
theorem d_law_1175 : decode code 1175 = .ok (.iload 5, 2) := by decide +kernel
theorem d_law_1177 : decode code 1177 = .ok (.if_icmp .eq 5, 3) := by decide +kernel
theorem d_law_1180 : decode code 1180 = .ok (.iconst 0, 1) := by decide +kernel
theorem d_law_1181 : decode code 1181 = .ok (.ireturn, 1) := by decide +kernel
theorem d_law_1182 : decode code 1182 = .ok (.iload 5, 2) := by decide +kernel
theorem d_law_1184 : decode code 1184 = .ok (.ifCond .ne 15, 3) := by decide +kernel
theorem d_law_1187 : decode code 1187 = .ok (.aload_n 3, 1) := by decide +kernel
theorem d_law_1188 : decode code 1188 = .ok (.iconst 0, 1) := by decide +kernel
theorem d_law_1189 : decode code 1189 = .ok (.laload, 1) := by decide +kernel
theorem d_law_1190 : decode code 1190 = .ok (.iload 6, 2) := by decide +kernel
theorem d_law_1192 : decode code 1192 = .ok (.i2l, 1) := by decide +kernel
theorem d_law_1193 : decode code 1193 = .ok (.lcmp, 1) := by decide +kernel
theorem d_law_1194 : decode code 1194 = .ok (.ifCond .eq 5, 3) := by decide +kernel
theorem d_law_1197 : decode code 1197 = .ok (.iconst 0, 1) := by decide +kernel
theorem d_law_1198 : decode code 1198 = .ok (.ireturn, 1) := by decide +kernel
theorem d_law_1199 : decode code 1199 = .ok (.goto 430, 3) := by decide +kernel
theorem d_law_1202 : decode code 1202 = .ok (.aload_n 1, 1) := by decide +kernel
theorem d_law_1203 : decode code 1203 = .ok (.aload_n 0, 1) := by decide +kernel
theorem d_law_1204 : decode code 1204 = .ok (.iload 4, 2) := by decide +kernel
theorem d_law_1206 : decode code 1206 = .ok (.iconst 1, 1) := by decide +kernel
theorem d_law_1207 : decode code 1207 = .ok (.iadd, 1) := by decide +kernel
theorem d_law_1208 : decode code 1208 = .ok (.iaload, 1) := by decide +kernel
theorem d_law_1209 : decode code 1209 = .ok (.aload_n 3, 1) := by decide +kernel
theorem d_law_1210 : decode code 1210 = .ok (.invokestatic 150, 3) := by decide +kernel
theorem d_law_1213 : decode code 1213 = .ok (.istore 5, 2) := by decide +kernel
theorem d_law_1215 : decode code 1215 = .ok (.aload_n 2, 1) := by decide +kernel
theorem d_law_1216 : decode code 1216 = .ok (.aload_n 0, 1) := by decide +kernel
theorem d_law_1217 : decode code 1217 = .ok (.iload 4, 2) := by decide +kernel
theorem d_law_1219 : decode code 1219 = .ok (.iconst 1, 1) := by decide +kernel
theorem d_law_1220 : decode code 1220 = .ok (.iadd, 1) := by decide +kernel
theorem d_law_1221 : decode code 1221 = .ok (.iaload, 1) := by decide +kernel
theorem d_law_1222 : decode code 1222 = .ok (.invokevirtual 152, 3) := by decide +kernel
theorem d_law_1225 : decode code 1225 = .ok (.istore 6, 2) := by decide +kernel
theorem d_law_1227 : decode code 1227 = .ok (.aload_n 2, 1) := by decide +kernel
theorem d_law_1228 : decode code 1228 = .ok (.invokevirtual 100, 3) := by decide +kernel
theorem d_law_1231 : decode code 1231 = .ok (.iload 5, 2) := by decide +kernel
theorem d_law_1233 : decode code 1233 = .ok (.if_icmp .eq 5, 3) := by decide +kernel
theorem d_law_1236 : decode code 1236 = .ok (.iconst 0, 1) := by decide +kernel
theorem d_law_1237 : decode code 1237 = .ok (.ireturn, 1) := by decide +kernel
theorem d_law_1238 : decode code 1238 = .ok (.iload 5, 2) := by decide +kernel
theorem d_law_1240 : decode code 1240 = .ok (.ifCond .ne 15, 3) := by decide +kernel
theorem d_law_1243 : decode code 1243 = .ok (.aload_n 3, 1) := by decide +kernel
theorem d_law_1244 : decode code 1244 = .ok (.iconst 0, 1) := by decide +kernel
theorem d_law_1245 : decode code 1245 = .ok (.laload, 1) := by decide +kernel
theorem d_law_1246 : decode code 1246 = .ok (.iload 6, 2) := by decide +kernel
theorem d_law_1248 : decode code 1248 = .ok (.i2l, 1) := by decide +kernel
theorem d_law_1249 : decode code 1249 = .ok (.lcmp, 1) := by decide +kernel
theorem d_law_1250 : decode code 1250 = .ok (.ifCond .eq 5, 3) := by decide +kernel
theorem d_law_1253 : decode code 1253 = .ok (.iconst 0, 1) := by decide +kernel
theorem d_law_1254 : decode code 1254 = .ok (.ireturn, 1) := by decide +kernel
theorem d_law_1255 : decode code 1255 = .ok (.goto 374, 3) := by decide +kernel
theorem d_law_1258 : decode code 1258 = .ok (.aload_n 1, 1) := by decide +kernel
theorem d_law_1259 : decode code 1259 = .ok (.aload_n 0, 1) := by decide +kernel
theorem d_law_1260 : decode code 1260 = .ok (.iload 4, 2) := by decide +kernel
theorem d_law_1262 : decode code 1262 = .ok (.iconst 1, 1) := by decide +kernel
theorem d_law_1263 : decode code 1263 = .ok (.iadd, 1) := by decide +kernel
theorem d_law_1264 : decode code 1264 = .ok (.iaload, 1) := by decide +kernel
theorem d_law_1265 : decode code 1265 = .ok (.aload_n 0, 1) := by decide +kernel
theorem d_law_1266 : decode code 1266 = .ok (.iload 4, 2) := by decide +kernel
theorem d_law_1268 : decode code 1268 = .ok (.iconst 2, 1) := by decide +kernel
theorem d_law_1269 : decode code 1269 = .ok (.iadd, 1) := by decide +kernel
theorem d_law_1270 : decode code 1270 = .ok (.iaload, 1) := by decide +kernel
theorem d_law_1271 : decode code 1271 = .ok (.aload_n 3, 1) := by decide +kernel
theorem d_law_1272 : decode code 1272 = .ok (.invokestatic 153, 3) := by decide +kernel
theorem d_law_1275 : decode code 1275 = .ok (.istore 5, 2) := by decide +kernel
theorem d_law_1277 : decode code 1277 = .ok (.aload_n 2, 1) := by decide +kernel
theorem d_law_1278 : decode code 1278 = .ok (.aload_n 0, 1) := by decide +kernel
theorem d_law_1279 : decode code 1279 = .ok (.iload 4, 2) := by decide +kernel
theorem d_law_1281 : decode code 1281 = .ok (.iconst 1, 1) := by decide +kernel
theorem d_law_1282 : decode code 1282 = .ok (.iadd, 1) := by decide +kernel
theorem d_law_1283 : decode code 1283 = .ok (.iaload, 1) := by decide +kernel
theorem d_law_1284 : decode code 1284 = .ok (.aload_n 0, 1) := by decide +kernel
theorem d_law_1285 : decode code 1285 = .ok (.iload 4, 2) := by decide +kernel
theorem d_law_1287 : decode code 1287 = .ok (.iconst 2, 1) := by decide +kernel
theorem d_law_1288 : decode code 1288 = .ok (.iadd, 1) := by decide +kernel
theorem d_law_1289 : decode code 1289 = .ok (.iaload, 1) := by decide +kernel
theorem d_law_1290 : decode code 1290 = .ok (.invokevirtual 155, 3) := by decide +kernel
theorem d_law_1293 : decode code 1293 = .ok (.istore 6, 2) := by decide +kernel
theorem d_law_1295 : decode code 1295 = .ok (.aload_n 2, 1) := by decide +kernel
theorem d_law_1296 : decode code 1296 = .ok (.invokevirtual 100, 3) := by decide +kernel
theorem d_law_1299 : decode code 1299 = .ok (.iload 5, 2) := by decide +kernel
theorem d_law_1301 : decode code 1301 = .ok (.if_icmp .eq 5, 3) := by decide +kernel
theorem d_law_1304 : decode code 1304 = .ok (.iconst 0, 1) := by decide +kernel
theorem d_law_1305 : decode code 1305 = .ok (.ireturn, 1) := by decide +kernel
theorem d_law_1306 : decode code 1306 = .ok (.iload 5, 2) := by decide +kernel
theorem d_law_1308 : decode code 1308 = .ok (.ifCond .ne 15, 3) := by decide +kernel
theorem d_law_1311 : decode code 1311 = .ok (.aload_n 3, 1) := by decide +kernel
theorem d_law_1312 : decode code 1312 = .ok (.iconst 0, 1) := by decide +kernel
theorem d_law_1313 : decode code 1313 = .ok (.laload, 1) := by decide +kernel
theorem d_law_1314 : decode code 1314 = .ok (.iload 6, 2) := by decide +kernel
theorem d_law_1316 : decode code 1316 = .ok (.i2l, 1) := by decide +kernel
theorem d_law_1317 : decode code 1317 = .ok (.lcmp, 1) := by decide +kernel
theorem d_law_1318 : decode code 1318 = .ok (.ifCond .eq 5, 3) := by decide +kernel
theorem d_law_1321 : decode code 1321 = .ok (.iconst 0, 1) := by decide +kernel
theorem d_law_1322 : decode code 1322 = .ok (.ireturn, 1) := by decide +kernel
theorem d_law_1323 : decode code 1323 = .ok (.goto 306, 3) := by decide +kernel
theorem d_law_1326 : decode code 1326 = .ok (.aload_n 1, 1) := by decide +kernel
theorem d_law_1327 : decode code 1327 = .ok (.aload_n 0, 1) := by decide +kernel
theorem d_law_1328 : decode code 1328 = .ok (.iload 4, 2) := by decide +kernel
theorem d_law_1330 : decode code 1330 = .ok (.iconst 1, 1) := by decide +kernel
theorem d_law_1331 : decode code 1331 = .ok (.iadd, 1) := by decide +kernel
theorem d_law_1332 : decode code 1332 = .ok (.iaload, 1) := by decide +kernel
theorem d_law_1333 : decode code 1333 = .ok (.aload_n 0, 1) := by decide +kernel
theorem d_law_1334 : decode code 1334 = .ok (.iload 4, 2) := by decide +kernel
theorem d_law_1336 : decode code 1336 = .ok (.iconst 2, 1) := by decide +kernel
theorem d_law_1337 : decode code 1337 = .ok (.iadd, 1) := by decide +kernel
theorem d_law_1338 : decode code 1338 = .ok (.iaload, 1) := by decide +kernel
theorem d_law_1339 : decode code 1339 = .ok (.invokestatic 156, 3) := by decide +kernel
theorem d_law_1342 : decode code 1342 = .ok (.istore 5, 2) := by decide +kernel
theorem d_law_1344 : decode code 1344 = .ok (.aload_n 2, 1) := by decide +kernel
theorem d_law_1345 : decode code 1345 = .ok (.aload_n 0, 1) := by decide +kernel
theorem d_law_1346 : decode code 1346 = .ok (.iload 4, 2) := by decide +kernel
theorem d_law_1348 : decode code 1348 = .ok (.iconst 1, 1) := by decide +kernel
theorem d_law_1349 : decode code 1349 = .ok (.iadd, 1) := by decide +kernel
theorem d_law_1350 : decode code 1350 = .ok (.iaload, 1) := by decide +kernel
theorem d_law_1351 : decode code 1351 = .ok (.aload_n 0, 1) := by decide +kernel
theorem d_law_1352 : decode code 1352 = .ok (.iload 4, 2) := by decide +kernel
theorem d_law_1354 : decode code 1354 = .ok (.iconst 2, 1) := by decide +kernel
theorem d_law_1355 : decode code 1355 = .ok (.iadd, 1) := by decide +kernel
theorem d_law_1356 : decode code 1356 = .ok (.iaload, 1) := by decide +kernel
theorem d_law_1357 : decode code 1357 = .ok (.invokevirtual 159, 3) := by decide +kernel
theorem d_law_1360 : decode code 1360 = .ok (.aload_n 2, 1) := by decide +kernel
theorem d_law_1361 : decode code 1361 = .ok (.invokevirtual 100, 3) := by decide +kernel
theorem d_law_1364 : decode code 1364 = .ok (.iload 5, 2) := by decide +kernel
theorem d_law_1366 : decode code 1366 = .ok (.if_icmp .eq 5, 3) := by decide +kernel
theorem d_law_1369 : decode code 1369 = .ok (.iconst 0, 1) := by decide +kernel
theorem d_law_1370 : decode code 1370 = .ok (.ireturn, 1) := by decide +kernel
theorem d_law_1371 : decode code 1371 = .ok (.goto 258, 3) := by decide +kernel
theorem d_law_1374 : decode code 1374 = .ok (.aload_n 1, 1) := by decide +kernel
theorem d_law_1375 : decode code 1375 = .ok (.aload_n 0, 1) := by decide +kernel
theorem d_law_1376 : decode code 1376 = .ok (.iload 4, 2) := by decide +kernel
theorem d_law_1378 : decode code 1378 = .ok (.iconst 1, 1) := by decide +kernel
theorem d_law_1379 : decode code 1379 = .ok (.iadd, 1) := by decide +kernel
theorem d_law_1380 : decode code 1380 = .ok (.iaload, 1) := by decide +kernel
theorem d_law_1381 : decode code 1381 = .ok (.aload_n 0, 1) := by decide +kernel
theorem d_law_1382 : decode code 1382 = .ok (.iload 4, 2) := by decide +kernel
theorem d_law_1384 : decode code 1384 = .ok (.iconst 2, 1) := by decide +kernel
theorem d_law_1385 : decode code 1385 = .ok (.iadd, 1) := by decide +kernel
theorem d_law_1386 : decode code 1386 = .ok (.iaload, 1) := by decide +kernel
theorem d_law_1387 : decode code 1387 = .ok (.aload_n 3, 1) := by decide +kernel
theorem d_law_1388 : decode code 1388 = .ok (.invokestatic 160, 3) := by decide +kernel
theorem d_law_1391 : decode code 1391 = .ok (.istore 5, 2) := by decide +kernel
theorem d_law_1393 : decode code 1393 = .ok (.aload_n 2, 1) := by decide +kernel
theorem d_law_1394 : decode code 1394 = .ok (.aload_n 0, 1) := by decide +kernel
theorem d_law_1395 : decode code 1395 = .ok (.iload 4, 2) := by decide +kernel
theorem d_law_1397 : decode code 1397 = .ok (.iconst 1, 1) := by decide +kernel
theorem d_law_1398 : decode code 1398 = .ok (.iadd, 1) := by decide +kernel
theorem d_law_1399 : decode code 1399 = .ok (.iaload, 1) := by decide +kernel
theorem d_law_1400 : decode code 1400 = .ok (.aload_n 0, 1) := by decide +kernel
theorem d_law_1401 : decode code 1401 = .ok (.iload 4, 2) := by decide +kernel
theorem d_law_1403 : decode code 1403 = .ok (.iconst 2, 1) := by decide +kernel
theorem d_law_1404 : decode code 1404 = .ok (.iadd, 1) := by decide +kernel
theorem d_law_1405 : decode code 1405 = .ok (.iaload, 1) := by decide +kernel
theorem d_law_1406 : decode code 1406 = .ok (.invokevirtual 162, 3) := by decide +kernel
theorem d_law_1409 : decode code 1409 = .ok (.istore 6, 2) := by decide +kernel
theorem d_law_1411 : decode code 1411 = .ok (.aload_n 2, 1) := by decide +kernel
theorem d_law_1412 : decode code 1412 = .ok (.invokevirtual 100, 3) := by decide +kernel
theorem d_law_1415 : decode code 1415 = .ok (.iload 5, 2) := by decide +kernel
theorem d_law_1417 : decode code 1417 = .ok (.if_icmp .eq 5, 3) := by decide +kernel
theorem d_law_1420 : decode code 1420 = .ok (.iconst 0, 1) := by decide +kernel
theorem d_law_1421 : decode code 1421 = .ok (.ireturn, 1) := by decide +kernel
theorem d_law_1422 : decode code 1422 = .ok (.iload 5, 2) := by decide +kernel
theorem d_law_1424 : decode code 1424 = .ok (.ifCond .ne 22, 3) := by decide +kernel
theorem d_law_1427 : decode code 1427 = .ok (.aload_n 3, 1) := by decide +kernel
theorem d_law_1428 : decode code 1428 = .ok (.iconst 0, 1) := by decide +kernel
theorem d_law_1429 : decode code 1429 = .ok (.laload, 1) := by decide +kernel
theorem d_law_1430 : decode code 1430 = .ok (.iload 6, 2) := by decide +kernel
theorem d_law_1432 : decode code 1432 = .ok (.ifCond .eq 7, 3) := by decide +kernel
theorem d_law_1435 : decode code 1435 = .ok (.lconst 1, 1) := by decide +kernel
theorem d_law_1436 : decode code 1436 = .ok (.goto 4, 3) := by decide +kernel
theorem d_law_1439 : decode code 1439 = .ok (.lconst 0, 1) := by decide +kernel
theorem d_law_1440 : decode code 1440 = .ok (.lcmp, 1) := by decide +kernel
theorem d_law_1441 : decode code 1441 = .ok (.ifCond .eq 5, 3) := by decide +kernel
theorem d_law_1444 : decode code 1444 = .ok (.iconst 0, 1) := by decide +kernel
theorem d_law_1445 : decode code 1445 = .ok (.ireturn, 1) := by decide +kernel
theorem d_law_1446 : decode code 1446 = .ok (.goto 183, 3) := by decide +kernel
theorem d_law_1449 : decode code 1449 = .ok (.aload_n 1, 1) := by decide +kernel
theorem d_law_1450 : decode code 1450 = .ok (.aload_n 0, 1) := by decide +kernel
theorem d_law_1451 : decode code 1451 = .ok (.iload 4, 2) := by decide +kernel
theorem d_law_1453 : decode code 1453 = .ok (.iconst 1, 1) := by decide +kernel
theorem d_law_1454 : decode code 1454 = .ok (.iadd, 1) := by decide +kernel
theorem d_law_1455 : decode code 1455 = .ok (.iaload, 1) := by decide +kernel
theorem d_law_1456 : decode code 1456 = .ok (.aload_n 0, 1) := by decide +kernel
theorem d_law_1457 : decode code 1457 = .ok (.iload 4, 2) := by decide +kernel
theorem d_law_1459 : decode code 1459 = .ok (.iconst 2, 1) := by decide +kernel
theorem d_law_1460 : decode code 1460 = .ok (.iadd, 1) := by decide +kernel
theorem d_law_1461 : decode code 1461 = .ok (.iaload, 1) := by decide +kernel
theorem d_law_1462 : decode code 1462 = .ok (.aload_n 3, 1) := by decide +kernel
theorem d_law_1463 : decode code 1463 = .ok (.invokestatic 163, 3) := by decide +kernel
theorem d_law_1466 : decode code 1466 = .ok (.istore 5, 2) := by decide +kernel
theorem d_law_1468 : decode code 1468 = .ok (.aload_n 2, 1) := by decide +kernel
theorem d_law_1469 : decode code 1469 = .ok (.aload_n 0, 1) := by decide +kernel
theorem d_law_1470 : decode code 1470 = .ok (.iload 4, 2) := by decide +kernel
theorem d_law_1472 : decode code 1472 = .ok (.iconst 1, 1) := by decide +kernel
theorem d_law_1473 : decode code 1473 = .ok (.iadd, 1) := by decide +kernel
theorem d_law_1474 : decode code 1474 = .ok (.iaload, 1) := by decide +kernel
theorem d_law_1475 : decode code 1475 = .ok (.aload_n 0, 1) := by decide +kernel
theorem d_law_1476 : decode code 1476 = .ok (.iload 4, 2) := by decide +kernel
theorem d_law_1478 : decode code 1478 = .ok (.iconst 2, 1) := by decide +kernel
theorem d_law_1479 : decode code 1479 = .ok (.iadd, 1) := by decide +kernel
theorem d_law_1480 : decode code 1480 = .ok (.iaload, 1) := by decide +kernel
theorem d_law_1481 : decode code 1481 = .ok (.invokevirtual 165, 3) := by decide +kernel
theorem d_law_1484 : decode code 1484 = .ok (.istore 6, 2) := by decide +kernel
theorem d_law_1486 : decode code 1486 = .ok (.aload_n 2, 1) := by decide +kernel
theorem d_law_1487 : decode code 1487 = .ok (.invokevirtual 100, 3) := by decide +kernel
theorem d_law_1490 : decode code 1490 = .ok (.iload 5, 2) := by decide +kernel
theorem d_law_1492 : decode code 1492 = .ok (.if_icmp .eq 5, 3) := by decide +kernel
theorem d_law_1495 : decode code 1495 = .ok (.iconst 0, 1) := by decide +kernel
theorem d_law_1496 : decode code 1496 = .ok (.ireturn, 1) := by decide +kernel
theorem d_law_1497 : decode code 1497 = .ok (.iload 5, 2) := by decide +kernel
theorem d_law_1499 : decode code 1499 = .ok (.ifCond .ne 15, 3) := by decide +kernel
theorem d_law_1502 : decode code 1502 = .ok (.aload_n 3, 1) := by decide +kernel
theorem d_law_1503 : decode code 1503 = .ok (.iconst 0, 1) := by decide +kernel
theorem d_law_1504 : decode code 1504 = .ok (.laload, 1) := by decide +kernel
theorem d_law_1505 : decode code 1505 = .ok (.iload 6, 2) := by decide +kernel
theorem d_law_1507 : decode code 1507 = .ok (.i2l, 1) := by decide +kernel
theorem d_law_1508 : decode code 1508 = .ok (.lcmp, 1) := by decide +kernel
theorem d_law_1509 : decode code 1509 = .ok (.ifCond .eq 5, 3) := by decide +kernel
theorem d_law_1512 : decode code 1512 = .ok (.iconst 0, 1) := by decide +kernel
theorem d_law_1513 : decode code 1513 = .ok (.ireturn, 1) := by decide +kernel
theorem d_law_1514 : decode code 1514 = .ok (.goto 115, 3) := by decide +kernel
theorem d_law_1517 : decode code 1517 = .ok (.aload_n 1, 1) := by decide +kernel
theorem d_law_1518 : decode code 1518 = .ok (.aload_n 0, 1) := by decide +kernel
theorem d_law_1519 : decode code 1519 = .ok (.iload 4, 2) := by decide +kernel
theorem d_law_1521 : decode code 1521 = .ok (.iconst 1, 1) := by decide +kernel
theorem d_law_1522 : decode code 1522 = .ok (.iadd, 1) := by decide +kernel
theorem d_law_1523 : decode code 1523 = .ok (.iaload, 1) := by decide +kernel
theorem d_law_1524 : decode code 1524 = .ok (.aload_n 3, 1) := by decide +kernel
theorem d_law_1525 : decode code 1525 = .ok (.invokestatic 166, 3) := by decide +kernel
theorem d_law_1528 : decode code 1528 = .ok (.istore 5, 2) := by decide +kernel
theorem d_law_1530 : decode code 1530 = .ok (.aload_n 2, 1) := by decide +kernel
theorem d_law_1531 : decode code 1531 = .ok (.aload_n 0, 1) := by decide +kernel
theorem d_law_1532 : decode code 1532 = .ok (.iload 4, 2) := by decide +kernel
theorem d_law_1534 : decode code 1534 = .ok (.iconst 1, 1) := by decide +kernel
theorem d_law_1535 : decode code 1535 = .ok (.iadd, 1) := by decide +kernel
theorem d_law_1536 : decode code 1536 = .ok (.iaload, 1) := by decide +kernel
theorem d_law_1537 : decode code 1537 = .ok (.invokevirtual 168, 3) := by decide +kernel
theorem d_law_1540 : decode code 1540 = .ok (.istore 6, 2) := by decide +kernel
theorem d_law_1542 : decode code 1542 = .ok (.aload_n 2, 1) := by decide +kernel
theorem d_law_1543 : decode code 1543 = .ok (.invokevirtual 100, 3) := by decide +kernel
theorem d_law_1546 : decode code 1546 = .ok (.iload 5, 2) := by decide +kernel
theorem d_law_1548 : decode code 1548 = .ok (.if_icmp .eq 5, 3) := by decide +kernel
theorem d_law_1551 : decode code 1551 = .ok (.iconst 0, 1) := by decide +kernel
theorem d_law_1552 : decode code 1552 = .ok (.ireturn, 1) := by decide +kernel
theorem d_law_1553 : decode code 1553 = .ok (.iload 5, 2) := by decide +kernel
theorem d_law_1555 : decode code 1555 = .ok (.ifCond .ne 15, 3) := by decide +kernel
theorem d_law_1558 : decode code 1558 = .ok (.aload_n 3, 1) := by decide +kernel
theorem d_law_1559 : decode code 1559 = .ok (.iconst 0, 1) := by decide +kernel
theorem d_law_1560 : decode code 1560 = .ok (.laload, 1) := by decide +kernel
theorem d_law_1561 : decode code 1561 = .ok (.iload 6, 2) := by decide +kernel
theorem d_law_1563 : decode code 1563 = .ok (.i2l, 1) := by decide +kernel
theorem d_law_1564 : decode code 1564 = .ok (.lcmp, 1) := by decide +kernel
theorem d_law_1565 : decode code 1565 = .ok (.ifCond .eq 5, 3) := by decide +kernel
theorem d_law_1568 : decode code 1568 = .ok (.iconst 0, 1) := by decide +kernel
theorem d_law_1569 : decode code 1569 = .ok (.ireturn, 1) := by decide +kernel
theorem d_law_1570 : decode code 1570 = .ok (.goto 59, 3) := by decide +kernel
theorem d_law_1573 : decode code 1573 = .ok (.aload_n 1, 1) := by decide +kernel
theorem d_law_1574 : decode code 1574 = .ok (.aload_n 0, 1) := by decide +kernel
theorem d_law_1575 : decode code 1575 = .ok (.iload 4, 2) := by decide +kernel
theorem d_law_1577 : decode code 1577 = .ok (.iconst 1, 1) := by decide +kernel
theorem d_law_1578 : decode code 1578 = .ok (.iadd, 1) := by decide +kernel
theorem d_law_1579 : decode code 1579 = .ok (.iaload, 1) := by decide +kernel
theorem d_law_1580 : decode code 1580 = .ok (.aload_n 3, 1) := by decide +kernel
theorem d_law_1581 : decode code 1581 = .ok (.invokestatic 169, 3) := by decide +kernel
theorem d_law_1584 : decode code 1584 = .ok (.istore 5, 2) := by decide +kernel
theorem d_law_1586 : decode code 1586 = .ok (.aload_n 2, 1) := by decide +kernel
theorem d_law_1587 : decode code 1587 = .ok (.aload_n 0, 1) := by decide +kernel
theorem d_law_1588 : decode code 1588 = .ok (.iload 4, 2) := by decide +kernel
theorem d_law_1590 : decode code 1590 = .ok (.iconst 1, 1) := by decide +kernel
theorem d_law_1591 : decode code 1591 = .ok (.iadd, 1) := by decide +kernel
theorem d_law_1592 : decode code 1592 = .ok (.iaload, 1) := by decide +kernel
theorem d_law_1593 : decode code 1593 = .ok (.invokevirtual 171, 3) := by decide +kernel
theorem d_law_1596 : decode code 1596 = .ok (.istore 6, 2) := by decide +kernel
theorem d_law_1598 : decode code 1598 = .ok (.aload_n 2, 1) := by decide +kernel
theorem d_law_1599 : decode code 1599 = .ok (.invokevirtual 100, 3) := by decide +kernel
theorem d_law_1602 : decode code 1602 = .ok (.iload 5, 2) := by decide +kernel
theorem d_law_1604 : decode code 1604 = .ok (.if_icmp .eq 5, 3) := by decide +kernel
theorem d_law_1607 : decode code 1607 = .ok (.iconst 0, 1) := by decide +kernel
theorem d_law_1608 : decode code 1608 = .ok (.ireturn, 1) := by decide +kernel
theorem d_law_1609 : decode code 1609 = .ok (.iload 5, 2) := by decide +kernel
theorem d_law_1611 : decode code 1611 = .ok (.ifCond .ne 15, 3) := by decide +kernel
theorem d_law_1614 : decode code 1614 = .ok (.aload_n 3, 1) := by decide +kernel
