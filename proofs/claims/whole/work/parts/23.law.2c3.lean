theorem d_Law_law_1113 : decode code 1113 = .ok (.aload_n 2, 1) := by decide +kernel
theorem d_Law_law_1114 : decode code 1114 = .ok (.aload_n 0, 1) := by decide +kernel
theorem d_Law_law_1115 : decode code 1115 = .ok (.iload 4, 2) := by decide +kernel
theorem d_Law_law_1117 : decode code 1117 = .ok (.iconst 1, 1) := by decide +kernel
theorem d_Law_law_1118 : decode code 1118 = .ok (.iadd, 1) := by decide +kernel
theorem d_Law_law_1119 : decode code 1119 = .ok (.iaload, 1) := by decide +kernel
theorem d_Law_law_1120 : decode code 1120 = .ok (.aload_n 0, 1) := by decide +kernel
theorem d_Law_law_1121 : decode code 1121 = .ok (.iload 4, 2) := by decide +kernel
theorem d_Law_law_1123 : decode code 1123 = .ok (.iconst 2, 1) := by decide +kernel
theorem d_Law_law_1124 : decode code 1124 = .ok (.iadd, 1) := by decide +kernel
theorem d_Law_law_1125 : decode code 1125 = .ok (.iaload, 1) := by decide +kernel
theorem d_Law_law_1126 : decode code 1126 = .ok (.invokevirtual 105, 3) := by decide +kernel
theorem d_Law_law_1129 : decode code 1129 = .ok (.istore 6, 2) := by decide +kernel
theorem d_Law_law_1131 : decode code 1131 = .ok (.aload_n 2, 1) := by decide +kernel
theorem d_Law_law_1132 : decode code 1132 = .ok (.invokevirtual 70, 3) := by decide +kernel
theorem d_Law_law_1135 : decode code 1135 = .ok (.iload 5, 2) := by decide +kernel
theorem d_Law_law_1137 : decode code 1137 = .ok (.if_icmp .eq 5, 3) := by decide +kernel
theorem d_Law_law_1140 : decode code 1140 = .ok (.iconst 0, 1) := by decide +kernel
theorem d_Law_law_1141 : decode code 1141 = .ok (.ireturn, 1) := by decide +kernel
theorem d_Law_law_1142 : decode code 1142 = .ok (.iload 5, 2) := by decide +kernel
theorem d_Law_law_1144 : decode code 1144 = .ok (.ifCond .ne 15, 3) := by decide +kernel
theorem d_Law_law_1147 : decode code 1147 = .ok (.aload_n 3, 1) := by decide +kernel
theorem d_Law_law_1148 : decode code 1148 = .ok (.iconst 0, 1) := by decide +kernel
theorem d_Law_law_1149 : decode code 1149 = .ok (.laload, 1) := by decide +kernel
theorem d_Law_law_1150 : decode code 1150 = .ok (.iload 6, 2) := by decide +kernel
theorem d_Law_law_1152 : decode code 1152 = .ok (.i2l, 1) := by decide +kernel
theorem d_Law_law_1153 : decode code 1153 = .ok (.lcmp, 1) := by decide +kernel
theorem d_Law_law_1154 : decode code 1154 = .ok (.ifCond .eq 5, 3) := by decide +kernel
theorem d_Law_law_1157 : decode code 1157 = .ok (.iconst 0, 1) := by decide +kernel
theorem d_Law_law_1158 : decode code 1158 = .ok (.ireturn, 1) := by decide +kernel
theorem d_Law_law_1159 : decode code 1159 = .ok (.goto 316, 3) := by decide +kernel
theorem d_Law_law_1162 : decode code 1162 = .ok (.aload_n 1, 1) := by decide +kernel
theorem d_Law_law_1163 : decode code 1163 = .ok (.aload_n 0, 1) := by decide +kernel
theorem d_Law_law_1164 : decode code 1164 = .ok (.iload 4, 2) := by decide +kernel
theorem d_Law_law_1166 : decode code 1166 = .ok (.iconst 1, 1) := by decide +kernel
theorem d_Law_law_1167 : decode code 1167 = .ok (.iadd, 1) := by decide +kernel
theorem d_Law_law_1168 : decode code 1168 = .ok (.iaload, 1) := by decide +kernel
theorem d_Law_law_1169 : decode code 1169 = .ok (.aload_n 0, 1) := by decide +kernel
theorem d_Law_law_1170 : decode code 1170 = .ok (.iload 4, 2) := by decide +kernel
theorem d_Law_law_1172 : decode code 1172 = .ok (.iconst 2, 1) := by decide +kernel
theorem d_Law_law_1173 : decode code 1173 = .ok (.iadd, 1) := by decide +kernel
theorem d_Law_law_1174 : decode code 1174 = .ok (.iaload, 1) := by decide +kernel
theorem d_Law_law_1175 : decode code 1175 = .ok (.aload_n 3, 1) := by decide +kernel
theorem d_Law_law_1176 : decode code 1176 = .ok (.invokestatic 106, 3) := by decide +kernel
theorem d_Law_law_1179 : decode code 1179 = .ok (.istore 5, 2) := by decide +kernel
theorem d_Law_law_1181 : decode code 1181 = .ok (.aload_n 2, 1) := by decide +kernel
theorem d_Law_law_1182 : decode code 1182 = .ok (.aload_n 0, 1) := by decide +kernel
theorem d_Law_law_1183 : decode code 1183 = .ok (.iload 4, 2) := by decide +kernel
theorem d_Law_law_1185 : decode code 1185 = .ok (.iconst 1, 1) := by decide +kernel
theorem d_Law_law_1186 : decode code 1186 = .ok (.iadd, 1) := by decide +kernel
theorem d_Law_law_1187 : decode code 1187 = .ok (.iaload, 1) := by decide +kernel
theorem d_Law_law_1188 : decode code 1188 = .ok (.aload_n 0, 1) := by decide +kernel
theorem d_Law_law_1189 : decode code 1189 = .ok (.iload 4, 2) := by decide +kernel
theorem d_Law_law_1191 : decode code 1191 = .ok (.iconst 2, 1) := by decide +kernel
theorem d_Law_law_1192 : decode code 1192 = .ok (.iadd, 1) := by decide +kernel
theorem d_Law_law_1193 : decode code 1193 = .ok (.iaload, 1) := by decide +kernel
theorem d_Law_law_1194 : decode code 1194 = .ok (.invokevirtual 108, 3) := by decide +kernel
theorem d_Law_law_1197 : decode code 1197 = .ok (.istore 6, 2) := by decide +kernel
theorem d_Law_law_1199 : decode code 1199 = .ok (.aload_n 2, 1) := by decide +kernel
theorem d_Law_law_1200 : decode code 1200 = .ok (.invokevirtual 70, 3) := by decide +kernel
theorem d_Law_law_1203 : decode code 1203 = .ok (.iload 5, 2) := by decide +kernel
theorem d_Law_law_1205 : decode code 1205 = .ok (.if_icmp .eq 5, 3) := by decide +kernel
theorem d_Law_law_1208 : decode code 1208 = .ok (.iconst 0, 1) := by decide +kernel
theorem d_Law_law_1209 : decode code 1209 = .ok (.ireturn, 1) := by decide +kernel
theorem d_Law_law_1210 : decode code 1210 = .ok (.iload 5, 2) := by decide +kernel
theorem d_Law_law_1212 : decode code 1212 = .ok (.ifCond .ne 22, 3) := by decide +kernel
theorem d_Law_law_1215 : decode code 1215 = .ok (.aload_n 3, 1) := by decide +kernel
theorem d_Law_law_1216 : decode code 1216 = .ok (.iconst 0, 1) := by decide +kernel
theorem d_Law_law_1217 : decode code 1217 = .ok (.laload, 1) := by decide +kernel
theorem d_Law_law_1218 : decode code 1218 = .ok (.iload 6, 2) := by decide +kernel
theorem d_Law_law_1220 : decode code 1220 = .ok (.ifCond .eq 7, 3) := by decide +kernel
theorem d_Law_law_1223 : decode code 1223 = .ok (.lconst 1, 1) := by decide +kernel
theorem d_Law_law_1224 : decode code 1224 = .ok (.goto 4, 3) := by decide +kernel
theorem d_Law_law_1227 : decode code 1227 = .ok (.lconst 0, 1) := by decide +kernel
theorem d_Law_law_1228 : decode code 1228 = .ok (.lcmp, 1) := by decide +kernel
theorem d_Law_law_1229 : decode code 1229 = .ok (.ifCond .eq 5, 3) := by decide +kernel
theorem d_Law_law_1232 : decode code 1232 = .ok (.iconst 0, 1) := by decide +kernel
theorem d_Law_law_1233 : decode code 1233 = .ok (.ireturn, 1) := by decide +kernel
theorem d_Law_law_1234 : decode code 1234 = .ok (.goto 241, 3) := by decide +kernel
theorem d_Law_law_1237 : decode code 1237 = .ok (.aload_n 1, 1) := by decide +kernel
theorem d_Law_law_1238 : decode code 1238 = .ok (.aload_n 0, 1) := by decide +kernel
theorem d_Law_law_1239 : decode code 1239 = .ok (.iload 4, 2) := by decide +kernel
theorem d_Law_law_1241 : decode code 1241 = .ok (.iconst 1, 1) := by decide +kernel
theorem d_Law_law_1242 : decode code 1242 = .ok (.iadd, 1) := by decide +kernel
theorem d_Law_law_1243 : decode code 1243 = .ok (.iaload, 1) := by decide +kernel
theorem d_Law_law_1244 : decode code 1244 = .ok (.aload_n 3, 1) := by decide +kernel
theorem d_Law_law_1245 : decode code 1245 = .ok (.invokestatic 109, 3) := by decide +kernel
theorem d_Law_law_1248 : decode code 1248 = .ok (.istore 5, 2) := by decide +kernel
theorem d_Law_law_1250 : decode code 1250 = .ok (.aload_n 2, 1) := by decide +kernel
theorem d_Law_law_1251 : decode code 1251 = .ok (.aload_n 0, 1) := by decide +kernel
theorem d_Law_law_1252 : decode code 1252 = .ok (.iload 4, 2) := by decide +kernel
theorem d_Law_law_1254 : decode code 1254 = .ok (.iconst 1, 1) := by decide +kernel
theorem d_Law_law_1255 : decode code 1255 = .ok (.iadd, 1) := by decide +kernel
theorem d_Law_law_1256 : decode code 1256 = .ok (.iaload, 1) := by decide +kernel
theorem d_Law_law_1257 : decode code 1257 = .ok (.invokevirtual 112, 3) := by decide +kernel
theorem d_Law_law_1260 : decode code 1260 = .ok (.istore 6, 2) := by decide +kernel
theorem d_Law_law_1262 : decode code 1262 = .ok (.aload_n 2, 1) := by decide +kernel
theorem d_Law_law_1263 : decode code 1263 = .ok (.invokevirtual 70, 3) := by decide +kernel
theorem d_Law_law_1266 : decode code 1266 = .ok (.iload 5, 2) := by decide +kernel
theorem d_Law_law_1268 : decode code 1268 = .ok (.if_icmp .eq 5, 3) := by decide +kernel
theorem d_Law_law_1271 : decode code 1271 = .ok (.iconst 0, 1) := by decide +kernel
theorem d_Law_law_1272 : decode code 1272 = .ok (.ireturn, 1) := by decide +kernel
theorem d_Law_law_1273 : decode code 1273 = .ok (.iload 5, 2) := by decide +kernel
theorem d_Law_law_1275 : decode code 1275 = .ok (.ifCond .ne 15, 3) := by decide +kernel
theorem d_Law_law_1278 : decode code 1278 = .ok (.aload_n 3, 1) := by decide +kernel
theorem d_Law_law_1279 : decode code 1279 = .ok (.iconst 0, 1) := by decide +kernel
theorem d_Law_law_1280 : decode code 1280 = .ok (.laload, 1) := by decide +kernel
theorem d_Law_law_1281 : decode code 1281 = .ok (.iload 6, 2) := by decide +kernel
theorem d_Law_law_1283 : decode code 1283 = .ok (.i2l, 1) := by decide +kernel
theorem d_Law_law_1284 : decode code 1284 = .ok (.lcmp, 1) := by decide +kernel
theorem d_Law_law_1285 : decode code 1285 = .ok (.ifCond .eq 5, 3) := by decide +kernel
theorem d_Law_law_1288 : decode code 1288 = .ok (.iconst 0, 1) := by decide +kernel
theorem d_Law_law_1289 : decode code 1289 = .ok (.ireturn, 1) := by decide +kernel
theorem d_Law_law_1290 : decode code 1290 = .ok (.goto 185, 3) := by decide +kernel
theorem d_Law_law_1293 : decode code 1293 = .ok (.aload_n 1, 1) := by decide +kernel
theorem d_Law_law_1294 : decode code 1294 = .ok (.aload_n 0, 1) := by decide +kernel
theorem d_Law_law_1295 : decode code 1295 = .ok (.iload 4, 2) := by decide +kernel
theorem d_Law_law_1297 : decode code 1297 = .ok (.iconst 1, 1) := by decide +kernel
theorem d_Law_law_1298 : decode code 1298 = .ok (.iadd, 1) := by decide +kernel
theorem d_Law_law_1299 : decode code 1299 = .ok (.iaload, 1) := by decide +kernel
theorem d_Law_law_1300 : decode code 1300 = .ok (.aload_n 3, 1) := by decide +kernel
theorem d_Law_law_1301 : decode code 1301 = .ok (.invokestatic 113, 3) := by decide +kernel
theorem d_Law_law_1304 : decode code 1304 = .ok (.istore 5, 2) := by decide +kernel
theorem d_Law_law_1306 : decode code 1306 = .ok (.aload_n 2, 1) := by decide +kernel
theorem d_Law_law_1307 : decode code 1307 = .ok (.aload_n 0, 1) := by decide +kernel
theorem d_Law_law_1308 : decode code 1308 = .ok (.iload 4, 2) := by decide +kernel
theorem d_Law_law_1310 : decode code 1310 = .ok (.iconst 1, 1) := by decide +kernel
theorem d_Law_law_1311 : decode code 1311 = .ok (.iadd, 1) := by decide +kernel
theorem d_Law_law_1312 : decode code 1312 = .ok (.iaload, 1) := by decide +kernel
theorem d_Law_law_1313 : decode code 1313 = .ok (.invokevirtual 115, 3) := by decide +kernel
theorem d_Law_law_1316 : decode code 1316 = .ok (.istore 6, 2) := by decide +kernel
theorem d_Law_law_1318 : decode code 1318 = .ok (.aload_n 2, 1) := by decide +kernel
theorem d_Law_law_1319 : decode code 1319 = .ok (.invokevirtual 70, 3) := by decide +kernel
theorem d_Law_law_1322 : decode code 1322 = .ok (.iload 5, 2) := by decide +kernel
theorem d_Law_law_1324 : decode code 1324 = .ok (.if_icmp .eq 5, 3) := by decide +kernel
theorem d_Law_law_1327 : decode code 1327 = .ok (.iconst 0, 1) := by decide +kernel
theorem d_Law_law_1328 : decode code 1328 = .ok (.ireturn, 1) := by decide +kernel
theorem d_Law_law_1329 : decode code 1329 = .ok (.iload 5, 2) := by decide +kernel
theorem d_Law_law_1331 : decode code 1331 = .ok (.ifCond .ne 15, 3) := by decide +kernel
theorem d_Law_law_1334 : decode code 1334 = .ok (.aload_n 3, 1) := by decide +kernel
theorem d_Law_law_1335 : decode code 1335 = .ok (.iconst 0, 1) := by decide +kernel
theorem d_Law_law_1336 : decode code 1336 = .ok (.laload, 1) := by decide +kernel
theorem d_Law_law_1337 : decode code 1337 = .ok (.iload 6, 2) := by decide +kernel
theorem d_Law_law_1339 : decode code 1339 = .ok (.i2l, 1) := by decide +kernel
theorem d_Law_law_1340 : decode code 1340 = .ok (.lcmp, 1) := by decide +kernel
theorem d_Law_law_1341 : decode code 1341 = .ok (.ifCond .eq 5, 3) := by decide +kernel
theorem d_Law_law_1344 : decode code 1344 = .ok (.iconst 0, 1) := by decide +kernel
theorem d_Law_law_1345 : decode code 1345 = .ok (.ireturn, 1) := by decide +kernel
theorem d_Law_law_1346 : decode code 1346 = .ok (.goto 129, 3) := by decide +kernel
theorem d_Law_law_1349 : decode code 1349 = .ok (.aload_n 1, 1) := by decide +kernel
theorem d_Law_law_1350 : decode code 1350 = .ok (.aload_n 0, 1) := by decide +kernel
theorem d_Law_law_1351 : decode code 1351 = .ok (.iload 4, 2) := by decide +kernel
theorem d_Law_law_1353 : decode code 1353 = .ok (.iconst 1, 1) := by decide +kernel
theorem d_Law_law_1354 : decode code 1354 = .ok (.iadd, 1) := by decide +kernel
theorem d_Law_law_1355 : decode code 1355 = .ok (.iaload, 1) := by decide +kernel
theorem d_Law_law_1356 : decode code 1356 = .ok (.aload_n 3, 1) := by decide +kernel
theorem d_Law_law_1357 : decode code 1357 = .ok (.invokestatic 116, 3) := by decide +kernel
theorem d_Law_law_1360 : decode code 1360 = .ok (.istore 5, 2) := by decide +kernel
theorem d_Law_law_1362 : decode code 1362 = .ok (.aload_n 2, 1) := by decide +kernel
theorem d_Law_law_1363 : decode code 1363 = .ok (.aload_n 0, 1) := by decide +kernel
theorem d_Law_law_1364 : decode code 1364 = .ok (.iload 4, 2) := by decide +kernel
theorem d_Law_law_1366 : decode code 1366 = .ok (.iconst 1, 1) := by decide +kernel
theorem d_Law_law_1367 : decode code 1367 = .ok (.iadd, 1) := by decide +kernel
theorem d_Law_law_1368 : decode code 1368 = .ok (.iaload, 1) := by decide +kernel
theorem d_Law_law_1369 : decode code 1369 = .ok (.invokevirtual 118, 3) := by decide +kernel
theorem d_Law_law_1372 : decode code 1372 = .ok (.istore 6, 2) := by decide +kernel
theorem d_Law_law_1374 : decode code 1374 = .ok (.aload_n 2, 1) := by decide +kernel
theorem d_Law_law_1375 : decode code 1375 = .ok (.invokevirtual 70, 3) := by decide +kernel
theorem d_Law_law_1378 : decode code 1378 = .ok (.iload 5, 2) := by decide +kernel
theorem d_Law_law_1380 : decode code 1380 = .ok (.if_icmp .eq 5, 3) := by decide +kernel
theorem d_Law_law_1383 : decode code 1383 = .ok (.iconst 0, 1) := by decide +kernel
theorem d_Law_law_1384 : decode code 1384 = .ok (.ireturn, 1) := by decide +kernel
theorem d_Law_law_1385 : decode code 1385 = .ok (.iload 5, 2) := by decide +kernel
theorem d_Law_law_1387 : decode code 1387 = .ok (.ifCond .ne 22, 3) := by decide +kernel
theorem d_Law_law_1390 : decode code 1390 = .ok (.aload_n 3, 1) := by decide +kernel
theorem d_Law_law_1391 : decode code 1391 = .ok (.iconst 0, 1) := by decide +kernel
theorem d_Law_law_1392 : decode code 1392 = .ok (.laload, 1) := by decide +kernel
theorem d_Law_law_1393 : decode code 1393 = .ok (.iload 6, 2) := by decide +kernel
theorem d_Law_law_1395 : decode code 1395 = .ok (.ifCond .eq 7, 3) := by decide +kernel
theorem d_Law_law_1398 : decode code 1398 = .ok (.lconst 1, 1) := by decide +kernel
theorem d_Law_law_1399 : decode code 1399 = .ok (.goto 4, 3) := by decide +kernel
theorem d_Law_law_1402 : decode code 1402 = .ok (.lconst 0, 1) := by decide +kernel
theorem d_Law_law_1403 : decode code 1403 = .ok (.lcmp, 1) := by decide +kernel
theorem d_Law_law_1404 : decode code 1404 = .ok (.ifCond .eq 5, 3) := by decide +kernel
theorem d_Law_law_1407 : decode code 1407 = .ok (.iconst 0, 1) := by decide +kernel
theorem d_Law_law_1408 : decode code 1408 = .ok (.ireturn, 1) := by decide +kernel
theorem d_Law_law_1409 : decode code 1409 = .ok (.goto 66, 3) := by decide +kernel
theorem d_Law_law_1412 : decode code 1412 = .ok (.aload_n 1, 1) := by decide +kernel
theorem d_Law_law_1413 : decode code 1413 = .ok (.aload_n 0, 1) := by decide +kernel
theorem d_Law_law_1414 : decode code 1414 = .ok (.iload 4, 2) := by decide +kernel
theorem d_Law_law_1416 : decode code 1416 = .ok (.iconst 1, 1) := by decide +kernel
theorem d_Law_law_1417 : decode code 1417 = .ok (.iadd, 1) := by decide +kernel
theorem d_Law_law_1418 : decode code 1418 = .ok (.iaload, 1) := by decide +kernel
theorem d_Law_law_1419 : decode code 1419 = .ok (.invokevirtual 119, 3) := by decide +kernel
theorem d_Law_law_1422 : decode code 1422 = .ok (.aload_n 2, 1) := by decide +kernel
theorem d_Law_law_1423 : decode code 1423 = .ok (.aload_n 0, 1) := by decide +kernel
theorem d_Law_law_1424 : decode code 1424 = .ok (.iload 4, 2) := by decide +kernel
theorem d_Law_law_1426 : decode code 1426 = .ok (.iconst 1, 1) := by decide +kernel
theorem d_Law_law_1427 : decode code 1427 = .ok (.iadd, 1) := by decide +kernel
theorem d_Law_law_1428 : decode code 1428 = .ok (.iaload, 1) := by decide +kernel
theorem d_Law_law_1429 : decode code 1429 = .ok (.invokevirtual 122, 3) := by decide +kernel
theorem d_Law_law_1432 : decode code 1432 = .ok (.if_icmp .eq 43, 3) := by decide +kernel
theorem d_Law_law_1435 : decode code 1435 = .ok (.iconst 0, 1) := by decide +kernel
theorem d_Law_law_1436 : decode code 1436 = .ok (.ireturn, 1) := by decide +kernel
theorem d_Law_law_1437 : decode code 1437 = .ok (.aload_n 1, 1) := by decide +kernel
theorem d_Law_law_1438 : decode code 1438 = .ok (.invokevirtual 123, 3) := by decide +kernel
theorem d_Law_law_1441 : decode code 1441 = .ok (.aload_n 2, 1) := by decide +kernel
theorem d_Law_law_1442 : decode code 1442 = .ok (.invokevirtual 127, 3) := by decide +kernel
theorem d_Law_law_1445 : decode code 1445 = .ok (.if_icmp .eq 30, 3) := by decide +kernel
theorem d_Law_law_1448 : decode code 1448 = .ok (.iconst 0, 1) := by decide +kernel
theorem d_Law_law_1449 : decode code 1449 = .ok (.ireturn, 1) := by decide +kernel
theorem d_Law_law_1450 : decode code 1450 = .ok (.aload_n 1, 1) := by decide +kernel
theorem d_Law_law_1451 : decode code 1451 = .ok (.aload_n 0, 1) := by decide +kernel
theorem d_Law_law_1452 : decode code 1452 = .ok (.iload 4, 2) := by decide +kernel
theorem d_Law_law_1454 : decode code 1454 = .ok (.iconst 1, 1) := by decide +kernel
theorem d_Law_law_1455 : decode code 1455 = .ok (.iadd, 1) := by decide +kernel
theorem d_Law_law_1456 : decode code 1456 = .ok (.iaload, 1) := by decide +kernel
theorem d_Law_law_1457 : decode code 1457 = .ok (.invokevirtual 128, 3) := by decide +kernel
theorem d_Law_law_1460 : decode code 1460 = .ok (.aload_n 2, 1) := by decide +kernel
theorem d_Law_law_1461 : decode code 1461 = .ok (.aload_n 0, 1) := by decide +kernel
theorem d_Law_law_1462 : decode code 1462 = .ok (.iload 4, 2) := by decide +kernel
theorem d_Law_law_1464 : decode code 1464 = .ok (.iconst 1, 1) := by decide +kernel
theorem d_Law_law_1465 : decode code 1465 = .ok (.iadd, 1) := by decide +kernel
theorem d_Law_law_1466 : decode code 1466 = .ok (.iaload, 1) := by decide +kernel
theorem d_Law_law_1467 : decode code 1467 = .ok (.invokevirtual 131, 3) := by decide +kernel
theorem d_Law_law_1470 : decode code 1470 = .ok (.if_icmp .eq 5, 3) := by decide +kernel
theorem d_Law_law_1473 : decode code 1473 = .ok (.iconst 0, 1) := by decide +kernel
theorem d_Law_law_1474 : decode code 1474 = .ok (.ireturn, 1) := by decide +kernel
theorem d_Law_law_1475 : decode code 1475 = .ok (.iinc 4 10, 3) := by decide +kernel
theorem d_Law_law_1478 : decode code 1478 = .ok (.goto (-1455), 3) := by decide +kernel
theorem d_Law_law_1481 : decode code 1481 = .ok (.iconst 1, 1) := by decide +kernel
theorem d_Law_law_1482 : decode code 1482 = .ok (.ireturn, 1) := by decide +kernel
