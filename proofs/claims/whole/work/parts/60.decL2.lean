theorem dL_law__1181 : decode cL_law_ 1181 = .ok (.iaload, 1) := by decide +kernel
theorem dL_law__1182 : decode cL_law_ 1182 = .ok (.aload_n 3, 1) := by decide +kernel
theorem dL_law__1183 : decode cL_law_ 1183 = .ok (.invokestatic 207, 3) := by decide +kernel
theorem dL_law__1186 : decode cL_law_ 1186 = .ok (.istore 5, 2) := by decide +kernel
theorem dL_law__1188 : decode cL_law_ 1188 = .ok (.aload_n 2, 1) := by decide +kernel
theorem dL_law__1189 : decode cL_law_ 1189 = .ok (.aload_n 0, 1) := by decide +kernel
theorem dL_law__1190 : decode cL_law_ 1190 = .ok (.iload 4, 2) := by decide +kernel
theorem dL_law__1192 : decode cL_law_ 1192 = .ok (.iconst 1, 1) := by decide +kernel
theorem dL_law__1193 : decode cL_law_ 1193 = .ok (.iadd, 1) := by decide +kernel
theorem dL_law__1194 : decode cL_law_ 1194 = .ok (.iaload, 1) := by decide +kernel
theorem dL_law__1195 : decode cL_law_ 1195 = .ok (.invokevirtual 209, 3) := by decide +kernel
theorem dL_law__1198 : decode cL_law_ 1198 = .ok (.istore 6, 2) := by decide +kernel
theorem dL_law__1200 : decode cL_law_ 1200 = .ok (.aload_n 2, 1) := by decide +kernel
theorem dL_law__1201 : decode cL_law_ 1201 = .ok (.invokevirtual 166, 3) := by decide +kernel
theorem dL_law__1204 : decode cL_law_ 1204 = .ok (.iload 5, 2) := by decide +kernel
theorem dL_law__1206 : decode cL_law_ 1206 = .ok (.if_icmp .eq 5, 3) := by decide +kernel
theorem dL_law__1209 : decode cL_law_ 1209 = .ok (.iconst 0, 1) := by decide +kernel
theorem dL_law__1210 : decode cL_law_ 1210 = .ok (.ireturn, 1) := by decide +kernel
theorem dL_law__1211 : decode cL_law_ 1211 = .ok (.iload 5, 2) := by decide +kernel
theorem dL_law__1213 : decode cL_law_ 1213 = .ok (.ifCond .ne 15, 3) := by decide +kernel
theorem dL_law__1216 : decode cL_law_ 1216 = .ok (.aload_n 3, 1) := by decide +kernel
theorem dL_law__1217 : decode cL_law_ 1217 = .ok (.iconst 0, 1) := by decide +kernel
theorem dL_law__1218 : decode cL_law_ 1218 = .ok (.laload, 1) := by decide +kernel
theorem dL_law__1219 : decode cL_law_ 1219 = .ok (.iload 6, 2) := by decide +kernel
theorem dL_law__1221 : decode cL_law_ 1221 = .ok (.i2l, 1) := by decide +kernel
theorem dL_law__1222 : decode cL_law_ 1222 = .ok (.lcmp, 1) := by decide +kernel
theorem dL_law__1223 : decode cL_law_ 1223 = .ok (.ifCond .eq 5, 3) := by decide +kernel
theorem dL_law__1226 : decode cL_law_ 1226 = .ok (.iconst 0, 1) := by decide +kernel
theorem dL_law__1227 : decode cL_law_ 1227 = .ok (.ireturn, 1) := by decide +kernel
theorem dL_law__1228 : decode cL_law_ 1228 = .ok (.goto 2290, 3) := by decide +kernel
theorem dL_law__1231 : decode cL_law_ 1231 = .ok (.aload_n 1, 1) := by decide +kernel
theorem dL_law__1232 : decode cL_law_ 1232 = .ok (.aload_n 0, 1) := by decide +kernel
theorem dL_law__1233 : decode cL_law_ 1233 = .ok (.iload 4, 2) := by decide +kernel
theorem dL_law__1235 : decode cL_law_ 1235 = .ok (.iconst 1, 1) := by decide +kernel
theorem dL_law__1236 : decode cL_law_ 1236 = .ok (.iadd, 1) := by decide +kernel
theorem dL_law__1237 : decode cL_law_ 1237 = .ok (.iaload, 1) := by decide +kernel
theorem dL_law__1238 : decode cL_law_ 1238 = .ok (.aload_n 0, 1) := by decide +kernel
theorem dL_law__1239 : decode cL_law_ 1239 = .ok (.iload 4, 2) := by decide +kernel
theorem dL_law__1241 : decode cL_law_ 1241 = .ok (.iconst 2, 1) := by decide +kernel
theorem dL_law__1242 : decode cL_law_ 1242 = .ok (.iadd, 1) := by decide +kernel
theorem dL_law__1243 : decode cL_law_ 1243 = .ok (.iaload, 1) := by decide +kernel
theorem dL_law__1244 : decode cL_law_ 1244 = .ok (.aload_n 0, 1) := by decide +kernel
theorem dL_law__1245 : decode cL_law_ 1245 = .ok (.iload 4, 2) := by decide +kernel
theorem dL_law__1247 : decode cL_law_ 1247 = .ok (.iconst 3, 1) := by decide +kernel
theorem dL_law__1248 : decode cL_law_ 1248 = .ok (.iadd, 1) := by decide +kernel
theorem dL_law__1249 : decode cL_law_ 1249 = .ok (.iaload, 1) := by decide +kernel
theorem dL_law__1250 : decode cL_law_ 1250 = .ok (.ifCond .eq 7, 3) := by decide +kernel
theorem dL_law__1253 : decode cL_law_ 1253 = .ok (.iconst 1, 1) := by decide +kernel
theorem dL_law__1254 : decode cL_law_ 1254 = .ok (.goto 4, 3) := by decide +kernel
theorem dL_law__1257 : decode cL_law_ 1257 = .ok (.iconst 0, 1) := by decide +kernel
theorem dL_law__1258 : decode cL_law_ 1258 = .ok (.aload_n 3, 1) := by decide +kernel
theorem dL_law__1259 : decode cL_law_ 1259 = .ok (.invokestatic 210, 3) := by decide +kernel
theorem dL_law__1262 : decode cL_law_ 1262 = .ok (.istore 5, 2) := by decide +kernel
theorem dL_law__1264 : decode cL_law_ 1264 = .ok (.aload_n 2, 1) := by decide +kernel
theorem dL_law__1265 : decode cL_law_ 1265 = .ok (.aload_n 0, 1) := by decide +kernel
theorem dL_law__1266 : decode cL_law_ 1266 = .ok (.iload 4, 2) := by decide +kernel
theorem dL_law__1268 : decode cL_law_ 1268 = .ok (.iconst 1, 1) := by decide +kernel
theorem dL_law__1269 : decode cL_law_ 1269 = .ok (.iadd, 1) := by decide +kernel
theorem dL_law__1270 : decode cL_law_ 1270 = .ok (.iaload, 1) := by decide +kernel
theorem dL_law__1271 : decode cL_law_ 1271 = .ok (.aload_n 0, 1) := by decide +kernel
theorem dL_law__1272 : decode cL_law_ 1272 = .ok (.iload 4, 2) := by decide +kernel
theorem dL_law__1274 : decode cL_law_ 1274 = .ok (.iconst 2, 1) := by decide +kernel
theorem dL_law__1275 : decode cL_law_ 1275 = .ok (.iadd, 1) := by decide +kernel
theorem dL_law__1276 : decode cL_law_ 1276 = .ok (.iaload, 1) := by decide +kernel
theorem dL_law__1277 : decode cL_law_ 1277 = .ok (.aload_n 0, 1) := by decide +kernel
theorem dL_law__1278 : decode cL_law_ 1278 = .ok (.iload 4, 2) := by decide +kernel
theorem dL_law__1280 : decode cL_law_ 1280 = .ok (.iconst 3, 1) := by decide +kernel
theorem dL_law__1281 : decode cL_law_ 1281 = .ok (.iadd, 1) := by decide +kernel
theorem dL_law__1282 : decode cL_law_ 1282 = .ok (.iaload, 1) := by decide +kernel
theorem dL_law__1283 : decode cL_law_ 1283 = .ok (.ifCond .eq 7, 3) := by decide +kernel
theorem dL_law__1286 : decode cL_law_ 1286 = .ok (.iconst 1, 1) := by decide +kernel
theorem dL_law__1287 : decode cL_law_ 1287 = .ok (.goto 4, 3) := by decide +kernel
theorem dL_law__1290 : decode cL_law_ 1290 = .ok (.iconst 0, 1) := by decide +kernel
theorem dL_law__1291 : decode cL_law_ 1291 = .ok (.invokevirtual 212, 3) := by decide +kernel
theorem dL_law__1294 : decode cL_law_ 1294 = .ok (.istore 6, 2) := by decide +kernel
theorem dL_law__1296 : decode cL_law_ 1296 = .ok (.aload_n 2, 1) := by decide +kernel
theorem dL_law__1297 : decode cL_law_ 1297 = .ok (.invokevirtual 166, 3) := by decide +kernel
theorem dL_law__1300 : decode cL_law_ 1300 = .ok (.iload 5, 2) := by decide +kernel
theorem dL_law__1302 : decode cL_law_ 1302 = .ok (.if_icmp .eq 5, 3) := by decide +kernel
theorem dL_law__1305 : decode cL_law_ 1305 = .ok (.iconst 0, 1) := by decide +kernel
theorem dL_law__1306 : decode cL_law_ 1306 = .ok (.ireturn, 1) := by decide +kernel
theorem dL_law__1307 : decode cL_law_ 1307 = .ok (.iload 5, 2) := by decide +kernel
theorem dL_law__1309 : decode cL_law_ 1309 = .ok (.ifCond .ne 22, 3) := by decide +kernel
theorem dL_law__1312 : decode cL_law_ 1312 = .ok (.aload_n 3, 1) := by decide +kernel
theorem dL_law__1313 : decode cL_law_ 1313 = .ok (.iconst 0, 1) := by decide +kernel
theorem dL_law__1314 : decode cL_law_ 1314 = .ok (.laload, 1) := by decide +kernel
theorem dL_law__1315 : decode cL_law_ 1315 = .ok (.iload 6, 2) := by decide +kernel
theorem dL_law__1317 : decode cL_law_ 1317 = .ok (.ifCond .eq 7, 3) := by decide +kernel
theorem dL_law__1320 : decode cL_law_ 1320 = .ok (.lconst 1, 1) := by decide +kernel
theorem dL_law__1321 : decode cL_law_ 1321 = .ok (.goto 4, 3) := by decide +kernel
theorem dL_law__1324 : decode cL_law_ 1324 = .ok (.lconst 0, 1) := by decide +kernel
theorem dL_law__1325 : decode cL_law_ 1325 = .ok (.lcmp, 1) := by decide +kernel
theorem dL_law__1326 : decode cL_law_ 1326 = .ok (.ifCond .eq 5, 3) := by decide +kernel
theorem dL_law__1329 : decode cL_law_ 1329 = .ok (.iconst 0, 1) := by decide +kernel
theorem dL_law__1330 : decode cL_law_ 1330 = .ok (.ireturn, 1) := by decide +kernel
theorem dL_law__1331 : decode cL_law_ 1331 = .ok (.goto 2187, 3) := by decide +kernel
theorem dL_law__1334 : decode cL_law_ 1334 = .ok (.aload_n 1, 1) := by decide +kernel
theorem dL_law__1335 : decode cL_law_ 1335 = .ok (.aload_n 0, 1) := by decide +kernel
theorem dL_law__1336 : decode cL_law_ 1336 = .ok (.iload 4, 2) := by decide +kernel
theorem dL_law__1338 : decode cL_law_ 1338 = .ok (.iconst 1, 1) := by decide +kernel
theorem dL_law__1339 : decode cL_law_ 1339 = .ok (.iadd, 1) := by decide +kernel
theorem dL_law__1340 : decode cL_law_ 1340 = .ok (.iaload, 1) := by decide +kernel
theorem dL_law__1341 : decode cL_law_ 1341 = .ok (.aload_n 0, 1) := by decide +kernel
theorem dL_law__1342 : decode cL_law_ 1342 = .ok (.iload 4, 2) := by decide +kernel
theorem dL_law__1344 : decode cL_law_ 1344 = .ok (.iconst 2, 1) := by decide +kernel
theorem dL_law__1345 : decode cL_law_ 1345 = .ok (.iadd, 1) := by decide +kernel
theorem dL_law__1346 : decode cL_law_ 1346 = .ok (.iaload, 1) := by decide +kernel
theorem dL_law__1347 : decode cL_law_ 1347 = .ok (.aload_n 3, 1) := by decide +kernel
theorem dL_law__1348 : decode cL_law_ 1348 = .ok (.invokestatic 213, 3) := by decide +kernel
theorem dL_law__1351 : decode cL_law_ 1351 = .ok (.istore 5, 2) := by decide +kernel
theorem dL_law__1353 : decode cL_law_ 1353 = .ok (.aload_n 2, 1) := by decide +kernel
theorem dL_law__1354 : decode cL_law_ 1354 = .ok (.aload_n 0, 1) := by decide +kernel
theorem dL_law__1355 : decode cL_law_ 1355 = .ok (.iload 4, 2) := by decide +kernel
theorem dL_law__1357 : decode cL_law_ 1357 = .ok (.iconst 1, 1) := by decide +kernel
theorem dL_law__1358 : decode cL_law_ 1358 = .ok (.iadd, 1) := by decide +kernel
theorem dL_law__1359 : decode cL_law_ 1359 = .ok (.iaload, 1) := by decide +kernel
theorem dL_law__1360 : decode cL_law_ 1360 = .ok (.aload_n 0, 1) := by decide +kernel
theorem dL_law__1361 : decode cL_law_ 1361 = .ok (.iload 4, 2) := by decide +kernel
theorem dL_law__1363 : decode cL_law_ 1363 = .ok (.iconst 2, 1) := by decide +kernel
theorem dL_law__1364 : decode cL_law_ 1364 = .ok (.iadd, 1) := by decide +kernel
theorem dL_law__1365 : decode cL_law_ 1365 = .ok (.iaload, 1) := by decide +kernel
theorem dL_law__1366 : decode cL_law_ 1366 = .ok (.invokevirtual 215, 3) := by decide +kernel
theorem dL_law__1369 : decode cL_law_ 1369 = .ok (.istore 6, 2) := by decide +kernel
theorem dL_law__1371 : decode cL_law_ 1371 = .ok (.aload_n 2, 1) := by decide +kernel
theorem dL_law__1372 : decode cL_law_ 1372 = .ok (.invokevirtual 166, 3) := by decide +kernel
theorem dL_law__1375 : decode cL_law_ 1375 = .ok (.iload 5, 2) := by decide +kernel
theorem dL_law__1377 : decode cL_law_ 1377 = .ok (.if_icmp .eq 5, 3) := by decide +kernel
theorem dL_law__1380 : decode cL_law_ 1380 = .ok (.iconst 0, 1) := by decide +kernel
theorem dL_law__1381 : decode cL_law_ 1381 = .ok (.ireturn, 1) := by decide +kernel
theorem dL_law__1382 : decode cL_law_ 1382 = .ok (.iload 5, 2) := by decide +kernel
theorem dL_law__1384 : decode cL_law_ 1384 = .ok (.ifCond .ne 15, 3) := by decide +kernel
theorem dL_law__1387 : decode cL_law_ 1387 = .ok (.aload_n 3, 1) := by decide +kernel
theorem dL_law__1388 : decode cL_law_ 1388 = .ok (.iconst 0, 1) := by decide +kernel
theorem dL_law__1389 : decode cL_law_ 1389 = .ok (.laload, 1) := by decide +kernel
theorem dL_law__1390 : decode cL_law_ 1390 = .ok (.iload 6, 2) := by decide +kernel
theorem dL_law__1392 : decode cL_law_ 1392 = .ok (.i2l, 1) := by decide +kernel
theorem dL_law__1393 : decode cL_law_ 1393 = .ok (.lcmp, 1) := by decide +kernel
theorem dL_law__1394 : decode cL_law_ 1394 = .ok (.ifCond .eq 5, 3) := by decide +kernel
theorem dL_law__1397 : decode cL_law_ 1397 = .ok (.iconst 0, 1) := by decide +kernel
theorem dL_law__1398 : decode cL_law_ 1398 = .ok (.ireturn, 1) := by decide +kernel
theorem dL_law__1399 : decode cL_law_ 1399 = .ok (.goto 2119, 3) := by decide +kernel
theorem dL_law__1402 : decode cL_law_ 1402 = .ok (.aload_n 1, 1) := by decide +kernel
theorem dL_law__1403 : decode cL_law_ 1403 = .ok (.aload_n 0, 1) := by decide +kernel
theorem dL_law__1404 : decode cL_law_ 1404 = .ok (.iload 4, 2) := by decide +kernel
theorem dL_law__1406 : decode cL_law_ 1406 = .ok (.iconst 1, 1) := by decide +kernel
theorem dL_law__1407 : decode cL_law_ 1407 = .ok (.iadd, 1) := by decide +kernel
theorem dL_law__1408 : decode cL_law_ 1408 = .ok (.iaload, 1) := by decide +kernel
theorem dL_law__1409 : decode cL_law_ 1409 = .ok (.aload_n 3, 1) := by decide +kernel
theorem dL_law__1410 : decode cL_law_ 1410 = .ok (.invokestatic 216, 3) := by decide +kernel
theorem dL_law__1413 : decode cL_law_ 1413 = .ok (.istore 5, 2) := by decide +kernel
theorem dL_law__1415 : decode cL_law_ 1415 = .ok (.aload_n 2, 1) := by decide +kernel
theorem dL_law__1416 : decode cL_law_ 1416 = .ok (.aload_n 0, 1) := by decide +kernel
theorem dL_law__1417 : decode cL_law_ 1417 = .ok (.iload 4, 2) := by decide +kernel
theorem dL_law__1419 : decode cL_law_ 1419 = .ok (.iconst 1, 1) := by decide +kernel
theorem dL_law__1420 : decode cL_law_ 1420 = .ok (.iadd, 1) := by decide +kernel
theorem dL_law__1421 : decode cL_law_ 1421 = .ok (.iaload, 1) := by decide +kernel
theorem dL_law__1422 : decode cL_law_ 1422 = .ok (.invokevirtual 218, 3) := by decide +kernel
theorem dL_law__1425 : decode cL_law_ 1425 = .ok (.istore 6, 2) := by decide +kernel
theorem dL_law__1427 : decode cL_law_ 1427 = .ok (.aload_n 2, 1) := by decide +kernel
theorem dL_law__1428 : decode cL_law_ 1428 = .ok (.invokevirtual 166, 3) := by decide +kernel
theorem dL_law__1431 : decode cL_law_ 1431 = .ok (.iload 5, 2) := by decide +kernel
theorem dL_law__1433 : decode cL_law_ 1433 = .ok (.if_icmp .eq 5, 3) := by decide +kernel
theorem dL_law__1436 : decode cL_law_ 1436 = .ok (.iconst 0, 1) := by decide +kernel
theorem dL_law__1437 : decode cL_law_ 1437 = .ok (.ireturn, 1) := by decide +kernel
theorem dL_law__1438 : decode cL_law_ 1438 = .ok (.iload 5, 2) := by decide +kernel
theorem dL_law__1440 : decode cL_law_ 1440 = .ok (.ifCond .ne 15, 3) := by decide +kernel
theorem dL_law__1443 : decode cL_law_ 1443 = .ok (.aload_n 3, 1) := by decide +kernel
theorem dL_law__1444 : decode cL_law_ 1444 = .ok (.iconst 0, 1) := by decide +kernel
theorem dL_law__1445 : decode cL_law_ 1445 = .ok (.laload, 1) := by decide +kernel
theorem dL_law__1446 : decode cL_law_ 1446 = .ok (.iload 6, 2) := by decide +kernel
theorem dL_law__1448 : decode cL_law_ 1448 = .ok (.i2l, 1) := by decide +kernel
theorem dL_law__1449 : decode cL_law_ 1449 = .ok (.lcmp, 1) := by decide +kernel
theorem dL_law__1450 : decode cL_law_ 1450 = .ok (.ifCond .eq 5, 3) := by decide +kernel
theorem dL_law__1453 : decode cL_law_ 1453 = .ok (.iconst 0, 1) := by decide +kernel
theorem dL_law__1454 : decode cL_law_ 1454 = .ok (.ireturn, 1) := by decide +kernel
theorem dL_law__1455 : decode cL_law_ 1455 = .ok (.goto 2063, 3) := by decide +kernel
theorem dL_law__1458 : decode cL_law_ 1458 = .ok (.aload_n 1, 1) := by decide +kernel
theorem dL_law__1459 : decode cL_law_ 1459 = .ok (.aload_n 0, 1) := by decide +kernel
theorem dL_law__1460 : decode cL_law_ 1460 = .ok (.iload 4, 2) := by decide +kernel
theorem dL_law__1462 : decode cL_law_ 1462 = .ok (.iconst 1, 1) := by decide +kernel
theorem dL_law__1463 : decode cL_law_ 1463 = .ok (.iadd, 1) := by decide +kernel
theorem dL_law__1464 : decode cL_law_ 1464 = .ok (.iaload, 1) := by decide +kernel
theorem dL_law__1465 : decode cL_law_ 1465 = .ok (.aload_n 0, 1) := by decide +kernel
theorem dL_law__1466 : decode cL_law_ 1466 = .ok (.iload 4, 2) := by decide +kernel
theorem dL_law__1468 : decode cL_law_ 1468 = .ok (.iconst 2, 1) := by decide +kernel
theorem dL_law__1469 : decode cL_law_ 1469 = .ok (.iadd, 1) := by decide +kernel
theorem dL_law__1470 : decode cL_law_ 1470 = .ok (.iaload, 1) := by decide +kernel
theorem dL_law__1471 : decode cL_law_ 1471 = .ok (.aload_n 0, 1) := by decide +kernel
theorem dL_law__1472 : decode cL_law_ 1472 = .ok (.iload 4, 2) := by decide +kernel
theorem dL_law__1474 : decode cL_law_ 1474 = .ok (.iconst 3, 1) := by decide +kernel
theorem dL_law__1475 : decode cL_law_ 1475 = .ok (.iadd, 1) := by decide +kernel
theorem dL_law__1476 : decode cL_law_ 1476 = .ok (.iaload, 1) := by decide +kernel
theorem dL_law__1477 : decode cL_law_ 1477 = .ok (.ifCond .eq 7, 3) := by decide +kernel
theorem dL_law__1480 : decode cL_law_ 1480 = .ok (.iconst 1, 1) := by decide +kernel
theorem dL_law__1481 : decode cL_law_ 1481 = .ok (.goto 4, 3) := by decide +kernel
theorem dL_law__1484 : decode cL_law_ 1484 = .ok (.iconst 0, 1) := by decide +kernel
theorem dL_law__1485 : decode cL_law_ 1485 = .ok (.aload_n 3, 1) := by decide +kernel
theorem dL_law__1486 : decode cL_law_ 1486 = .ok (.invokestatic 219, 3) := by decide +kernel
theorem dL_law__1489 : decode cL_law_ 1489 = .ok (.istore 5, 2) := by decide +kernel
theorem dL_law__1491 : decode cL_law_ 1491 = .ok (.aload_n 2, 1) := by decide +kernel
theorem dL_law__1492 : decode cL_law_ 1492 = .ok (.aload_n 0, 1) := by decide +kernel
theorem dL_law__1493 : decode cL_law_ 1493 = .ok (.iload 4, 2) := by decide +kernel
theorem dL_law__1495 : decode cL_law_ 1495 = .ok (.iconst 1, 1) := by decide +kernel
theorem dL_law__1496 : decode cL_law_ 1496 = .ok (.iadd, 1) := by decide +kernel
theorem dL_law__1497 : decode cL_law_ 1497 = .ok (.iaload, 1) := by decide +kernel
theorem dL_law__1498 : decode cL_law_ 1498 = .ok (.aload_n 0, 1) := by decide +kernel
theorem dL_law__1499 : decode cL_law_ 1499 = .ok (.iload 4, 2) := by decide +kernel
theorem dL_law__1501 : decode cL_law_ 1501 = .ok (.iconst 2, 1) := by decide +kernel
theorem dL_law__1502 : decode cL_law_ 1502 = .ok (.iadd, 1) := by decide +kernel
theorem dL_law__1503 : decode cL_law_ 1503 = .ok (.iaload, 1) := by decide +kernel
theorem dL_law__1504 : decode cL_law_ 1504 = .ok (.aload_n 0, 1) := by decide +kernel
theorem dL_law__1505 : decode cL_law_ 1505 = .ok (.iload 4, 2) := by decide +kernel
theorem dL_law__1507 : decode cL_law_ 1507 = .ok (.iconst 3, 1) := by decide +kernel
theorem dL_law__1508 : decode cL_law_ 1508 = .ok (.iadd, 1) := by decide +kernel
theorem dL_law__1509 : decode cL_law_ 1509 = .ok (.iaload, 1) := by decide +kernel
theorem dL_law__1510 : decode cL_law_ 1510 = .ok (.ifCond .eq 7, 3) := by decide +kernel
theorem dL_law__1513 : decode cL_law_ 1513 = .ok (.iconst 1, 1) := by decide +kernel
theorem dL_law__1514 : decode cL_law_ 1514 = .ok (.goto 4, 3) := by decide +kernel
theorem dL_law__1517 : decode cL_law_ 1517 = .ok (.iconst 0, 1) := by decide +kernel
theorem dL_law__1518 : decode cL_law_ 1518 = .ok (.invokevirtual 221, 3) := by decide +kernel
theorem dL_law__1521 : decode cL_law_ 1521 = .ok (.istore 6, 2) := by decide +kernel
theorem dL_law__1523 : decode cL_law_ 1523 = .ok (.aload_n 2, 1) := by decide +kernel
theorem dL_law__1524 : decode cL_law_ 1524 = .ok (.invokevirtual 166, 3) := by decide +kernel
theorem dL_law__1527 : decode cL_law_ 1527 = .ok (.iload 5, 2) := by decide +kernel
theorem dL_law__1529 : decode cL_law_ 1529 = .ok (.if_icmp .eq 5, 3) := by decide +kernel
theorem dL_law__1532 : decode cL_law_ 1532 = .ok (.iconst 0, 1) := by decide +kernel
theorem dL_law__1533 : decode cL_law_ 1533 = .ok (.ireturn, 1) := by decide +kernel
theorem dL_law__1534 : decode cL_law_ 1534 = .ok (.iload 5, 2) := by decide +kernel
theorem dL_law__1536 : decode cL_law_ 1536 = .ok (.ifCond .ne 15, 3) := by decide +kernel
theorem dL_law__1539 : decode cL_law_ 1539 = .ok (.aload_n 3, 1) := by decide +kernel
theorem dL_law__1540 : decode cL_law_ 1540 = .ok (.iconst 0, 1) := by decide +kernel
theorem dL_law__1541 : decode cL_law_ 1541 = .ok (.laload, 1) := by decide +kernel
theorem dL_law__1542 : decode cL_law_ 1542 = .ok (.iload 6, 2) := by decide +kernel
theorem dL_law__1544 : decode cL_law_ 1544 = .ok (.i2l, 1) := by decide +kernel
theorem dL_law__1545 : decode cL_law_ 1545 = .ok (.lcmp, 1) := by decide +kernel
theorem dL_law__1546 : decode cL_law_ 1546 = .ok (.ifCond .eq 5, 3) := by decide +kernel
theorem dL_law__1549 : decode cL_law_ 1549 = .ok (.iconst 0, 1) := by decide +kernel
theorem dL_law__1550 : decode cL_law_ 1550 = .ok (.ireturn, 1) := by decide +kernel
theorem dL_law__1551 : decode cL_law_ 1551 = .ok (.goto 1967, 3) := by decide +kernel
theorem dL_law__1554 : decode cL_law_ 1554 = .ok (.aload_n 1, 1) := by decide +kernel
theorem dL_law__1555 : decode cL_law_ 1555 = .ok (.aload_n 0, 1) := by decide +kernel
theorem dL_law__1556 : decode cL_law_ 1556 = .ok (.iload 4, 2) := by decide +kernel
theorem dL_law__1558 : decode cL_law_ 1558 = .ok (.iconst 1, 1) := by decide +kernel
theorem dL_law__1559 : decode cL_law_ 1559 = .ok (.iadd, 1) := by decide +kernel
theorem dL_law__1560 : decode cL_law_ 1560 = .ok (.iaload, 1) := by decide +kernel
theorem dL_law__1561 : decode cL_law_ 1561 = .ok (.aload_n 0, 1) := by decide +kernel
theorem dL_law__1562 : decode cL_law_ 1562 = .ok (.iload 4, 2) := by decide +kernel
theorem dL_law__1564 : decode cL_law_ 1564 = .ok (.iconst 2, 1) := by decide +kernel
theorem dL_law__1565 : decode cL_law_ 1565 = .ok (.iadd, 1) := by decide +kernel
theorem dL_law__1566 : decode cL_law_ 1566 = .ok (.iaload, 1) := by decide +kernel
theorem dL_law__1567 : decode cL_law_ 1567 = .ok (.aload_n 3, 1) := by decide +kernel
theorem dL_law__1568 : decode cL_law_ 1568 = .ok (.invokestatic 222, 3) := by decide +kernel
theorem dL_law__1571 : decode cL_law_ 1571 = .ok (.istore 5, 2) := by decide +kernel
theorem dL_law__1573 : decode cL_law_ 1573 = .ok (.aload_n 2, 1) := by decide +kernel
theorem dL_law__1574 : decode cL_law_ 1574 = .ok (.aload_n 0, 1) := by decide +kernel
theorem dL_law__1575 : decode cL_law_ 1575 = .ok (.iload 4, 2) := by decide +kernel
theorem dL_law__1577 : decode cL_law_ 1577 = .ok (.iconst 1, 1) := by decide +kernel
theorem dL_law__1578 : decode cL_law_ 1578 = .ok (.iadd, 1) := by decide +kernel
theorem dL_law__1579 : decode cL_law_ 1579 = .ok (.iaload, 1) := by decide +kernel
theorem dL_law__1580 : decode cL_law_ 1580 = .ok (.aload_n 0, 1) := by decide +kernel
theorem dL_law__1581 : decode cL_law_ 1581 = .ok (.iload 4, 2) := by decide +kernel
theorem dL_law__1583 : decode cL_law_ 1583 = .ok (.iconst 2, 1) := by decide +kernel
theorem dL_law__1584 : decode cL_law_ 1584 = .ok (.iadd, 1) := by decide +kernel
theorem dL_law__1585 : decode cL_law_ 1585 = .ok (.iaload, 1) := by decide +kernel
theorem dL_law__1586 : decode cL_law_ 1586 = .ok (.invokevirtual 224, 3) := by decide +kernel
theorem dL_law__1589 : decode cL_law_ 1589 = .ok (.istore 6, 2) := by decide +kernel
theorem dL_law__1591 : decode cL_law_ 1591 = .ok (.aload_n 2, 1) := by decide +kernel
theorem dL_law__1592 : decode cL_law_ 1592 = .ok (.invokevirtual 166, 3) := by decide +kernel
theorem dL_law__1595 : decode cL_law_ 1595 = .ok (.iload 5, 2) := by decide +kernel
theorem dL_law__1597 : decode cL_law_ 1597 = .ok (.if_icmp .eq 5, 3) := by decide +kernel
theorem dL_law__1600 : decode cL_law_ 1600 = .ok (.iconst 0, 1) := by decide +kernel
theorem dL_law__1601 : decode cL_law_ 1601 = .ok (.ireturn, 1) := by decide +kernel
theorem dL_law__1602 : decode cL_law_ 1602 = .ok (.iload 5, 2) := by decide +kernel
theorem dL_law__1604 : decode cL_law_ 1604 = .ok (.ifCond .ne 15, 3) := by decide +kernel
theorem dL_law__1607 : decode cL_law_ 1607 = .ok (.aload_n 3, 1) := by decide +kernel
theorem dL_law__1608 : decode cL_law_ 1608 = .ok (.iconst 0, 1) := by decide +kernel
theorem dL_law__1609 : decode cL_law_ 1609 = .ok (.laload, 1) := by decide +kernel
theorem dL_law__1610 : decode cL_law_ 1610 = .ok (.iload 6, 2) := by decide +kernel
theorem dL_law__1612 : decode cL_law_ 1612 = .ok (.i2l, 1) := by decide +kernel
theorem dL_law__1613 : decode cL_law_ 1613 = .ok (.lcmp, 1) := by decide +kernel
theorem dL_law__1614 : decode cL_law_ 1614 = .ok (.ifCond .eq 5, 3) := by decide +kernel
theorem dL_law__1617 : decode cL_law_ 1617 = .ok (.iconst 0, 1) := by decide +kernel
theorem dL_law__1618 : decode cL_law_ 1618 = .ok (.ireturn, 1) := by decide +kernel
theorem dL_law__1619 : decode cL_law_ 1619 = .ok (.goto 1899, 3) := by decide +kernel
theorem dL_law__1622 : decode cL_law_ 1622 = .ok (.aload_n 1, 1) := by decide +kernel
theorem dL_law__1623 : decode cL_law_ 1623 = .ok (.aload_n 0, 1) := by decide +kernel
theorem dL_law__1624 : decode cL_law_ 1624 = .ok (.iload 4, 2) := by decide +kernel
theorem dL_law__1626 : decode cL_law_ 1626 = .ok (.iconst 1, 1) := by decide +kernel
theorem dL_law__1627 : decode cL_law_ 1627 = .ok (.iadd, 1) := by decide +kernel
theorem dL_law__1628 : decode cL_law_ 1628 = .ok (.iaload, 1) := by decide +kernel
theorem dL_law__1629 : decode cL_law_ 1629 = .ok (.aload_n 0, 1) := by decide +kernel
theorem dL_law__1630 : decode cL_law_ 1630 = .ok (.iload 4, 2) := by decide +kernel
theorem dL_law__1632 : decode cL_law_ 1632 = .ok (.iconst 2, 1) := by decide +kernel
theorem dL_law__1633 : decode cL_law_ 1633 = .ok (.iadd, 1) := by decide +kernel
theorem dL_law__1634 : decode cL_law_ 1634 = .ok (.iaload, 1) := by decide +kernel
theorem dL_law__1635 : decode cL_law_ 1635 = .ok (.aload_n 3, 1) := by decide +kernel
theorem dL_law__1636 : decode cL_law_ 1636 = .ok (.invokestatic 225, 3) := by decide +kernel
theorem dL_law__1639 : decode cL_law_ 1639 = .ok (.istore 5, 2) := by decide +kernel
theorem dL_law__1641 : decode cL_law_ 1641 = .ok (.aload_n 2, 1) := by decide +kernel
theorem dL_law__1642 : decode cL_law_ 1642 = .ok (.aload_n 0, 1) := by decide +kernel
