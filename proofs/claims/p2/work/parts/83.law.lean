theorem dL_law_1294 : decode cL_law 1294 = .ok (.aload_n 1, 1) := by decide +kernel
theorem dL_law_1295 : decode cL_law 1295 = .ok (.aload_n 0, 1) := by decide +kernel
theorem dL_law_1296 : decode cL_law 1296 = .ok (.iload_n 3, 1) := by decide +kernel
theorem dL_law_1297 : decode cL_law 1297 = .ok (.iconst 1, 1) := by decide +kernel
theorem dL_law_1298 : decode cL_law 1298 = .ok (.iadd, 1) := by decide +kernel
theorem dL_law_1299 : decode cL_law 1299 = .ok (.iaload, 1) := by decide +kernel
theorem dL_law_1300 : decode cL_law 1300 = .ok (.aload_n 0, 1) := by decide +kernel
theorem dL_law_1301 : decode cL_law 1301 = .ok (.iload_n 3, 1) := by decide +kernel
theorem dL_law_1302 : decode cL_law 1302 = .ok (.iconst 2, 1) := by decide +kernel
theorem dL_law_1303 : decode cL_law 1303 = .ok (.iadd, 1) := by decide +kernel
theorem dL_law_1304 : decode cL_law 1304 = .ok (.iaload, 1) := by decide +kernel
theorem dL_law_1305 : decode cL_law 1305 = .ok (.aload_n 0, 1) := by decide +kernel
theorem dL_law_1306 : decode cL_law 1306 = .ok (.iload_n 3, 1) := by decide +kernel
theorem dL_law_1307 : decode cL_law 1307 = .ok (.iconst 3, 1) := by decide +kernel
theorem dL_law_1308 : decode cL_law 1308 = .ok (.iadd, 1) := by decide +kernel
theorem dL_law_1309 : decode cL_law 1309 = .ok (.iaload, 1) := by decide +kernel
theorem dL_law_1310 : decode cL_law 1310 = .ok (.invokevirtual 143, 3) := by decide +kernel
theorem dL_law_1313 : decode cL_law 1313 = .ok (.pop, 1) := by decide +kernel
theorem dL_law_1314 : decode cL_law 1314 = .ok (.aload_n 2, 1) := by decide +kernel
theorem dL_law_1315 : decode cL_law 1315 = .ok (.aload_n 0, 1) := by decide +kernel
theorem dL_law_1316 : decode cL_law 1316 = .ok (.iload_n 3, 1) := by decide +kernel
theorem dL_law_1317 : decode cL_law 1317 = .ok (.iconst 1, 1) := by decide +kernel
theorem dL_law_1318 : decode cL_law 1318 = .ok (.iadd, 1) := by decide +kernel
theorem dL_law_1319 : decode cL_law 1319 = .ok (.iaload, 1) := by decide +kernel
theorem dL_law_1320 : decode cL_law 1320 = .ok (.aload_n 0, 1) := by decide +kernel
theorem dL_law_1321 : decode cL_law 1321 = .ok (.iload_n 3, 1) := by decide +kernel
theorem dL_law_1322 : decode cL_law 1322 = .ok (.iconst 2, 1) := by decide +kernel
theorem dL_law_1323 : decode cL_law 1323 = .ok (.iadd, 1) := by decide +kernel
theorem dL_law_1324 : decode cL_law 1324 = .ok (.iaload, 1) := by decide +kernel
theorem dL_law_1325 : decode cL_law 1325 = .ok (.aload_n 0, 1) := by decide +kernel
theorem dL_law_1326 : decode cL_law 1326 = .ok (.iload_n 3, 1) := by decide +kernel
theorem dL_law_1327 : decode cL_law 1327 = .ok (.iconst 3, 1) := by decide +kernel
theorem dL_law_1328 : decode cL_law 1328 = .ok (.iadd, 1) := by decide +kernel
theorem dL_law_1329 : decode cL_law 1329 = .ok (.iaload, 1) := by decide +kernel
theorem dL_law_1330 : decode cL_law 1330 = .ok (.invokevirtual 146, 3) := by decide +kernel
theorem dL_law_1333 : decode cL_law 1333 = .ok (.pop, 1) := by decide +kernel
theorem dL_law_1334 : decode cL_law 1334 = .ok (.goto 473, 3) := by decide +kernel
theorem dL_law_1337 : decode cL_law 1337 = .ok (.aload_n 1, 1) := by decide +kernel
theorem dL_law_1338 : decode cL_law 1338 = .ok (.aload_n 0, 1) := by decide +kernel
theorem dL_law_1339 : decode cL_law 1339 = .ok (.iload_n 3, 1) := by decide +kernel
theorem dL_law_1340 : decode cL_law 1340 = .ok (.iconst 1, 1) := by decide +kernel
theorem dL_law_1341 : decode cL_law 1341 = .ok (.iadd, 1) := by decide +kernel
theorem dL_law_1342 : decode cL_law 1342 = .ok (.iaload, 1) := by decide +kernel
theorem dL_law_1343 : decode cL_law 1343 = .ok (.aload_n 0, 1) := by decide +kernel
theorem dL_law_1344 : decode cL_law 1344 = .ok (.iload_n 3, 1) := by decide +kernel
theorem dL_law_1345 : decode cL_law 1345 = .ok (.iconst 2, 1) := by decide +kernel
theorem dL_law_1346 : decode cL_law 1346 = .ok (.iadd, 1) := by decide +kernel
theorem dL_law_1347 : decode cL_law 1347 = .ok (.iaload, 1) := by decide +kernel
theorem dL_law_1348 : decode cL_law 1348 = .ok (.aload_n 0, 1) := by decide +kernel
theorem dL_law_1349 : decode cL_law 1349 = .ok (.iload_n 3, 1) := by decide +kernel
theorem dL_law_1350 : decode cL_law 1350 = .ok (.iconst 3, 1) := by decide +kernel
theorem dL_law_1351 : decode cL_law 1351 = .ok (.iadd, 1) := by decide +kernel
theorem dL_law_1352 : decode cL_law 1352 = .ok (.iaload, 1) := by decide +kernel
theorem dL_law_1353 : decode cL_law 1353 = .ok (.invokevirtual 147, 3) := by decide +kernel
theorem dL_law_1356 : decode cL_law 1356 = .ok (.pop, 1) := by decide +kernel
theorem dL_law_1357 : decode cL_law 1357 = .ok (.aload_n 2, 1) := by decide +kernel
theorem dL_law_1358 : decode cL_law 1358 = .ok (.aload_n 0, 1) := by decide +kernel
theorem dL_law_1359 : decode cL_law 1359 = .ok (.iload_n 3, 1) := by decide +kernel
theorem dL_law_1360 : decode cL_law 1360 = .ok (.iconst 1, 1) := by decide +kernel
theorem dL_law_1361 : decode cL_law 1361 = .ok (.iadd, 1) := by decide +kernel
theorem dL_law_1362 : decode cL_law 1362 = .ok (.iaload, 1) := by decide +kernel
theorem dL_law_1363 : decode cL_law 1363 = .ok (.aload_n 0, 1) := by decide +kernel
theorem dL_law_1364 : decode cL_law 1364 = .ok (.iload_n 3, 1) := by decide +kernel
theorem dL_law_1365 : decode cL_law 1365 = .ok (.iconst 2, 1) := by decide +kernel
theorem dL_law_1366 : decode cL_law 1366 = .ok (.iadd, 1) := by decide +kernel
theorem dL_law_1367 : decode cL_law 1367 = .ok (.iaload, 1) := by decide +kernel
theorem dL_law_1368 : decode cL_law 1368 = .ok (.aload_n 0, 1) := by decide +kernel
theorem dL_law_1369 : decode cL_law 1369 = .ok (.iload_n 3, 1) := by decide +kernel
theorem dL_law_1370 : decode cL_law 1370 = .ok (.iconst 3, 1) := by decide +kernel
theorem dL_law_1371 : decode cL_law 1371 = .ok (.iadd, 1) := by decide +kernel
theorem dL_law_1372 : decode cL_law 1372 = .ok (.iaload, 1) := by decide +kernel
theorem dL_law_1373 : decode cL_law 1373 = .ok (.invokevirtual 150, 3) := by decide +kernel
theorem dL_law_1376 : decode cL_law 1376 = .ok (.pop, 1) := by decide +kernel
theorem dL_law_1377 : decode cL_law 1377 = .ok (.goto 430, 3) := by decide +kernel
theorem dL_law_1380 : decode cL_law 1380 = .ok (.aload_n 1, 1) := by decide +kernel
theorem dL_law_1381 : decode cL_law 1381 = .ok (.invokevirtual 151, 3) := by decide +kernel
theorem dL_law_1384 : decode cL_law 1384 = .ok (.pop, 1) := by decide +kernel
theorem dL_law_1385 : decode cL_law 1385 = .ok (.aload_n 2, 1) := by decide +kernel
theorem dL_law_1386 : decode cL_law 1386 = .ok (.invokevirtual 154, 3) := by decide +kernel
theorem dL_law_1389 : decode cL_law 1389 = .ok (.pop, 1) := by decide +kernel
theorem dL_law_1390 : decode cL_law 1390 = .ok (.goto 417, 3) := by decide +kernel
theorem dL_law_1393 : decode cL_law 1393 = .ok (.aload_n 1, 1) := by decide +kernel
theorem dL_law_1394 : decode cL_law 1394 = .ok (.aload_n 0, 1) := by decide +kernel
theorem dL_law_1395 : decode cL_law 1395 = .ok (.iload_n 3, 1) := by decide +kernel
theorem dL_law_1396 : decode cL_law 1396 = .ok (.iconst 1, 1) := by decide +kernel
theorem dL_law_1397 : decode cL_law 1397 = .ok (.iadd, 1) := by decide +kernel
theorem dL_law_1398 : decode cL_law 1398 = .ok (.iaload, 1) := by decide +kernel
theorem dL_law_1399 : decode cL_law 1399 = .ok (.invokevirtual 155, 3) := by decide +kernel
theorem dL_law_1402 : decode cL_law 1402 = .ok (.pop, 1) := by decide +kernel
theorem dL_law_1403 : decode cL_law 1403 = .ok (.aload_n 2, 1) := by decide +kernel
theorem dL_law_1404 : decode cL_law 1404 = .ok (.aload_n 0, 1) := by decide +kernel
theorem dL_law_1405 : decode cL_law 1405 = .ok (.iload_n 3, 1) := by decide +kernel
theorem dL_law_1406 : decode cL_law 1406 = .ok (.iconst 1, 1) := by decide +kernel
theorem dL_law_1407 : decode cL_law 1407 = .ok (.iadd, 1) := by decide +kernel
theorem dL_law_1408 : decode cL_law 1408 = .ok (.iaload, 1) := by decide +kernel
theorem dL_law_1409 : decode cL_law 1409 = .ok (.invokevirtual 158, 3) := by decide +kernel
theorem dL_law_1412 : decode cL_law 1412 = .ok (.pop, 1) := by decide +kernel
theorem dL_law_1413 : decode cL_law 1413 = .ok (.goto 394, 3) := by decide +kernel
theorem dL_law_1416 : decode cL_law 1416 = .ok (.aload_n 1, 1) := by decide +kernel
theorem dL_law_1417 : decode cL_law 1417 = .ok (.aload_n 0, 1) := by decide +kernel
theorem dL_law_1418 : decode cL_law 1418 = .ok (.iload_n 3, 1) := by decide +kernel
theorem dL_law_1419 : decode cL_law 1419 = .ok (.iconst 1, 1) := by decide +kernel
theorem dL_law_1420 : decode cL_law 1420 = .ok (.iadd, 1) := by decide +kernel
theorem dL_law_1421 : decode cL_law 1421 = .ok (.iaload, 1) := by decide +kernel
theorem dL_law_1422 : decode cL_law 1422 = .ok (.invokevirtual 159, 3) := by decide +kernel
theorem dL_law_1425 : decode cL_law 1425 = .ok (.pop, 1) := by decide +kernel
theorem dL_law_1426 : decode cL_law 1426 = .ok (.aload_n 2, 1) := by decide +kernel
theorem dL_law_1427 : decode cL_law 1427 = .ok (.aload_n 0, 1) := by decide +kernel
theorem dL_law_1428 : decode cL_law 1428 = .ok (.iload_n 3, 1) := by decide +kernel
theorem dL_law_1429 : decode cL_law 1429 = .ok (.iconst 1, 1) := by decide +kernel
theorem dL_law_1430 : decode cL_law 1430 = .ok (.iadd, 1) := by decide +kernel
theorem dL_law_1431 : decode cL_law 1431 = .ok (.iaload, 1) := by decide +kernel
theorem dL_law_1432 : decode cL_law 1432 = .ok (.invokevirtual 162, 3) := by decide +kernel
theorem dL_law_1435 : decode cL_law 1435 = .ok (.pop, 1) := by decide +kernel
theorem dL_law_1436 : decode cL_law 1436 = .ok (.goto 371, 3) := by decide +kernel
theorem dL_law_1439 : decode cL_law 1439 = .ok (.aload_n 1, 1) := by decide +kernel
theorem dL_law_1440 : decode cL_law 1440 = .ok (.aload_n 0, 1) := by decide +kernel
theorem dL_law_1441 : decode cL_law 1441 = .ok (.iload_n 3, 1) := by decide +kernel
theorem dL_law_1442 : decode cL_law 1442 = .ok (.iconst 1, 1) := by decide +kernel
theorem dL_law_1443 : decode cL_law 1443 = .ok (.iadd, 1) := by decide +kernel
theorem dL_law_1444 : decode cL_law 1444 = .ok (.iaload, 1) := by decide +kernel
theorem dL_law_1445 : decode cL_law 1445 = .ok (.invokevirtual 163, 3) := by decide +kernel
theorem dL_law_1448 : decode cL_law 1448 = .ok (.pop, 1) := by decide +kernel
theorem dL_law_1449 : decode cL_law 1449 = .ok (.aload_n 2, 1) := by decide +kernel
theorem dL_law_1450 : decode cL_law 1450 = .ok (.aload_n 0, 1) := by decide +kernel
theorem dL_law_1451 : decode cL_law 1451 = .ok (.iload_n 3, 1) := by decide +kernel
theorem dL_law_1452 : decode cL_law 1452 = .ok (.iconst 1, 1) := by decide +kernel
theorem dL_law_1453 : decode cL_law 1453 = .ok (.iadd, 1) := by decide +kernel
theorem dL_law_1454 : decode cL_law 1454 = .ok (.iaload, 1) := by decide +kernel
theorem dL_law_1455 : decode cL_law 1455 = .ok (.invokevirtual 166, 3) := by decide +kernel
theorem dL_law_1458 : decode cL_law 1458 = .ok (.pop, 1) := by decide +kernel
theorem dL_law_1459 : decode cL_law 1459 = .ok (.goto 348, 3) := by decide +kernel
theorem dL_law_1462 : decode cL_law 1462 = .ok (.aload_n 1, 1) := by decide +kernel
theorem dL_law_1463 : decode cL_law 1463 = .ok (.aload_n 0, 1) := by decide +kernel
theorem dL_law_1464 : decode cL_law 1464 = .ok (.iload_n 3, 1) := by decide +kernel
theorem dL_law_1465 : decode cL_law 1465 = .ok (.iconst 1, 1) := by decide +kernel
theorem dL_law_1466 : decode cL_law 1466 = .ok (.iadd, 1) := by decide +kernel
theorem dL_law_1467 : decode cL_law 1467 = .ok (.iaload, 1) := by decide +kernel
theorem dL_law_1468 : decode cL_law 1468 = .ok (.aload_n 0, 1) := by decide +kernel
theorem dL_law_1469 : decode cL_law 1469 = .ok (.iload_n 3, 1) := by decide +kernel
theorem dL_law_1470 : decode cL_law 1470 = .ok (.iconst 2, 1) := by decide +kernel
theorem dL_law_1471 : decode cL_law 1471 = .ok (.iadd, 1) := by decide +kernel
theorem dL_law_1472 : decode cL_law 1472 = .ok (.iaload, 1) := by decide +kernel
theorem dL_law_1473 : decode cL_law 1473 = .ok (.invokevirtual 167, 3) := by decide +kernel
theorem dL_law_1476 : decode cL_law 1476 = .ok (.pop, 1) := by decide +kernel
theorem dL_law_1477 : decode cL_law 1477 = .ok (.aload_n 2, 1) := by decide +kernel
theorem dL_law_1478 : decode cL_law 1478 = .ok (.aload_n 0, 1) := by decide +kernel
theorem dL_law_1479 : decode cL_law 1479 = .ok (.iload_n 3, 1) := by decide +kernel
theorem dL_law_1480 : decode cL_law 1480 = .ok (.iconst 1, 1) := by decide +kernel
theorem dL_law_1481 : decode cL_law 1481 = .ok (.iadd, 1) := by decide +kernel
theorem dL_law_1482 : decode cL_law 1482 = .ok (.iaload, 1) := by decide +kernel
theorem dL_law_1483 : decode cL_law 1483 = .ok (.aload_n 0, 1) := by decide +kernel
theorem dL_law_1484 : decode cL_law 1484 = .ok (.iload_n 3, 1) := by decide +kernel
theorem dL_law_1485 : decode cL_law 1485 = .ok (.iconst 2, 1) := by decide +kernel
theorem dL_law_1486 : decode cL_law 1486 = .ok (.iadd, 1) := by decide +kernel
theorem dL_law_1487 : decode cL_law 1487 = .ok (.iaload, 1) := by decide +kernel
theorem dL_law_1488 : decode cL_law 1488 = .ok (.invokevirtual 170, 3) := by decide +kernel
theorem dL_law_1491 : decode cL_law 1491 = .ok (.pop, 1) := by decide +kernel
theorem dL_law_1492 : decode cL_law 1492 = .ok (.goto 315, 3) := by decide +kernel
theorem dL_law_1495 : decode cL_law 1495 = .ok (.aload_n 1, 1) := by decide +kernel
theorem dL_law_1496 : decode cL_law 1496 = .ok (.aload_n 0, 1) := by decide +kernel
theorem dL_law_1497 : decode cL_law 1497 = .ok (.iload_n 3, 1) := by decide +kernel
theorem dL_law_1498 : decode cL_law 1498 = .ok (.iconst 1, 1) := by decide +kernel
theorem dL_law_1499 : decode cL_law 1499 = .ok (.iadd, 1) := by decide +kernel
theorem dL_law_1500 : decode cL_law 1500 = .ok (.iaload, 1) := by decide +kernel
theorem dL_law_1501 : decode cL_law 1501 = .ok (.aload_n 0, 1) := by decide +kernel
theorem dL_law_1502 : decode cL_law 1502 = .ok (.iload_n 3, 1) := by decide +kernel
theorem dL_law_1503 : decode cL_law 1503 = .ok (.iconst 2, 1) := by decide +kernel
theorem dL_law_1504 : decode cL_law 1504 = .ok (.iadd, 1) := by decide +kernel
theorem dL_law_1505 : decode cL_law 1505 = .ok (.iaload, 1) := by decide +kernel
theorem dL_law_1506 : decode cL_law 1506 = .ok (.ifCond .eq 7, 3) := by decide +kernel
theorem dL_law_1509 : decode cL_law 1509 = .ok (.iconst 1, 1) := by decide +kernel
theorem dL_law_1510 : decode cL_law 1510 = .ok (.goto 4, 3) := by decide +kernel
theorem dL_law_1513 : decode cL_law 1513 = .ok (.iconst 0, 1) := by decide +kernel
theorem dL_law_1514 : decode cL_law 1514 = .ok (.invokevirtual 171, 3) := by decide +kernel
theorem dL_law_1517 : decode cL_law 1517 = .ok (.pop, 1) := by decide +kernel
theorem dL_law_1518 : decode cL_law 1518 = .ok (.aload_n 2, 1) := by decide +kernel
theorem dL_law_1519 : decode cL_law 1519 = .ok (.aload_n 0, 1) := by decide +kernel
theorem dL_law_1520 : decode cL_law 1520 = .ok (.iload_n 3, 1) := by decide +kernel
theorem dL_law_1521 : decode cL_law 1521 = .ok (.iconst 1, 1) := by decide +kernel
theorem dL_law_1522 : decode cL_law 1522 = .ok (.iadd, 1) := by decide +kernel
theorem dL_law_1523 : decode cL_law 1523 = .ok (.iaload, 1) := by decide +kernel
theorem dL_law_1524 : decode cL_law 1524 = .ok (.aload_n 0, 1) := by decide +kernel
theorem dL_law_1525 : decode cL_law 1525 = .ok (.iload_n 3, 1) := by decide +kernel
theorem dL_law_1526 : decode cL_law 1526 = .ok (.iconst 2, 1) := by decide +kernel
theorem dL_law_1527 : decode cL_law 1527 = .ok (.iadd, 1) := by decide +kernel
theorem dL_law_1528 : decode cL_law 1528 = .ok (.iaload, 1) := by decide +kernel
theorem dL_law_1529 : decode cL_law 1529 = .ok (.ifCond .eq 7, 3) := by decide +kernel
theorem dL_law_1532 : decode cL_law 1532 = .ok (.iconst 1, 1) := by decide +kernel
theorem dL_law_1533 : decode cL_law 1533 = .ok (.goto 4, 3) := by decide +kernel
theorem dL_law_1536 : decode cL_law 1536 = .ok (.iconst 0, 1) := by decide +kernel
theorem dL_law_1537 : decode cL_law 1537 = .ok (.invokevirtual 175, 3) := by decide +kernel
theorem dL_law_1540 : decode cL_law 1540 = .ok (.pop, 1) := by decide +kernel
theorem dL_law_1541 : decode cL_law 1541 = .ok (.goto 266, 3) := by decide +kernel
theorem dL_law_1544 : decode cL_law 1544 = .ok (.aload_n 1, 1) := by decide +kernel
theorem dL_law_1545 : decode cL_law 1545 = .ok (.invokevirtual 176, 3) := by decide +kernel
theorem dL_law_1548 : decode cL_law 1548 = .ok (.pop, 1) := by decide +kernel
theorem dL_law_1549 : decode cL_law 1549 = .ok (.aload_n 2, 1) := by decide +kernel
theorem dL_law_1550 : decode cL_law 1550 = .ok (.invokevirtual 179, 3) := by decide +kernel
theorem dL_law_1553 : decode cL_law 1553 = .ok (.pop, 1) := by decide +kernel
theorem dL_law_1554 : decode cL_law 1554 = .ok (.goto 253, 3) := by decide +kernel
theorem dL_law_1557 : decode cL_law 1557 = .ok (.aload_n 1, 1) := by decide +kernel
theorem dL_law_1558 : decode cL_law 1558 = .ok (.aload_n 0, 1) := by decide +kernel
theorem dL_law_1559 : decode cL_law 1559 = .ok (.iload_n 3, 1) := by decide +kernel
theorem dL_law_1560 : decode cL_law 1560 = .ok (.iconst 1, 1) := by decide +kernel
theorem dL_law_1561 : decode cL_law 1561 = .ok (.iadd, 1) := by decide +kernel
theorem dL_law_1562 : decode cL_law 1562 = .ok (.iaload, 1) := by decide +kernel
theorem dL_law_1563 : decode cL_law 1563 = .ok (.aload_n 0, 1) := by decide +kernel
theorem dL_law_1564 : decode cL_law 1564 = .ok (.iload_n 3, 1) := by decide +kernel
theorem dL_law_1565 : decode cL_law 1565 = .ok (.iconst 2, 1) := by decide +kernel
theorem dL_law_1566 : decode cL_law 1566 = .ok (.iadd, 1) := by decide +kernel
theorem dL_law_1567 : decode cL_law 1567 = .ok (.iaload, 1) := by decide +kernel
theorem dL_law_1568 : decode cL_law 1568 = .ok (.invokevirtual 180, 3) := by decide +kernel
theorem dL_law_1571 : decode cL_law 1571 = .ok (.pop, 1) := by decide +kernel
theorem dL_law_1572 : decode cL_law 1572 = .ok (.aload_n 2, 1) := by decide +kernel
theorem dL_law_1573 : decode cL_law 1573 = .ok (.aload_n 0, 1) := by decide +kernel
theorem dL_law_1574 : decode cL_law 1574 = .ok (.iload_n 3, 1) := by decide +kernel
theorem dL_law_1575 : decode cL_law 1575 = .ok (.iconst 1, 1) := by decide +kernel
theorem dL_law_1576 : decode cL_law 1576 = .ok (.iadd, 1) := by decide +kernel
theorem dL_law_1577 : decode cL_law 1577 = .ok (.iaload, 1) := by decide +kernel
theorem dL_law_1578 : decode cL_law 1578 = .ok (.aload_n 0, 1) := by decide +kernel
theorem dL_law_1579 : decode cL_law 1579 = .ok (.iload_n 3, 1) := by decide +kernel
theorem dL_law_1580 : decode cL_law 1580 = .ok (.iconst 2, 1) := by decide +kernel
theorem dL_law_1581 : decode cL_law 1581 = .ok (.iadd, 1) := by decide +kernel
theorem dL_law_1582 : decode cL_law 1582 = .ok (.iaload, 1) := by decide +kernel
theorem dL_law_1583 : decode cL_law 1583 = .ok (.invokevirtual 183, 3) := by decide +kernel
theorem dL_law_1586 : decode cL_law 1586 = .ok (.pop, 1) := by decide +kernel
theorem dL_law_1587 : decode cL_law 1587 = .ok (.goto 220, 3) := by decide +kernel
set_option maxHeartbeats 4000000 in
set_option maxRecDepth 100000 in
theorem law_30 {p : Program} {l : Launch} {e : Env} {s : State} {m : MethodId} {below : List Frame} {meth : Method} {c : Code} {b L : Nat} {xs : Nat → Int32} {A : Nat → Prop} {G : va_G} {cy : Nat → ClassId} {aX aM rR rB rO rK : Nat → Nat} (hx : p.tables.exec = Jvm.exec) (hb : c.code = code) (hr : meth.sig.returnType = ret) (hml : c.maxLocals = 4) (hown : s.vm.findClass RL = some m.cls) (hts : ∀ w ∈ BIG, w.before #[Value.ref b] s = true) (hX : va_X b L xs s s.heap) (hbl : b < s.heap.size) (hlocks : meth.locks = false) (hN : KN G cy s) (hA : ∀ q : Nat, s.heap.size ≤ q → A q) (hAn : ∀ q : Nat, A q → s.heap.size ≤ q) (hbA : ¬ A b) (hSO : SO A s s.heap) {H : Heap} {locs : List Loc} {ls : Array Slot} {kI nC nS : Nat} (hkI : kI + 6 ≤ L) (hL : L ≤ 384) (hnC : nC + 250 ≤ 600000) (hnS : nS + 4440 ≤ 7302250) (hI : LINV G cy A H aX aM rR rB rO rK) (hS : va_S A s.heap H locs) (hl : lv_has ls 4 [(3, .int (nI kI)), (2, .ref (aM 0)), (1, .ref (aX 0)), (0, .ref b)]) (kk : ∀ (H : Heap) (locs : List Loc), LINV G cy A H aX aM rR rB rO rK → va_S A s.heap H locs → W p l e room_1 s m #[Value.ref b] below meth c H locs (nC + 250) (nS + 4440) (lw_Z below #[Value.ref b] s) (F0 m 1807 ls [])) : W p l e room_1 s m #[Value.ref b] below meth c H locs nC nS (lw_Z below #[Value.ref b] s) (F0 m 1294 ls []) := by
  obtain ⟨iKp, iYe, iTv, fR, tA, tB, iL, iBs, tU, tV, fH, fS, fA, gE, kZ, iT1, iT2, iT3, iT4, fB, tD, fMh, fMo, fMz, gMv, fMk, fMa, fMt, kY, fMr, fM3, fMu, fMy, fMb, eR, tM, iEn, iTk, uP, uU, kAt, iTo, iFr, JFi, iFa, iSt, iLv, iWs, wL, uS0, uS1, uS2, uS3, uS4, iOm, hP, hD, hsX, hsM, hLR⟩ := hI
  refine lv_aload_n hx hb dL_law_1294 rfl (lv_at hl 2 rfl) ?_
  refine lv_aload_n hx hb dL_law_1295 rfl (lv_at hl 3 rfl) ?_
  refine lv_iload_n hx hb dL_law_1296 rfl (lv_at hl 0 rfl) ?_
  refine lv_iconst (v := 1) hx hb dL_law_1297 (by decide) ?_
  refine lv_iadd hx hb dL_law_1298 ?_
  refine lv_seti (v := nI (kI + 1)) (nI_add _ _) ?_
  refine va_sld hx hb hX hbl hbA hS (vp_in_nI (by omega) (by omega)) dL_law_1299 ?_
  refine lv_seti (v := xs (kI + 1)) (congrArg xs (nI_clamp (by omega))) ?_
  refine lv_aload_n hx hb dL_law_1300 rfl (lv_at hl 3 rfl) ?_
  refine lv_iload_n hx hb dL_law_1301 rfl (lv_at hl 0 rfl) ?_
  refine lv_iconst (v := 2) hx hb dL_law_1302 (by decide) ?_
  refine lv_iadd hx hb dL_law_1303 ?_
  refine lv_seti (v := nI (kI + 2)) (nI_add _ _) ?_
  refine va_sld hx hb hX hbl hbA hS (vp_in_nI (by omega) (by omega)) dL_law_1304 ?_
  refine lv_seti (v := xs (kI + 2)) (congrArg xs (nI_clamp (by omega))) ?_
  refine lv_aload_n hx hb dL_law_1305 rfl (lv_at hl 3 rfl) ?_
  refine lv_iload_n hx hb dL_law_1306 rfl (lv_at hl 0 rfl) ?_
  refine lv_iconst (v := 3) hx hb dL_law_1307 (by decide) ?_
  refine lv_iadd hx hb dL_law_1308 ?_
  refine lv_seti (v := nI (kI + 3)) (nI_add _ _) ?_
  refine va_sld hx hb hX hbl hbA hS (vp_in_nI (by omega) (by omega)) dL_law_1309 ?_
  refine lv_seti (v := xs (kI + 3)) (congrArg xs (nI_clamp (by omega))) ?_
  refine cViQ (As := [.int (xs (kI + 1)), .int (xs (kI + 2)), .int (xs (kI + 3))]) (rest := []) (b := (aX 0)) (q := (RX5, TX5, 9)) ⟨hx, hb, hml, hown, hts⟩ (p_X5_left l G cy (H).size (aX 0) (aX 2) (aX 11) (aX 20) (aX 39) (aX 44) (aX 1) iKp iYe iTv fR (xs (kI + 1)) (xs (kI + 2)) (xs (kI + 3))) L_L_143 hN hP hD hS hA [0, 1] [false, false, true, true, true, true, true, true, true, true, true, true, true, true, true, true, true, true, true, true, true, true, true, true, true, true, true, true, true, true, true, true, true, true, true, true, true, true, true, true, true, true, true, true, true, true, true, true, true, true, true, true, true, true, true] rfl (by decide +kernel) rfl 0 4 rfl rfl rfl ⟨Nat.le_of_ble_eq_true rfl, Nat.le_of_ble_eq_true rfl⟩ hl.1 (Nat.le_of_ble_eq_true rfl) dL_law_1310 ⟨by show nC + 0 ≤ 600000; omega, by show nS + 0 ≤ 7302250; omega⟩ (fun r_1 u_3 H locs h_2 => ?_)
  clear hP hD hS
  intro hP hD hS
  obtain ⟨fX_4, rfl, h_2⟩ := h_2
  replace hP : va_P G CL ((XW cy aX iKp iYe iTv fX_4 tA tB iL iBs tU tV fH fS fA gE kZ iT1 iT2 iT3 iT4 fB tD) ++ ((MK cy aM rR rB rO rK fMh fMo fMz gMv fMk fMa fMt kY fMr fM3 fMu fMy fMb eR tM iEn iTk uP uU kAt iTo iFr JFi iFa iSt iLv iWs wL uS0 uS1 uS2 uS3 uS4 iOm) ++ ((oM cy uU) ++ ((oL cy wL) ++ ((oM cy uP) ++ (oM cy uS0 ++ (oM cy uS1 ++ (oM cy uS2 ++ (oM cy uS3 ++ oM cy uS4))))))))) H := hP.part [53, 54, 0, 1, 2, 3, 4, 5, 6, 7, 8, 9, 10, 11, 12, 13, 14, 15, 16, 17, 18, 19, 20, 21, 22, 23, 24, 25, 26, 27, 28, 29, 30, 31, 32, 33, 34, 35, 36, 37, 38, 39, 40, 41, 42, 43, 44, 45, 46, 47, 48, 49, 50, 51, 52] rfl
  replace hD : va_D A ((XW cy aX iKp iYe iTv fX_4 tA tB iL iBs tU tV fH fS fA gE kZ iT1 iT2 iT3 iT4 fB tD) ++ ((MK cy aM rR rB rO rK fMh fMo fMz gMv fMk fMa fMt kY fMr fM3 fMu fMy fMb eR tM iEn iTk uP uU kAt iTo iFr JFi iFa iSt iLv iWs wL uS0 uS1 uS2 uS3 uS4 iOm) ++ ((oM cy uU) ++ ((oL cy wL) ++ ((oM cy uP) ++ (oM cy uS0 ++ (oM cy uS1 ++ (oM cy uS2 ++ (oM cy uS3 ++ oM cy uS4))))))))) := hD.part [53, 54, 0, 1, 2, 3, 4, 5, 6, 7, 8, 9, 10, 11, 12, 13, 14, 15, 16, 17, 18, 19, 20, 21, 22, 23, 24, 25, 26, 27, 28, 29, 30, 31, 32, 33, 34, 35, 36, 37, 38, 39, 40, 41, 42, 43, 44, 45, 46, 47, 48, 49, 50, 51, 52] (by decide +kernel) rfl
  refine lv_pop hx hb dL_law_1313 rfl ?_
  refine lv_aload_n hx hb dL_law_1314 rfl (lv_at hl 1 rfl) ?_
  refine lv_aload_n hx hb dL_law_1315 rfl (lv_at hl 3 rfl) ?_
  refine lv_iload_n hx hb dL_law_1316 rfl (lv_at hl 0 rfl) ?_
  refine lv_iconst (v := 1) hx hb dL_law_1317 (by decide) ?_
  refine lv_iadd hx hb dL_law_1318 ?_
  refine lv_seti (v := nI (kI + 1)) (nI_add _ _) ?_
  refine va_sld hx hb hX hbl hbA hS (vp_in_nI (by omega) (by omega)) dL_law_1319 ?_
  refine lv_seti (v := xs (kI + 1)) (congrArg xs (nI_clamp (by omega))) ?_
  refine lv_aload_n hx hb dL_law_1320 rfl (lv_at hl 3 rfl) ?_
  refine lv_iload_n hx hb dL_law_1321 rfl (lv_at hl 0 rfl) ?_
  refine lv_iconst (v := 2) hx hb dL_law_1322 (by decide) ?_
  refine lv_iadd hx hb dL_law_1323 ?_
  refine lv_seti (v := nI (kI + 2)) (nI_add _ _) ?_
  refine va_sld hx hb hX hbl hbA hS (vp_in_nI (by omega) (by omega)) dL_law_1324 ?_
  refine lv_seti (v := xs (kI + 2)) (congrArg xs (nI_clamp (by omega))) ?_
  refine lv_aload_n hx hb dL_law_1325 rfl (lv_at hl 3 rfl) ?_
  refine lv_iload_n hx hb dL_law_1326 rfl (lv_at hl 0 rfl) ?_
  refine lv_iconst (v := 3) hx hb dL_law_1327 (by decide) ?_
  refine lv_iadd hx hb dL_law_1328 ?_
  refine lv_seti (v := nI (kI + 3)) (nI_add _ _) ?_
  refine va_sld hx hb hX hbl hbA hS (vp_in_nI (by omega) (by omega)) dL_law_1329 ?_
  refine lv_seti (v := xs (kI + 3)) (congrArg xs (nI_clamp (by omega))) ?_
  replace hP : va_P G CL ((MK cy aM rR rB rO rK fMh fMo fMz gMv fMk fMa fMt kY fMr fM3 fMu fMy fMb eR tM iEn iTk uP uU kAt iTo iFr JFi iFa iSt iLv iWs wL uS0 uS1 uS2 uS3 uS4 iOm) ++ (((oM cy uU) ++ ((oL cy wL) ++ ((oM cy uP) ++ (oM cy uS0 ++ (oM cy uS1 ++ (oM cy uS2 ++ (oM cy uS3 ++ oM cy uS4))))))) ++ (XW cy aX iKp iYe iTv fX_4 tA tB iL iBs tU tV fH fS fA gE kZ iT1 iT2 iT3 iT4 fB tD))) H := toNP hP
  replace hD : va_D A ((MK cy aM rR rB rO rK fMh fMo fMz gMv fMk fMa fMt kY fMr fM3 fMu fMy fMb eR tM iEn iTk uP uU kAt iTo iFr JFi iFa iSt iLv iWs wL uS0 uS1 uS2 uS3 uS4 iOm) ++ (((oM cy uU) ++ ((oL cy wL) ++ ((oM cy uP) ++ (oM cy uS0 ++ (oM cy uS1 ++ (oM cy uS2 ++ (oM cy uS3 ++ oM cy uS4))))))) ++ (XW cy aX iKp iYe iTv fX_4 tA tB iL iBs tU tV fH fS fA gE kZ iT1 iT2 iT3 iT4 fB tD))) := toND hD
  refine cViQ (As := [.int (xs (kI + 1)), .int (xs (kI + 2)), .int (xs (kI + 3))]) (rest := []) (b := (aM 0)) (q := (RX6, TX6, 35)) ⟨hx, hb, hml, hown, hts⟩ (p_X6_left l G cy (H).size (aM 0) (aM 1) (aM 2) (aM 3) (aM 14) (aM 4) (aM 5) (aM 6) (aM 7) kY (aM 8) tM (aM 15) (aM 16) (aM 17) iEn iTk uP uU kAt iTo iFr JFi iFa (aM 9) iSt iLv iWs (ovL wL) (aM 10) (aM 11) (aM 12) (aM 13) iOm fMr (xs (kI + 1)) (xs (kI + 2)) (xs (kI + 3))) L_L_146 hN hP hD hS hA [0, 8] [false, true, true, true, true, true, true, true, false, true, true, true, true, true, true, true, true, true, true, true, true, true, true, true, true, true, true, true, true, true, true, true, true, true, true, true, true, true, true, true, true, true, true, true, true, true, true, true, true, true] rfl (by decide +kernel) rfl 0 5 rfl rfl rfl ⟨Nat.le_of_ble_eq_true rfl, Nat.le_of_ble_eq_true rfl⟩ hl.1 (Nat.le_of_ble_eq_true rfl) dL_law_1330 ⟨by show nC + 0 + 0 ≤ 600000; omega, by show nS + 0 + 0 ≤ 7302250; omega⟩ (fun r_5 u_7 H locs h_6 => ?_)
  clear hP hD hS
  intro hP hD hS
  obtain ⟨fNr_8, rfl, h_6⟩ := h_6
  replace hP : va_P G CL ((MK cy aM rR rB rO rK fMh fMo fMz gMv fMk fMa fMt kY fNr_8 fM3 fMu fMy fMb eR tM iEn iTk uP uU kAt iTo iFr JFi iFa iSt iLv iWs wL uS0 uS1 uS2 uS3 uS4 iOm) ++ (((oM cy uU) ++ ((oL cy wL) ++ ((oM cy uP) ++ (oM cy uS0 ++ (oM cy uS1 ++ (oM cy uS2 ++ (oM cy uS3 ++ oM cy uS4))))))) ++ (XW cy aX iKp iYe iTv fX_4 tA tB iL iBs tU tV fH fS fA gE kZ iT1 iT2 iT3 iT4 fB tD))) H := hP.part [48, 0, 1, 2, 3, 4, 5, 6, 49, 7, 8, 9, 10, 11, 12, 13, 14, 15, 16, 17, 18, 19, 20, 21, 22, 23, 24, 25, 26, 27, 28, 29, 30, 31, 32, 33, 34, 35, 36, 37, 38, 39, 40, 41, 42, 43, 44, 45, 46, 47] rfl
  replace hD : va_D A ((MK cy aM rR rB rO rK fMh fMo fMz gMv fMk fMa fMt kY fNr_8 fM3 fMu fMy fMb eR tM iEn iTk uP uU kAt iTo iFr JFi iFa iSt iLv iWs wL uS0 uS1 uS2 uS3 uS4 iOm) ++ (((oM cy uU) ++ ((oL cy wL) ++ ((oM cy uP) ++ (oM cy uS0 ++ (oM cy uS1 ++ (oM cy uS2 ++ (oM cy uS3 ++ oM cy uS4))))))) ++ (XW cy aX iKp iYe iTv fX_4 tA tB iL iBs tU tV fH fS fA gE kZ iT1 iT2 iT3 iT4 fB tD))) := hD.part [48, 0, 1, 2, 3, 4, 5, 6, 49, 7, 8, 9, 10, 11, 12, 13, 14, 15, 16, 17, 18, 19, 20, 21, 22, 23, 24, 25, 26, 27, 28, 29, 30, 31, 32, 33, 34, 35, 36, 37, 38, 39, 40, 41, 42, 43, 44, 45, 46, 47] (by decide +kernel) rfl
  replace hP : va_P G CL ((XW cy aX iKp iYe iTv fX_4 tA tB iL iBs tU tV fH fS fA gE kZ iT1 iT2 iT3 iT4 fB tD) ++ ((MK cy aM rR rB rO rK fMh fMo fMz gMv fMk fMa fMt kY fNr_8 fM3 fMu fMy fMb eR tM iEn iTk uP uU kAt iTo iFr JFi iFa iSt iLv iWs wL uS0 uS1 uS2 uS3 uS4 iOm) ++ ((oM cy uU) ++ ((oL cy wL) ++ ((oM cy uP) ++ (oM cy uS0 ++ (oM cy uS1 ++ (oM cy uS2 ++ (oM cy uS3 ++ oM cy uS4))))))))) H := ofNP hP
  replace hD : va_D A ((XW cy aX iKp iYe iTv fX_4 tA tB iL iBs tU tV fH fS fA gE kZ iT1 iT2 iT3 iT4 fB tD) ++ ((MK cy aM rR rB rO rK fMh fMo fMz gMv fMk fMa fMt kY fNr_8 fM3 fMu fMy fMb eR tM iEn iTk uP uU kAt iTo iFr JFi iFa iSt iLv iWs wL uS0 uS1 uS2 uS3 uS4 iOm) ++ ((oM cy uU) ++ ((oL cy wL) ++ ((oM cy uP) ++ (oM cy uS0 ++ (oM cy uS1 ++ (oM cy uS2 ++ (oM cy uS3 ++ oM cy uS4))))))))) := ofND hD
  refine lv_pop hx hb dL_law_1333 rfl ?_
  refine lv_goto (tgt := 1807) hx hb dL_law_1334 (by decide) ?_
  refine W.widen (k := nC + 250) (n := nS + 4440) (by omega) (by omega) ?_
  exact kk _ _ ⟨iKp, iYe, iTv, fX_4, tA, tB, iL, iBs, tU, tV, fH, fS, fA, gE, kZ, iT1, iT2, iT3, iT4, fB, tD, fMh, fMo, fMz, gMv, fMk, fMa, fMt, kY, fNr_8, fM3, fMu, fMy, fMb, eR, tM, iEn, iTk, uP, uU, kAt, iTo, iFr, JFi, iFa, iSt, iLv, iWs, wL, uS0, uS1, uS2, uS3, uS4, iOm, hP, hD, hsX, hsM, trivial⟩ hS
set_option maxHeartbeats 4000000 in
set_option maxRecDepth 100000 in
theorem law_31 {p : Program} {l : Launch} {e : Env} {s : State} {m : MethodId} {below : List Frame} {meth : Method} {c : Code} {b L : Nat} {xs : Nat → Int32} {A : Nat → Prop} {G : va_G} {cy : Nat → ClassId} {aX aM rR rB rO rK : Nat → Nat} (hx : p.tables.exec = Jvm.exec) (hb : c.code = code) (hr : meth.sig.returnType = ret) (hml : c.maxLocals = 4) (hown : s.vm.findClass RL = some m.cls) (hts : ∀ w ∈ BIG, w.before #[Value.ref b] s = true) (hX : va_X b L xs s s.heap) (hbl : b < s.heap.size) (hlocks : meth.locks = false) (hN : KN G cy s) (hA : ∀ q : Nat, s.heap.size ≤ q → A q) (hAn : ∀ q : Nat, A q → s.heap.size ≤ q) (hbA : ¬ A b) (hSO : SO A s s.heap) {H : Heap} {locs : List Loc} {ls : Array Slot} {kI nC nS : Nat} (hkI : kI + 6 ≤ L) (hL : L ≤ 384) (hnC : nC + 250 ≤ 600000) (hnS : nS + 4440 ≤ 7302250) (hI : LINV G cy A H aX aM rR rB rO rK) (hS : va_S A s.heap H locs) (hl : lv_has ls 4 [(3, .int (nI kI)), (2, .ref (aM 0)), (1, .ref (aX 0)), (0, .ref b)]) (kk : ∀ (H : Heap) (locs : List Loc), LINV G cy A H aX aM rR rB rO rK → va_S A s.heap H locs → W p l e room_1 s m #[Value.ref b] below meth c H locs (nC + 250) (nS + 4440) (lw_Z below #[Value.ref b] s) (F0 m 1807 ls [])) : W p l e room_1 s m #[Value.ref b] below meth c H locs nC nS (lw_Z below #[Value.ref b] s) (F0 m 1337 ls []) := by
  obtain ⟨iKp, iYe, iTv, fR, tA, tB, iL, iBs, tU, tV, fH, fS, fA, gE, kZ, iT1, iT2, iT3, iT4, fB, tD, fMh, fMo, fMz, gMv, fMk, fMa, fMt, kY, fMr, fM3, fMu, fMy, fMb, eR, tM, iEn, iTk, uP, uU, kAt, iTo, iFr, JFi, iFa, iSt, iLv, iWs, wL, uS0, uS1, uS2, uS3, uS4, iOm, hP, hD, hsX, hsM, hLR⟩ := hI
  refine lv_aload_n hx hb dL_law_1337 rfl (lv_at hl 2 rfl) ?_
  refine lv_aload_n hx hb dL_law_1338 rfl (lv_at hl 3 rfl) ?_
  refine lv_iload_n hx hb dL_law_1339 rfl (lv_at hl 0 rfl) ?_
  refine lv_iconst (v := 1) hx hb dL_law_1340 (by decide) ?_
  refine lv_iadd hx hb dL_law_1341 ?_
  refine lv_seti (v := nI (kI + 1)) (nI_add _ _) ?_
  refine va_sld hx hb hX hbl hbA hS (vp_in_nI (by omega) (by omega)) dL_law_1342 ?_
  refine lv_seti (v := xs (kI + 1)) (congrArg xs (nI_clamp (by omega))) ?_
  refine lv_aload_n hx hb dL_law_1343 rfl (lv_at hl 3 rfl) ?_
  refine lv_iload_n hx hb dL_law_1344 rfl (lv_at hl 0 rfl) ?_
  refine lv_iconst (v := 2) hx hb dL_law_1345 (by decide) ?_
  refine lv_iadd hx hb dL_law_1346 ?_
  refine lv_seti (v := nI (kI + 2)) (nI_add _ _) ?_
  refine va_sld hx hb hX hbl hbA hS (vp_in_nI (by omega) (by omega)) dL_law_1347 ?_
  refine lv_seti (v := xs (kI + 2)) (congrArg xs (nI_clamp (by omega))) ?_
  refine lv_aload_n hx hb dL_law_1348 rfl (lv_at hl 3 rfl) ?_
  refine lv_iload_n hx hb dL_law_1349 rfl (lv_at hl 0 rfl) ?_
  refine lv_iconst (v := 3) hx hb dL_law_1350 (by decide) ?_
  refine lv_iadd hx hb dL_law_1351 ?_
  refine lv_seti (v := nI (kI + 3)) (nI_add _ _) ?_
  refine va_sld hx hb hX hbl hbA hS (vp_in_nI (by omega) (by omega)) dL_law_1352 ?_
  refine lv_seti (v := xs (kI + 3)) (congrArg xs (nI_clamp (by omega))) ?_
  refine cViQ (As := [.int (xs (kI + 1)), .int (xs (kI + 2)), .int (xs (kI + 3))]) (rest := []) (b := (aX 0)) (q := (RX5, TX5, 9)) ⟨hx, hb, hml, hown, hts⟩ (p_X5_longest l G cy (H).size (aX 0) (aX 2) (aX 11) (aX 20) (aX 39) (aX 44) (aX 1) iKp iYe iTv fR (xs (kI + 1)) (xs (kI + 2)) (xs (kI + 3))) L_L_147 hN hP hD hS hA [0, 1] [false, false, true, true, true, true, true, true, true, true, true, true, true, true, true, true, true, true, true, true, true, true, true, true, true, true, true, true, true, true, true, true, true, true, true, true, true, true, true, true, true, true, true, true, true, true, true, true, true, true, true, true, true, true, true] rfl (by decide +kernel) rfl 0 4 rfl rfl rfl ⟨Nat.le_of_ble_eq_true rfl, Nat.le_of_ble_eq_true rfl⟩ hl.1 (Nat.le_of_ble_eq_true rfl) dL_law_1353 ⟨by show nC + 0 ≤ 600000; omega, by show nS + 0 ≤ 7302250; omega⟩ (fun r_1 u_3 H locs h_2 => ?_)
  clear hP hD hS
  intro hP hD hS
  obtain ⟨fX_4, rfl, h_2⟩ := h_2
  replace hP : va_P G CL ((XW cy aX iKp iYe iTv fX_4 tA tB iL iBs tU tV fH fS fA gE kZ iT1 iT2 iT3 iT4 fB tD) ++ ((MK cy aM rR rB rO rK fMh fMo fMz gMv fMk fMa fMt kY fMr fM3 fMu fMy fMb eR tM iEn iTk uP uU kAt iTo iFr JFi iFa iSt iLv iWs wL uS0 uS1 uS2 uS3 uS4 iOm) ++ ((oM cy uU) ++ ((oL cy wL) ++ ((oM cy uP) ++ (oM cy uS0 ++ (oM cy uS1 ++ (oM cy uS2 ++ (oM cy uS3 ++ oM cy uS4))))))))) H := hP.part [53, 54, 0, 1, 2, 3, 4, 5, 6, 7, 8, 9, 10, 11, 12, 13, 14, 15, 16, 17, 18, 19, 20, 21, 22, 23, 24, 25, 26, 27, 28, 29, 30, 31, 32, 33, 34, 35, 36, 37, 38, 39, 40, 41, 42, 43, 44, 45, 46, 47, 48, 49, 50, 51, 52] rfl
  replace hD : va_D A ((XW cy aX iKp iYe iTv fX_4 tA tB iL iBs tU tV fH fS fA gE kZ iT1 iT2 iT3 iT4 fB tD) ++ ((MK cy aM rR rB rO rK fMh fMo fMz gMv fMk fMa fMt kY fMr fM3 fMu fMy fMb eR tM iEn iTk uP uU kAt iTo iFr JFi iFa iSt iLv iWs wL uS0 uS1 uS2 uS3 uS4 iOm) ++ ((oM cy uU) ++ ((oL cy wL) ++ ((oM cy uP) ++ (oM cy uS0 ++ (oM cy uS1 ++ (oM cy uS2 ++ (oM cy uS3 ++ oM cy uS4))))))))) := hD.part [53, 54, 0, 1, 2, 3, 4, 5, 6, 7, 8, 9, 10, 11, 12, 13, 14, 15, 16, 17, 18, 19, 20, 21, 22, 23, 24, 25, 26, 27, 28, 29, 30, 31, 32, 33, 34, 35, 36, 37, 38, 39, 40, 41, 42, 43, 44, 45, 46, 47, 48, 49, 50, 51, 52] (by decide +kernel) rfl
  refine lv_pop hx hb dL_law_1356 rfl ?_
  refine lv_aload_n hx hb dL_law_1357 rfl (lv_at hl 1 rfl) ?_
  refine lv_aload_n hx hb dL_law_1358 rfl (lv_at hl 3 rfl) ?_
  refine lv_iload_n hx hb dL_law_1359 rfl (lv_at hl 0 rfl) ?_
  refine lv_iconst (v := 1) hx hb dL_law_1360 (by decide) ?_
  refine lv_iadd hx hb dL_law_1361 ?_
  refine lv_seti (v := nI (kI + 1)) (nI_add _ _) ?_
  refine va_sld hx hb hX hbl hbA hS (vp_in_nI (by omega) (by omega)) dL_law_1362 ?_
  refine lv_seti (v := xs (kI + 1)) (congrArg xs (nI_clamp (by omega))) ?_
  refine lv_aload_n hx hb dL_law_1363 rfl (lv_at hl 3 rfl) ?_
  refine lv_iload_n hx hb dL_law_1364 rfl (lv_at hl 0 rfl) ?_
  refine lv_iconst (v := 2) hx hb dL_law_1365 (by decide) ?_
  refine lv_iadd hx hb dL_law_1366 ?_
  refine lv_seti (v := nI (kI + 2)) (nI_add _ _) ?_
  refine va_sld hx hb hX hbl hbA hS (vp_in_nI (by omega) (by omega)) dL_law_1367 ?_
  refine lv_seti (v := xs (kI + 2)) (congrArg xs (nI_clamp (by omega))) ?_
  refine lv_aload_n hx hb dL_law_1368 rfl (lv_at hl 3 rfl) ?_
  refine lv_iload_n hx hb dL_law_1369 rfl (lv_at hl 0 rfl) ?_
  refine lv_iconst (v := 3) hx hb dL_law_1370 (by decide) ?_
  refine lv_iadd hx hb dL_law_1371 ?_
  refine lv_seti (v := nI (kI + 3)) (nI_add _ _) ?_
  refine va_sld hx hb hX hbl hbA hS (vp_in_nI (by omega) (by omega)) dL_law_1372 ?_
  refine lv_seti (v := xs (kI + 3)) (congrArg xs (nI_clamp (by omega))) ?_
  replace hP : va_P G CL ((MK cy aM rR rB rO rK fMh fMo fMz gMv fMk fMa fMt kY fMr fM3 fMu fMy fMb eR tM iEn iTk uP uU kAt iTo iFr JFi iFa iSt iLv iWs wL uS0 uS1 uS2 uS3 uS4 iOm) ++ (((oM cy uU) ++ ((oL cy wL) ++ ((oM cy uP) ++ (oM cy uS0 ++ (oM cy uS1 ++ (oM cy uS2 ++ (oM cy uS3 ++ oM cy uS4))))))) ++ (XW cy aX iKp iYe iTv fX_4 tA tB iL iBs tU tV fH fS fA gE kZ iT1 iT2 iT3 iT4 fB tD))) H := toNP hP
  replace hD : va_D A ((MK cy aM rR rB rO rK fMh fMo fMz gMv fMk fMa fMt kY fMr fM3 fMu fMy fMb eR tM iEn iTk uP uU kAt iTo iFr JFi iFa iSt iLv iWs wL uS0 uS1 uS2 uS3 uS4 iOm) ++ (((oM cy uU) ++ ((oL cy wL) ++ ((oM cy uP) ++ (oM cy uS0 ++ (oM cy uS1 ++ (oM cy uS2 ++ (oM cy uS3 ++ oM cy uS4))))))) ++ (XW cy aX iKp iYe iTv fX_4 tA tB iL iBs tU tV fH fS fA gE kZ iT1 iT2 iT3 iT4 fB tD))) := toND hD
  refine cViQ (As := [.int (xs (kI + 1)), .int (xs (kI + 2)), .int (xs (kI + 3))]) (rest := []) (b := (aM 0)) (q := (RX6, TX6, 35)) ⟨hx, hb, hml, hown, hts⟩ (p_X6_longest l G cy (H).size (aM 0) (aM 1) (aM 2) (aM 3) (aM 14) (aM 4) (aM 5) (aM 6) (aM 7) kY (aM 8) tM (aM 15) (aM 16) (aM 17) iEn iTk uP uU kAt iTo iFr JFi iFa (aM 9) iSt iLv iWs (ovL wL) (aM 10) (aM 11) (aM 12) (aM 13) iOm fMr (xs (kI + 1)) (xs (kI + 2)) (xs (kI + 3))) L_L_150 hN hP hD hS hA [0, 8] [false, true, true, true, true, true, true, true, false, true, true, true, true, true, true, true, true, true, true, true, true, true, true, true, true, true, true, true, true, true, true, true, true, true, true, true, true, true, true, true, true, true, true, true, true, true, true, true, true, true] rfl (by decide +kernel) rfl 0 5 rfl rfl rfl ⟨Nat.le_of_ble_eq_true rfl, Nat.le_of_ble_eq_true rfl⟩ hl.1 (Nat.le_of_ble_eq_true rfl) dL_law_1373 ⟨by show nC + 0 + 0 ≤ 600000; omega, by show nS + 0 + 0 ≤ 7302250; omega⟩ (fun r_5 u_7 H locs h_6 => ?_)
  clear hP hD hS
  intro hP hD hS
  obtain ⟨fNr_8, rfl, h_6⟩ := h_6
  replace hP : va_P G CL ((MK cy aM rR rB rO rK fMh fMo fMz gMv fMk fMa fMt kY fNr_8 fM3 fMu fMy fMb eR tM iEn iTk uP uU kAt iTo iFr JFi iFa iSt iLv iWs wL uS0 uS1 uS2 uS3 uS4 iOm) ++ (((oM cy uU) ++ ((oL cy wL) ++ ((oM cy uP) ++ (oM cy uS0 ++ (oM cy uS1 ++ (oM cy uS2 ++ (oM cy uS3 ++ oM cy uS4))))))) ++ (XW cy aX iKp iYe iTv fX_4 tA tB iL iBs tU tV fH fS fA gE kZ iT1 iT2 iT3 iT4 fB tD))) H := hP.part [48, 0, 1, 2, 3, 4, 5, 6, 49, 7, 8, 9, 10, 11, 12, 13, 14, 15, 16, 17, 18, 19, 20, 21, 22, 23, 24, 25, 26, 27, 28, 29, 30, 31, 32, 33, 34, 35, 36, 37, 38, 39, 40, 41, 42, 43, 44, 45, 46, 47] rfl
  replace hD : va_D A ((MK cy aM rR rB rO rK fMh fMo fMz gMv fMk fMa fMt kY fNr_8 fM3 fMu fMy fMb eR tM iEn iTk uP uU kAt iTo iFr JFi iFa iSt iLv iWs wL uS0 uS1 uS2 uS3 uS4 iOm) ++ (((oM cy uU) ++ ((oL cy wL) ++ ((oM cy uP) ++ (oM cy uS0 ++ (oM cy uS1 ++ (oM cy uS2 ++ (oM cy uS3 ++ oM cy uS4))))))) ++ (XW cy aX iKp iYe iTv fX_4 tA tB iL iBs tU tV fH fS fA gE kZ iT1 iT2 iT3 iT4 fB tD))) := hD.part [48, 0, 1, 2, 3, 4, 5, 6, 49, 7, 8, 9, 10, 11, 12, 13, 14, 15, 16, 17, 18, 19, 20, 21, 22, 23, 24, 25, 26, 27, 28, 29, 30, 31, 32, 33, 34, 35, 36, 37, 38, 39, 40, 41, 42, 43, 44, 45, 46, 47] (by decide +kernel) rfl
  replace hP : va_P G CL ((XW cy aX iKp iYe iTv fX_4 tA tB iL iBs tU tV fH fS fA gE kZ iT1 iT2 iT3 iT4 fB tD) ++ ((MK cy aM rR rB rO rK fMh fMo fMz gMv fMk fMa fMt kY fNr_8 fM3 fMu fMy fMb eR tM iEn iTk uP uU kAt iTo iFr JFi iFa iSt iLv iWs wL uS0 uS1 uS2 uS3 uS4 iOm) ++ ((oM cy uU) ++ ((oL cy wL) ++ ((oM cy uP) ++ (oM cy uS0 ++ (oM cy uS1 ++ (oM cy uS2 ++ (oM cy uS3 ++ oM cy uS4))))))))) H := ofNP hP
  replace hD : va_D A ((XW cy aX iKp iYe iTv fX_4 tA tB iL iBs tU tV fH fS fA gE kZ iT1 iT2 iT3 iT4 fB tD) ++ ((MK cy aM rR rB rO rK fMh fMo fMz gMv fMk fMa fMt kY fNr_8 fM3 fMu fMy fMb eR tM iEn iTk uP uU kAt iTo iFr JFi iFa iSt iLv iWs wL uS0 uS1 uS2 uS3 uS4 iOm) ++ ((oM cy uU) ++ ((oL cy wL) ++ ((oM cy uP) ++ (oM cy uS0 ++ (oM cy uS1 ++ (oM cy uS2 ++ (oM cy uS3 ++ oM cy uS4))))))))) := ofND hD
  refine lv_pop hx hb dL_law_1376 rfl ?_
  refine lv_goto (tgt := 1807) hx hb dL_law_1377 (by decide) ?_
  refine W.widen (k := nC + 250) (n := nS + 4440) (by omega) (by omega) ?_
  exact kk _ _ ⟨iKp, iYe, iTv, fX_4, tA, tB, iL, iBs, tU, tV, fH, fS, fA, gE, kZ, iT1, iT2, iT3, iT4, fB, tD, fMh, fMo, fMz, gMv, fMk, fMa, fMt, kY, fNr_8, fM3, fMu, fMy, fMb, eR, tM, iEn, iTk, uP, uU, kAt, iTo, iFr, JFi, iFa, iSt, iLv, iWs, wL, uS0, uS1, uS2, uS3, uS4, iOm, hP, hD, hsX, hsM, trivial⟩ hS
set_option maxHeartbeats 4000000 in
set_option maxRecDepth 100000 in
theorem law_32 {p : Program} {l : Launch} {e : Env} {s : State} {m : MethodId} {below : List Frame} {meth : Method} {c : Code} {b L : Nat} {xs : Nat → Int32} {A : Nat → Prop} {G : va_G} {cy : Nat → ClassId} {aX aM rR rB rO rK : Nat → Nat} (hx : p.tables.exec = Jvm.exec) (hb : c.code = code) (hr : meth.sig.returnType = ret) (hml : c.maxLocals = 4) (hown : s.vm.findClass RL = some m.cls) (hts : ∀ w ∈ BIG, w.before #[Value.ref b] s = true) (hX : va_X b L xs s s.heap) (hbl : b < s.heap.size) (hlocks : meth.locks = false) (hN : KN G cy s) (hA : ∀ q : Nat, s.heap.size ≤ q → A q) (hAn : ∀ q : Nat, A q → s.heap.size ≤ q) (hbA : ¬ A b) (hSO : SO A s s.heap) {H : Heap} {locs : List Loc} {ls : Array Slot} {kI nC nS : Nat} (hkI : kI + 6 ≤ L) (hL : L ≤ 384) (hnC : nC + 250 ≤ 600000) (hnS : nS + 4440 ≤ 7302250) (hI : LINV G cy A H aX aM rR rB rO rK) (hS : va_S A s.heap H locs) (hl : lv_has ls 4 [(3, .int (nI kI)), (2, .ref (aM 0)), (1, .ref (aX 0)), (0, .ref b)]) (kk : ∀ (H : Heap) (locs : List Loc), LINV G cy A H aX aM rR rB rO rK → va_S A s.heap H locs → W p l e room_1 s m #[Value.ref b] below meth c H locs (nC + 250) (nS + 4440) (lw_Z below #[Value.ref b] s) (F0 m 1807 ls [])) : W p l e room_1 s m #[Value.ref b] below meth c H locs nC nS (lw_Z below #[Value.ref b] s) (F0 m 1380 ls []) := by
  obtain ⟨iKp, iYe, iTv, fR, tA, tB, iL, iBs, tU, tV, fH, fS, fA, gE, kZ, iT1, iT2, iT3, iT4, fB, tD, fMh, fMo, fMz, gMv, fMk, fMa, fMt, kY, fMr, fM3, fMu, fMy, fMb, eR, tM, iEn, iTk, uP, uU, kAt, iTo, iFr, JFi, iFa, iSt, iLv, iWs, wL, uS0, uS1, uS2, uS3, uS4, iOm, hP, hD, hsX, hsM, hLR⟩ := hI
  refine lv_aload_n hx hb dL_law_1380 rfl (lv_at hl 2 rfl) ?_
  refine cViQ (As := []) (rest := []) (b := (aX 0)) (q := (RX5, TX5, 9)) ⟨hx, hb, hml, hown, hts⟩ (p_X5_hangs l G cy (H).size (aX 0) (aX 2) (aX 11) (aX 20) (aX 39) (aX 44) (aX 1) iKp iYe iTv fR tA (aX 3) (aX 4) (aX 5) (aX 6) (aX 7) (aX 8) (aX 9) (aX 10) hsX.1.1 hsX.1.2) L_L_151 hN hP hD hS hA [0, 1, 2, 3, 4, 5, 6, 7, 8, 9, 10] [false, false, false, false, false, false, false, false, false, false, false, true, true, true, true, true, true, true, true, true, true, true, true, true, true, true, true, true, true, true, true, true, true, true, true, true, true, true, true, true, true, true, true, true, true, true, true, true, true, true, true, true, true, true, true] rfl (by decide +kernel) rfl 0 4 rfl rfl rfl ⟨Nat.le_of_ble_eq_true rfl, Nat.le_of_ble_eq_true rfl⟩ hl.1 (Nat.le_of_ble_eq_true rfl) dL_law_1381 ⟨by show nC + 0 ≤ 600000; omega, by show nS + 0 ≤ 7302250; omega⟩ (fun r_1 u_3 H locs h_2 => ?_)
  clear hP hD hS
  intro hP hD hS
  obtain ⟨fX_4, rfl, h_2⟩ := h_2
  replace hP : va_P G CL ((XW cy aX iKp iYe iTv fX_4 tA tB iL iBs tU tV fH fS fA gE kZ iT1 iT2 iT3 iT4 fB tD) ++ ((MK cy aM rR rB rO rK fMh fMo fMz gMv fMk fMa fMt kY fMr fM3 fMu fMy fMb eR tM iEn iTk uP uU kAt iTo iFr JFi iFa iSt iLv iWs wL uS0 uS1 uS2 uS3 uS4 iOm) ++ ((oM cy uU) ++ ((oL cy wL) ++ ((oM cy uP) ++ (oM cy uS0 ++ (oM cy uS1 ++ (oM cy uS2 ++ (oM cy uS3 ++ oM cy uS4))))))))) H := hP.part [44, 45, 46, 47, 48, 49, 50, 51, 52, 53, 54, 0, 1, 2, 3, 4, 5, 6, 7, 8, 9, 10, 11, 12, 13, 14, 15, 16, 17, 18, 19, 20, 21, 22, 23, 24, 25, 26, 27, 28, 29, 30, 31, 32, 33, 34, 35, 36, 37, 38, 39, 40, 41, 42, 43] rfl
  replace hD : va_D A ((XW cy aX iKp iYe iTv fX_4 tA tB iL iBs tU tV fH fS fA gE kZ iT1 iT2 iT3 iT4 fB tD) ++ ((MK cy aM rR rB rO rK fMh fMo fMz gMv fMk fMa fMt kY fMr fM3 fMu fMy fMb eR tM iEn iTk uP uU kAt iTo iFr JFi iFa iSt iLv iWs wL uS0 uS1 uS2 uS3 uS4 iOm) ++ ((oM cy uU) ++ ((oL cy wL) ++ ((oM cy uP) ++ (oM cy uS0 ++ (oM cy uS1 ++ (oM cy uS2 ++ (oM cy uS3 ++ oM cy uS4))))))))) := hD.part [44, 45, 46, 47, 48, 49, 50, 51, 52, 53, 54, 0, 1, 2, 3, 4, 5, 6, 7, 8, 9, 10, 11, 12, 13, 14, 15, 16, 17, 18, 19, 20, 21, 22, 23, 24, 25, 26, 27, 28, 29, 30, 31, 32, 33, 34, 35, 36, 37, 38, 39, 40, 41, 42, 43] (by decide +kernel) rfl
  refine lv_pop hx hb dL_law_1384 rfl ?_
  refine lv_aload_n hx hb dL_law_1385 rfl (lv_at hl 1 rfl) ?_
  replace hP : va_P G CL ((MK cy aM rR rB rO rK fMh fMo fMz gMv fMk fMa fMt kY fMr fM3 fMu fMy fMb eR tM iEn iTk uP uU kAt iTo iFr JFi iFa iSt iLv iWs wL uS0 uS1 uS2 uS3 uS4 iOm) ++ (((oM cy uU) ++ ((oL cy wL) ++ ((oM cy uP) ++ (oM cy uS0 ++ (oM cy uS1 ++ (oM cy uS2 ++ (oM cy uS3 ++ oM cy uS4))))))) ++ (XW cy aX iKp iYe iTv fX_4 tA tB iL iBs tU tV fH fS fA gE kZ iT1 iT2 iT3 iT4 fB tD))) H := toNP hP
  replace hD : va_D A ((MK cy aM rR rB rO rK fMh fMo fMz gMv fMk fMa fMt kY fMr fM3 fMu fMy fMb eR tM iEn iTk uP uU kAt iTo iFr JFi iFa iSt iLv iWs wL uS0 uS1 uS2 uS3 uS4 iOm) ++ (((oM cy uU) ++ ((oL cy wL) ++ ((oM cy uP) ++ (oM cy uS0 ++ (oM cy uS1 ++ (oM cy uS2 ++ (oM cy uS3 ++ oM cy uS4))))))) ++ (XW cy aX iKp iYe iTv fX_4 tA tB iL iBs tU tV fH fS fA gE kZ iT1 iT2 iT3 iT4 fB tD))) := toND hD
  refine cViQ (As := []) (rest := []) (b := (aM 0)) (q := (RX6, TX6, 35)) ⟨hx, hb, hml, hown, hts⟩ (p_X6_hangs l G cy (H).size (aM 0) (aM 1) (aM 2) (aM 3) (aM 14) (aM 4) (aM 5) (aM 6) (aM 7) kY (aM 8) tM (aM 15) (aM 16) (aM 17) iEn iTk uP uU kAt iTo iFr JFi iFa (aM 9) iSt iLv iWs (ovL wL) (aM 10) (aM 11) (aM 12) (aM 13) iOm fMr rB rO rK hsM.1.1.1 hsM.1.1.2 hsM.1) L_L_154 hN hP hD hS hA [0, 8, 23, 24, 25, 26, 27, 28, 29, 30, 31, 32, 33, 34, 35, 36, 37, 38, 39, 40, 41, 42, 43, 44, 45, 46, 47, 48, 49] [false, true, true, true, true, true, true, true, false, true, true, true, true, true, true, true, true, true, true, true, true, true, true, false, false, false, false, false, false, false, false, false, false, false, false, false, false, false, false, false, false, false, false, false, false, false, false, false, false, false] rfl (by decide +kernel) rfl 0 5 rfl rfl rfl ⟨Nat.le_of_ble_eq_true rfl, Nat.le_of_ble_eq_true rfl⟩ hl.1 (Nat.le_of_ble_eq_true rfl) dL_law_1386 ⟨by show nC + 0 + 0 ≤ 600000; omega, by show nS + 0 + 0 ≤ 7302250; omega⟩ (fun r_5 u_7 H locs h_6 => ?_)
  clear hP hD hS
  intro hP hD hS
  obtain ⟨fNr_8, rfl, h_6⟩ := h_6
  replace hP : va_P G CL ((MK cy aM rR rB rO rK fMh fMo fMz gMv fMk fMa fMt kY fNr_8 fM3 fMu fMy fMb eR tM iEn iTk uP uU kAt iTo iFr JFi iFa iSt iLv iWs wL uS0 uS1 uS2 uS3 uS4 iOm) ++ (((oM cy uU) ++ ((oL cy wL) ++ ((oM cy uP) ++ (oM cy uS0 ++ (oM cy uS1 ++ (oM cy uS2 ++ (oM cy uS3 ++ oM cy uS4))))))) ++ (XW cy aX iKp iYe iTv fX_4 tA tB iL iBs tU tV fH fS fA gE kZ iT1 iT2 iT3 iT4 fB tD))) H := hP.part [21, 0, 1, 2, 3, 4, 5, 6, 22, 7, 8, 9, 10, 11, 12, 13, 14, 15, 16, 17, 18, 19, 20, 23, 24, 25, 26, 27, 28, 29, 30, 31, 32, 33, 34, 35, 36, 37, 38, 39, 40, 41, 42, 43, 44, 45, 46, 47, 48, 49] rfl
  replace hD : va_D A ((MK cy aM rR rB rO rK fMh fMo fMz gMv fMk fMa fMt kY fNr_8 fM3 fMu fMy fMb eR tM iEn iTk uP uU kAt iTo iFr JFi iFa iSt iLv iWs wL uS0 uS1 uS2 uS3 uS4 iOm) ++ (((oM cy uU) ++ ((oL cy wL) ++ ((oM cy uP) ++ (oM cy uS0 ++ (oM cy uS1 ++ (oM cy uS2 ++ (oM cy uS3 ++ oM cy uS4))))))) ++ (XW cy aX iKp iYe iTv fX_4 tA tB iL iBs tU tV fH fS fA gE kZ iT1 iT2 iT3 iT4 fB tD))) := hD.part [21, 0, 1, 2, 3, 4, 5, 6, 22, 7, 8, 9, 10, 11, 12, 13, 14, 15, 16, 17, 18, 19, 20, 23, 24, 25, 26, 27, 28, 29, 30, 31, 32, 33, 34, 35, 36, 37, 38, 39, 40, 41, 42, 43, 44, 45, 46, 47, 48, 49] (by decide +kernel) rfl
  replace hP : va_P G CL ((XW cy aX iKp iYe iTv fX_4 tA tB iL iBs tU tV fH fS fA gE kZ iT1 iT2 iT3 iT4 fB tD) ++ ((MK cy aM rR rB rO rK fMh fMo fMz gMv fMk fMa fMt kY fNr_8 fM3 fMu fMy fMb eR tM iEn iTk uP uU kAt iTo iFr JFi iFa iSt iLv iWs wL uS0 uS1 uS2 uS3 uS4 iOm) ++ ((oM cy uU) ++ ((oL cy wL) ++ ((oM cy uP) ++ (oM cy uS0 ++ (oM cy uS1 ++ (oM cy uS2 ++ (oM cy uS3 ++ oM cy uS4))))))))) H := ofNP hP
  replace hD : va_D A ((XW cy aX iKp iYe iTv fX_4 tA tB iL iBs tU tV fH fS fA gE kZ iT1 iT2 iT3 iT4 fB tD) ++ ((MK cy aM rR rB rO rK fMh fMo fMz gMv fMk fMa fMt kY fNr_8 fM3 fMu fMy fMb eR tM iEn iTk uP uU kAt iTo iFr JFi iFa iSt iLv iWs wL uS0 uS1 uS2 uS3 uS4 iOm) ++ ((oM cy uU) ++ ((oL cy wL) ++ ((oM cy uP) ++ (oM cy uS0 ++ (oM cy uS1 ++ (oM cy uS2 ++ (oM cy uS3 ++ oM cy uS4))))))))) := ofND hD
  refine lv_pop hx hb dL_law_1389 rfl ?_
  refine lv_goto (tgt := 1807) hx hb dL_law_1390 (by decide) ?_
  refine W.widen (k := nC + 250) (n := nS + 4440) (by omega) (by omega) ?_
  exact kk _ _ ⟨iKp, iYe, iTv, fX_4, tA, tB, iL, iBs, tU, tV, fH, fS, fA, gE, kZ, iT1, iT2, iT3, iT4, fB, tD, fMh, fMo, fMz, gMv, fMk, fMa, fMt, kY, fNr_8, fM3, fMu, fMy, fMb, eR, tM, iEn, iTk, uP, uU, kAt, iTo, iFr, JFi, iFa, iSt, iLv, iWs, wL, uS0, uS1, uS2, uS3, uS4, iOm, hP, hD, hsX, hsM, trivial⟩ hS
set_option maxHeartbeats 4000000 in
set_option maxRecDepth 100000 in
theorem law_33 {p : Program} {l : Launch} {e : Env} {s : State} {m : MethodId} {below : List Frame} {meth : Method} {c : Code} {b L : Nat} {xs : Nat → Int32} {A : Nat → Prop} {G : va_G} {cy : Nat → ClassId} {aX aM rR rB rO rK : Nat → Nat} (hx : p.tables.exec = Jvm.exec) (hb : c.code = code) (hr : meth.sig.returnType = ret) (hml : c.maxLocals = 4) (hown : s.vm.findClass RL = some m.cls) (hts : ∀ w ∈ BIG, w.before #[Value.ref b] s = true) (hX : va_X b L xs s s.heap) (hbl : b < s.heap.size) (hlocks : meth.locks = false) (hN : KN G cy s) (hA : ∀ q : Nat, s.heap.size ≤ q → A q) (hAn : ∀ q : Nat, A q → s.heap.size ≤ q) (hbA : ¬ A b) (hSO : SO A s s.heap) {H : Heap} {locs : List Loc} {ls : Array Slot} {kI nC nS : Nat} (hkI : kI + 6 ≤ L) (hL : L ≤ 384) (hnC : nC + 250 ≤ 600000) (hnS : nS + 4440 ≤ 7302250) (hI : LINV G cy A H aX aM rR rB rO rK) (hS : va_S A s.heap H locs) (hl : lv_has ls 4 [(3, .int (nI kI)), (2, .ref (aM 0)), (1, .ref (aX 0)), (0, .ref b)]) (kk : ∀ (H : Heap) (locs : List Loc), LINV G cy A H aX aM rR rB rO rK → va_S A s.heap H locs → W p l e room_1 s m #[Value.ref b] below meth c H locs (nC + 250) (nS + 4440) (lw_Z below #[Value.ref b] s) (F0 m 1807 ls [])) : W p l e room_1 s m #[Value.ref b] below meth c H locs nC nS (lw_Z below #[Value.ref b] s) (F0 m 1393 ls []) := by
  obtain ⟨iKp, iYe, iTv, fR, tA, tB, iL, iBs, tU, tV, fH, fS, fA, gE, kZ, iT1, iT2, iT3, iT4, fB, tD, fMh, fMo, fMz, gMv, fMk, fMa, fMt, kY, fMr, fM3, fMu, fMy, fMb, eR, tM, iEn, iTk, uP, uU, kAt, iTo, iFr, JFi, iFa, iSt, iLv, iWs, wL, uS0, uS1, uS2, uS3, uS4, iOm, hP, hD, hsX, hsM, hLR⟩ := hI
  refine lv_aload_n hx hb dL_law_1393 rfl (lv_at hl 2 rfl) ?_
  refine lv_aload_n hx hb dL_law_1394 rfl (lv_at hl 3 rfl) ?_
  refine lv_iload_n hx hb dL_law_1395 rfl (lv_at hl 0 rfl) ?_
  refine lv_iconst (v := 1) hx hb dL_law_1396 (by decide) ?_
  refine lv_iadd hx hb dL_law_1397 ?_
  refine lv_seti (v := nI (kI + 1)) (nI_add _ _) ?_
  refine va_sld hx hb hX hbl hbA hS (vp_in_nI (by omega) (by omega)) dL_law_1398 ?_
  refine lv_seti (v := xs (kI + 1)) (congrArg xs (nI_clamp (by omega))) ?_
  refine cViQ (As := [.int (xs (kI + 1))]) (rest := []) (b := (aX 0)) (q := (RX5, TX5, 9)) ⟨hx, hb, hml, hown, hts⟩ (p_X5_lost l G cy (H).size (aX 0) (aX 2) (aX 11) (aX 20) (aX 39) (aX 44) (aX 1) iKp iYe iTv fR tA (aX 3) (aX 4) (aX 5) (aX 6) (aX 7) (aX 8) (aX 9) (aX 10) (xs (kI + 1)) hsX.1.1 hsX.1.2) L_L_155 hN hP hD hS hA [0, 1, 2, 3, 4, 5, 6, 7, 8, 9, 10] [false, false, false, false, false, false, false, false, false, false, false, true, true, true, true, true, true, true, true, true, true, true, true, true, true, true, true, true, true, true, true, true, true, true, true, true, true, true, true, true, true, true, true, true, true, true, true, true, true, true, true, true, true, true, true] rfl (by decide +kernel) rfl 0 4 rfl rfl rfl ⟨Nat.le_of_ble_eq_true rfl, Nat.le_of_ble_eq_true rfl⟩ hl.1 (Nat.le_of_ble_eq_true rfl) dL_law_1399 ⟨by show nC + 0 ≤ 600000; omega, by show nS + 0 ≤ 7302250; omega⟩ (fun r_1 u_3 H locs h_2 => ?_)
  clear hP hD hS
  intro hP hD hS
  obtain ⟨fX_4, rfl, h_2⟩ := h_2
  replace hP : va_P G CL ((XW cy aX iKp iYe iTv fX_4 tA tB iL iBs tU tV fH fS fA gE kZ iT1 iT2 iT3 iT4 fB tD) ++ ((MK cy aM rR rB rO rK fMh fMo fMz gMv fMk fMa fMt kY fMr fM3 fMu fMy fMb eR tM iEn iTk uP uU kAt iTo iFr JFi iFa iSt iLv iWs wL uS0 uS1 uS2 uS3 uS4 iOm) ++ ((oM cy uU) ++ ((oL cy wL) ++ ((oM cy uP) ++ (oM cy uS0 ++ (oM cy uS1 ++ (oM cy uS2 ++ (oM cy uS3 ++ oM cy uS4))))))))) H := hP.part [44, 45, 46, 47, 48, 49, 50, 51, 52, 53, 54, 0, 1, 2, 3, 4, 5, 6, 7, 8, 9, 10, 11, 12, 13, 14, 15, 16, 17, 18, 19, 20, 21, 22, 23, 24, 25, 26, 27, 28, 29, 30, 31, 32, 33, 34, 35, 36, 37, 38, 39, 40, 41, 42, 43] rfl
  replace hD : va_D A ((XW cy aX iKp iYe iTv fX_4 tA tB iL iBs tU tV fH fS fA gE kZ iT1 iT2 iT3 iT4 fB tD) ++ ((MK cy aM rR rB rO rK fMh fMo fMz gMv fMk fMa fMt kY fMr fM3 fMu fMy fMb eR tM iEn iTk uP uU kAt iTo iFr JFi iFa iSt iLv iWs wL uS0 uS1 uS2 uS3 uS4 iOm) ++ ((oM cy uU) ++ ((oL cy wL) ++ ((oM cy uP) ++ (oM cy uS0 ++ (oM cy uS1 ++ (oM cy uS2 ++ (oM cy uS3 ++ oM cy uS4))))))))) := hD.part [44, 45, 46, 47, 48, 49, 50, 51, 52, 53, 54, 0, 1, 2, 3, 4, 5, 6, 7, 8, 9, 10, 11, 12, 13, 14, 15, 16, 17, 18, 19, 20, 21, 22, 23, 24, 25, 26, 27, 28, 29, 30, 31, 32, 33, 34, 35, 36, 37, 38, 39, 40, 41, 42, 43] (by decide +kernel) rfl
  refine lv_pop hx hb dL_law_1402 rfl ?_
  refine lv_aload_n hx hb dL_law_1403 rfl (lv_at hl 1 rfl) ?_
  refine lv_aload_n hx hb dL_law_1404 rfl (lv_at hl 3 rfl) ?_
  refine lv_iload_n hx hb dL_law_1405 rfl (lv_at hl 0 rfl) ?_
  refine lv_iconst (v := 1) hx hb dL_law_1406 (by decide) ?_
  refine lv_iadd hx hb dL_law_1407 ?_
  refine lv_seti (v := nI (kI + 1)) (nI_add _ _) ?_
  refine va_sld hx hb hX hbl hbA hS (vp_in_nI (by omega) (by omega)) dL_law_1408 ?_
  refine lv_seti (v := xs (kI + 1)) (congrArg xs (nI_clamp (by omega))) ?_
  replace hP : va_P G CL ((MK cy aM rR rB rO rK fMh fMo fMz gMv fMk fMa fMt kY fMr fM3 fMu fMy fMb eR tM iEn iTk uP uU kAt iTo iFr JFi iFa iSt iLv iWs wL uS0 uS1 uS2 uS3 uS4 iOm) ++ (((oM cy uU) ++ ((oL cy wL) ++ ((oM cy uP) ++ (oM cy uS0 ++ (oM cy uS1 ++ (oM cy uS2 ++ (oM cy uS3 ++ oM cy uS4))))))) ++ (XW cy aX iKp iYe iTv fX_4 tA tB iL iBs tU tV fH fS fA gE kZ iT1 iT2 iT3 iT4 fB tD))) H := toNP hP
  replace hD : va_D A ((MK cy aM rR rB rO rK fMh fMo fMz gMv fMk fMa fMt kY fMr fM3 fMu fMy fMb eR tM iEn iTk uP uU kAt iTo iFr JFi iFa iSt iLv iWs wL uS0 uS1 uS2 uS3 uS4 iOm) ++ (((oM cy uU) ++ ((oL cy wL) ++ ((oM cy uP) ++ (oM cy uS0 ++ (oM cy uS1 ++ (oM cy uS2 ++ (oM cy uS3 ++ oM cy uS4))))))) ++ (XW cy aX iKp iYe iTv fX_4 tA tB iL iBs tU tV fH fS fA gE kZ iT1 iT2 iT3 iT4 fB tD))) := toND hD
  refine cViQ (As := [.int (xs (kI + 1))]) (rest := []) (b := (aM 0)) (q := (RX6, TX6, 35)) ⟨hx, hb, hml, hown, hts⟩ (p_X6_lost l G cy (H).size (aM 0) (aM 1) (aM 2) (aM 3) (aM 14) (aM 4) (aM 5) (aM 6) (aM 7) kY (aM 8) tM (aM 15) (aM 16) (aM 17) iEn iTk uP uU kAt iTo iFr JFi iFa (aM 9) iSt iLv iWs (ovL wL) (aM 10) (aM 11) (aM 12) (aM 13) iOm fMr rB rO rK (xs (kI + 1)) hsM.1.1.1 hsM.1.1.2 hsM.1) L_L_158 hN hP hD hS hA [0, 8, 23, 24, 25, 26, 27, 28, 29, 30, 31, 32, 33, 34, 35, 36, 37, 38, 39, 40, 41, 42, 43, 44, 45, 46, 47, 48, 49] [false, true, true, true, true, true, true, true, false, true, true, true, true, true, true, true, true, true, true, true, true, true, true, false, false, false, false, false, false, false, false, false, false, false, false, false, false, false, false, false, false, false, false, false, false, false, false, false, false, false] rfl (by decide +kernel) rfl 0 5 rfl rfl rfl ⟨Nat.le_of_ble_eq_true rfl, Nat.le_of_ble_eq_true rfl⟩ hl.1 (Nat.le_of_ble_eq_true rfl) dL_law_1409 ⟨by show nC + 0 + 0 ≤ 600000; omega, by show nS + 0 + 0 ≤ 7302250; omega⟩ (fun r_5 u_7 H locs h_6 => ?_)
  clear hP hD hS
  intro hP hD hS
  obtain ⟨fNr_8, rfl, h_6⟩ := h_6
  replace hP : va_P G CL ((MK cy aM rR rB rO rK fMh fMo fMz gMv fMk fMa fMt kY fNr_8 fM3 fMu fMy fMb eR tM iEn iTk uP uU kAt iTo iFr JFi iFa iSt iLv iWs wL uS0 uS1 uS2 uS3 uS4 iOm) ++ (((oM cy uU) ++ ((oL cy wL) ++ ((oM cy uP) ++ (oM cy uS0 ++ (oM cy uS1 ++ (oM cy uS2 ++ (oM cy uS3 ++ oM cy uS4))))))) ++ (XW cy aX iKp iYe iTv fX_4 tA tB iL iBs tU tV fH fS fA gE kZ iT1 iT2 iT3 iT4 fB tD))) H := hP.part [21, 0, 1, 2, 3, 4, 5, 6, 22, 7, 8, 9, 10, 11, 12, 13, 14, 15, 16, 17, 18, 19, 20, 23, 24, 25, 26, 27, 28, 29, 30, 31, 32, 33, 34, 35, 36, 37, 38, 39, 40, 41, 42, 43, 44, 45, 46, 47, 48, 49] rfl
  replace hD : va_D A ((MK cy aM rR rB rO rK fMh fMo fMz gMv fMk fMa fMt kY fNr_8 fM3 fMu fMy fMb eR tM iEn iTk uP uU kAt iTo iFr JFi iFa iSt iLv iWs wL uS0 uS1 uS2 uS3 uS4 iOm) ++ (((oM cy uU) ++ ((oL cy wL) ++ ((oM cy uP) ++ (oM cy uS0 ++ (oM cy uS1 ++ (oM cy uS2 ++ (oM cy uS3 ++ oM cy uS4))))))) ++ (XW cy aX iKp iYe iTv fX_4 tA tB iL iBs tU tV fH fS fA gE kZ iT1 iT2 iT3 iT4 fB tD))) := hD.part [21, 0, 1, 2, 3, 4, 5, 6, 22, 7, 8, 9, 10, 11, 12, 13, 14, 15, 16, 17, 18, 19, 20, 23, 24, 25, 26, 27, 28, 29, 30, 31, 32, 33, 34, 35, 36, 37, 38, 39, 40, 41, 42, 43, 44, 45, 46, 47, 48, 49] (by decide +kernel) rfl
  replace hP : va_P G CL ((XW cy aX iKp iYe iTv fX_4 tA tB iL iBs tU tV fH fS fA gE kZ iT1 iT2 iT3 iT4 fB tD) ++ ((MK cy aM rR rB rO rK fMh fMo fMz gMv fMk fMa fMt kY fNr_8 fM3 fMu fMy fMb eR tM iEn iTk uP uU kAt iTo iFr JFi iFa iSt iLv iWs wL uS0 uS1 uS2 uS3 uS4 iOm) ++ ((oM cy uU) ++ ((oL cy wL) ++ ((oM cy uP) ++ (oM cy uS0 ++ (oM cy uS1 ++ (oM cy uS2 ++ (oM cy uS3 ++ oM cy uS4))))))))) H := ofNP hP
  replace hD : va_D A ((XW cy aX iKp iYe iTv fX_4 tA tB iL iBs tU tV fH fS fA gE kZ iT1 iT2 iT3 iT4 fB tD) ++ ((MK cy aM rR rB rO rK fMh fMo fMz gMv fMk fMa fMt kY fNr_8 fM3 fMu fMy fMb eR tM iEn iTk uP uU kAt iTo iFr JFi iFa iSt iLv iWs wL uS0 uS1 uS2 uS3 uS4 iOm) ++ ((oM cy uU) ++ ((oL cy wL) ++ ((oM cy uP) ++ (oM cy uS0 ++ (oM cy uS1 ++ (oM cy uS2 ++ (oM cy uS3 ++ oM cy uS4))))))))) := ofND hD
  refine lv_pop hx hb dL_law_1412 rfl ?_
  refine lv_goto (tgt := 1807) hx hb dL_law_1413 (by decide) ?_
  refine W.widen (k := nC + 250) (n := nS + 4440) (by omega) (by omega) ?_
  exact kk _ _ ⟨iKp, iYe, iTv, fX_4, tA, tB, iL, iBs, tU, tV, fH, fS, fA, gE, kZ, iT1, iT2, iT3, iT4, fB, tD, fMh, fMo, fMz, gMv, fMk, fMa, fMt, kY, fNr_8, fM3, fMu, fMy, fMb, eR, tM, iEn, iTk, uP, uU, kAt, iTo, iFr, JFi, iFa, iSt, iLv, iWs, wL, uS0, uS1, uS2, uS3, uS4, iOm, hP, hD, hsX, hsM, trivial⟩ hS
set_option maxHeartbeats 4000000 in
set_option maxRecDepth 100000 in
theorem law_34 {p : Program} {l : Launch} {e : Env} {s : State} {m : MethodId} {below : List Frame} {meth : Method} {c : Code} {b L : Nat} {xs : Nat → Int32} {A : Nat → Prop} {G : va_G} {cy : Nat → ClassId} {aX aM rR rB rO rK : Nat → Nat} (hx : p.tables.exec = Jvm.exec) (hb : c.code = code) (hr : meth.sig.returnType = ret) (hml : c.maxLocals = 4) (hown : s.vm.findClass RL = some m.cls) (hts : ∀ w ∈ BIG, w.before #[Value.ref b] s = true) (hX : va_X b L xs s s.heap) (hbl : b < s.heap.size) (hlocks : meth.locks = false) (hN : KN G cy s) (hA : ∀ q : Nat, s.heap.size ≤ q → A q) (hAn : ∀ q : Nat, A q → s.heap.size ≤ q) (hbA : ¬ A b) (hSO : SO A s s.heap) {H : Heap} {locs : List Loc} {ls : Array Slot} {kI nC nS : Nat} (hkI : kI + 6 ≤ L) (hL : L ≤ 384) (hnC : nC + 250 ≤ 600000) (hnS : nS + 4440 ≤ 7302250) (hI : LINV G cy A H aX aM rR rB rO rK) (hS : va_S A s.heap H locs) (hl : lv_has ls 4 [(3, .int (nI kI)), (2, .ref (aM 0)), (1, .ref (aX 0)), (0, .ref b)]) (kk : ∀ (H : Heap) (locs : List Loc), LINV G cy A H aX aM rR rB rO rK → va_S A s.heap H locs → W p l e room_1 s m #[Value.ref b] below meth c H locs (nC + 250) (nS + 4440) (lw_Z below #[Value.ref b] s) (F0 m 1807 ls [])) : W p l e room_1 s m #[Value.ref b] below meth c H locs nC nS (lw_Z below #[Value.ref b] s) (F0 m 1416 ls []) := by
  obtain ⟨iKp, iYe, iTv, fR, tA, tB, iL, iBs, tU, tV, fH, fS, fA, gE, kZ, iT1, iT2, iT3, iT4, fB, tD, fMh, fMo, fMz, gMv, fMk, fMa, fMt, kY, fMr, fM3, fMu, fMy, fMb, eR, tM, iEn, iTk, uP, uU, kAt, iTo, iFr, JFi, iFa, iSt, iLv, iWs, wL, uS0, uS1, uS2, uS3, uS4, iOm, hP, hD, hsX, hsM, hLR⟩ := hI
  refine lv_aload_n hx hb dL_law_1416 rfl (lv_at hl 2 rfl) ?_
  refine lv_aload_n hx hb dL_law_1417 rfl (lv_at hl 3 rfl) ?_
  refine lv_iload_n hx hb dL_law_1418 rfl (lv_at hl 0 rfl) ?_
  refine lv_iconst (v := 1) hx hb dL_law_1419 (by decide) ?_
  refine lv_iadd hx hb dL_law_1420 ?_
  refine lv_seti (v := nI (kI + 1)) (nI_add _ _) ?_
  refine va_sld hx hb hX hbl hbA hS (vp_in_nI (by omega) (by omega)) dL_law_1421 ?_
  refine lv_seti (v := xs (kI + 1)) (congrArg xs (nI_clamp (by omega))) ?_
  refine cViQ (As := [.int (xs (kI + 1))]) (rest := []) (b := (aX 0)) (q := (RX5, TX5, 9)) ⟨hx, hb, hml, hown, hts⟩ (p_X5_bear l G cy (H).size (aX 0) (aX 2) (aX 11) (aX 20) (aX 39) (aX 44) (aX 1) iKp iYe iTv fR tA (aX 3) (aX 4) (aX 5) (aX 6) (aX 7) (aX 8) (aX 9) (aX 10) (xs (kI + 1)) hsX.1.1 hsX.1.2) L_L_159 hN hP hD hS hA [0, 1, 2, 3, 4, 5, 6, 7, 8, 9, 10] [false, false, false, false, false, false, false, false, false, false, false, true, true, true, true, true, true, true, true, true, true, true, true, true, true, true, true, true, true, true, true, true, true, true, true, true, true, true, true, true, true, true, true, true, true, true, true, true, true, true, true, true, true, true, true] rfl (by decide +kernel) rfl 0 4 rfl rfl rfl ⟨Nat.le_of_ble_eq_true rfl, Nat.le_of_ble_eq_true rfl⟩ hl.1 (Nat.le_of_ble_eq_true rfl) dL_law_1422 ⟨by show nC + 0 ≤ 600000; omega, by show nS + 0 ≤ 7302250; omega⟩ (fun r_1 u_3 H locs h_2 => ?_)
  clear hP hD hS
  intro hP hD hS
  obtain ⟨fX_4, rfl, h_2⟩ := h_2
  replace hP : va_P G CL ((XW cy aX iKp iYe iTv fX_4 tA tB iL iBs tU tV fH fS fA gE kZ iT1 iT2 iT3 iT4 fB tD) ++ ((MK cy aM rR rB rO rK fMh fMo fMz gMv fMk fMa fMt kY fMr fM3 fMu fMy fMb eR tM iEn iTk uP uU kAt iTo iFr JFi iFa iSt iLv iWs wL uS0 uS1 uS2 uS3 uS4 iOm) ++ ((oM cy uU) ++ ((oL cy wL) ++ ((oM cy uP) ++ (oM cy uS0 ++ (oM cy uS1 ++ (oM cy uS2 ++ (oM cy uS3 ++ oM cy uS4))))))))) H := hP.part [44, 45, 46, 47, 48, 49, 50, 51, 52, 53, 54, 0, 1, 2, 3, 4, 5, 6, 7, 8, 9, 10, 11, 12, 13, 14, 15, 16, 17, 18, 19, 20, 21, 22, 23, 24, 25, 26, 27, 28, 29, 30, 31, 32, 33, 34, 35, 36, 37, 38, 39, 40, 41, 42, 43] rfl
  replace hD : va_D A ((XW cy aX iKp iYe iTv fX_4 tA tB iL iBs tU tV fH fS fA gE kZ iT1 iT2 iT3 iT4 fB tD) ++ ((MK cy aM rR rB rO rK fMh fMo fMz gMv fMk fMa fMt kY fMr fM3 fMu fMy fMb eR tM iEn iTk uP uU kAt iTo iFr JFi iFa iSt iLv iWs wL uS0 uS1 uS2 uS3 uS4 iOm) ++ ((oM cy uU) ++ ((oL cy wL) ++ ((oM cy uP) ++ (oM cy uS0 ++ (oM cy uS1 ++ (oM cy uS2 ++ (oM cy uS3 ++ oM cy uS4))))))))) := hD.part [44, 45, 46, 47, 48, 49, 50, 51, 52, 53, 54, 0, 1, 2, 3, 4, 5, 6, 7, 8, 9, 10, 11, 12, 13, 14, 15, 16, 17, 18, 19, 20, 21, 22, 23, 24, 25, 26, 27, 28, 29, 30, 31, 32, 33, 34, 35, 36, 37, 38, 39, 40, 41, 42, 43] (by decide +kernel) rfl
  refine lv_pop hx hb dL_law_1425 rfl ?_
  refine lv_aload_n hx hb dL_law_1426 rfl (lv_at hl 1 rfl) ?_
  refine lv_aload_n hx hb dL_law_1427 rfl (lv_at hl 3 rfl) ?_
  refine lv_iload_n hx hb dL_law_1428 rfl (lv_at hl 0 rfl) ?_
  refine lv_iconst (v := 1) hx hb dL_law_1429 (by decide) ?_
  refine lv_iadd hx hb dL_law_1430 ?_
  refine lv_seti (v := nI (kI + 1)) (nI_add _ _) ?_
  refine va_sld hx hb hX hbl hbA hS (vp_in_nI (by omega) (by omega)) dL_law_1431 ?_
  refine lv_seti (v := xs (kI + 1)) (congrArg xs (nI_clamp (by omega))) ?_
  replace hP : va_P G CL ((MK cy aM rR rB rO rK fMh fMo fMz gMv fMk fMa fMt kY fMr fM3 fMu fMy fMb eR tM iEn iTk uP uU kAt iTo iFr JFi iFa iSt iLv iWs wL uS0 uS1 uS2 uS3 uS4 iOm) ++ (((oM cy uU) ++ ((oL cy wL) ++ ((oM cy uP) ++ (oM cy uS0 ++ (oM cy uS1 ++ (oM cy uS2 ++ (oM cy uS3 ++ oM cy uS4))))))) ++ (XW cy aX iKp iYe iTv fX_4 tA tB iL iBs tU tV fH fS fA gE kZ iT1 iT2 iT3 iT4 fB tD))) H := toNP hP
  replace hD : va_D A ((MK cy aM rR rB rO rK fMh fMo fMz gMv fMk fMa fMt kY fMr fM3 fMu fMy fMb eR tM iEn iTk uP uU kAt iTo iFr JFi iFa iSt iLv iWs wL uS0 uS1 uS2 uS3 uS4 iOm) ++ (((oM cy uU) ++ ((oL cy wL) ++ ((oM cy uP) ++ (oM cy uS0 ++ (oM cy uS1 ++ (oM cy uS2 ++ (oM cy uS3 ++ oM cy uS4))))))) ++ (XW cy aX iKp iYe iTv fX_4 tA tB iL iBs tU tV fH fS fA gE kZ iT1 iT2 iT3 iT4 fB tD))) := toND hD
  refine cViQ (As := [.int (xs (kI + 1))]) (rest := []) (b := (aM 0)) (q := (RX6, TX6, 35)) ⟨hx, hb, hml, hown, hts⟩ (p_X6_bear l G cy (H).size (aM 0) (aM 1) (aM 2) (aM 3) (aM 14) (aM 4) (aM 5) (aM 6) (aM 7) kY (aM 8) tM (aM 15) (aM 16) (aM 17) iEn iTk uP uU kAt iTo iFr JFi iFa (aM 9) iSt iLv iWs (ovL wL) (aM 10) (aM 11) (aM 12) (aM 13) iOm fMr rB rO rK (xs (kI + 1)) hsM.1.1.1 hsM.1.1.2 hsM.1) L_L_162 hN hP hD hS hA [0, 8, 23, 24, 25, 26, 27, 28, 29, 30, 31, 32, 33, 34, 35, 36, 37, 38, 39, 40, 41, 42, 43, 44, 45, 46, 47, 48, 49] [false, true, true, true, true, true, true, true, false, true, true, true, true, true, true, true, true, true, true, true, true, true, true, false, false, false, false, false, false, false, false, false, false, false, false, false, false, false, false, false, false, false, false, false, false, false, false, false, false, false] rfl (by decide +kernel) rfl 0 5 rfl rfl rfl ⟨Nat.le_of_ble_eq_true rfl, Nat.le_of_ble_eq_true rfl⟩ hl.1 (Nat.le_of_ble_eq_true rfl) dL_law_1432 ⟨by show nC + 0 + 0 ≤ 600000; omega, by show nS + 0 + 0 ≤ 7302250; omega⟩ (fun r_5 u_7 H locs h_6 => ?_)
  clear hP hD hS
  intro hP hD hS
  obtain ⟨fNr_8, rfl, h_6⟩ := h_6
  replace hP : va_P G CL ((MK cy aM rR rB rO rK fMh fMo fMz gMv fMk fMa fMt kY fNr_8 fM3 fMu fMy fMb eR tM iEn iTk uP uU kAt iTo iFr JFi iFa iSt iLv iWs wL uS0 uS1 uS2 uS3 uS4 iOm) ++ (((oM cy uU) ++ ((oL cy wL) ++ ((oM cy uP) ++ (oM cy uS0 ++ (oM cy uS1 ++ (oM cy uS2 ++ (oM cy uS3 ++ oM cy uS4))))))) ++ (XW cy aX iKp iYe iTv fX_4 tA tB iL iBs tU tV fH fS fA gE kZ iT1 iT2 iT3 iT4 fB tD))) H := hP.part [21, 0, 1, 2, 3, 4, 5, 6, 22, 7, 8, 9, 10, 11, 12, 13, 14, 15, 16, 17, 18, 19, 20, 23, 24, 25, 26, 27, 28, 29, 30, 31, 32, 33, 34, 35, 36, 37, 38, 39, 40, 41, 42, 43, 44, 45, 46, 47, 48, 49] rfl
  replace hD : va_D A ((MK cy aM rR rB rO rK fMh fMo fMz gMv fMk fMa fMt kY fNr_8 fM3 fMu fMy fMb eR tM iEn iTk uP uU kAt iTo iFr JFi iFa iSt iLv iWs wL uS0 uS1 uS2 uS3 uS4 iOm) ++ (((oM cy uU) ++ ((oL cy wL) ++ ((oM cy uP) ++ (oM cy uS0 ++ (oM cy uS1 ++ (oM cy uS2 ++ (oM cy uS3 ++ oM cy uS4))))))) ++ (XW cy aX iKp iYe iTv fX_4 tA tB iL iBs tU tV fH fS fA gE kZ iT1 iT2 iT3 iT4 fB tD))) := hD.part [21, 0, 1, 2, 3, 4, 5, 6, 22, 7, 8, 9, 10, 11, 12, 13, 14, 15, 16, 17, 18, 19, 20, 23, 24, 25, 26, 27, 28, 29, 30, 31, 32, 33, 34, 35, 36, 37, 38, 39, 40, 41, 42, 43, 44, 45, 46, 47, 48, 49] (by decide +kernel) rfl
  replace hP : va_P G CL ((XW cy aX iKp iYe iTv fX_4 tA tB iL iBs tU tV fH fS fA gE kZ iT1 iT2 iT3 iT4 fB tD) ++ ((MK cy aM rR rB rO rK fMh fMo fMz gMv fMk fMa fMt kY fNr_8 fM3 fMu fMy fMb eR tM iEn iTk uP uU kAt iTo iFr JFi iFa iSt iLv iWs wL uS0 uS1 uS2 uS3 uS4 iOm) ++ ((oM cy uU) ++ ((oL cy wL) ++ ((oM cy uP) ++ (oM cy uS0 ++ (oM cy uS1 ++ (oM cy uS2 ++ (oM cy uS3 ++ oM cy uS4))))))))) H := ofNP hP
  replace hD : va_D A ((XW cy aX iKp iYe iTv fX_4 tA tB iL iBs tU tV fH fS fA gE kZ iT1 iT2 iT3 iT4 fB tD) ++ ((MK cy aM rR rB rO rK fMh fMo fMz gMv fMk fMa fMt kY fNr_8 fM3 fMu fMy fMb eR tM iEn iTk uP uU kAt iTo iFr JFi iFa iSt iLv iWs wL uS0 uS1 uS2 uS3 uS4 iOm) ++ ((oM cy uU) ++ ((oL cy wL) ++ ((oM cy uP) ++ (oM cy uS0 ++ (oM cy uS1 ++ (oM cy uS2 ++ (oM cy uS3 ++ oM cy uS4))))))))) := ofND hD
  refine lv_pop hx hb dL_law_1435 rfl ?_
  refine lv_goto (tgt := 1807) hx hb dL_law_1436 (by decide) ?_
  refine W.widen (k := nC + 250) (n := nS + 4440) (by omega) (by omega) ?_
  exact kk _ _ ⟨iKp, iYe, iTv, fX_4, tA, tB, iL, iBs, tU, tV, fH, fS, fA, gE, kZ, iT1, iT2, iT3, iT4, fB, tD, fMh, fMo, fMz, gMv, fMk, fMa, fMt, kY, fNr_8, fM3, fMu, fMy, fMb, eR, tM, iEn, iTk, uP, uU, kAt, iTo, iFr, JFi, iFa, iSt, iLv, iWs, wL, uS0, uS1, uS2, uS3, uS4, iOm, hP, hD, hsX, hsM, trivial⟩ hS
set_option maxHeartbeats 4000000 in
set_option maxRecDepth 100000 in
theorem law_35 {p : Program} {l : Launch} {e : Env} {s : State} {m : MethodId} {below : List Frame} {meth : Method} {c : Code} {b L : Nat} {xs : Nat → Int32} {A : Nat → Prop} {G : va_G} {cy : Nat → ClassId} {aX aM rR rB rO rK : Nat → Nat} (hx : p.tables.exec = Jvm.exec) (hb : c.code = code) (hr : meth.sig.returnType = ret) (hml : c.maxLocals = 4) (hown : s.vm.findClass RL = some m.cls) (hts : ∀ w ∈ BIG, w.before #[Value.ref b] s = true) (hX : va_X b L xs s s.heap) (hbl : b < s.heap.size) (hlocks : meth.locks = false) (hN : KN G cy s) (hA : ∀ q : Nat, s.heap.size ≤ q → A q) (hAn : ∀ q : Nat, A q → s.heap.size ≤ q) (hbA : ¬ A b) (hSO : SO A s s.heap) {H : Heap} {locs : List Loc} {ls : Array Slot} {kI nC nS : Nat} (hkI : kI + 6 ≤ L) (hL : L ≤ 384) (hnC : nC + 250 ≤ 600000) (hnS : nS + 4440 ≤ 7302250) (hI : LINV G cy A H aX aM rR rB rO rK) (hS : va_S A s.heap H locs) (hl : lv_has ls 4 [(3, .int (nI kI)), (2, .ref (aM 0)), (1, .ref (aX 0)), (0, .ref b)]) (kk : ∀ (H : Heap) (locs : List Loc), LINV G cy A H aX aM rR rB rO rK → va_S A s.heap H locs → W p l e room_1 s m #[Value.ref b] below meth c H locs (nC + 250) (nS + 4440) (lw_Z below #[Value.ref b] s) (F0 m 1807 ls [])) : W p l e room_1 s m #[Value.ref b] below meth c H locs nC nS (lw_Z below #[Value.ref b] s) (F0 m 1439 ls []) := by
  obtain ⟨iKp, iYe, iTv, fR, tA, tB, iL, iBs, tU, tV, fH, fS, fA, gE, kZ, iT1, iT2, iT3, iT4, fB, tD, fMh, fMo, fMz, gMv, fMk, fMa, fMt, kY, fMr, fM3, fMu, fMy, fMb, eR, tM, iEn, iTk, uP, uU, kAt, iTo, iFr, JFi, iFa, iSt, iLv, iWs, wL, uS0, uS1, uS2, uS3, uS4, iOm, hP, hD, hsX, hsM, hLR⟩ := hI
  refine lv_aload_n hx hb dL_law_1439 rfl (lv_at hl 2 rfl) ?_
  refine lv_aload_n hx hb dL_law_1440 rfl (lv_at hl 3 rfl) ?_
  refine lv_iload_n hx hb dL_law_1441 rfl (lv_at hl 0 rfl) ?_
  refine lv_iconst (v := 1) hx hb dL_law_1442 (by decide) ?_
  refine lv_iadd hx hb dL_law_1443 ?_
  refine lv_seti (v := nI (kI + 1)) (nI_add _ _) ?_
  refine va_sld hx hb hX hbl hbA hS (vp_in_nI (by omega) (by omega)) dL_law_1444 ?_
  refine lv_seti (v := xs (kI + 1)) (congrArg xs (nI_clamp (by omega))) ?_
  refine cViQ (As := [.int (xs (kI + 1))]) (rest := []) (b := (aX 0)) (q := (RX5, TX5, 9)) ⟨hx, hb, hml, hown, hts⟩ (p_X5_youngest l G cy (H).size (aX 0) (aX 2) (aX 11) (aX 20) (aX 39) (aX 44) (aX 1) iKp iYe iTv fR tA (aX 3) (aX 4) (aX 5) (aX 6) (aX 7) (aX 8) (aX 9) (aX 10) (xs (kI + 1)) hsX.1.1 hsX.1.2) L_L_163 hN hP hD hS hA [0, 1, 2, 3, 4, 5, 6, 7, 8, 9, 10] [false, false, false, false, false, false, false, false, false, false, false, true, true, true, true, true, true, true, true, true, true, true, true, true, true, true, true, true, true, true, true, true, true, true, true, true, true, true, true, true, true, true, true, true, true, true, true, true, true, true, true, true, true, true, true] rfl (by decide +kernel) rfl 0 4 rfl rfl rfl ⟨Nat.le_of_ble_eq_true rfl, Nat.le_of_ble_eq_true rfl⟩ hl.1 (Nat.le_of_ble_eq_true rfl) dL_law_1445 ⟨by show nC + 0 ≤ 600000; omega, by show nS + 0 ≤ 7302250; omega⟩ (fun r_1 u_3 H locs h_2 => ?_)
  clear hP hD hS
  intro hP hD hS
  obtain ⟨fX_4, rfl, h_2⟩ := h_2
  replace hP : va_P G CL ((XW cy aX iKp iYe iTv fX_4 tA tB iL iBs tU tV fH fS fA gE kZ iT1 iT2 iT3 iT4 fB tD) ++ ((MK cy aM rR rB rO rK fMh fMo fMz gMv fMk fMa fMt kY fMr fM3 fMu fMy fMb eR tM iEn iTk uP uU kAt iTo iFr JFi iFa iSt iLv iWs wL uS0 uS1 uS2 uS3 uS4 iOm) ++ ((oM cy uU) ++ ((oL cy wL) ++ ((oM cy uP) ++ (oM cy uS0 ++ (oM cy uS1 ++ (oM cy uS2 ++ (oM cy uS3 ++ oM cy uS4))))))))) H := hP.part [44, 45, 46, 47, 48, 49, 50, 51, 52, 53, 54, 0, 1, 2, 3, 4, 5, 6, 7, 8, 9, 10, 11, 12, 13, 14, 15, 16, 17, 18, 19, 20, 21, 22, 23, 24, 25, 26, 27, 28, 29, 30, 31, 32, 33, 34, 35, 36, 37, 38, 39, 40, 41, 42, 43] rfl
  replace hD : va_D A ((XW cy aX iKp iYe iTv fX_4 tA tB iL iBs tU tV fH fS fA gE kZ iT1 iT2 iT3 iT4 fB tD) ++ ((MK cy aM rR rB rO rK fMh fMo fMz gMv fMk fMa fMt kY fMr fM3 fMu fMy fMb eR tM iEn iTk uP uU kAt iTo iFr JFi iFa iSt iLv iWs wL uS0 uS1 uS2 uS3 uS4 iOm) ++ ((oM cy uU) ++ ((oL cy wL) ++ ((oM cy uP) ++ (oM cy uS0 ++ (oM cy uS1 ++ (oM cy uS2 ++ (oM cy uS3 ++ oM cy uS4))))))))) := hD.part [44, 45, 46, 47, 48, 49, 50, 51, 52, 53, 54, 0, 1, 2, 3, 4, 5, 6, 7, 8, 9, 10, 11, 12, 13, 14, 15, 16, 17, 18, 19, 20, 21, 22, 23, 24, 25, 26, 27, 28, 29, 30, 31, 32, 33, 34, 35, 36, 37, 38, 39, 40, 41, 42, 43] (by decide +kernel) rfl
  refine lv_pop hx hb dL_law_1448 rfl ?_
  refine lv_aload_n hx hb dL_law_1449 rfl (lv_at hl 1 rfl) ?_
  refine lv_aload_n hx hb dL_law_1450 rfl (lv_at hl 3 rfl) ?_
  refine lv_iload_n hx hb dL_law_1451 rfl (lv_at hl 0 rfl) ?_
  refine lv_iconst (v := 1) hx hb dL_law_1452 (by decide) ?_
  refine lv_iadd hx hb dL_law_1453 ?_
  refine lv_seti (v := nI (kI + 1)) (nI_add _ _) ?_
  refine va_sld hx hb hX hbl hbA hS (vp_in_nI (by omega) (by omega)) dL_law_1454 ?_
  refine lv_seti (v := xs (kI + 1)) (congrArg xs (nI_clamp (by omega))) ?_
  replace hP : va_P G CL ((MK cy aM rR rB rO rK fMh fMo fMz gMv fMk fMa fMt kY fMr fM3 fMu fMy fMb eR tM iEn iTk uP uU kAt iTo iFr JFi iFa iSt iLv iWs wL uS0 uS1 uS2 uS3 uS4 iOm) ++ (((oM cy uU) ++ ((oL cy wL) ++ ((oM cy uP) ++ (oM cy uS0 ++ (oM cy uS1 ++ (oM cy uS2 ++ (oM cy uS3 ++ oM cy uS4))))))) ++ (XW cy aX iKp iYe iTv fX_4 tA tB iL iBs tU tV fH fS fA gE kZ iT1 iT2 iT3 iT4 fB tD))) H := toNP hP
  replace hD : va_D A ((MK cy aM rR rB rO rK fMh fMo fMz gMv fMk fMa fMt kY fMr fM3 fMu fMy fMb eR tM iEn iTk uP uU kAt iTo iFr JFi iFa iSt iLv iWs wL uS0 uS1 uS2 uS3 uS4 iOm) ++ (((oM cy uU) ++ ((oL cy wL) ++ ((oM cy uP) ++ (oM cy uS0 ++ (oM cy uS1 ++ (oM cy uS2 ++ (oM cy uS3 ++ oM cy uS4))))))) ++ (XW cy aX iKp iYe iTv fX_4 tA tB iL iBs tU tV fH fS fA gE kZ iT1 iT2 iT3 iT4 fB tD))) := toND hD
  refine cViQ (As := [.int (xs (kI + 1))]) (rest := []) (b := (aM 0)) (q := (RX6, TX6, 35)) ⟨hx, hb, hml, hown, hts⟩ (p_X6_youngest l G cy (H).size (aM 0) (aM 1) (aM 2) (aM 3) (aM 14) (aM 4) (aM 5) (aM 6) (aM 7) kY (aM 8) tM (aM 15) (aM 16) (aM 17) iEn iTk uP uU kAt iTo iFr JFi iFa (aM 9) iSt iLv iWs (ovL wL) (aM 10) (aM 11) (aM 12) (aM 13) iOm rB rO rK fMr (xs (kI + 1)) hsM.1.1.1 hsM.1.1.2 hsM.1) L_L_166 hN hP hD hS hA [0, 23, 24, 25, 26, 27, 28, 29, 30, 31, 32, 33, 34, 35, 36, 37, 38, 39, 40, 41, 42, 43, 44, 45, 46, 47, 48, 49, 8] [false, true, true, true, true, true, true, true, false, true, true, true, true, true, true, true, true, true, true, true, true, true, true, false, false, false, false, false, false, false, false, false, false, false, false, false, false, false, false, false, false, false, false, false, false, false, false, false, false, false] rfl (by decide +kernel) rfl 0 5 rfl rfl rfl ⟨Nat.le_of_ble_eq_true rfl, Nat.le_of_ble_eq_true rfl⟩ hl.1 (Nat.le_of_ble_eq_true rfl) dL_law_1455 ⟨by show nC + 0 + 0 ≤ 600000; omega, by show nS + 0 + 0 ≤ 7302250; omega⟩ (fun r_5 u_7 H locs h_6 => ?_)
  clear hP hD hS
  intro hP hD hS
  obtain ⟨fNr_8, rfl, h_6⟩ := h_6
  replace hP : va_P G CL ((MK cy aM rR rB rO rK fMh fMo fMz gMv fMk fMa fMt kY fNr_8 fM3 fMu fMy fMb eR tM iEn iTk uP uU kAt iTo iFr JFi iFa iSt iLv iWs wL uS0 uS1 uS2 uS3 uS4 iOm) ++ (((oM cy uU) ++ ((oL cy wL) ++ ((oM cy uP) ++ (oM cy uS0 ++ (oM cy uS1 ++ (oM cy uS2 ++ (oM cy uS3 ++ oM cy uS4))))))) ++ (XW cy aX iKp iYe iTv fX_4 tA tB iL iBs tU tV fH fS fA gE kZ iT1 iT2 iT3 iT4 fB tD))) H := hP.part [21, 0, 1, 2, 3, 4, 5, 6, 49, 7, 8, 9, 10, 11, 12, 13, 14, 15, 16, 17, 18, 19, 20, 22, 23, 24, 25, 26, 27, 28, 29, 30, 31, 32, 33, 34, 35, 36, 37, 38, 39, 40, 41, 42, 43, 44, 45, 46, 47, 48] rfl
  replace hD : va_D A ((MK cy aM rR rB rO rK fMh fMo fMz gMv fMk fMa fMt kY fNr_8 fM3 fMu fMy fMb eR tM iEn iTk uP uU kAt iTo iFr JFi iFa iSt iLv iWs wL uS0 uS1 uS2 uS3 uS4 iOm) ++ (((oM cy uU) ++ ((oL cy wL) ++ ((oM cy uP) ++ (oM cy uS0 ++ (oM cy uS1 ++ (oM cy uS2 ++ (oM cy uS3 ++ oM cy uS4))))))) ++ (XW cy aX iKp iYe iTv fX_4 tA tB iL iBs tU tV fH fS fA gE kZ iT1 iT2 iT3 iT4 fB tD))) := hD.part [21, 0, 1, 2, 3, 4, 5, 6, 49, 7, 8, 9, 10, 11, 12, 13, 14, 15, 16, 17, 18, 19, 20, 22, 23, 24, 25, 26, 27, 28, 29, 30, 31, 32, 33, 34, 35, 36, 37, 38, 39, 40, 41, 42, 43, 44, 45, 46, 47, 48] (by decide +kernel) rfl
  replace hP : va_P G CL ((XW cy aX iKp iYe iTv fX_4 tA tB iL iBs tU tV fH fS fA gE kZ iT1 iT2 iT3 iT4 fB tD) ++ ((MK cy aM rR rB rO rK fMh fMo fMz gMv fMk fMa fMt kY fNr_8 fM3 fMu fMy fMb eR tM iEn iTk uP uU kAt iTo iFr JFi iFa iSt iLv iWs wL uS0 uS1 uS2 uS3 uS4 iOm) ++ ((oM cy uU) ++ ((oL cy wL) ++ ((oM cy uP) ++ (oM cy uS0 ++ (oM cy uS1 ++ (oM cy uS2 ++ (oM cy uS3 ++ oM cy uS4))))))))) H := ofNP hP
  replace hD : va_D A ((XW cy aX iKp iYe iTv fX_4 tA tB iL iBs tU tV fH fS fA gE kZ iT1 iT2 iT3 iT4 fB tD) ++ ((MK cy aM rR rB rO rK fMh fMo fMz gMv fMk fMa fMt kY fNr_8 fM3 fMu fMy fMb eR tM iEn iTk uP uU kAt iTo iFr JFi iFa iSt iLv iWs wL uS0 uS1 uS2 uS3 uS4 iOm) ++ ((oM cy uU) ++ ((oL cy wL) ++ ((oM cy uP) ++ (oM cy uS0 ++ (oM cy uS1 ++ (oM cy uS2 ++ (oM cy uS3 ++ oM cy uS4))))))))) := ofND hD
  refine lv_pop hx hb dL_law_1458 rfl ?_
  refine lv_goto (tgt := 1807) hx hb dL_law_1459 (by decide) ?_
  refine W.widen (k := nC + 250) (n := nS + 4440) (by omega) (by omega) ?_
  exact kk _ _ ⟨iKp, iYe, iTv, fX_4, tA, tB, iL, iBs, tU, tV, fH, fS, fA, gE, kZ, iT1, iT2, iT3, iT4, fB, tD, fMh, fMo, fMz, gMv, fMk, fMa, fMt, kY, fNr_8, fM3, fMu, fMy, fMb, eR, tM, iEn, iTk, uP, uU, kAt, iTo, iFr, JFi, iFa, iSt, iLv, iWs, wL, uS0, uS1, uS2, uS3, uS4, iOm, hP, hD, hsX, hsM, trivial⟩ hS
set_option maxHeartbeats 4000000 in
set_option maxRecDepth 100000 in
theorem law_36 {p : Program} {l : Launch} {e : Env} {s : State} {m : MethodId} {below : List Frame} {meth : Method} {c : Code} {b L : Nat} {xs : Nat → Int32} {A : Nat → Prop} {G : va_G} {cy : Nat → ClassId} {aX aM rR rB rO rK : Nat → Nat} (hx : p.tables.exec = Jvm.exec) (hb : c.code = code) (hr : meth.sig.returnType = ret) (hml : c.maxLocals = 4) (hown : s.vm.findClass RL = some m.cls) (hts : ∀ w ∈ BIG, w.before #[Value.ref b] s = true) (hX : va_X b L xs s s.heap) (hbl : b < s.heap.size) (hlocks : meth.locks = false) (hN : KN G cy s) (hA : ∀ q : Nat, s.heap.size ≤ q → A q) (hAn : ∀ q : Nat, A q → s.heap.size ≤ q) (hbA : ¬ A b) (hSO : SO A s s.heap) {H : Heap} {locs : List Loc} {ls : Array Slot} {kI nC nS : Nat} (hkI : kI + 6 ≤ L) (hL : L ≤ 384) (hnC : nC + 250 ≤ 600000) (hnS : nS + 4440 ≤ 7302250) (hI : LINV G cy A H aX aM rR rB rO rK) (hS : va_S A s.heap H locs) (hl : lv_has ls 4 [(3, .int (nI kI)), (2, .ref (aM 0)), (1, .ref (aX 0)), (0, .ref b)]) (kk : ∀ (H : Heap) (locs : List Loc), LINV G cy A H aX aM rR rB rO rK → va_S A s.heap H locs → W p l e room_1 s m #[Value.ref b] below meth c H locs (nC + 250) (nS + 4440) (lw_Z below #[Value.ref b] s) (F0 m 1807 ls [])) : W p l e room_1 s m #[Value.ref b] below meth c H locs nC nS (lw_Z below #[Value.ref b] s) (F0 m 1462 ls []) := by
  obtain ⟨iKp, iYe, iTv, fR, tA, tB, iL, iBs, tU, tV, fH, fS, fA, gE, kZ, iT1, iT2, iT3, iT4, fB, tD, fMh, fMo, fMz, gMv, fMk, fMa, fMt, kY, fMr, fM3, fMu, fMy, fMb, eR, tM, iEn, iTk, uP, uU, kAt, iTo, iFr, JFi, iFa, iSt, iLv, iWs, wL, uS0, uS1, uS2, uS3, uS4, iOm, hP, hD, hsX, hsM, hLR⟩ := hI
  refine lv_aload_n hx hb dL_law_1462 rfl (lv_at hl 2 rfl) ?_
  refine lv_aload_n hx hb dL_law_1463 rfl (lv_at hl 3 rfl) ?_
  refine lv_iload_n hx hb dL_law_1464 rfl (lv_at hl 0 rfl) ?_
  refine lv_iconst (v := 1) hx hb dL_law_1465 (by decide) ?_
  refine lv_iadd hx hb dL_law_1466 ?_
  refine lv_seti (v := nI (kI + 1)) (nI_add _ _) ?_
  refine va_sld hx hb hX hbl hbA hS (vp_in_nI (by omega) (by omega)) dL_law_1467 ?_
  refine lv_seti (v := xs (kI + 1)) (congrArg xs (nI_clamp (by omega))) ?_
  refine lv_aload_n hx hb dL_law_1468 rfl (lv_at hl 3 rfl) ?_
  refine lv_iload_n hx hb dL_law_1469 rfl (lv_at hl 0 rfl) ?_
  refine lv_iconst (v := 2) hx hb dL_law_1470 (by decide) ?_
  refine lv_iadd hx hb dL_law_1471 ?_
  refine lv_seti (v := nI (kI + 2)) (nI_add _ _) ?_
  refine va_sld hx hb hX hbl hbA hS (vp_in_nI (by omega) (by omega)) dL_law_1472 ?_
  refine lv_seti (v := xs (kI + 2)) (congrArg xs (nI_clamp (by omega))) ?_
  refine cViQ (As := [.int (xs (kI + 1)), .int (xs (kI + 2))]) (rest := []) (b := (aX 0)) (q := (RX5, TX5, 9)) ⟨hx, hb, hml, hown, hts⟩ (p_X5_teach l G cy (H).size (aX 0) (aX 2) (aX 11) (aX 20) (aX 39) (aX 44) (aX 1) iKp iYe iTv fR tA (aX 3) (aX 4) (aX 5) (aX 6) (aX 7) (aX 8) (aX 9) (aX 10) (xs (kI + 1)) (xs (kI + 2)) hsX.1.1 hsX.1.2) L_L_167 hN hP hD hS hA [0, 1, 2, 3, 4, 5, 6, 7, 8, 9, 10] [false, false, false, false, false, false, false, false, false, false, false, true, true, true, true, true, true, true, true, true, true, true, true, true, true, true, true, true, true, true, true, true, true, true, true, true, true, true, true, true, true, true, true, true, true, true, true, true, true, true, true, true, true, true, true] rfl (by decide +kernel) rfl 0 4 rfl rfl rfl ⟨Nat.le_of_ble_eq_true rfl, Nat.le_of_ble_eq_true rfl⟩ hl.1 (Nat.le_of_ble_eq_true rfl) dL_law_1473 ⟨by show nC + 0 ≤ 600000; omega, by show nS + 0 ≤ 7302250; omega⟩ (fun r_1 u_3 H locs h_2 => ?_)
  clear hP hD hS
  intro hP hD hS
  obtain ⟨fX_4, rfl, h_2⟩ := h_2
  replace hP : va_P G CL ((XW cy aX iKp iYe iTv fX_4 tA tB iL iBs tU tV fH fS fA gE kZ iT1 iT2 iT3 iT4 fB tD) ++ ((MK cy aM rR rB rO rK fMh fMo fMz gMv fMk fMa fMt kY fMr fM3 fMu fMy fMb eR tM iEn iTk uP uU kAt iTo iFr JFi iFa iSt iLv iWs wL uS0 uS1 uS2 uS3 uS4 iOm) ++ ((oM cy uU) ++ ((oL cy wL) ++ ((oM cy uP) ++ (oM cy uS0 ++ (oM cy uS1 ++ (oM cy uS2 ++ (oM cy uS3 ++ oM cy uS4))))))))) H := hP.part [44, 45, 46, 47, 48, 49, 50, 51, 52, 53, 54, 0, 1, 2, 3, 4, 5, 6, 7, 8, 9, 10, 11, 12, 13, 14, 15, 16, 17, 18, 19, 20, 21, 22, 23, 24, 25, 26, 27, 28, 29, 30, 31, 32, 33, 34, 35, 36, 37, 38, 39, 40, 41, 42, 43] rfl
  replace hD : va_D A ((XW cy aX iKp iYe iTv fX_4 tA tB iL iBs tU tV fH fS fA gE kZ iT1 iT2 iT3 iT4 fB tD) ++ ((MK cy aM rR rB rO rK fMh fMo fMz gMv fMk fMa fMt kY fMr fM3 fMu fMy fMb eR tM iEn iTk uP uU kAt iTo iFr JFi iFa iSt iLv iWs wL uS0 uS1 uS2 uS3 uS4 iOm) ++ ((oM cy uU) ++ ((oL cy wL) ++ ((oM cy uP) ++ (oM cy uS0 ++ (oM cy uS1 ++ (oM cy uS2 ++ (oM cy uS3 ++ oM cy uS4))))))))) := hD.part [44, 45, 46, 47, 48, 49, 50, 51, 52, 53, 54, 0, 1, 2, 3, 4, 5, 6, 7, 8, 9, 10, 11, 12, 13, 14, 15, 16, 17, 18, 19, 20, 21, 22, 23, 24, 25, 26, 27, 28, 29, 30, 31, 32, 33, 34, 35, 36, 37, 38, 39, 40, 41, 42, 43] (by decide +kernel) rfl
  refine lv_pop hx hb dL_law_1476 rfl ?_
  refine lv_aload_n hx hb dL_law_1477 rfl (lv_at hl 1 rfl) ?_
  refine lv_aload_n hx hb dL_law_1478 rfl (lv_at hl 3 rfl) ?_
  refine lv_iload_n hx hb dL_law_1479 rfl (lv_at hl 0 rfl) ?_
  refine lv_iconst (v := 1) hx hb dL_law_1480 (by decide) ?_
  refine lv_iadd hx hb dL_law_1481 ?_
  refine lv_seti (v := nI (kI + 1)) (nI_add _ _) ?_
  refine va_sld hx hb hX hbl hbA hS (vp_in_nI (by omega) (by omega)) dL_law_1482 ?_
  refine lv_seti (v := xs (kI + 1)) (congrArg xs (nI_clamp (by omega))) ?_
  refine lv_aload_n hx hb dL_law_1483 rfl (lv_at hl 3 rfl) ?_
  refine lv_iload_n hx hb dL_law_1484 rfl (lv_at hl 0 rfl) ?_
  refine lv_iconst (v := 2) hx hb dL_law_1485 (by decide) ?_
  refine lv_iadd hx hb dL_law_1486 ?_
  refine lv_seti (v := nI (kI + 2)) (nI_add _ _) ?_
  refine va_sld hx hb hX hbl hbA hS (vp_in_nI (by omega) (by omega)) dL_law_1487 ?_
  refine lv_seti (v := xs (kI + 2)) (congrArg xs (nI_clamp (by omega))) ?_
  replace hP : va_P G CL ((MK cy aM rR rB rO rK fMh fMo fMz gMv fMk fMa fMt kY fMr fM3 fMu fMy fMb eR tM iEn iTk uP uU kAt iTo iFr JFi iFa iSt iLv iWs wL uS0 uS1 uS2 uS3 uS4 iOm) ++ (((oM cy uU) ++ ((oL cy wL) ++ ((oM cy uP) ++ (oM cy uS0 ++ (oM cy uS1 ++ (oM cy uS2 ++ (oM cy uS3 ++ oM cy uS4))))))) ++ (XW cy aX iKp iYe iTv fX_4 tA tB iL iBs tU tV fH fS fA gE kZ iT1 iT2 iT3 iT4 fB tD))) H := toNP hP
  replace hD : va_D A ((MK cy aM rR rB rO rK fMh fMo fMz gMv fMk fMa fMt kY fMr fM3 fMu fMy fMb eR tM iEn iTk uP uU kAt iTo iFr JFi iFa iSt iLv iWs wL uS0 uS1 uS2 uS3 uS4 iOm) ++ (((oM cy uU) ++ ((oL cy wL) ++ ((oM cy uP) ++ (oM cy uS0 ++ (oM cy uS1 ++ (oM cy uS2 ++ (oM cy uS3 ++ oM cy uS4))))))) ++ (XW cy aX iKp iYe iTv fX_4 tA tB iL iBs tU tV fH fS fA gE kZ iT1 iT2 iT3 iT4 fB tD))) := toND hD
  refine cViQ (As := [.int (xs (kI + 1)), .int (xs (kI + 2))]) (rest := []) (b := (aM 0)) (q := (RX6, TX6, 35)) ⟨hx, hb, hml, hown, hts⟩ (p_X6_teach l G cy (H).size (aM 0) (aM 1) (aM 2) (aM 3) (aM 14) (aM 4) (aM 5) (aM 6) (aM 7) kY (aM 8) tM (aM 15) (aM 16) (aM 17) iEn iTk uP uU kAt iTo iFr JFi iFa (aM 9) iSt iLv iWs (ovL wL) (aM 10) (aM 11) (aM 12) (aM 13) iOm rB rO rK fMr (xs (kI + 1)) (xs (kI + 2)) hsM.1.1.1 hsM.1.1.2 hsM.1) L_L_170 hN hP hD hS hA [0, 23, 24, 25, 26, 27, 28, 29, 30, 31, 32, 33, 34, 35, 36, 37, 38, 39, 40, 41, 42, 43, 44, 45, 46, 47, 48, 49, 8] [false, true, true, true, true, true, true, true, false, true, true, true, true, true, true, true, true, true, true, true, true, true, true, false, false, false, false, false, false, false, false, false, false, false, false, false, false, false, false, false, false, false, false, false, false, false, false, false, false, false] rfl (by decide +kernel) rfl 0 5 rfl rfl rfl ⟨Nat.le_of_ble_eq_true rfl, Nat.le_of_ble_eq_true rfl⟩ hl.1 (Nat.le_of_ble_eq_true rfl) dL_law_1488 ⟨by show nC + 0 + 0 ≤ 600000; omega, by show nS + 0 + 0 ≤ 7302250; omega⟩ (fun r_5 u_7 H locs h_6 => ?_)
  clear hP hD hS
  intro hP hD hS
  obtain ⟨fNr_8, rfl, h_6⟩ := h_6
  replace hP : va_P G CL ((MK cy aM rR rB rO rK fMh fMo fMz gMv fMk fMa fMt kY fNr_8 fM3 fMu fMy fMb eR tM iEn iTk uP uU kAt iTo iFr JFi iFa iSt iLv iWs wL uS0 uS1 uS2 uS3 uS4 iOm) ++ (((oM cy uU) ++ ((oL cy wL) ++ ((oM cy uP) ++ (oM cy uS0 ++ (oM cy uS1 ++ (oM cy uS2 ++ (oM cy uS3 ++ oM cy uS4))))))) ++ (XW cy aX iKp iYe iTv fX_4 tA tB iL iBs tU tV fH fS fA gE kZ iT1 iT2 iT3 iT4 fB tD))) H := hP.part [21, 0, 1, 2, 3, 4, 5, 6, 49, 7, 8, 9, 10, 11, 12, 13, 14, 15, 16, 17, 18, 19, 20, 22, 23, 24, 25, 26, 27, 28, 29, 30, 31, 32, 33, 34, 35, 36, 37, 38, 39, 40, 41, 42, 43, 44, 45, 46, 47, 48] rfl
  replace hD : va_D A ((MK cy aM rR rB rO rK fMh fMo fMz gMv fMk fMa fMt kY fNr_8 fM3 fMu fMy fMb eR tM iEn iTk uP uU kAt iTo iFr JFi iFa iSt iLv iWs wL uS0 uS1 uS2 uS3 uS4 iOm) ++ (((oM cy uU) ++ ((oL cy wL) ++ ((oM cy uP) ++ (oM cy uS0 ++ (oM cy uS1 ++ (oM cy uS2 ++ (oM cy uS3 ++ oM cy uS4))))))) ++ (XW cy aX iKp iYe iTv fX_4 tA tB iL iBs tU tV fH fS fA gE kZ iT1 iT2 iT3 iT4 fB tD))) := hD.part [21, 0, 1, 2, 3, 4, 5, 6, 49, 7, 8, 9, 10, 11, 12, 13, 14, 15, 16, 17, 18, 19, 20, 22, 23, 24, 25, 26, 27, 28, 29, 30, 31, 32, 33, 34, 35, 36, 37, 38, 39, 40, 41, 42, 43, 44, 45, 46, 47, 48] (by decide +kernel) rfl
  replace hP : va_P G CL ((XW cy aX iKp iYe iTv fX_4 tA tB iL iBs tU tV fH fS fA gE kZ iT1 iT2 iT3 iT4 fB tD) ++ ((MK cy aM rR rB rO rK fMh fMo fMz gMv fMk fMa fMt kY fNr_8 fM3 fMu fMy fMb eR tM iEn iTk uP uU kAt iTo iFr JFi iFa iSt iLv iWs wL uS0 uS1 uS2 uS3 uS4 iOm) ++ ((oM cy uU) ++ ((oL cy wL) ++ ((oM cy uP) ++ (oM cy uS0 ++ (oM cy uS1 ++ (oM cy uS2 ++ (oM cy uS3 ++ oM cy uS4))))))))) H := ofNP hP
  replace hD : va_D A ((XW cy aX iKp iYe iTv fX_4 tA tB iL iBs tU tV fH fS fA gE kZ iT1 iT2 iT3 iT4 fB tD) ++ ((MK cy aM rR rB rO rK fMh fMo fMz gMv fMk fMa fMt kY fNr_8 fM3 fMu fMy fMb eR tM iEn iTk uP uU kAt iTo iFr JFi iFa iSt iLv iWs wL uS0 uS1 uS2 uS3 uS4 iOm) ++ ((oM cy uU) ++ ((oL cy wL) ++ ((oM cy uP) ++ (oM cy uS0 ++ (oM cy uS1 ++ (oM cy uS2 ++ (oM cy uS3 ++ oM cy uS4))))))))) := ofND hD
  refine lv_pop hx hb dL_law_1491 rfl ?_
  refine lv_goto (tgt := 1807) hx hb dL_law_1492 (by decide) ?_
  refine W.widen (k := nC + 250) (n := nS + 4440) (by omega) (by omega) ?_
  exact kk _ _ ⟨iKp, iYe, iTv, fX_4, tA, tB, iL, iBs, tU, tV, fH, fS, fA, gE, kZ, iT1, iT2, iT3, iT4, fB, tD, fMh, fMo, fMz, gMv, fMk, fMa, fMt, kY, fNr_8, fM3, fMu, fMy, fMb, eR, tM, iEn, iTk, uP, uU, kAt, iTo, iFr, JFi, iFa, iSt, iLv, iWs, wL, uS0, uS1, uS2, uS3, uS4, iOm, hP, hD, hsX, hsM, trivial⟩ hS
set_option maxHeartbeats 4000000 in
set_option maxRecDepth 100000 in
theorem law_37 {p : Program} {l : Launch} {e : Env} {s : State} {m : MethodId} {below : List Frame} {meth : Method} {c : Code} {b L : Nat} {xs : Nat → Int32} {A : Nat → Prop} {G : va_G} {cy : Nat → ClassId} {aX aM rR rB rO rK : Nat → Nat} (hx : p.tables.exec = Jvm.exec) (hb : c.code = code) (hr : meth.sig.returnType = ret) (hml : c.maxLocals = 4) (hown : s.vm.findClass RL = some m.cls) (hts : ∀ w ∈ BIG, w.before #[Value.ref b] s = true) (hX : va_X b L xs s s.heap) (hbl : b < s.heap.size) (hlocks : meth.locks = false) (hN : KN G cy s) (hA : ∀ q : Nat, s.heap.size ≤ q → A q) (hAn : ∀ q : Nat, A q → s.heap.size ≤ q) (hbA : ¬ A b) (hSO : SO A s s.heap) {H : Heap} {locs : List Loc} {ls : Array Slot} {kI nC nS : Nat} (hkI : kI + 6 ≤ L) (hL : L ≤ 384) (hnC : nC + 250 ≤ 600000) (hnS : nS + 4440 ≤ 7302250) (hI : LINV G cy A H aX aM rR rB rO rK) (hS : va_S A s.heap H locs) (hl : lv_has ls 4 [(3, .int (nI kI)), (2, .ref (aM 0)), (1, .ref (aX 0)), (0, .ref b)]) (kk : ∀ (H : Heap) (locs : List Loc), LINV G cy A H aX aM rR rB rO rK → va_S A s.heap H locs → W p l e room_1 s m #[Value.ref b] below meth c H locs (nC + 250) (nS + 4440) (lw_Z below #[Value.ref b] s) (F0 m 1807 ls [])) : W p l e room_1 s m #[Value.ref b] below meth c H locs nC nS (lw_Z below #[Value.ref b] s) (F0 m 1495 ls []) := by
  obtain ⟨iKp, iYe, iTv, fR, tA, tB, iL, iBs, tU, tV, fH, fS, fA, gE, kZ, iT1, iT2, iT3, iT4, fB, tD, fMh, fMo, fMz, gMv, fMk, fMa, fMt, kY, fMr, fM3, fMu, fMy, fMb, eR, tM, iEn, iTk, uP, uU, kAt, iTo, iFr, JFi, iFa, iSt, iLv, iWs, wL, uS0, uS1, uS2, uS3, uS4, iOm, hP, hD, hsX, hsM, hLR⟩ := hI
  refine lv_aload_n hx hb dL_law_1495 rfl (lv_at hl 2 rfl) ?_
  refine lv_aload_n hx hb dL_law_1496 rfl (lv_at hl 3 rfl) ?_
  refine lv_iload_n hx hb dL_law_1497 rfl (lv_at hl 0 rfl) ?_
  refine lv_iconst (v := 1) hx hb dL_law_1498 (by decide) ?_
  refine lv_iadd hx hb dL_law_1499 ?_
  refine lv_seti (v := nI (kI + 1)) (nI_add _ _) ?_
  refine va_sld hx hb hX hbl hbA hS (vp_in_nI (by omega) (by omega)) dL_law_1500 ?_
  refine lv_seti (v := xs (kI + 1)) (congrArg xs (nI_clamp (by omega))) ?_
  refine lv_aload_n hx hb dL_law_1501 rfl (lv_at hl 3 rfl) ?_
  refine lv_iload_n hx hb dL_law_1502 rfl (lv_at hl 0 rfl) ?_
  refine lv_iconst (v := 2) hx hb dL_law_1503 (by decide) ?_
  refine lv_iadd hx hb dL_law_1504 ?_
  refine lv_seti (v := nI (kI + 2)) (nI_add _ _) ?_
  refine va_sld hx hb hX hbl hbA hS (vp_in_nI (by omega) (by omega)) dL_law_1505 ?_
  refine lv_seti (v := xs (kI + 2)) (congrArg xs (nI_clamp (by omega))) ?_
  refine lv_if_eq (tgt := 1513) hx hb dL_law_1506 (by decide) (fun c_1 => ?_) (fun c_1 => ?_)
  · refine lv_iconst (v := 0) hx hb dL_law_1513 (by decide) ?_
    refine cViQ (As := [.int (xs (kI + 1)), .int 0]) (rest := []) (b := (aX 0)) (q := (RX5, TX5, 9)) ⟨hx, hb, hml, hown, hts⟩ (p_X5_needs l G cy (H).size (aX 0) (aX 2) (aX 11) (aX 20) (aX 39) (aX 44) (aX 1) iKp iYe iTv fR tA (aX 3) (aX 4) (aX 5) (aX 6) (aX 7) (aX 8) (aX 9) (aX 10) (xs (kI + 1)) 0 hsX.1.1 hsX.1.2) L_L_171 hN hP hD hS hA [0, 1, 2, 3, 4, 5, 6, 7, 8, 9, 10] [false, false, false, false, false, false, false, false, false, false, false, true, true, true, true, true, true, true, true, true, true, true, true, true, true, true, true, true, true, true, true, true, true, true, true, true, true, true, true, true, true, true, true, true, true, true, true, true, true, true, true, true, true, true, true] rfl (by decide +kernel) rfl 0 4 rfl rfl rfl ⟨Nat.le_of_ble_eq_true rfl, Nat.le_of_ble_eq_true rfl⟩ hl.1 (Nat.le_of_ble_eq_true rfl) dL_law_1514 ⟨by show nC + 0 ≤ 600000; omega, by show nS + 0 ≤ 7302250; omega⟩ (fun r_2 u_4 H locs h_3 => ?_)
    clear hP hD hS
    intro hP hD hS
    obtain ⟨fX_5, rfl, h_3⟩ := h_3
    replace hP : va_P G CL ((XW cy aX iKp iYe iTv fX_5 tA tB iL iBs tU tV fH fS fA gE kZ iT1 iT2 iT3 iT4 fB tD) ++ ((MK cy aM rR rB rO rK fMh fMo fMz gMv fMk fMa fMt kY fMr fM3 fMu fMy fMb eR tM iEn iTk uP uU kAt iTo iFr JFi iFa iSt iLv iWs wL uS0 uS1 uS2 uS3 uS4 iOm) ++ ((oM cy uU) ++ ((oL cy wL) ++ ((oM cy uP) ++ (oM cy uS0 ++ (oM cy uS1 ++ (oM cy uS2 ++ (oM cy uS3 ++ oM cy uS4))))))))) H := hP.part [44, 45, 46, 47, 48, 49, 50, 51, 52, 53, 54, 0, 1, 2, 3, 4, 5, 6, 7, 8, 9, 10, 11, 12, 13, 14, 15, 16, 17, 18, 19, 20, 21, 22, 23, 24, 25, 26, 27, 28, 29, 30, 31, 32, 33, 34, 35, 36, 37, 38, 39, 40, 41, 42, 43] rfl
    replace hD : va_D A ((XW cy aX iKp iYe iTv fX_5 tA tB iL iBs tU tV fH fS fA gE kZ iT1 iT2 iT3 iT4 fB tD) ++ ((MK cy aM rR rB rO rK fMh fMo fMz gMv fMk fMa fMt kY fMr fM3 fMu fMy fMb eR tM iEn iTk uP uU kAt iTo iFr JFi iFa iSt iLv iWs wL uS0 uS1 uS2 uS3 uS4 iOm) ++ ((oM cy uU) ++ ((oL cy wL) ++ ((oM cy uP) ++ (oM cy uS0 ++ (oM cy uS1 ++ (oM cy uS2 ++ (oM cy uS3 ++ oM cy uS4))))))))) := hD.part [44, 45, 46, 47, 48, 49, 50, 51, 52, 53, 54, 0, 1, 2, 3, 4, 5, 6, 7, 8, 9, 10, 11, 12, 13, 14, 15, 16, 17, 18, 19, 20, 21, 22, 23, 24, 25, 26, 27, 28, 29, 30, 31, 32, 33, 34, 35, 36, 37, 38, 39, 40, 41, 42, 43] (by decide +kernel) rfl
    refine lv_pop hx hb dL_law_1517 rfl ?_
    refine lv_aload_n hx hb dL_law_1518 rfl (lv_at hl 1 rfl) ?_
    refine lv_aload_n hx hb dL_law_1519 rfl (lv_at hl 3 rfl) ?_
    refine lv_iload_n hx hb dL_law_1520 rfl (lv_at hl 0 rfl) ?_
    refine lv_iconst (v := 1) hx hb dL_law_1521 (by decide) ?_
    refine lv_iadd hx hb dL_law_1522 ?_
    refine lv_seti (v := nI (kI + 1)) (nI_add _ _) ?_
    refine va_sld hx hb hX hbl hbA hS (vp_in_nI (by omega) (by omega)) dL_law_1523 ?_
    refine lv_seti (v := xs (kI + 1)) (congrArg xs (nI_clamp (by omega))) ?_
    refine lv_aload_n hx hb dL_law_1524 rfl (lv_at hl 3 rfl) ?_
    refine lv_iload_n hx hb dL_law_1525 rfl (lv_at hl 0 rfl) ?_
    refine lv_iconst (v := 2) hx hb dL_law_1526 (by decide) ?_
    refine lv_iadd hx hb dL_law_1527 ?_
    refine lv_seti (v := nI (kI + 2)) (nI_add _ _) ?_
    refine va_sld hx hb hX hbl hbA hS (vp_in_nI (by omega) (by omega)) dL_law_1528 ?_
    refine lv_seti (v := xs (kI + 2)) (congrArg xs (nI_clamp (by omega))) ?_
    refine lv_if_eq (tgt := 1536) hx hb dL_law_1529 (by decide) (fun c_6 => ?_) (fun c_6 => ?_)
    · refine lv_iconst (v := 0) hx hb dL_law_1536 (by decide) ?_
      replace hP : va_P G CL ((MK cy aM rR rB rO rK fMh fMo fMz gMv fMk fMa fMt kY fMr fM3 fMu fMy fMb eR tM iEn iTk uP uU kAt iTo iFr JFi iFa iSt iLv iWs wL uS0 uS1 uS2 uS3 uS4 iOm) ++ (((oM cy uU) ++ ((oL cy wL) ++ ((oM cy uP) ++ (oM cy uS0 ++ (oM cy uS1 ++ (oM cy uS2 ++ (oM cy uS3 ++ oM cy uS4))))))) ++ (XW cy aX iKp iYe iTv fX_5 tA tB iL iBs tU tV fH fS fA gE kZ iT1 iT2 iT3 iT4 fB tD))) H := toNP hP
      replace hD : va_D A ((MK cy aM rR rB rO rK fMh fMo fMz gMv fMk fMa fMt kY fMr fM3 fMu fMy fMb eR tM iEn iTk uP uU kAt iTo iFr JFi iFa iSt iLv iWs wL uS0 uS1 uS2 uS3 uS4 iOm) ++ (((oM cy uU) ++ ((oL cy wL) ++ ((oM cy uP) ++ (oM cy uS0 ++ (oM cy uS1 ++ (oM cy uS2 ++ (oM cy uS3 ++ oM cy uS4))))))) ++ (XW cy aX iKp iYe iTv fX_5 tA tB iL iBs tU tV fH fS fA gE kZ iT1 iT2 iT3 iT4 fB tD))) := toND hD
      refine cViQ (As := [.int (xs (kI + 1)), .int 0]) (rest := []) (b := (aM 0)) (q := (RX6, TX6, 35)) ⟨hx, hb, hml, hown, hts⟩ (p_X6_needs l G cy (H).size (aM 0) (aM 1) (aM 2) (aM 3) (aM 14) (aM 4) (aM 5) (aM 6) (aM 7) kY (aM 8) tM (aM 15) (aM 16) (aM 17) iEn iTk uP uU kAt iTo iFr JFi iFa (aM 9) iSt iLv iWs (ovL wL) (aM 10) (aM 11) (aM 12) (aM 13) iOm rB rO rK fMr (xs (kI + 1)) 0 hsM.1.1.1 hsM.1.1.2 hsM.1) L_L_175 hN hP hD hS hA [0, 23, 24, 25, 26, 27, 28, 29, 30, 31, 32, 33, 34, 35, 36, 37, 38, 39, 40, 41, 42, 43, 44, 45, 46, 47, 48, 49, 8] [false, true, true, true, true, true, true, true, false, true, true, true, true, true, true, true, true, true, true, true, true, true, true, false, false, false, false, false, false, false, false, false, false, false, false, false, false, false, false, false, false, false, false, false, false, false, false, false, false, false] rfl (by decide +kernel) rfl 0 5 rfl rfl rfl ⟨Nat.le_of_ble_eq_true rfl, Nat.le_of_ble_eq_true rfl⟩ hl.1 (Nat.le_of_ble_eq_true rfl) dL_law_1537 ⟨by show nC + 0 + 0 ≤ 600000; omega, by show nS + 0 + 0 ≤ 7302250; omega⟩ (fun r_7 u_9 H locs h_8 => ?_)
      clear hP hD hS
      intro hP hD hS
      obtain ⟨fNr_10, rfl, h_8⟩ := h_8
      replace hP : va_P G CL ((MK cy aM rR rB rO rK fMh fMo fMz gMv fMk fMa fMt kY fNr_10 fM3 fMu fMy fMb eR tM iEn iTk uP uU kAt iTo iFr JFi iFa iSt iLv iWs wL uS0 uS1 uS2 uS3 uS4 iOm) ++ (((oM cy uU) ++ ((oL cy wL) ++ ((oM cy uP) ++ (oM cy uS0 ++ (oM cy uS1 ++ (oM cy uS2 ++ (oM cy uS3 ++ oM cy uS4))))))) ++ (XW cy aX iKp iYe iTv fX_5 tA tB iL iBs tU tV fH fS fA gE kZ iT1 iT2 iT3 iT4 fB tD))) H := hP.part [21, 0, 1, 2, 3, 4, 5, 6, 49, 7, 8, 9, 10, 11, 12, 13, 14, 15, 16, 17, 18, 19, 20, 22, 23, 24, 25, 26, 27, 28, 29, 30, 31, 32, 33, 34, 35, 36, 37, 38, 39, 40, 41, 42, 43, 44, 45, 46, 47, 48] rfl
      replace hD : va_D A ((MK cy aM rR rB rO rK fMh fMo fMz gMv fMk fMa fMt kY fNr_10 fM3 fMu fMy fMb eR tM iEn iTk uP uU kAt iTo iFr JFi iFa iSt iLv iWs wL uS0 uS1 uS2 uS3 uS4 iOm) ++ (((oM cy uU) ++ ((oL cy wL) ++ ((oM cy uP) ++ (oM cy uS0 ++ (oM cy uS1 ++ (oM cy uS2 ++ (oM cy uS3 ++ oM cy uS4))))))) ++ (XW cy aX iKp iYe iTv fX_5 tA tB iL iBs tU tV fH fS fA gE kZ iT1 iT2 iT3 iT4 fB tD))) := hD.part [21, 0, 1, 2, 3, 4, 5, 6, 49, 7, 8, 9, 10, 11, 12, 13, 14, 15, 16, 17, 18, 19, 20, 22, 23, 24, 25, 26, 27, 28, 29, 30, 31, 32, 33, 34, 35, 36, 37, 38, 39, 40, 41, 42, 43, 44, 45, 46, 47, 48] (by decide +kernel) rfl
      replace hP : va_P G CL ((XW cy aX iKp iYe iTv fX_5 tA tB iL iBs tU tV fH fS fA gE kZ iT1 iT2 iT3 iT4 fB tD) ++ ((MK cy aM rR rB rO rK fMh fMo fMz gMv fMk fMa fMt kY fNr_10 fM3 fMu fMy fMb eR tM iEn iTk uP uU kAt iTo iFr JFi iFa iSt iLv iWs wL uS0 uS1 uS2 uS3 uS4 iOm) ++ ((oM cy uU) ++ ((oL cy wL) ++ ((oM cy uP) ++ (oM cy uS0 ++ (oM cy uS1 ++ (oM cy uS2 ++ (oM cy uS3 ++ oM cy uS4))))))))) H := ofNP hP
      replace hD : va_D A ((XW cy aX iKp iYe iTv fX_5 tA tB iL iBs tU tV fH fS fA gE kZ iT1 iT2 iT3 iT4 fB tD) ++ ((MK cy aM rR rB rO rK fMh fMo fMz gMv fMk fMa fMt kY fNr_10 fM3 fMu fMy fMb eR tM iEn iTk uP uU kAt iTo iFr JFi iFa iSt iLv iWs wL uS0 uS1 uS2 uS3 uS4 iOm) ++ ((oM cy uU) ++ ((oL cy wL) ++ ((oM cy uP) ++ (oM cy uS0 ++ (oM cy uS1 ++ (oM cy uS2 ++ (oM cy uS3 ++ oM cy uS4))))))))) := ofND hD
      refine lv_pop hx hb dL_law_1540 rfl ?_
      refine lv_goto (tgt := 1807) hx hb dL_law_1541 (by decide) ?_
      refine W.widen (k := nC + 250) (n := nS + 4440) (by omega) (by omega) ?_
      exact kk _ _ ⟨iKp, iYe, iTv, fX_5, tA, tB, iL, iBs, tU, tV, fH, fS, fA, gE, kZ, iT1, iT2, iT3, iT4, fB, tD, fMh, fMo, fMz, gMv, fMk, fMa, fMt, kY, fNr_10, fM3, fMu, fMy, fMb, eR, tM, iEn, iTk, uP, uU, kAt, iTo, iFr, JFi, iFa, iSt, iLv, iWs, wL, uS0, uS1, uS2, uS3, uS4, iOm, hP, hD, hsX, hsM, trivial⟩ hS
    · refine lv_iconst (v := 1) hx hb dL_law_1532 (by decide) ?_
      refine lv_goto (tgt := 1537) hx hb dL_law_1533 (by decide) ?_
      replace hP : va_P G CL ((MK cy aM rR rB rO rK fMh fMo fMz gMv fMk fMa fMt kY fMr fM3 fMu fMy fMb eR tM iEn iTk uP uU kAt iTo iFr JFi iFa iSt iLv iWs wL uS0 uS1 uS2 uS3 uS4 iOm) ++ (((oM cy uU) ++ ((oL cy wL) ++ ((oM cy uP) ++ (oM cy uS0 ++ (oM cy uS1 ++ (oM cy uS2 ++ (oM cy uS3 ++ oM cy uS4))))))) ++ (XW cy aX iKp iYe iTv fX_5 tA tB iL iBs tU tV fH fS fA gE kZ iT1 iT2 iT3 iT4 fB tD))) H := toNP hP
      replace hD : va_D A ((MK cy aM rR rB rO rK fMh fMo fMz gMv fMk fMa fMt kY fMr fM3 fMu fMy fMb eR tM iEn iTk uP uU kAt iTo iFr JFi iFa iSt iLv iWs wL uS0 uS1 uS2 uS3 uS4 iOm) ++ (((oM cy uU) ++ ((oL cy wL) ++ ((oM cy uP) ++ (oM cy uS0 ++ (oM cy uS1 ++ (oM cy uS2 ++ (oM cy uS3 ++ oM cy uS4))))))) ++ (XW cy aX iKp iYe iTv fX_5 tA tB iL iBs tU tV fH fS fA gE kZ iT1 iT2 iT3 iT4 fB tD))) := toND hD
      refine cViQ (As := [.int (xs (kI + 1)), .int 1]) (rest := []) (b := (aM 0)) (q := (RX6, TX6, 35)) ⟨hx, hb, hml, hown, hts⟩ (p_X6_needs l G cy (H).size (aM 0) (aM 1) (aM 2) (aM 3) (aM 14) (aM 4) (aM 5) (aM 6) (aM 7) kY (aM 8) tM (aM 15) (aM 16) (aM 17) iEn iTk uP uU kAt iTo iFr JFi iFa (aM 9) iSt iLv iWs (ovL wL) (aM 10) (aM 11) (aM 12) (aM 13) iOm rB rO rK fMr (xs (kI + 1)) 1 hsM.1.1.1 hsM.1.1.2 hsM.1) L_L_175 hN hP hD hS hA [0, 23, 24, 25, 26, 27, 28, 29, 30, 31, 32, 33, 34, 35, 36, 37, 38, 39, 40, 41, 42, 43, 44, 45, 46, 47, 48, 49, 8] [false, true, true, true, true, true, true, true, false, true, true, true, true, true, true, true, true, true, true, true, true, true, true, false, false, false, false, false, false, false, false, false, false, false, false, false, false, false, false, false, false, false, false, false, false, false, false, false, false, false] rfl (by decide +kernel) rfl 0 5 rfl rfl rfl ⟨Nat.le_of_ble_eq_true rfl, Nat.le_of_ble_eq_true rfl⟩ hl.1 (Nat.le_of_ble_eq_true rfl) dL_law_1537 ⟨by show nC + 0 + 0 ≤ 600000; omega, by show nS + 0 + 0 ≤ 7302250; omega⟩ (fun r_11 u_13 H locs h_12 => ?_)
      clear hP hD hS
      intro hP hD hS
      obtain ⟨fNr_14, rfl, h_12⟩ := h_12
      replace hP : va_P G CL ((MK cy aM rR rB rO rK fMh fMo fMz gMv fMk fMa fMt kY fNr_14 fM3 fMu fMy fMb eR tM iEn iTk uP uU kAt iTo iFr JFi iFa iSt iLv iWs wL uS0 uS1 uS2 uS3 uS4 iOm) ++ (((oM cy uU) ++ ((oL cy wL) ++ ((oM cy uP) ++ (oM cy uS0 ++ (oM cy uS1 ++ (oM cy uS2 ++ (oM cy uS3 ++ oM cy uS4))))))) ++ (XW cy aX iKp iYe iTv fX_5 tA tB iL iBs tU tV fH fS fA gE kZ iT1 iT2 iT3 iT4 fB tD))) H := hP.part [21, 0, 1, 2, 3, 4, 5, 6, 49, 7, 8, 9, 10, 11, 12, 13, 14, 15, 16, 17, 18, 19, 20, 22, 23, 24, 25, 26, 27, 28, 29, 30, 31, 32, 33, 34, 35, 36, 37, 38, 39, 40, 41, 42, 43, 44, 45, 46, 47, 48] rfl
      replace hD : va_D A ((MK cy aM rR rB rO rK fMh fMo fMz gMv fMk fMa fMt kY fNr_14 fM3 fMu fMy fMb eR tM iEn iTk uP uU kAt iTo iFr JFi iFa iSt iLv iWs wL uS0 uS1 uS2 uS3 uS4 iOm) ++ (((oM cy uU) ++ ((oL cy wL) ++ ((oM cy uP) ++ (oM cy uS0 ++ (oM cy uS1 ++ (oM cy uS2 ++ (oM cy uS3 ++ oM cy uS4))))))) ++ (XW cy aX iKp iYe iTv fX_5 tA tB iL iBs tU tV fH fS fA gE kZ iT1 iT2 iT3 iT4 fB tD))) := hD.part [21, 0, 1, 2, 3, 4, 5, 6, 49, 7, 8, 9, 10, 11, 12, 13, 14, 15, 16, 17, 18, 19, 20, 22, 23, 24, 25, 26, 27, 28, 29, 30, 31, 32, 33, 34, 35, 36, 37, 38, 39, 40, 41, 42, 43, 44, 45, 46, 47, 48] (by decide +kernel) rfl
      replace hP : va_P G CL ((XW cy aX iKp iYe iTv fX_5 tA tB iL iBs tU tV fH fS fA gE kZ iT1 iT2 iT3 iT4 fB tD) ++ ((MK cy aM rR rB rO rK fMh fMo fMz gMv fMk fMa fMt kY fNr_14 fM3 fMu fMy fMb eR tM iEn iTk uP uU kAt iTo iFr JFi iFa iSt iLv iWs wL uS0 uS1 uS2 uS3 uS4 iOm) ++ ((oM cy uU) ++ ((oL cy wL) ++ ((oM cy uP) ++ (oM cy uS0 ++ (oM cy uS1 ++ (oM cy uS2 ++ (oM cy uS3 ++ oM cy uS4))))))))) H := ofNP hP
      replace hD : va_D A ((XW cy aX iKp iYe iTv fX_5 tA tB iL iBs tU tV fH fS fA gE kZ iT1 iT2 iT3 iT4 fB tD) ++ ((MK cy aM rR rB rO rK fMh fMo fMz gMv fMk fMa fMt kY fNr_14 fM3 fMu fMy fMb eR tM iEn iTk uP uU kAt iTo iFr JFi iFa iSt iLv iWs wL uS0 uS1 uS2 uS3 uS4 iOm) ++ ((oM cy uU) ++ ((oL cy wL) ++ ((oM cy uP) ++ (oM cy uS0 ++ (oM cy uS1 ++ (oM cy uS2 ++ (oM cy uS3 ++ oM cy uS4))))))))) := ofND hD
      refine lv_pop hx hb dL_law_1540 rfl ?_
      refine lv_goto (tgt := 1807) hx hb dL_law_1541 (by decide) ?_
      refine W.widen (k := nC + 250) (n := nS + 4440) (by omega) (by omega) ?_
      exact kk _ _ ⟨iKp, iYe, iTv, fX_5, tA, tB, iL, iBs, tU, tV, fH, fS, fA, gE, kZ, iT1, iT2, iT3, iT4, fB, tD, fMh, fMo, fMz, gMv, fMk, fMa, fMt, kY, fNr_14, fM3, fMu, fMy, fMb, eR, tM, iEn, iTk, uP, uU, kAt, iTo, iFr, JFi, iFa, iSt, iLv, iWs, wL, uS0, uS1, uS2, uS3, uS4, iOm, hP, hD, hsX, hsM, trivial⟩ hS
  · refine lv_iconst (v := 1) hx hb dL_law_1509 (by decide) ?_
    refine lv_goto (tgt := 1514) hx hb dL_law_1510 (by decide) ?_
    refine cViQ (As := [.int (xs (kI + 1)), .int 1]) (rest := []) (b := (aX 0)) (q := (RX5, TX5, 9)) ⟨hx, hb, hml, hown, hts⟩ (p_X5_needs l G cy (H).size (aX 0) (aX 2) (aX 11) (aX 20) (aX 39) (aX 44) (aX 1) iKp iYe iTv fR tA (aX 3) (aX 4) (aX 5) (aX 6) (aX 7) (aX 8) (aX 9) (aX 10) (xs (kI + 1)) 1 hsX.1.1 hsX.1.2) L_L_171 hN hP hD hS hA [0, 1, 2, 3, 4, 5, 6, 7, 8, 9, 10] [false, false, false, false, false, false, false, false, false, false, false, true, true, true, true, true, true, true, true, true, true, true, true, true, true, true, true, true, true, true, true, true, true, true, true, true, true, true, true, true, true, true, true, true, true, true, true, true, true, true, true, true, true, true, true] rfl (by decide +kernel) rfl 0 4 rfl rfl rfl ⟨Nat.le_of_ble_eq_true rfl, Nat.le_of_ble_eq_true rfl⟩ hl.1 (Nat.le_of_ble_eq_true rfl) dL_law_1514 ⟨by show nC + 0 ≤ 600000; omega, by show nS + 0 ≤ 7302250; omega⟩ (fun r_15 u_17 H locs h_16 => ?_)
    clear hP hD hS
    intro hP hD hS
    obtain ⟨fX_18, rfl, h_16⟩ := h_16
    replace hP : va_P G CL ((XW cy aX iKp iYe iTv fX_18 tA tB iL iBs tU tV fH fS fA gE kZ iT1 iT2 iT3 iT4 fB tD) ++ ((MK cy aM rR rB rO rK fMh fMo fMz gMv fMk fMa fMt kY fMr fM3 fMu fMy fMb eR tM iEn iTk uP uU kAt iTo iFr JFi iFa iSt iLv iWs wL uS0 uS1 uS2 uS3 uS4 iOm) ++ ((oM cy uU) ++ ((oL cy wL) ++ ((oM cy uP) ++ (oM cy uS0 ++ (oM cy uS1 ++ (oM cy uS2 ++ (oM cy uS3 ++ oM cy uS4))))))))) H := hP.part [44, 45, 46, 47, 48, 49, 50, 51, 52, 53, 54, 0, 1, 2, 3, 4, 5, 6, 7, 8, 9, 10, 11, 12, 13, 14, 15, 16, 17, 18, 19, 20, 21, 22, 23, 24, 25, 26, 27, 28, 29, 30, 31, 32, 33, 34, 35, 36, 37, 38, 39, 40, 41, 42, 43] rfl
    replace hD : va_D A ((XW cy aX iKp iYe iTv fX_18 tA tB iL iBs tU tV fH fS fA gE kZ iT1 iT2 iT3 iT4 fB tD) ++ ((MK cy aM rR rB rO rK fMh fMo fMz gMv fMk fMa fMt kY fMr fM3 fMu fMy fMb eR tM iEn iTk uP uU kAt iTo iFr JFi iFa iSt iLv iWs wL uS0 uS1 uS2 uS3 uS4 iOm) ++ ((oM cy uU) ++ ((oL cy wL) ++ ((oM cy uP) ++ (oM cy uS0 ++ (oM cy uS1 ++ (oM cy uS2 ++ (oM cy uS3 ++ oM cy uS4))))))))) := hD.part [44, 45, 46, 47, 48, 49, 50, 51, 52, 53, 54, 0, 1, 2, 3, 4, 5, 6, 7, 8, 9, 10, 11, 12, 13, 14, 15, 16, 17, 18, 19, 20, 21, 22, 23, 24, 25, 26, 27, 28, 29, 30, 31, 32, 33, 34, 35, 36, 37, 38, 39, 40, 41, 42, 43] (by decide +kernel) rfl
    refine lv_pop hx hb dL_law_1517 rfl ?_
    refine lv_aload_n hx hb dL_law_1518 rfl (lv_at hl 1 rfl) ?_
    refine lv_aload_n hx hb dL_law_1519 rfl (lv_at hl 3 rfl) ?_
    refine lv_iload_n hx hb dL_law_1520 rfl (lv_at hl 0 rfl) ?_
    refine lv_iconst (v := 1) hx hb dL_law_1521 (by decide) ?_
    refine lv_iadd hx hb dL_law_1522 ?_
    refine lv_seti (v := nI (kI + 1)) (nI_add _ _) ?_
    refine va_sld hx hb hX hbl hbA hS (vp_in_nI (by omega) (by omega)) dL_law_1523 ?_
    refine lv_seti (v := xs (kI + 1)) (congrArg xs (nI_clamp (by omega))) ?_
    refine lv_aload_n hx hb dL_law_1524 rfl (lv_at hl 3 rfl) ?_
    refine lv_iload_n hx hb dL_law_1525 rfl (lv_at hl 0 rfl) ?_
    refine lv_iconst (v := 2) hx hb dL_law_1526 (by decide) ?_
    refine lv_iadd hx hb dL_law_1527 ?_
    refine lv_seti (v := nI (kI + 2)) (nI_add _ _) ?_
    refine va_sld hx hb hX hbl hbA hS (vp_in_nI (by omega) (by omega)) dL_law_1528 ?_
    refine lv_seti (v := xs (kI + 2)) (congrArg xs (nI_clamp (by omega))) ?_
    refine lv_if_eq (tgt := 1536) hx hb dL_law_1529 (by decide) (fun c_19 => ?_) (fun c_19 => ?_)
    · refine lv_iconst (v := 0) hx hb dL_law_1536 (by decide) ?_
      replace hP : va_P G CL ((MK cy aM rR rB rO rK fMh fMo fMz gMv fMk fMa fMt kY fMr fM3 fMu fMy fMb eR tM iEn iTk uP uU kAt iTo iFr JFi iFa iSt iLv iWs wL uS0 uS1 uS2 uS3 uS4 iOm) ++ (((oM cy uU) ++ ((oL cy wL) ++ ((oM cy uP) ++ (oM cy uS0 ++ (oM cy uS1 ++ (oM cy uS2 ++ (oM cy uS3 ++ oM cy uS4))))))) ++ (XW cy aX iKp iYe iTv fX_18 tA tB iL iBs tU tV fH fS fA gE kZ iT1 iT2 iT3 iT4 fB tD))) H := toNP hP
      replace hD : va_D A ((MK cy aM rR rB rO rK fMh fMo fMz gMv fMk fMa fMt kY fMr fM3 fMu fMy fMb eR tM iEn iTk uP uU kAt iTo iFr JFi iFa iSt iLv iWs wL uS0 uS1 uS2 uS3 uS4 iOm) ++ (((oM cy uU) ++ ((oL cy wL) ++ ((oM cy uP) ++ (oM cy uS0 ++ (oM cy uS1 ++ (oM cy uS2 ++ (oM cy uS3 ++ oM cy uS4))))))) ++ (XW cy aX iKp iYe iTv fX_18 tA tB iL iBs tU tV fH fS fA gE kZ iT1 iT2 iT3 iT4 fB tD))) := toND hD
      refine cViQ (As := [.int (xs (kI + 1)), .int 0]) (rest := []) (b := (aM 0)) (q := (RX6, TX6, 35)) ⟨hx, hb, hml, hown, hts⟩ (p_X6_needs l G cy (H).size (aM 0) (aM 1) (aM 2) (aM 3) (aM 14) (aM 4) (aM 5) (aM 6) (aM 7) kY (aM 8) tM (aM 15) (aM 16) (aM 17) iEn iTk uP uU kAt iTo iFr JFi iFa (aM 9) iSt iLv iWs (ovL wL) (aM 10) (aM 11) (aM 12) (aM 13) iOm rB rO rK fMr (xs (kI + 1)) 0 hsM.1.1.1 hsM.1.1.2 hsM.1) L_L_175 hN hP hD hS hA [0, 23, 24, 25, 26, 27, 28, 29, 30, 31, 32, 33, 34, 35, 36, 37, 38, 39, 40, 41, 42, 43, 44, 45, 46, 47, 48, 49, 8] [false, true, true, true, true, true, true, true, false, true, true, true, true, true, true, true, true, true, true, true, true, true, true, false, false, false, false, false, false, false, false, false, false, false, false, false, false, false, false, false, false, false, false, false, false, false, false, false, false, false] rfl (by decide +kernel) rfl 0 5 rfl rfl rfl ⟨Nat.le_of_ble_eq_true rfl, Nat.le_of_ble_eq_true rfl⟩ hl.1 (Nat.le_of_ble_eq_true rfl) dL_law_1537 ⟨by show nC + 0 + 0 ≤ 600000; omega, by show nS + 0 + 0 ≤ 7302250; omega⟩ (fun r_20 u_22 H locs h_21 => ?_)
      clear hP hD hS
      intro hP hD hS
      obtain ⟨fNr_23, rfl, h_21⟩ := h_21
      replace hP : va_P G CL ((MK cy aM rR rB rO rK fMh fMo fMz gMv fMk fMa fMt kY fNr_23 fM3 fMu fMy fMb eR tM iEn iTk uP uU kAt iTo iFr JFi iFa iSt iLv iWs wL uS0 uS1 uS2 uS3 uS4 iOm) ++ (((oM cy uU) ++ ((oL cy wL) ++ ((oM cy uP) ++ (oM cy uS0 ++ (oM cy uS1 ++ (oM cy uS2 ++ (oM cy uS3 ++ oM cy uS4))))))) ++ (XW cy aX iKp iYe iTv fX_18 tA tB iL iBs tU tV fH fS fA gE kZ iT1 iT2 iT3 iT4 fB tD))) H := hP.part [21, 0, 1, 2, 3, 4, 5, 6, 49, 7, 8, 9, 10, 11, 12, 13, 14, 15, 16, 17, 18, 19, 20, 22, 23, 24, 25, 26, 27, 28, 29, 30, 31, 32, 33, 34, 35, 36, 37, 38, 39, 40, 41, 42, 43, 44, 45, 46, 47, 48] rfl
      replace hD : va_D A ((MK cy aM rR rB rO rK fMh fMo fMz gMv fMk fMa fMt kY fNr_23 fM3 fMu fMy fMb eR tM iEn iTk uP uU kAt iTo iFr JFi iFa iSt iLv iWs wL uS0 uS1 uS2 uS3 uS4 iOm) ++ (((oM cy uU) ++ ((oL cy wL) ++ ((oM cy uP) ++ (oM cy uS0 ++ (oM cy uS1 ++ (oM cy uS2 ++ (oM cy uS3 ++ oM cy uS4))))))) ++ (XW cy aX iKp iYe iTv fX_18 tA tB iL iBs tU tV fH fS fA gE kZ iT1 iT2 iT3 iT4 fB tD))) := hD.part [21, 0, 1, 2, 3, 4, 5, 6, 49, 7, 8, 9, 10, 11, 12, 13, 14, 15, 16, 17, 18, 19, 20, 22, 23, 24, 25, 26, 27, 28, 29, 30, 31, 32, 33, 34, 35, 36, 37, 38, 39, 40, 41, 42, 43, 44, 45, 46, 47, 48] (by decide +kernel) rfl
      replace hP : va_P G CL ((XW cy aX iKp iYe iTv fX_18 tA tB iL iBs tU tV fH fS fA gE kZ iT1 iT2 iT3 iT4 fB tD) ++ ((MK cy aM rR rB rO rK fMh fMo fMz gMv fMk fMa fMt kY fNr_23 fM3 fMu fMy fMb eR tM iEn iTk uP uU kAt iTo iFr JFi iFa iSt iLv iWs wL uS0 uS1 uS2 uS3 uS4 iOm) ++ ((oM cy uU) ++ ((oL cy wL) ++ ((oM cy uP) ++ (oM cy uS0 ++ (oM cy uS1 ++ (oM cy uS2 ++ (oM cy uS3 ++ oM cy uS4))))))))) H := ofNP hP
      replace hD : va_D A ((XW cy aX iKp iYe iTv fX_18 tA tB iL iBs tU tV fH fS fA gE kZ iT1 iT2 iT3 iT4 fB tD) ++ ((MK cy aM rR rB rO rK fMh fMo fMz gMv fMk fMa fMt kY fNr_23 fM3 fMu fMy fMb eR tM iEn iTk uP uU kAt iTo iFr JFi iFa iSt iLv iWs wL uS0 uS1 uS2 uS3 uS4 iOm) ++ ((oM cy uU) ++ ((oL cy wL) ++ ((oM cy uP) ++ (oM cy uS0 ++ (oM cy uS1 ++ (oM cy uS2 ++ (oM cy uS3 ++ oM cy uS4))))))))) := ofND hD
      refine lv_pop hx hb dL_law_1540 rfl ?_
      refine lv_goto (tgt := 1807) hx hb dL_law_1541 (by decide) ?_
      refine W.widen (k := nC + 250) (n := nS + 4440) (by omega) (by omega) ?_
      exact kk _ _ ⟨iKp, iYe, iTv, fX_18, tA, tB, iL, iBs, tU, tV, fH, fS, fA, gE, kZ, iT1, iT2, iT3, iT4, fB, tD, fMh, fMo, fMz, gMv, fMk, fMa, fMt, kY, fNr_23, fM3, fMu, fMy, fMb, eR, tM, iEn, iTk, uP, uU, kAt, iTo, iFr, JFi, iFa, iSt, iLv, iWs, wL, uS0, uS1, uS2, uS3, uS4, iOm, hP, hD, hsX, hsM, trivial⟩ hS
    · refine lv_iconst (v := 1) hx hb dL_law_1532 (by decide) ?_
      refine lv_goto (tgt := 1537) hx hb dL_law_1533 (by decide) ?_
      replace hP : va_P G CL ((MK cy aM rR rB rO rK fMh fMo fMz gMv fMk fMa fMt kY fMr fM3 fMu fMy fMb eR tM iEn iTk uP uU kAt iTo iFr JFi iFa iSt iLv iWs wL uS0 uS1 uS2 uS3 uS4 iOm) ++ (((oM cy uU) ++ ((oL cy wL) ++ ((oM cy uP) ++ (oM cy uS0 ++ (oM cy uS1 ++ (oM cy uS2 ++ (oM cy uS3 ++ oM cy uS4))))))) ++ (XW cy aX iKp iYe iTv fX_18 tA tB iL iBs tU tV fH fS fA gE kZ iT1 iT2 iT3 iT4 fB tD))) H := toNP hP
      replace hD : va_D A ((MK cy aM rR rB rO rK fMh fMo fMz gMv fMk fMa fMt kY fMr fM3 fMu fMy fMb eR tM iEn iTk uP uU kAt iTo iFr JFi iFa iSt iLv iWs wL uS0 uS1 uS2 uS3 uS4 iOm) ++ (((oM cy uU) ++ ((oL cy wL) ++ ((oM cy uP) ++ (oM cy uS0 ++ (oM cy uS1 ++ (oM cy uS2 ++ (oM cy uS3 ++ oM cy uS4))))))) ++ (XW cy aX iKp iYe iTv fX_18 tA tB iL iBs tU tV fH fS fA gE kZ iT1 iT2 iT3 iT4 fB tD))) := toND hD
      refine cViQ (As := [.int (xs (kI + 1)), .int 1]) (rest := []) (b := (aM 0)) (q := (RX6, TX6, 35)) ⟨hx, hb, hml, hown, hts⟩ (p_X6_needs l G cy (H).size (aM 0) (aM 1) (aM 2) (aM 3) (aM 14) (aM 4) (aM 5) (aM 6) (aM 7) kY (aM 8) tM (aM 15) (aM 16) (aM 17) iEn iTk uP uU kAt iTo iFr JFi iFa (aM 9) iSt iLv iWs (ovL wL) (aM 10) (aM 11) (aM 12) (aM 13) iOm rB rO rK fMr (xs (kI + 1)) 1 hsM.1.1.1 hsM.1.1.2 hsM.1) L_L_175 hN hP hD hS hA [0, 23, 24, 25, 26, 27, 28, 29, 30, 31, 32, 33, 34, 35, 36, 37, 38, 39, 40, 41, 42, 43, 44, 45, 46, 47, 48, 49, 8] [false, true, true, true, true, true, true, true, false, true, true, true, true, true, true, true, true, true, true, true, true, true, true, false, false, false, false, false, false, false, false, false, false, false, false, false, false, false, false, false, false, false, false, false, false, false, false, false, false, false] rfl (by decide +kernel) rfl 0 5 rfl rfl rfl ⟨Nat.le_of_ble_eq_true rfl, Nat.le_of_ble_eq_true rfl⟩ hl.1 (Nat.le_of_ble_eq_true rfl) dL_law_1537 ⟨by show nC + 0 + 0 ≤ 600000; omega, by show nS + 0 + 0 ≤ 7302250; omega⟩ (fun r_24 u_26 H locs h_25 => ?_)
      clear hP hD hS
      intro hP hD hS
      obtain ⟨fNr_27, rfl, h_25⟩ := h_25
      replace hP : va_P G CL ((MK cy aM rR rB rO rK fMh fMo fMz gMv fMk fMa fMt kY fNr_27 fM3 fMu fMy fMb eR tM iEn iTk uP uU kAt iTo iFr JFi iFa iSt iLv iWs wL uS0 uS1 uS2 uS3 uS4 iOm) ++ (((oM cy uU) ++ ((oL cy wL) ++ ((oM cy uP) ++ (oM cy uS0 ++ (oM cy uS1 ++ (oM cy uS2 ++ (oM cy uS3 ++ oM cy uS4))))))) ++ (XW cy aX iKp iYe iTv fX_18 tA tB iL iBs tU tV fH fS fA gE kZ iT1 iT2 iT3 iT4 fB tD))) H := hP.part [21, 0, 1, 2, 3, 4, 5, 6, 49, 7, 8, 9, 10, 11, 12, 13, 14, 15, 16, 17, 18, 19, 20, 22, 23, 24, 25, 26, 27, 28, 29, 30, 31, 32, 33, 34, 35, 36, 37, 38, 39, 40, 41, 42, 43, 44, 45, 46, 47, 48] rfl
      replace hD : va_D A ((MK cy aM rR rB rO rK fMh fMo fMz gMv fMk fMa fMt kY fNr_27 fM3 fMu fMy fMb eR tM iEn iTk uP uU kAt iTo iFr JFi iFa iSt iLv iWs wL uS0 uS1 uS2 uS3 uS4 iOm) ++ (((oM cy uU) ++ ((oL cy wL) ++ ((oM cy uP) ++ (oM cy uS0 ++ (oM cy uS1 ++ (oM cy uS2 ++ (oM cy uS3 ++ oM cy uS4))))))) ++ (XW cy aX iKp iYe iTv fX_18 tA tB iL iBs tU tV fH fS fA gE kZ iT1 iT2 iT3 iT4 fB tD))) := hD.part [21, 0, 1, 2, 3, 4, 5, 6, 49, 7, 8, 9, 10, 11, 12, 13, 14, 15, 16, 17, 18, 19, 20, 22, 23, 24, 25, 26, 27, 28, 29, 30, 31, 32, 33, 34, 35, 36, 37, 38, 39, 40, 41, 42, 43, 44, 45, 46, 47, 48] (by decide +kernel) rfl
      replace hP : va_P G CL ((XW cy aX iKp iYe iTv fX_18 tA tB iL iBs tU tV fH fS fA gE kZ iT1 iT2 iT3 iT4 fB tD) ++ ((MK cy aM rR rB rO rK fMh fMo fMz gMv fMk fMa fMt kY fNr_27 fM3 fMu fMy fMb eR tM iEn iTk uP uU kAt iTo iFr JFi iFa iSt iLv iWs wL uS0 uS1 uS2 uS3 uS4 iOm) ++ ((oM cy uU) ++ ((oL cy wL) ++ ((oM cy uP) ++ (oM cy uS0 ++ (oM cy uS1 ++ (oM cy uS2 ++ (oM cy uS3 ++ oM cy uS4))))))))) H := ofNP hP
      replace hD : va_D A ((XW cy aX iKp iYe iTv fX_18 tA tB iL iBs tU tV fH fS fA gE kZ iT1 iT2 iT3 iT4 fB tD) ++ ((MK cy aM rR rB rO rK fMh fMo fMz gMv fMk fMa fMt kY fNr_27 fM3 fMu fMy fMb eR tM iEn iTk uP uU kAt iTo iFr JFi iFa iSt iLv iWs wL uS0 uS1 uS2 uS3 uS4 iOm) ++ ((oM cy uU) ++ ((oL cy wL) ++ ((oM cy uP) ++ (oM cy uS0 ++ (oM cy uS1 ++ (oM cy uS2 ++ (oM cy uS3 ++ oM cy uS4))))))))) := ofND hD
      refine lv_pop hx hb dL_law_1540 rfl ?_
      refine lv_goto (tgt := 1807) hx hb dL_law_1541 (by decide) ?_
      refine W.widen (k := nC + 250) (n := nS + 4440) (by omega) (by omega) ?_
      exact kk _ _ ⟨iKp, iYe, iTv, fX_18, tA, tB, iL, iBs, tU, tV, fH, fS, fA, gE, kZ, iT1, iT2, iT3, iT4, fB, tD, fMh, fMo, fMz, gMv, fMk, fMa, fMt, kY, fNr_27, fM3, fMu, fMy, fMb, eR, tM, iEn, iTk, uP, uU, kAt, iTo, iFr, JFi, iFa, iSt, iLv, iWs, wL, uS0, uS1, uS2, uS3, uS4, iOm, hP, hD, hsX, hsM, trivial⟩ hS
set_option maxHeartbeats 4000000 in
set_option maxRecDepth 100000 in
theorem law_38 {p : Program} {l : Launch} {e : Env} {s : State} {m : MethodId} {below : List Frame} {meth : Method} {c : Code} {b L : Nat} {xs : Nat → Int32} {A : Nat → Prop} {G : va_G} {cy : Nat → ClassId} {aX aM rR rB rO rK : Nat → Nat} (hx : p.tables.exec = Jvm.exec) (hb : c.code = code) (hr : meth.sig.returnType = ret) (hml : c.maxLocals = 4) (hown : s.vm.findClass RL = some m.cls) (hts : ∀ w ∈ BIG, w.before #[Value.ref b] s = true) (hX : va_X b L xs s s.heap) (hbl : b < s.heap.size) (hlocks : meth.locks = false) (hN : KN G cy s) (hA : ∀ q : Nat, s.heap.size ≤ q → A q) (hAn : ∀ q : Nat, A q → s.heap.size ≤ q) (hbA : ¬ A b) (hSO : SO A s s.heap) {H : Heap} {locs : List Loc} {ls : Array Slot} {kI nC nS : Nat} (hkI : kI + 6 ≤ L) (hL : L ≤ 384) (hnC : nC + 250 ≤ 600000) (hnS : nS + 4440 ≤ 7302250) (hI : LINV G cy A H aX aM rR rB rO rK) (hS : va_S A s.heap H locs) (hl : lv_has ls 4 [(3, .int (nI kI)), (2, .ref (aM 0)), (1, .ref (aX 0)), (0, .ref b)]) (kk : ∀ (H : Heap) (locs : List Loc), LINV G cy A H aX aM rR rB rO rK → va_S A s.heap H locs → W p l e room_1 s m #[Value.ref b] below meth c H locs (nC + 250) (nS + 4440) (lw_Z below #[Value.ref b] s) (F0 m 1807 ls [])) : W p l e room_1 s m #[Value.ref b] below meth c H locs nC nS (lw_Z below #[Value.ref b] s) (F0 m 1544 ls []) := by
  obtain ⟨iKp, iYe, iTv, fR, tA, tB, iL, iBs, tU, tV, fH, fS, fA, gE, kZ, iT1, iT2, iT3, iT4, fB, tD, fMh, fMo, fMz, gMv, fMk, fMa, fMt, kY, fMr, fM3, fMu, fMy, fMb, eR, tM, iEn, iTk, uP, uU, kAt, iTo, iFr, JFi, iFa, iSt, iLv, iWs, wL, uS0, uS1, uS2, uS3, uS4, iOm, hP, hD, hsX, hsM, hLR⟩ := hI
  refine lv_aload_n hx hb dL_law_1544 rfl (lv_at hl 2 rfl) ?_
  refine kRi (rV (As := []) (rest := []) (b := (aX 0)) ⟨hx, hb, hml, hown, hts⟩ (p_X5_next l G cy (aX 0) (aX 2) (aX 11) (aX 20) (aX 39) (aX 44) (aX 1) iKp iYe iTv tA (aX 3) (aX 4) (aX 5) (aX 6) (aX 7) (aX 8) (aX 9) (aX 10) hsX.1.1 hsX.1.2) L_L_176 (preRV (q := (RX5, TX5, 9)) hN hP [0, 2, 3, 4, 5, 6, 7, 8, 9, 10] rfl 0 4 rfl rfl) rfl ⟨Nat.le_of_ble_eq_true rfl, Nat.le_of_ble_eq_true rfl⟩ hl.1 (Nat.le_of_ble_eq_true rfl) dL_law_1545 ⟨by show nC + 0 ≤ 600000; omega, by show nS + 0 ≤ 7302250; omega⟩) (fun r_1 h_2 => ?_)
  refine lv_pop hx hb dL_law_1548 rfl ?_
  refine lv_aload_n hx hb dL_law_1549 rfl (lv_at hl 1 rfl) ?_
  replace hP : va_P G CL (((MK cy aM rR rB rO rK fMh fMo fMz gMv fMk fMa fMt kY fMr fM3 fMu fMy fMb eR tM iEn iTk uP uU kAt iTo iFr JFi iFa iSt iLv iWs wL uS0 uS1 uS2 uS3 uS4 iOm) ++ (oM cy uU)) ++ (((oL cy wL) ++ ((oM cy uP) ++ (oM cy uS0 ++ (oM cy uS1 ++ (oM cy uS2 ++ (oM cy uS3 ++ oM cy uS4)))))) ++ (XW cy aX iKp iYe iTv fR tA tB iL iBs tU tV fH fS fA gE kZ iT1 iT2 iT3 iT4 fB tD))) H := toUP hP
  replace hD : va_D A (((MK cy aM rR rB rO rK fMh fMo fMz gMv fMk fMa fMt kY fMr fM3 fMu fMy fMb eR tM iEn iTk uP uU kAt iTo iFr JFi iFa iSt iLv iWs wL uS0 uS1 uS2 uS3 uS4 iOm) ++ (oM cy uU)) ++ (((oL cy wL) ++ ((oM cy uP) ++ (oM cy uS0 ++ (oM cy uS1 ++ (oM cy uS2 ++ (oM cy uS3 ++ oM cy uS4)))))) ++ (XW cy aX iKp iYe iTv fR tA tB iL iBs tU tV fH fS fA gE kZ iT1 iT2 iT3 iT4 fB tD))) := toUD hD
  refine cViPQ (As := []) (rest := []) (b := (aM 0)) (q := (RX6, TX6, 35)) ⟨hx, hb, hml, hown, hts⟩ (p_X6_next l G cy (H).size (aM 0) (aM 1) (aM 2) (aM 3) (aM 14) (aM 4) (aM 5) (aM 6) (aM 7) kY (aM 8) tM (aM 15) (aM 16) (aM 17) iEn iTk uP uU kAt iTo iFr JFi iFa (aM 9) iSt iLv iWs (ovL wL) (aM 10) (aM 11) (aM 12) (aM 13) iOm rB rO rK hsM.1.1.1 hsM.1.1.2 hsM.1) L_L_179 hN hP hD hS hA [0, 23, 24, 25, 26, 27, 28, 29, 30, 31, 32, 33, 34, 35, 36, 37, 38, 39, 40, 41, 42, 43, 44, 45, 46, 47, 48, 49] [false, true, true, true, true, true, true, true, true, true, true, true, true, true, true, true, true, true, true, true, true, true, true, false, false, false, false, false, false, false, false, false, false, false, false, false, false, false, false, false, false, false, false, false, false, false, false, false, false, false] rfl (by decide +kernel) rfl 0 5 rfl rfl rfl ⟨Nat.le_of_ble_eq_true rfl, Nat.le_of_ble_eq_true rfl⟩ hl.1 (Nat.le_of_ble_eq_true rfl) dL_law_1550 ⟨by show nC + 50 ≤ 600000; omega, by show nS + 888 ≤ 7302250; omega⟩ (fun r_3 u_5 H locs h_4 => ?_)
  clear hP hD hS
  intro hP hD hS
  obtain ⟨uN_6, rfl, h_4⟩ := h_4
  replace hP := as1P hP
  replace hD := as1D hD
  replace hP : va_P G CL ((MK cy aM rR rB rO rK fMh fMo fMz gMv fMk fMa fMt kY fMr fM3 fMu fMy fMb eR tM iEn iTk uP uN_6 kAt iTo iFr JFi iFa iSt iLv iWs wL uS0 uS1 uS2 uS3 uS4 iOm) ++ ((oM cy uN_6) ++ (((oL cy wL) ++ ((oM cy uP) ++ (oM cy uS0 ++ (oM cy uS1 ++ (oM cy uS2 ++ (oM cy uS3 ++ oM cy uS4)))))) ++ (XW cy aX iKp iYe iTv fR tA tB iL iBs tU tV fH fS fA gE kZ iT1 iT2 iT3 iT4 fB tD)))) H := hP.part [22, 0, 1, 2, 3, 4, 5, 6, 7, 8, 9, 10, 11, 12, 13, 14, 15, 16, 17, 18, 19, 20, 21, 23, 24, 25, 26, 27, 28, 29, 30, 31, 32, 33, 34, 35, 36, 37, 38, 39, 40, 41, 42, 43, 44, 45, 46, 47, 48, 49] rfl
  replace hD : va_D A ((MK cy aM rR rB rO rK fMh fMo fMz gMv fMk fMa fMt kY fMr fM3 fMu fMy fMb eR tM iEn iTk uP uN_6 kAt iTo iFr JFi iFa iSt iLv iWs wL uS0 uS1 uS2 uS3 uS4 iOm) ++ ((oM cy uN_6) ++ (((oL cy wL) ++ ((oM cy uP) ++ (oM cy uS0 ++ (oM cy uS1 ++ (oM cy uS2 ++ (oM cy uS3 ++ oM cy uS4)))))) ++ (XW cy aX iKp iYe iTv fR tA tB iL iBs tU tV fH fS fA gE kZ iT1 iT2 iT3 iT4 fB tD)))) := hD.part [22, 0, 1, 2, 3, 4, 5, 6, 7, 8, 9, 10, 11, 12, 13, 14, 15, 16, 17, 18, 19, 20, 21, 23, 24, 25, 26, 27, 28, 29, 30, 31, 32, 33, 34, 35, 36, 37, 38, 39, 40, 41, 42, 43, 44, 45, 46, 47, 48, 49] (by decide +kernel) rfl
  replace hP : va_P G CL ((XW cy aX iKp iYe iTv fR tA tB iL iBs tU tV fH fS fA gE kZ iT1 iT2 iT3 iT4 fB tD) ++ ((MK cy aM rR rB rO rK fMh fMo fMz gMv fMk fMa fMt kY fMr fM3 fMu fMy fMb eR tM iEn iTk uP uN_6 kAt iTo iFr JFi iFa iSt iLv iWs wL uS0 uS1 uS2 uS3 uS4 iOm) ++ ((oM cy uN_6) ++ ((oL cy wL) ++ ((oM cy uP) ++ (oM cy uS0 ++ (oM cy uS1 ++ (oM cy uS2 ++ (oM cy uS3 ++ oM cy uS4))))))))) H := ofUP hP
  replace hD : va_D A ((XW cy aX iKp iYe iTv fR tA tB iL iBs tU tV fH fS fA gE kZ iT1 iT2 iT3 iT4 fB tD) ++ ((MK cy aM rR rB rO rK fMh fMo fMz gMv fMk fMa fMt kY fMr fM3 fMu fMy fMb eR tM iEn iTk uP uN_6 kAt iTo iFr JFi iFa iSt iLv iWs wL uS0 uS1 uS2 uS3 uS4 iOm) ++ ((oM cy uN_6) ++ ((oL cy wL) ++ ((oM cy uP) ++ (oM cy uS0 ++ (oM cy uS1 ++ (oM cy uS2 ++ (oM cy uS3 ++ oM cy uS4))))))))) := ofUD hD
  refine lv_pop hx hb dL_law_1553 rfl ?_
  refine lv_goto (tgt := 1807) hx hb dL_law_1554 (by decide) ?_
  refine W.widen (k := nC + 250) (n := nS + 4440) (by omega) (by omega) ?_
  exact kk _ _ ⟨iKp, iYe, iTv, fR, tA, tB, iL, iBs, tU, tV, fH, fS, fA, gE, kZ, iT1, iT2, iT3, iT4, fB, tD, fMh, fMo, fMz, gMv, fMk, fMa, fMt, kY, fMr, fM3, fMu, fMy, fMb, eR, tM, iEn, iTk, uP, uN_6, kAt, iTo, iFr, JFi, iFa, iSt, iLv, iWs, wL, uS0, uS1, uS2, uS3, uS4, iOm, hP, hD, hsX, hsM, trivial⟩ hS
set_option maxHeartbeats 4000000 in
set_option maxRecDepth 100000 in
theorem law_39 {p : Program} {l : Launch} {e : Env} {s : State} {m : MethodId} {below : List Frame} {meth : Method} {c : Code} {b L : Nat} {xs : Nat → Int32} {A : Nat → Prop} {G : va_G} {cy : Nat → ClassId} {aX aM rR rB rO rK : Nat → Nat} (hx : p.tables.exec = Jvm.exec) (hb : c.code = code) (hr : meth.sig.returnType = ret) (hml : c.maxLocals = 4) (hown : s.vm.findClass RL = some m.cls) (hts : ∀ w ∈ BIG, w.before #[Value.ref b] s = true) (hX : va_X b L xs s s.heap) (hbl : b < s.heap.size) (hlocks : meth.locks = false) (hN : KN G cy s) (hA : ∀ q : Nat, s.heap.size ≤ q → A q) (hAn : ∀ q : Nat, A q → s.heap.size ≤ q) (hbA : ¬ A b) (hSO : SO A s s.heap) {H : Heap} {locs : List Loc} {ls : Array Slot} {kI nC nS : Nat} (hkI : kI + 6 ≤ L) (hL : L ≤ 384) (hnC : nC + 250 ≤ 600000) (hnS : nS + 4440 ≤ 7302250) (hI : LINV G cy A H aX aM rR rB rO rK) (hS : va_S A s.heap H locs) (hl : lv_has ls 4 [(3, .int (nI kI)), (2, .ref (aM 0)), (1, .ref (aX 0)), (0, .ref b)]) (kk : ∀ (H : Heap) (locs : List Loc), LINV G cy A H aX aM rR rB rO rK → va_S A s.heap H locs → W p l e room_1 s m #[Value.ref b] below meth c H locs (nC + 250) (nS + 4440) (lw_Z below #[Value.ref b] s) (F0 m 1807 ls [])) : W p l e room_1 s m #[Value.ref b] below meth c H locs nC nS (lw_Z below #[Value.ref b] s) (F0 m 1557 ls []) := by
  obtain ⟨iKp, iYe, iTv, fR, tA, tB, iL, iBs, tU, tV, fH, fS, fA, gE, kZ, iT1, iT2, iT3, iT4, fB, tD, fMh, fMo, fMz, gMv, fMk, fMa, fMt, kY, fMr, fM3, fMu, fMy, fMb, eR, tM, iEn, iTk, uP, uU, kAt, iTo, iFr, JFi, iFa, iSt, iLv, iWs, wL, uS0, uS1, uS2, uS3, uS4, iOm, hP, hD, hsX, hsM, hLR⟩ := hI
  refine lv_aload_n hx hb dL_law_1557 rfl (lv_at hl 2 rfl) ?_
  refine lv_aload_n hx hb dL_law_1558 rfl (lv_at hl 3 rfl) ?_
  refine lv_iload_n hx hb dL_law_1559 rfl (lv_at hl 0 rfl) ?_
  refine lv_iconst (v := 1) hx hb dL_law_1560 (by decide) ?_
  refine lv_iadd hx hb dL_law_1561 ?_
  refine lv_seti (v := nI (kI + 1)) (nI_add _ _) ?_
  refine va_sld hx hb hX hbl hbA hS (vp_in_nI (by omega) (by omega)) dL_law_1562 ?_
  refine lv_seti (v := xs (kI + 1)) (congrArg xs (nI_clamp (by omega))) ?_
  refine lv_aload_n hx hb dL_law_1563 rfl (lv_at hl 3 rfl) ?_
  refine lv_iload_n hx hb dL_law_1564 rfl (lv_at hl 0 rfl) ?_
  refine lv_iconst (v := 2) hx hb dL_law_1565 (by decide) ?_
  refine lv_iadd hx hb dL_law_1566 ?_
  refine lv_seti (v := nI (kI + 2)) (nI_add _ _) ?_
  refine va_sld hx hb hX hbl hbA hS (vp_in_nI (by omega) (by omega)) dL_law_1567 ?_
  refine lv_seti (v := xs (kI + 2)) (congrArg xs (nI_clamp (by omega))) ?_
  refine cViQ (As := [.int (xs (kI + 1)), .int (xs (kI + 2))]) (rest := []) (b := (aX 0)) (q := (RX5, TX5, 9)) ⟨hx, hb, hml, hown, hts⟩ (p_X5_two l G cy (H).size (aX 0) (aX 2) (aX 11) (aX 20) (aX 39) (aX 44) (aX 1) iKp iYe iTv fR tA (aX 3) (aX 4) (aX 5) (aX 6) (aX 7) (aX 8) (aX 9) (aX 10) (xs (kI + 1)) (xs (kI + 2)) hsX.1.1 hsX.1.2) L_L_180 hN hP hD hS hA [0, 1, 2, 3, 4, 5, 6, 7, 8, 9, 10] [false, false, false, false, false, false, false, false, false, false, false, true, true, true, true, true, true, true, true, true, true, true, true, true, true, true, true, true, true, true, true, true, true, true, true, true, true, true, true, true, true, true, true, true, true, true, true, true, true, true, true, true, true, true, true] rfl (by decide +kernel) rfl 0 4 rfl rfl rfl ⟨Nat.le_of_ble_eq_true rfl, Nat.le_of_ble_eq_true rfl⟩ hl.1 (Nat.le_of_ble_eq_true rfl) dL_law_1568 ⟨by show nC + 0 ≤ 600000; omega, by show nS + 0 ≤ 7302250; omega⟩ (fun r_1 u_3 H locs h_2 => ?_)
  clear hP hD hS
  intro hP hD hS
  obtain ⟨fX_4, rfl, h_2⟩ := h_2
  replace hP : va_P G CL ((XW cy aX iKp iYe iTv fX_4 tA tB iL iBs tU tV fH fS fA gE kZ iT1 iT2 iT3 iT4 fB tD) ++ ((MK cy aM rR rB rO rK fMh fMo fMz gMv fMk fMa fMt kY fMr fM3 fMu fMy fMb eR tM iEn iTk uP uU kAt iTo iFr JFi iFa iSt iLv iWs wL uS0 uS1 uS2 uS3 uS4 iOm) ++ ((oM cy uU) ++ ((oL cy wL) ++ ((oM cy uP) ++ (oM cy uS0 ++ (oM cy uS1 ++ (oM cy uS2 ++ (oM cy uS3 ++ oM cy uS4))))))))) H := hP.part [44, 45, 46, 47, 48, 49, 50, 51, 52, 53, 54, 0, 1, 2, 3, 4, 5, 6, 7, 8, 9, 10, 11, 12, 13, 14, 15, 16, 17, 18, 19, 20, 21, 22, 23, 24, 25, 26, 27, 28, 29, 30, 31, 32, 33, 34, 35, 36, 37, 38, 39, 40, 41, 42, 43] rfl
  replace hD : va_D A ((XW cy aX iKp iYe iTv fX_4 tA tB iL iBs tU tV fH fS fA gE kZ iT1 iT2 iT3 iT4 fB tD) ++ ((MK cy aM rR rB rO rK fMh fMo fMz gMv fMk fMa fMt kY fMr fM3 fMu fMy fMb eR tM iEn iTk uP uU kAt iTo iFr JFi iFa iSt iLv iWs wL uS0 uS1 uS2 uS3 uS4 iOm) ++ ((oM cy uU) ++ ((oL cy wL) ++ ((oM cy uP) ++ (oM cy uS0 ++ (oM cy uS1 ++ (oM cy uS2 ++ (oM cy uS3 ++ oM cy uS4))))))))) := hD.part [44, 45, 46, 47, 48, 49, 50, 51, 52, 53, 54, 0, 1, 2, 3, 4, 5, 6, 7, 8, 9, 10, 11, 12, 13, 14, 15, 16, 17, 18, 19, 20, 21, 22, 23, 24, 25, 26, 27, 28, 29, 30, 31, 32, 33, 34, 35, 36, 37, 38, 39, 40, 41, 42, 43] (by decide +kernel) rfl
  refine lv_pop hx hb dL_law_1571 rfl ?_
  refine lv_aload_n hx hb dL_law_1572 rfl (lv_at hl 1 rfl) ?_
  refine lv_aload_n hx hb dL_law_1573 rfl (lv_at hl 3 rfl) ?_
  refine lv_iload_n hx hb dL_law_1574 rfl (lv_at hl 0 rfl) ?_
  refine lv_iconst (v := 1) hx hb dL_law_1575 (by decide) ?_
  refine lv_iadd hx hb dL_law_1576 ?_
  refine lv_seti (v := nI (kI + 1)) (nI_add _ _) ?_
  refine va_sld hx hb hX hbl hbA hS (vp_in_nI (by omega) (by omega)) dL_law_1577 ?_
  refine lv_seti (v := xs (kI + 1)) (congrArg xs (nI_clamp (by omega))) ?_
  refine lv_aload_n hx hb dL_law_1578 rfl (lv_at hl 3 rfl) ?_
  refine lv_iload_n hx hb dL_law_1579 rfl (lv_at hl 0 rfl) ?_
  refine lv_iconst (v := 2) hx hb dL_law_1580 (by decide) ?_
  refine lv_iadd hx hb dL_law_1581 ?_
  refine lv_seti (v := nI (kI + 2)) (nI_add _ _) ?_
  refine va_sld hx hb hX hbl hbA hS (vp_in_nI (by omega) (by omega)) dL_law_1582 ?_
  refine lv_seti (v := xs (kI + 2)) (congrArg xs (nI_clamp (by omega))) ?_
  replace hP : va_P G CL ((MK cy aM rR rB rO rK fMh fMo fMz gMv fMk fMa fMt kY fMr fM3 fMu fMy fMb eR tM iEn iTk uP uU kAt iTo iFr JFi iFa iSt iLv iWs wL uS0 uS1 uS2 uS3 uS4 iOm) ++ (((oM cy uU) ++ ((oL cy wL) ++ ((oM cy uP) ++ (oM cy uS0 ++ (oM cy uS1 ++ (oM cy uS2 ++ (oM cy uS3 ++ oM cy uS4))))))) ++ (XW cy aX iKp iYe iTv fX_4 tA tB iL iBs tU tV fH fS fA gE kZ iT1 iT2 iT3 iT4 fB tD))) H := toNP hP
  replace hD : va_D A ((MK cy aM rR rB rO rK fMh fMo fMz gMv fMk fMa fMt kY fMr fM3 fMu fMy fMb eR tM iEn iTk uP uU kAt iTo iFr JFi iFa iSt iLv iWs wL uS0 uS1 uS2 uS3 uS4 iOm) ++ (((oM cy uU) ++ ((oL cy wL) ++ ((oM cy uP) ++ (oM cy uS0 ++ (oM cy uS1 ++ (oM cy uS2 ++ (oM cy uS3 ++ oM cy uS4))))))) ++ (XW cy aX iKp iYe iTv fX_4 tA tB iL iBs tU tV fH fS fA gE kZ iT1 iT2 iT3 iT4 fB tD))) := toND hD
  refine cViQ (As := [.int (xs (kI + 1)), .int (xs (kI + 2))]) (rest := []) (b := (aM 0)) (q := (RX6, TX6, 35)) ⟨hx, hb, hml, hown, hts⟩ (p_X6_two l G cy (H).size (aM 0) (aM 1) (aM 2) (aM 3) (aM 14) (aM 4) (aM 5) (aM 6) (aM 7) kY (aM 8) tM (aM 15) (aM 16) (aM 17) iEn iTk uP uU kAt iTo iFr JFi iFa (aM 9) iSt iLv iWs (ovL wL) (aM 10) (aM 11) (aM 12) (aM 13) iOm rB rO rK fMr (xs (kI + 1)) (xs (kI + 2)) hsM.1.1.1 hsM.1.1.2 hsM.1) L_L_183 hN hP hD hS hA [0, 23, 24, 25, 26, 27, 28, 29, 30, 31, 32, 33, 34, 35, 36, 37, 38, 39, 40, 41, 42, 43, 44, 45, 46, 47, 48, 49, 8] [false, true, true, true, true, true, true, true, false, true, true, true, true, true, true, true, true, true, true, true, true, true, true, false, false, false, false, false, false, false, false, false, false, false, false, false, false, false, false, false, false, false, false, false, false, false, false, false, false, false] rfl (by decide +kernel) rfl 0 5 rfl rfl rfl ⟨Nat.le_of_ble_eq_true rfl, Nat.le_of_ble_eq_true rfl⟩ hl.1 (Nat.le_of_ble_eq_true rfl) dL_law_1583 ⟨by show nC + 0 + 0 ≤ 600000; omega, by show nS + 0 + 0 ≤ 7302250; omega⟩ (fun r_5 u_7 H locs h_6 => ?_)
  clear hP hD hS
  intro hP hD hS
  obtain ⟨fNr_8, rfl, h_6⟩ := h_6
  replace hP : va_P G CL ((MK cy aM rR rB rO rK fMh fMo fMz gMv fMk fMa fMt kY fNr_8 fM3 fMu fMy fMb eR tM iEn iTk uP uU kAt iTo iFr JFi iFa iSt iLv iWs wL uS0 uS1 uS2 uS3 uS4 iOm) ++ (((oM cy uU) ++ ((oL cy wL) ++ ((oM cy uP) ++ (oM cy uS0 ++ (oM cy uS1 ++ (oM cy uS2 ++ (oM cy uS3 ++ oM cy uS4))))))) ++ (XW cy aX iKp iYe iTv fX_4 tA tB iL iBs tU tV fH fS fA gE kZ iT1 iT2 iT3 iT4 fB tD))) H := hP.part [21, 0, 1, 2, 3, 4, 5, 6, 49, 7, 8, 9, 10, 11, 12, 13, 14, 15, 16, 17, 18, 19, 20, 22, 23, 24, 25, 26, 27, 28, 29, 30, 31, 32, 33, 34, 35, 36, 37, 38, 39, 40, 41, 42, 43, 44, 45, 46, 47, 48] rfl
  replace hD : va_D A ((MK cy aM rR rB rO rK fMh fMo fMz gMv fMk fMa fMt kY fNr_8 fM3 fMu fMy fMb eR tM iEn iTk uP uU kAt iTo iFr JFi iFa iSt iLv iWs wL uS0 uS1 uS2 uS3 uS4 iOm) ++ (((oM cy uU) ++ ((oL cy wL) ++ ((oM cy uP) ++ (oM cy uS0 ++ (oM cy uS1 ++ (oM cy uS2 ++ (oM cy uS3 ++ oM cy uS4))))))) ++ (XW cy aX iKp iYe iTv fX_4 tA tB iL iBs tU tV fH fS fA gE kZ iT1 iT2 iT3 iT4 fB tD))) := hD.part [21, 0, 1, 2, 3, 4, 5, 6, 49, 7, 8, 9, 10, 11, 12, 13, 14, 15, 16, 17, 18, 19, 20, 22, 23, 24, 25, 26, 27, 28, 29, 30, 31, 32, 33, 34, 35, 36, 37, 38, 39, 40, 41, 42, 43, 44, 45, 46, 47, 48] (by decide +kernel) rfl
  replace hP : va_P G CL ((XW cy aX iKp iYe iTv fX_4 tA tB iL iBs tU tV fH fS fA gE kZ iT1 iT2 iT3 iT4 fB tD) ++ ((MK cy aM rR rB rO rK fMh fMo fMz gMv fMk fMa fMt kY fNr_8 fM3 fMu fMy fMb eR tM iEn iTk uP uU kAt iTo iFr JFi iFa iSt iLv iWs wL uS0 uS1 uS2 uS3 uS4 iOm) ++ ((oM cy uU) ++ ((oL cy wL) ++ ((oM cy uP) ++ (oM cy uS0 ++ (oM cy uS1 ++ (oM cy uS2 ++ (oM cy uS3 ++ oM cy uS4))))))))) H := ofNP hP
  replace hD : va_D A ((XW cy aX iKp iYe iTv fX_4 tA tB iL iBs tU tV fH fS fA gE kZ iT1 iT2 iT3 iT4 fB tD) ++ ((MK cy aM rR rB rO rK fMh fMo fMz gMv fMk fMa fMt kY fNr_8 fM3 fMu fMy fMb eR tM iEn iTk uP uU kAt iTo iFr JFi iFa iSt iLv iWs wL uS0 uS1 uS2 uS3 uS4 iOm) ++ ((oM cy uU) ++ ((oL cy wL) ++ ((oM cy uP) ++ (oM cy uS0 ++ (oM cy uS1 ++ (oM cy uS2 ++ (oM cy uS3 ++ oM cy uS4))))))))) := ofND hD
  refine lv_pop hx hb dL_law_1586 rfl ?_
  refine lv_goto (tgt := 1807) hx hb dL_law_1587 (by decide) ?_
  refine W.widen (k := nC + 250) (n := nS + 4440) (by omega) (by omega) ?_
  exact kk _ _ ⟨iKp, iYe, iTv, fX_4, tA, tB, iL, iBs, tU, tV, fH, fS, fA, gE, kZ, iT1, iT2, iT3, iT4, fB, tD, fMh, fMo, fMz, gMv, fMk, fMa, fMt, kY, fNr_8, fM3, fMu, fMy, fMb, eR, tM, iEn, iTk, uP, uU, kAt, iTo, iFr, JFi, iFa, iSt, iLv, iWs, wL, uS0, uS1, uS2, uS3, uS4, iOm, hP, hD, hsX, hsM, trivial⟩ hS
