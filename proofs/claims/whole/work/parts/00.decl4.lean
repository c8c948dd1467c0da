theorem dd_L_law_1304 : decode code 1304 = .ok (.iaload, 1) := by decide +kernel
theorem dd_L_law_1305 : decode code 1305 = .ok (.aload_n 3, 1) := by decide +kernel
theorem dd_L_law_1306 : decode code 1306 = .ok (.invokestatic 155, 3) := by decide +kernel
theorem dd_L_law_1309 : decode code 1309 = .ok (.istore 5, 2) := by decide +kernel
theorem dd_L_law_1311 : decode code 1311 = .ok (.aload_n 2, 1) := by decide +kernel
theorem dd_L_law_1312 : decode code 1312 = .ok (.aload_n 0, 1) := by decide +kernel
theorem dd_L_law_1313 : decode code 1313 = .ok (.iload 4, 2) := by decide +kernel
theorem dd_L_law_1315 : decode code 1315 = .ok (.iconst 1, 1) := by decide +kernel
theorem dd_L_law_1316 : decode code 1316 = .ok (.iadd, 1) := by decide +kernel
theorem dd_L_law_1317 : decode code 1317 = .ok (.iaload, 1) := by decide +kernel
theorem dd_L_law_1318 : decode code 1318 = .ok (.invokevirtual 157, 3) := by decide +kernel
theorem dd_L_law_1321 : decode code 1321 = .ok (.istore 6, 2) := by decide +kernel
theorem dd_L_law_1323 : decode code 1323 = .ok (.aload_n 2, 1) := by decide +kernel
theorem dd_L_law_1324 : decode code 1324 = .ok (.invokevirtual 101, 3) := by decide +kernel
theorem dd_L_law_1327 : decode code 1327 = .ok (.iload 5, 2) := by decide +kernel
theorem dd_L_law_1329 : decode code 1329 = .ok (.if_icmp .eq 5, 3) := by decide +kernel
theorem dd_L_law_1332 : decode code 1332 = .ok (.iconst 0, 1) := by decide +kernel
theorem dd_L_law_1333 : decode code 1333 = .ok (.ireturn, 1) := by decide +kernel
theorem dd_L_law_1334 : decode code 1334 = .ok (.iload 5, 2) := by decide +kernel
theorem dd_L_law_1336 : decode code 1336 = .ok (.ifCond .ne 15, 3) := by decide +kernel
theorem dd_L_law_1339 : decode code 1339 = .ok (.aload_n 3, 1) := by decide +kernel
theorem dd_L_law_1340 : decode code 1340 = .ok (.iconst 0, 1) := by decide +kernel
theorem dd_L_law_1341 : decode code 1341 = .ok (.laload, 1) := by decide +kernel
theorem dd_L_law_1342 : decode code 1342 = .ok (.iload 6, 2) := by decide +kernel
theorem dd_L_law_1344 : decode code 1344 = .ok (.i2l, 1) := by decide +kernel
theorem dd_L_law_1345 : decode code 1345 = .ok (.lcmp, 1) := by decide +kernel
theorem dd_L_law_1346 : decode code 1346 = .ok (.ifCond .eq 5, 3) := by decide +kernel
theorem dd_L_law_1349 : decode code 1349 = .ok (.iconst 0, 1) := by decide +kernel
theorem dd_L_law_1350 : decode code 1350 = .ok (.ireturn, 1) := by decide +kernel
theorem dd_L_law_1351 : decode code 1351 = .ok (.goto 295, 3) := by decide +kernel
theorem dd_L_law_1354 : decode code 1354 = .ok (.aload_n 1, 1) := by decide +kernel
theorem dd_L_law_1355 : decode code 1355 = .ok (.aload_n 0, 1) := by decide +kernel
theorem dd_L_law_1356 : decode code 1356 = .ok (.iload 4, 2) := by decide +kernel
theorem dd_L_law_1358 : decode code 1358 = .ok (.iconst 1, 1) := by decide +kernel
theorem dd_L_law_1359 : decode code 1359 = .ok (.iadd, 1) := by decide +kernel
theorem dd_L_law_1360 : decode code 1360 = .ok (.iaload, 1) := by decide +kernel
theorem dd_L_law_1361 : decode code 1361 = .ok (.aload_n 3, 1) := by decide +kernel
theorem dd_L_law_1362 : decode code 1362 = .ok (.invokestatic 158, 3) := by decide +kernel
theorem dd_L_law_1365 : decode code 1365 = .ok (.istore 5, 2) := by decide +kernel
theorem dd_L_law_1367 : decode code 1367 = .ok (.aload_n 2, 1) := by decide +kernel
theorem dd_L_law_1368 : decode code 1368 = .ok (.aload_n 0, 1) := by decide +kernel
theorem dd_L_law_1369 : decode code 1369 = .ok (.iload 4, 2) := by decide +kernel
theorem dd_L_law_1371 : decode code 1371 = .ok (.iconst 1, 1) := by decide +kernel
theorem dd_L_law_1372 : decode code 1372 = .ok (.iadd, 1) := by decide +kernel
theorem dd_L_law_1373 : decode code 1373 = .ok (.iaload, 1) := by decide +kernel
theorem dd_L_law_1374 : decode code 1374 = .ok (.invokevirtual 160, 3) := by decide +kernel
theorem dd_L_law_1377 : decode code 1377 = .ok (.istore 6, 2) := by decide +kernel
theorem dd_L_law_1379 : decode code 1379 = .ok (.aload_n 2, 1) := by decide +kernel
theorem dd_L_law_1380 : decode code 1380 = .ok (.invokevirtual 101, 3) := by decide +kernel
theorem dd_L_law_1383 : decode code 1383 = .ok (.iload 5, 2) := by decide +kernel
theorem dd_L_law_1385 : decode code 1385 = .ok (.if_icmp .eq 5, 3) := by decide +kernel
theorem dd_L_law_1388 : decode code 1388 = .ok (.iconst 0, 1) := by decide +kernel
theorem dd_L_law_1389 : decode code 1389 = .ok (.ireturn, 1) := by decide +kernel
theorem dd_L_law_1390 : decode code 1390 = .ok (.iload 5, 2) := by decide +kernel
theorem dd_L_law_1392 : decode code 1392 = .ok (.ifCond .ne 15, 3) := by decide +kernel
theorem dd_L_law_1395 : decode code 1395 = .ok (.aload_n 3, 1) := by decide +kernel
theorem dd_L_law_1396 : decode code 1396 = .ok (.iconst 0, 1) := by decide +kernel
theorem dd_L_law_1397 : decode code 1397 = .ok (.laload, 1) := by decide +kernel
theorem dd_L_law_1398 : decode code 1398 = .ok (.iload 6, 2) := by decide +kernel
theorem dd_L_law_1400 : decode code 1400 = .ok (.i2l, 1) := by decide +kernel
theorem dd_L_law_1401 : decode code 1401 = .ok (.lcmp, 1) := by decide +kernel
theorem dd_L_law_1402 : decode code 1402 = .ok (.ifCond .eq 5, 3) := by decide +kernel
theorem dd_L_law_1405 : decode code 1405 = .ok (.iconst 0, 1) := by decide +kernel
theorem dd_L_law_1406 : decode code 1406 = .ok (.ireturn, 1) := by decide +kernel
theorem dd_L_law_1407 : decode code 1407 = .ok (.goto 239, 3) := by decide +kernel
theorem dd_L_law_1410 : decode code 1410 = .ok (.aload_n 1, 1) := by decide +kernel
theorem dd_L_law_1411 : decode code 1411 = .ok (.aload_n 0, 1) := by decide +kernel
theorem dd_L_law_1412 : decode code 1412 = .ok (.iload 4, 2) := by decide +kernel
theorem dd_L_law_1414 : decode code 1414 = .ok (.iconst 1, 1) := by decide +kernel
theorem dd_L_law_1415 : decode code 1415 = .ok (.iadd, 1) := by decide +kernel
theorem dd_L_law_1416 : decode code 1416 = .ok (.iaload, 1) := by decide +kernel
theorem dd_L_law_1417 : decode code 1417 = .ok (.aload_n 3, 1) := by decide +kernel
theorem dd_L_law_1418 : decode code 1418 = .ok (.invokestatic 161, 3) := by decide +kernel
theorem dd_L_law_1421 : decode code 1421 = .ok (.istore 5, 2) := by decide +kernel
theorem dd_L_law_1423 : decode code 1423 = .ok (.aload_n 2, 1) := by decide +kernel
theorem dd_L_law_1424 : decode code 1424 = .ok (.aload_n 0, 1) := by decide +kernel
theorem dd_L_law_1425 : decode code 1425 = .ok (.iload 4, 2) := by decide +kernel
theorem dd_L_law_1427 : decode code 1427 = .ok (.iconst 1, 1) := by decide +kernel
theorem dd_L_law_1428 : decode code 1428 = .ok (.iadd, 1) := by decide +kernel
theorem dd_L_law_1429 : decode code 1429 = .ok (.iaload, 1) := by decide +kernel
theorem dd_L_law_1430 : decode code 1430 = .ok (.invokevirtual 163, 3) := by decide +kernel
theorem dd_L_law_1433 : decode code 1433 = .ok (.istore 6, 2) := by decide +kernel
theorem dd_L_law_1435 : decode code 1435 = .ok (.aload_n 2, 1) := by decide +kernel
theorem dd_L_law_1436 : decode code 1436 = .ok (.invokevirtual 101, 3) := by decide +kernel
theorem dd_L_law_1439 : decode code 1439 = .ok (.iload 5, 2) := by decide +kernel
theorem dd_L_law_1441 : decode code 1441 = .ok (.if_icmp .eq 5, 3) := by decide +kernel
theorem dd_L_law_1444 : decode code 1444 = .ok (.iconst 0, 1) := by decide +kernel
theorem dd_L_law_1445 : decode code 1445 = .ok (.ireturn, 1) := by decide +kernel
theorem dd_L_law_1446 : decode code 1446 = .ok (.iload 5, 2) := by decide +kernel
theorem dd_L_law_1448 : decode code 1448 = .ok (.ifCond .ne 15, 3) := by decide +kernel
theorem dd_L_law_1451 : decode code 1451 = .ok (.aload_n 3, 1) := by decide +kernel
theorem dd_L_law_1452 : decode code 1452 = .ok (.iconst 0, 1) := by decide +kernel
theorem dd_L_law_1453 : decode code 1453 = .ok (.laload, 1) := by decide +kernel
theorem dd_L_law_1454 : decode code 1454 = .ok (.iload 6, 2) := by decide +kernel
theorem dd_L_law_1456 : decode code 1456 = .ok (.i2l, 1) := by decide +kernel
theorem dd_L_law_1457 : decode code 1457 = .ok (.lcmp, 1) := by decide +kernel
theorem dd_L_law_1458 : decode code 1458 = .ok (.ifCond .eq 5, 3) := by decide +kernel
theorem dd_L_law_1461 : decode code 1461 = .ok (.iconst 0, 1) := by decide +kernel
theorem dd_L_law_1462 : decode code 1462 = .ok (.ireturn, 1) := by decide +kernel
theorem dd_L_law_1463 : decode code 1463 = .ok (.goto 183, 3) := by decide +kernel
theorem dd_L_law_1466 : decode code 1466 = .ok (.aload_n 1, 1) := by decide +kernel
theorem dd_L_law_1467 : decode code 1467 = .ok (.aload_n 0, 1) := by decide +kernel
theorem dd_L_law_1468 : decode code 1468 = .ok (.iload 4, 2) := by decide +kernel
theorem dd_L_law_1470 : decode code 1470 = .ok (.iconst 1, 1) := by decide +kernel
theorem dd_L_law_1471 : decode code 1471 = .ok (.iadd, 1) := by decide +kernel
theorem dd_L_law_1472 : decode code 1472 = .ok (.iaload, 1) := by decide +kernel
theorem dd_L_law_1473 : decode code 1473 = .ok (.aload_n 0, 1) := by decide +kernel
theorem dd_L_law_1474 : decode code 1474 = .ok (.iload 4, 2) := by decide +kernel
theorem dd_L_law_1476 : decode code 1476 = .ok (.iconst 2, 1) := by decide +kernel
theorem dd_L_law_1477 : decode code 1477 = .ok (.iadd, 1) := by decide +kernel
theorem dd_L_law_1478 : decode code 1478 = .ok (.iaload, 1) := by decide +kernel
theorem dd_L_law_1479 : decode code 1479 = .ok (.aload_n 0, 1) := by decide +kernel
theorem dd_L_law_1480 : decode code 1480 = .ok (.iload 4, 2) := by decide +kernel
theorem dd_L_law_1482 : decode code 1482 = .ok (.iconst 3, 1) := by decide +kernel
theorem dd_L_law_1483 : decode code 1483 = .ok (.iadd, 1) := by decide +kernel
theorem dd_L_law_1484 : decode code 1484 = .ok (.iaload, 1) := by decide +kernel
theorem dd_L_law_1485 : decode code 1485 = .ok (.aload_n 3, 1) := by decide +kernel
theorem dd_L_law_1486 : decode code 1486 = .ok (.invokestatic 164, 3) := by decide +kernel
theorem dd_L_law_1489 : decode code 1489 = .ok (.istore 5, 2) := by decide +kernel
theorem dd_L_law_1491 : decode code 1491 = .ok (.aload_n 2, 1) := by decide +kernel
theorem dd_L_law_1492 : decode code 1492 = .ok (.aload_n 0, 1) := by decide +kernel
theorem dd_L_law_1493 : decode code 1493 = .ok (.iload 4, 2) := by decide +kernel
theorem dd_L_law_1495 : decode code 1495 = .ok (.iconst 1, 1) := by decide +kernel
theorem dd_L_law_1496 : decode code 1496 = .ok (.iadd, 1) := by decide +kernel
theorem dd_L_law_1497 : decode code 1497 = .ok (.iaload, 1) := by decide +kernel
theorem dd_L_law_1498 : decode code 1498 = .ok (.aload_n 0, 1) := by decide +kernel
theorem dd_L_law_1499 : decode code 1499 = .ok (.iload 4, 2) := by decide +kernel
theorem dd_L_law_1501 : decode code 1501 = .ok (.iconst 2, 1) := by decide +kernel
theorem dd_L_law_1502 : decode code 1502 = .ok (.iadd, 1) := by decide +kernel
theorem dd_L_law_1503 : decode code 1503 = .ok (.iaload, 1) := by decide +kernel
theorem dd_L_law_1504 : decode code 1504 = .ok (.aload_n 0, 1) := by decide +kernel
theorem dd_L_law_1505 : decode code 1505 = .ok (.iload 4, 2) := by decide +kernel
theorem dd_L_law_1507 : decode code 1507 = .ok (.iconst 3, 1) := by decide +kernel
theorem dd_L_law_1508 : decode code 1508 = .ok (.iadd, 1) := by decide +kernel
theorem dd_L_law_1509 : decode code 1509 = .ok (.iaload, 1) := by decide +kernel
theorem dd_L_law_1510 : decode code 1510 = .ok (.invokevirtual 166, 3) := by decide +kernel
theorem dd_L_law_1513 : decode code 1513 = .ok (.istore 6, 2) := by decide +kernel
theorem dd_L_law_1515 : decode code 1515 = .ok (.aload_n 2, 1) := by decide +kernel
theorem dd_L_law_1516 : decode code 1516 = .ok (.invokevirtual 101, 3) := by decide +kernel
theorem dd_L_law_1519 : decode code 1519 = .ok (.iload 5, 2) := by decide +kernel
theorem dd_L_law_1521 : decode code 1521 = .ok (.if_icmp .eq 5, 3) := by decide +kernel
theorem dd_L_law_1524 : decode code 1524 = .ok (.iconst 0, 1) := by decide +kernel
theorem dd_L_law_1525 : decode code 1525 = .ok (.ireturn, 1) := by decide +kernel
theorem dd_L_law_1526 : decode code 1526 = .ok (.iload 5, 2) := by decide +kernel
theorem dd_L_law_1528 : decode code 1528 = .ok (.ifCond .ne 15, 3) := by decide +kernel
theorem dd_L_law_1531 : decode code 1531 = .ok (.aload_n 3, 1) := by decide +kernel
theorem dd_L_law_1532 : decode code 1532 = .ok (.iconst 0, 1) := by decide +kernel
theorem dd_L_law_1533 : decode code 1533 = .ok (.laload, 1) := by decide +kernel
theorem dd_L_law_1534 : decode code 1534 = .ok (.iload 6, 2) := by decide +kernel
theorem dd_L_law_1536 : decode code 1536 = .ok (.i2l, 1) := by decide +kernel
theorem dd_L_law_1537 : decode code 1537 = .ok (.lcmp, 1) := by decide +kernel
theorem dd_L_law_1538 : decode code 1538 = .ok (.ifCond .eq 5, 3) := by decide +kernel
theorem dd_L_law_1541 : decode code 1541 = .ok (.iconst 0, 1) := by decide +kernel
theorem dd_L_law_1542 : decode code 1542 = .ok (.ireturn, 1) := by decide +kernel
theorem dd_L_law_1543 : decode code 1543 = .ok (.goto 103, 3) := by decide +kernel
theorem dd_L_law_1546 : decode code 1546 = .ok (.aload_n 1, 1) := by decide +kernel
theorem dd_L_law_1547 : decode code 1547 = .ok (.aload_n 0, 1) := by decide +kernel
theorem dd_L_law_1548 : decode code 1548 = .ok (.iload 4, 2) := by decide +kernel
theorem dd_L_law_1550 : decode code 1550 = .ok (.iconst 1, 1) := by decide +kernel
theorem dd_L_law_1551 : decode code 1551 = .ok (.iadd, 1) := by decide +kernel
theorem dd_L_law_1552 : decode code 1552 = .ok (.iaload, 1) := by decide +kernel
theorem dd_L_law_1553 : decode code 1553 = .ok (.aload_n 0, 1) := by decide +kernel
theorem dd_L_law_1554 : decode code 1554 = .ok (.iload 4, 2) := by decide +kernel
theorem dd_L_law_1556 : decode code 1556 = .ok (.iconst 2, 1) := by decide +kernel
theorem dd_L_law_1557 : decode code 1557 = .ok (.iadd, 1) := by decide +kernel
theorem dd_L_law_1558 : decode code 1558 = .ok (.iaload, 1) := by decide +kernel
theorem dd_L_law_1559 : decode code 1559 = .ok (.aload_n 3, 1) := by decide +kernel
theorem dd_L_law_1560 : decode code 1560 = .ok (.invokestatic 167, 3) := by decide +kernel
theorem dd_L_law_1563 : decode code 1563 = .ok (.istore 5, 2) := by decide +kernel
theorem dd_L_law_1565 : decode code 1565 = .ok (.aload_n 2, 1) := by decide +kernel
theorem dd_L_law_1566 : decode code 1566 = .ok (.aload_n 0, 1) := by decide +kernel
theorem dd_L_law_1567 : decode code 1567 = .ok (.iload 4, 2) := by decide +kernel
theorem dd_L_law_1569 : decode code 1569 = .ok (.iconst 1, 1) := by decide +kernel
theorem dd_L_law_1570 : decode code 1570 = .ok (.iadd, 1) := by decide +kernel
theorem dd_L_law_1571 : decode code 1571 = .ok (.iaload, 1) := by decide +kernel
theorem dd_L_law_1572 : decode code 1572 = .ok (.aload_n 0, 1) := by decide +kernel
theorem dd_L_law_1573 : decode code 1573 = .ok (.iload 4, 2) := by decide +kernel
theorem dd_L_law_1575 : decode code 1575 = .ok (.iconst 2, 1) := by decide +kernel
theorem dd_L_law_1576 : decode code 1576 = .ok (.iadd, 1) := by decide +kernel
theorem dd_L_law_1577 : decode code 1577 = .ok (.iaload, 1) := by decide +kernel
theorem dd_L_law_1578 : decode code 1578 = .ok (.invokevirtual 169, 3) := by decide +kernel
theorem dd_L_law_1581 : decode code 1581 = .ok (.istore 6, 2) := by decide +kernel
theorem dd_L_law_1583 : decode code 1583 = .ok (.aload_n 2, 1) := by decide +kernel
theorem dd_L_law_1584 : decode code 1584 = .ok (.invokevirtual 101, 3) := by decide +kernel
theorem dd_L_law_1587 : decode code 1587 = .ok (.iload 5, 2) := by decide +kernel
theorem dd_L_law_1589 : decode code 1589 = .ok (.if_icmp .eq 5, 3) := by decide +kernel
theorem dd_L_law_1592 : decode code 1592 = .ok (.iconst 0, 1) := by decide +kernel
theorem dd_L_law_1593 : decode code 1593 = .ok (.ireturn, 1) := by decide +kernel
theorem dd_L_law_1594 : decode code 1594 = .ok (.iload 5, 2) := by decide +kernel
theorem dd_L_law_1596 : decode code 1596 = .ok (.ifCond .ne 22, 3) := by decide +kernel
theorem dd_L_law_1599 : decode code 1599 = .ok (.aload_n 3, 1) := by decide +kernel
theorem dd_L_law_1600 : decode code 1600 = .ok (.iconst 0, 1) := by decide +kernel
theorem dd_L_law_1601 : decode code 1601 = .ok (.laload, 1) := by decide +kernel
theorem dd_L_law_1602 : decode code 1602 = .ok (.iload 6, 2) := by decide +kernel
theorem dd_L_law_1604 : decode code 1604 = .ok (.ifCond .eq 7, 3) := by decide +kernel
theorem dd_L_law_1607 : decode code 1607 = .ok (.lconst 1, 1) := by decide +kernel
theorem dd_L_law_1608 : decode code 1608 = .ok (.goto 4, 3) := by decide +kernel
theorem dd_L_law_1611 : decode code 1611 = .ok (.lconst 0, 1) := by decide +kernel
theorem dd_L_law_1612 : decode code 1612 = .ok (.lcmp, 1) := by decide +kernel
theorem dd_L_law_1613 : decode code 1613 = .ok (.ifCond .eq 5, 3) := by decide +kernel
