theorem dL_1382 : decode code 1382 = .ok (.iconst 1, 1) := by decide +kernel
theorem dL_1383 : decode code 1383 = .ok (.iadd, 1) := by decide +kernel
theorem dL_1384 : decode code 1384 = .ok (.iaload, 1) := by decide +kernel
theorem dL_1385 : decode code 1385 = .ok (.invokevirtual 175, 3) := by decide +kernel
theorem dL_1388 : decode code 1388 = .ok (.istore 6, 2) := by decide +kernel
theorem dL_1390 : decode code 1390 = .ok (.aload_n 2, 1) := by decide +kernel
theorem dL_1391 : decode code 1391 = .ok (.invokevirtual 109, 3) := by decide +kernel
theorem dL_1394 : decode code 1394 = .ok (.iload 5, 2) := by decide +kernel
theorem dL_1396 : decode code 1396 = .ok (.if_icmp .eq 5, 3) := by decide +kernel
theorem dL_1401 : decode code 1401 = .ok (.iload 5, 2) := by decide +kernel
theorem dL_1403 : decode code 1403 = .ok (.ifCond .ne 15, 3) := by decide +kernel
theorem dL_1406 : decode code 1406 = .ok (.aload_n 3, 1) := by decide +kernel
theorem dL_1407 : decode code 1407 = .ok (.iconst 0, 1) := by decide +kernel
theorem dL_1408 : decode code 1408 = .ok (.laload, 1) := by decide +kernel
theorem dL_1409 : decode code 1409 = .ok (.iload 6, 2) := by decide +kernel
theorem dL_1411 : decode code 1411 = .ok (.i2l, 1) := by decide +kernel
theorem dL_1412 : decode code 1412 = .ok (.lcmp, 1) := by decide +kernel
theorem dL_1413 : decode code 1413 = .ok (.ifCond .eq 5, 3) := by decide +kernel
theorem dL_1418 : decode code 1418 = .ok (.goto 194, 3) := by decide +kernel
theorem dL_1421 : decode code 1421 = .ok (.aload_n 1, 1) := by decide +kernel
theorem dL_1422 : decode code 1422 = .ok (.aload_n 0, 1) := by decide +kernel
theorem dL_1423 : decode code 1423 = .ok (.iload 4, 2) := by decide +kernel
theorem dL_1425 : decode code 1425 = .ok (.iconst 1, 1) := by decide +kernel
theorem dL_1426 : decode code 1426 = .ok (.iadd, 1) := by decide +kernel
theorem dL_1427 : decode code 1427 = .ok (.iaload, 1) := by decide +kernel
theorem dL_1428 : decode code 1428 = .ok (.aload_n 0, 1) := by decide +kernel
theorem dL_1429 : decode code 1429 = .ok (.iload 4, 2) := by decide +kernel
theorem dL_1431 : decode code 1431 = .ok (.iconst 2, 1) := by decide +kernel
theorem dL_1432 : decode code 1432 = .ok (.iadd, 1) := by decide +kernel
theorem dL_1433 : decode code 1433 = .ok (.iaload, 1) := by decide +kernel
theorem dL_1434 : decode code 1434 = .ok (.aload_n 3, 1) := by decide +kernel
theorem dL_1435 : decode code 1435 = .ok (.invokestatic 176, 3) := by decide +kernel
theorem dL_1438 : decode code 1438 = .ok (.istore 5, 2) := by decide +kernel
theorem dL_1440 : decode code 1440 = .ok (.aload_n 2, 1) := by decide +kernel
theorem dL_1441 : decode code 1441 = .ok (.aload_n 0, 1) := by decide +kernel
theorem dL_1442 : decode code 1442 = .ok (.iload 4, 2) := by decide +kernel
theorem dL_1444 : decode code 1444 = .ok (.iconst 1, 1) := by decide +kernel
theorem dL_1445 : decode code 1445 = .ok (.iadd, 1) := by decide +kernel
theorem dL_1446 : decode code 1446 = .ok (.iaload, 1) := by decide +kernel
theorem dL_1447 : decode code 1447 = .ok (.aload_n 0, 1) := by decide +kernel
theorem dL_1448 : decode code 1448 = .ok (.iload 4, 2) := by decide +kernel
theorem dL_1450 : decode code 1450 = .ok (.iconst 2, 1) := by decide +kernel
theorem dL_1451 : decode code 1451 = .ok (.iadd, 1) := by decide +kernel
theorem dL_1452 : decode code 1452 = .ok (.iaload, 1) := by decide +kernel
theorem dL_1453 : decode code 1453 = .ok (.invokevirtual 178, 3) := by decide +kernel
theorem dL_1456 : decode code 1456 = .ok (.istore 6, 2) := by decide +kernel
theorem dL_1458 : decode code 1458 = .ok (.aload_n 2, 1) := by decide +kernel
theorem dL_1459 : decode code 1459 = .ok (.invokevirtual 109, 3) := by decide +kernel
theorem dL_1462 : decode code 1462 = .ok (.iload 5, 2) := by decide +kernel
theorem dL_1464 : decode code 1464 = .ok (.if_icmp .eq 5, 3) := by decide +kernel
theorem dL_1469 : decode code 1469 = .ok (.iload 5, 2) := by decide +kernel
theorem dL_1471 : decode code 1471 = .ok (.ifCond .ne 15, 3) := by decide +kernel
theorem dL_1474 : decode code 1474 = .ok (.aload_n 3, 1) := by decide +kernel
theorem dL_1475 : decode code 1475 = .ok (.iconst 0, 1) := by decide +kernel
theorem dL_1476 : decode code 1476 = .ok (.laload, 1) := by decide +kernel
theorem dL_1477 : decode code 1477 = .ok (.iload 6, 2) := by decide +kernel
theorem dL_1479 : decode code 1479 = .ok (.i2l, 1) := by decide +kernel
theorem dL_1480 : decode code 1480 = .ok (.lcmp, 1) := by decide +kernel
theorem dL_1481 : decode code 1481 = .ok (.ifCond .eq 5, 3) := by decide +kernel
theorem dL_1486 : decode code 1486 = .ok (.goto 126, 3) := by decide +kernel
theorem dL_1489 : decode code 1489 = .ok (.aload_n 1, 1) := by decide +kernel
theorem dL_1490 : decode code 1490 = .ok (.aload_n 0, 1) := by decide +kernel
theorem dL_1491 : decode code 1491 = .ok (.iload 4, 2) := by decide +kernel
theorem dL_1493 : decode code 1493 = .ok (.iconst 1, 1) := by decide +kernel
theorem dL_1494 : decode code 1494 = .ok (.iadd, 1) := by decide +kernel
theorem dL_1495 : decode code 1495 = .ok (.iaload, 1) := by decide +kernel
theorem dL_1496 : decode code 1496 = .ok (.aload_n 0, 1) := by decide +kernel
theorem dL_1497 : decode code 1497 = .ok (.iload 4, 2) := by decide +kernel
theorem dL_1499 : decode code 1499 = .ok (.iconst 2, 1) := by decide +kernel
theorem dL_1500 : decode code 1500 = .ok (.iadd, 1) := by decide +kernel
theorem dL_1501 : decode code 1501 = .ok (.iaload, 1) := by decide +kernel
theorem dL_1502 : decode code 1502 = .ok (.aload_n 3, 1) := by decide +kernel
theorem dL_1503 : decode code 1503 = .ok (.invokestatic 179, 3) := by decide +kernel
theorem dL_1506 : decode code 1506 = .ok (.istore 5, 2) := by decide +kernel
theorem dL_1508 : decode code 1508 = .ok (.aload_n 2, 1) := by decide +kernel
theorem dL_1509 : decode code 1509 = .ok (.aload_n 0, 1) := by decide +kernel
theorem dL_1510 : decode code 1510 = .ok (.iload 4, 2) := by decide +kernel
theorem dL_1512 : decode code 1512 = .ok (.iconst 1, 1) := by decide +kernel
theorem dL_1513 : decode code 1513 = .ok (.iadd, 1) := by decide +kernel
theorem dL_1514 : decode code 1514 = .ok (.iaload, 1) := by decide +kernel
theorem dL_1515 : decode code 1515 = .ok (.aload_n 0, 1) := by decide +kernel
theorem dL_1516 : decode code 1516 = .ok (.iload 4, 2) := by decide +kernel
theorem dL_1518 : decode code 1518 = .ok (.iconst 2, 1) := by decide +kernel
theorem dL_1519 : decode code 1519 = .ok (.iadd, 1) := by decide +kernel
theorem dL_1520 : decode code 1520 = .ok (.iaload, 1) := by decide +kernel
theorem dL_1521 : decode code 1521 = .ok (.invokevirtual 181, 3) := by decide +kernel
theorem dL_1524 : decode code 1524 = .ok (.lstore 6, 2) := by decide +kernel
theorem dL_1526 : decode code 1526 = .ok (.aload_n 2, 1) := by decide +kernel
theorem dL_1527 : decode code 1527 = .ok (.invokevirtual 109, 3) := by decide +kernel
theorem dL_1530 : decode code 1530 = .ok (.iload 5, 2) := by decide +kernel
theorem dL_1532 : decode code 1532 = .ok (.if_icmp .eq 5, 3) := by decide +kernel
theorem dL_1537 : decode code 1537 = .ok (.iload 5, 2) := by decide +kernel
theorem dL_1539 : decode code 1539 = .ok (.ifCond .ne 14, 3) := by decide +kernel
theorem dL_1542 : decode code 1542 = .ok (.aload_n 3, 1) := by decide +kernel
theorem dL_1543 : decode code 1543 = .ok (.iconst 0, 1) := by decide +kernel
theorem dL_1544 : decode code 1544 = .ok (.laload, 1) := by decide +kernel
theorem dL_1545 : decode code 1545 = .ok (.lload 6, 2) := by decide +kernel
theorem dL_1547 : decode code 1547 = .ok (.lcmp, 1) := by decide +kernel
theorem dL_1548 : decode code 1548 = .ok (.ifCond .eq 5, 3) := by decide +kernel
theorem dL_1553 : decode code 1553 = .ok (.goto 59, 3) := by decide +kernel
theorem dL_1556 : decode code 1556 = .ok (.aload_n 1, 1) := by decide +kernel
theorem dL_1557 : decode code 1557 = .ok (.aload_n 0, 1) := by decide +kernel
theorem dL_1558 : decode code 1558 = .ok (.iload 4, 2) := by decide +kernel
theorem dL_1560 : decode code 1560 = .ok (.iconst 1, 1) := by decide +kernel
theorem dL_1561 : decode code 1561 = .ok (.iadd, 1) := by decide +kernel
theorem dL_1562 : decode code 1562 = .ok (.iaload, 1) := by decide +kernel
theorem dL_1563 : decode code 1563 = .ok (.aload_n 3, 1) := by decide +kernel
theorem dL_1564 : decode code 1564 = .ok (.invokestatic 182, 3) := by decide +kernel
theorem dL_1567 : decode code 1567 = .ok (.istore 5, 2) := by decide +kernel
theorem dL_1569 : decode code 1569 = .ok (.aload_n 2, 1) := by decide +kernel
theorem dL_1570 : decode code 1570 = .ok (.aload_n 0, 1) := by decide +kernel
theorem dL_1571 : decode code 1571 = .ok (.iload 4, 2) := by decide +kernel
theorem dL_1573 : decode code 1573 = .ok (.iconst 1, 1) := by decide +kernel
theorem dL_1574 : decode code 1574 = .ok (.iadd, 1) := by decide +kernel
theorem dL_1575 : decode code 1575 = .ok (.iaload, 1) := by decide +kernel
theorem dL_1576 : decode code 1576 = .ok (.invokevirtual 184, 3) := by decide +kernel
theorem dL_1579 : decode code 1579 = .ok (.istore 6, 2) := by decide +kernel
theorem dL_1581 : decode code 1581 = .ok (.aload_n 2, 1) := by decide +kernel
theorem dL_1582 : decode code 1582 = .ok (.invokevirtual 109, 3) := by decide +kernel
theorem dL_1585 : decode code 1585 = .ok (.iload 5, 2) := by decide +kernel
theorem dL_1587 : decode code 1587 = .ok (.if_icmp .eq 5, 3) := by decide +kernel
theorem dL_1592 : decode code 1592 = .ok (.iload 5, 2) := by decide +kernel
theorem dL_1594 : decode code 1594 = .ok (.ifCond .ne 15, 3) := by decide +kernel
theorem dL_1597 : decode code 1597 = .ok (.aload_n 3, 1) := by decide +kernel
theorem dL_1598 : decode code 1598 = .ok (.iconst 0, 1) := by decide +kernel
theorem dL_1599 : decode code 1599 = .ok (.laload, 1) := by decide +kernel
theorem dL_1600 : decode code 1600 = .ok (.iload 6, 2) := by decide +kernel
theorem dL_1602 : decode code 1602 = .ok (.i2l, 1) := by decide +kernel
theorem dL_1603 : decode code 1603 = .ok (.lcmp, 1) := by decide +kernel
theorem dL_1604 : decode code 1604 = .ok (.ifCond .eq 5, 3) := by decide +kernel
theorem dL_1609 : decode code 1609 = .ok (.goto 3, 3) := by decide +kernel
theorem dL_1612 : decode code 1612 = .ok (.iinc 4 4, 3) := by decide +kernel
theorem dL_1615 : decode code 1615 = .ok (.goto (-1582), 3) := by decide +kernel
theorem dL_1618 : decode code 1618 = .ok (.iconst 1, 1) := by decide +kernel
theorem dL_1619 : decode code 1619 = .ok (.ireturn, 1) := by decide +kernel
