theorem dg_L_law_1473 : (decode cL_law 1473 = .ok (.aload_n 0, 1)) ∧ (decode cL_law 1474 = .ok (.iload_n 3, 1)) ∧ (decode cL_law 1475 = .ok (.iconst 1, 1)) ∧ (decode cL_law 1476 = .ok (.iadd, 1)) ∧ (decode cL_law 1477 = .ok (.iaload, 1)) ∧ (decode cL_law 1478 = .ok (.aload_n 0, 1)) ∧ (decode cL_law 1479 = .ok (.iload_n 3, 1)) ∧ (decode cL_law 1480 = .ok (.iconst 2, 1)) ∧ (decode cL_law 1481 = .ok (.iadd, 1)) ∧ (decode cL_law 1482 = .ok (.iaload, 1)) ∧ (decode cL_law 1483 = .ok (.i2l, 1)) ∧ (decode cL_law 1484 = .ok (.bipush 32, 2)) ∧ (decode cL_law 1486 = .ok (.lshl, 1)) ∧ (decode cL_law 1487 = .ok (.aload_n 0, 1)) ∧ (decode cL_law 1488 = .ok (.iload_n 3, 1)) ∧ (decode cL_law 1489 = .ok (.iconst 3, 1)) := by decide +kernel
theorem dL_law_1473 : decode cL_law 1473 = .ok (.aload_n 0, 1) := dg_L_law_1473.1
theorem dL_law_1474 : decode cL_law 1474 = .ok (.iload_n 3, 1) := dg_L_law_1473.2.1
theorem dL_law_1475 : decode cL_law 1475 = .ok (.iconst 1, 1) := dg_L_law_1473.2.2.1
theorem dL_law_1476 : decode cL_law 1476 = .ok (.iadd, 1) := dg_L_law_1473.2.2.2.1
theorem dL_law_1477 : decode cL_law 1477 = .ok (.iaload, 1) := dg_L_law_1473.2.2.2.2.1
theorem dL_law_1478 : decode cL_law 1478 = .ok (.aload_n 0, 1) := dg_L_law_1473.2.2.2.2.2.1
theorem dL_law_1479 : decode cL_law 1479 = .ok (.iload_n 3, 1) := dg_L_law_1473.2.2.2.2.2.2.1
theorem dL_law_1480 : decode cL_law 1480 = .ok (.iconst 2, 1) := dg_L_law_1473.2.2.2.2.2.2.2.1
theorem dL_law_1481 : decode cL_law 1481 = .ok (.iadd, 1) := dg_L_law_1473.2.2.2.2.2.2.2.2.1
theorem dL_law_1482 : decode cL_law 1482 = .ok (.iaload, 1) := dg_L_law_1473.2.2.2.2.2.2.2.2.2.1
theorem dL_law_1483 : decode cL_law 1483 = .ok (.i2l, 1) := dg_L_law_1473.2.2.2.2.2.2.2.2.2.2.1
theorem dL_law_1484 : decode cL_law 1484 = .ok (.bipush 32, 2) := dg_L_law_1473.2.2.2.2.2.2.2.2.2.2.2.1
theorem dL_law_1486 : decode cL_law 1486 = .ok (.lshl, 1) := dg_L_law_1473.2.2.2.2.2.2.2.2.2.2.2.2.1
theorem dL_law_1487 : decode cL_law 1487 = .ok (.aload_n 0, 1) := dg_L_law_1473.2.2.2.2.2.2.2.2.2.2.2.2.2.1
theorem dL_law_1488 : decode cL_law 1488 = .ok (.iload_n 3, 1) := dg_L_law_1473.2.2.2.2.2.2.2.2.2.2.2.2.2.2.1
theorem dL_law_1489 : decode cL_law 1489 = .ok (.iconst 3, 1) := dg_L_law_1473.2.2.2.2.2.2.2.2.2.2.2.2.2.2.2
theorem dg_L_law_1490 : (decode cL_law 1490 = .ok (.iadd, 1)) ∧ (decode cL_law 1491 = .ok (.iaload, 1)) ∧ (decode cL_law 1492 = .ok (.i2l, 1)) ∧ (decode cL_law 1493 = .ok (.ldc2_w 49, 3)) ∧ (decode cL_law 1496 = .ok (.land, 1)) ∧ (decode cL_law 1497 = .ok (.lor, 1)) ∧ (decode cL_law 1498 = .ok (.aload_n 0, 1)) ∧ (decode cL_law 1499 = .ok (.iload_n 3, 1)) ∧ (decode cL_law 1500 = .ok (.iconst 4, 1)) ∧ (decode cL_law 1501 = .ok (.iadd, 1)) ∧ (decode cL_law 1502 = .ok (.iaload, 1)) ∧ (decode cL_law 1503 = .ok (.i2l, 1)) ∧ (decode cL_law 1504 = .ok (.bipush 32, 2)) ∧ (decode cL_law 1506 = .ok (.lshl, 1)) ∧ (decode cL_law 1507 = .ok (.aload_n 0, 1)) ∧ (decode cL_law 1508 = .ok (.iload_n 3, 1)) := by decide +kernel
theorem dL_law_1490 : decode cL_law 1490 = .ok (.iadd, 1) := dg_L_law_1490.1
theorem dL_law_1491 : decode cL_law 1491 = .ok (.iaload, 1) := dg_L_law_1490.2.1
theorem dL_law_1492 : decode cL_law 1492 = .ok (.i2l, 1) := dg_L_law_1490.2.2.1
theorem dL_law_1493 : decode cL_law 1493 = .ok (.ldc2_w 49, 3) := dg_L_law_1490.2.2.2.1
theorem dL_law_1496 : decode cL_law 1496 = .ok (.land, 1) := dg_L_law_1490.2.2.2.2.1
theorem dL_law_1497 : decode cL_law 1497 = .ok (.lor, 1) := dg_L_law_1490.2.2.2.2.2.1
theorem dL_law_1498 : decode cL_law 1498 = .ok (.aload_n 0, 1) := dg_L_law_1490.2.2.2.2.2.2.1
theorem dL_law_1499 : decode cL_law 1499 = .ok (.iload_n 3, 1) := dg_L_law_1490.2.2.2.2.2.2.2.1
theorem dL_law_1500 : decode cL_law 1500 = .ok (.iconst 4, 1) := dg_L_law_1490.2.2.2.2.2.2.2.2.1
theorem dL_law_1501 : decode cL_law 1501 = .ok (.iadd, 1) := dg_L_law_1490.2.2.2.2.2.2.2.2.2.1
theorem dL_law_1502 : decode cL_law 1502 = .ok (.iaload, 1) := dg_L_law_1490.2.2.2.2.2.2.2.2.2.2.1
theorem dL_law_1503 : decode cL_law 1503 = .ok (.i2l, 1) := dg_L_law_1490.2.2.2.2.2.2.2.2.2.2.2.1
theorem dL_law_1504 : decode cL_law 1504 = .ok (.bipush 32, 2) := dg_L_law_1490.2.2.2.2.2.2.2.2.2.2.2.2.1
theorem dL_law_1506 : decode cL_law 1506 = .ok (.lshl, 1) := dg_L_law_1490.2.2.2.2.2.2.2.2.2.2.2.2.2.1
theorem dL_law_1507 : decode cL_law 1507 = .ok (.aload_n 0, 1) := dg_L_law_1490.2.2.2.2.2.2.2.2.2.2.2.2.2.2.1
theorem dL_law_1508 : decode cL_law 1508 = .ok (.iload_n 3, 1) := dg_L_law_1490.2.2.2.2.2.2.2.2.2.2.2.2.2.2.2
theorem dg_L_law_1509 : (decode cL_law 1509 = .ok (.iconst 5, 1)) ∧ (decode cL_law 1510 = .ok (.iadd, 1)) ∧ (decode cL_law 1511 = .ok (.iaload, 1)) ∧ (decode cL_law 1512 = .ok (.i2l, 1)) ∧ (decode cL_law 1513 = .ok (.ldc2_w 49, 3)) ∧ (decode cL_law 1516 = .ok (.land, 1)) ∧ (decode cL_law 1517 = .ok (.lor, 1)) ∧ (decode cL_law 1518 = .ok (.aload_n 0, 1)) ∧ (decode cL_law 1519 = .ok (.iload_n 3, 1)) ∧ (decode cL_law 1520 = .ok (.bipush 6, 2)) ∧ (decode cL_law 1522 = .ok (.iadd, 1)) ∧ (decode cL_law 1523 = .ok (.iaload, 1)) ∧ (decode cL_law 1524 = .ok (.i2l, 1)) ∧ (decode cL_law 1525 = .ok (.bipush 32, 2)) ∧ (decode cL_law 1527 = .ok (.lshl, 1)) ∧ (decode cL_law 1528 = .ok (.aload_n 0, 1)) := by decide +kernel
theorem dL_law_1509 : decode cL_law 1509 = .ok (.iconst 5, 1) := dg_L_law_1509.1
theorem dL_law_1510 : decode cL_law 1510 = .ok (.iadd, 1) := dg_L_law_1509.2.1
theorem dL_law_1511 : decode cL_law 1511 = .ok (.iaload, 1) := dg_L_law_1509.2.2.1
theorem dL_law_1512 : decode cL_law 1512 = .ok (.i2l, 1) := dg_L_law_1509.2.2.2.1
theorem dL_law_1513 : decode cL_law 1513 = .ok (.ldc2_w 49, 3) := dg_L_law_1509.2.2.2.2.1
theorem dL_law_1516 : decode cL_law 1516 = .ok (.land, 1) := dg_L_law_1509.2.2.2.2.2.1
theorem dL_law_1517 : decode cL_law 1517 = .ok (.lor, 1) := dg_L_law_1509.2.2.2.2.2.2.1
theorem dL_law_1518 : decode cL_law 1518 = .ok (.aload_n 0, 1) := dg_L_law_1509.2.2.2.2.2.2.2.1
theorem dL_law_1519 : decode cL_law 1519 = .ok (.iload_n 3, 1) := dg_L_law_1509.2.2.2.2.2.2.2.2.1
theorem dL_law_1520 : decode cL_law 1520 = .ok (.bipush 6, 2) := dg_L_law_1509.2.2.2.2.2.2.2.2.2.1
theorem dL_law_1522 : decode cL_law 1522 = .ok (.iadd, 1) := dg_L_law_1509.2.2.2.2.2.2.2.2.2.2.1
theorem dL_law_1523 : decode cL_law 1523 = .ok (.iaload, 1) := dg_L_law_1509.2.2.2.2.2.2.2.2.2.2.2.1
theorem dL_law_1524 : decode cL_law 1524 = .ok (.i2l, 1) := dg_L_law_1509.2.2.2.2.2.2.2.2.2.2.2.2.1
theorem dL_law_1525 : decode cL_law 1525 = .ok (.bipush 32, 2) := dg_L_law_1509.2.2.2.2.2.2.2.2.2.2.2.2.2.1
theorem dL_law_1527 : decode cL_law 1527 = .ok (.lshl, 1) := dg_L_law_1509.2.2.2.2.2.2.2.2.2.2.2.2.2.2.1
theorem dL_law_1528 : decode cL_law 1528 = .ok (.aload_n 0, 1) := dg_L_law_1509.2.2.2.2.2.2.2.2.2.2.2.2.2.2.2
theorem dg_L_law_1529 : (decode cL_law 1529 = .ok (.iload_n 3, 1)) ∧ (decode cL_law 1530 = .ok (.bipush 7, 2)) ∧ (decode cL_law 1532 = .ok (.iadd, 1)) ∧ (decode cL_law 1533 = .ok (.iaload, 1)) ∧ (decode cL_law 1534 = .ok (.i2l, 1)) ∧ (decode cL_law 1535 = .ok (.ldc2_w 49, 3)) ∧ (decode cL_law 1538 = .ok (.land, 1)) ∧ (decode cL_law 1539 = .ok (.lor, 1)) ∧ (decode cL_law 1540 = .ok (.invokevirtual 126, 3)) ∧ (decode cL_law 1543 = .ok (.pop, 1)) ∧ (decode cL_law 1544 = .ok (.goto 327, 3)) ∧ (decode cL_law 1547 = .ok (.aload_n 1, 1)) ∧ (decode cL_law 1548 = .ok (.aload_n 0, 1)) ∧ (decode cL_law 1549 = .ok (.iload_n 3, 1)) ∧ (decode cL_law 1550 = .ok (.iconst 1, 1)) ∧ (decode cL_law 1551 = .ok (.iadd, 1)) := by decide +kernel
theorem dL_law_1529 : decode cL_law 1529 = .ok (.iload_n 3, 1) := dg_L_law_1529.1
theorem dL_law_1530 : decode cL_law 1530 = .ok (.bipush 7, 2) := dg_L_law_1529.2.1
theorem dL_law_1532 : decode cL_law 1532 = .ok (.iadd, 1) := dg_L_law_1529.2.2.1
theorem dL_law_1533 : decode cL_law 1533 = .ok (.iaload, 1) := dg_L_law_1529.2.2.2.1
theorem dL_law_1534 : decode cL_law 1534 = .ok (.i2l, 1) := dg_L_law_1529.2.2.2.2.1
theorem dL_law_1535 : decode cL_law 1535 = .ok (.ldc2_w 49, 3) := dg_L_law_1529.2.2.2.2.2.1
theorem dL_law_1538 : decode cL_law 1538 = .ok (.land, 1) := dg_L_law_1529.2.2.2.2.2.2.1
theorem dL_law_1539 : decode cL_law 1539 = .ok (.lor, 1) := dg_L_law_1529.2.2.2.2.2.2.2.1
theorem dL_law_1540 : decode cL_law 1540 = .ok (.invokevirtual 126, 3) := dg_L_law_1529.2.2.2.2.2.2.2.2.1
theorem dL_law_1543 : decode cL_law 1543 = .ok (.pop, 1) := dg_L_law_1529.2.2.2.2.2.2.2.2.2.1
theorem dL_law_1544 : decode cL_law 1544 = .ok (.goto 327, 3) := dg_L_law_1529.2.2.2.2.2.2.2.2.2.2.1
theorem dL_law_1547 : decode cL_law 1547 = .ok (.aload_n 1, 1) := dg_L_law_1529.2.2.2.2.2.2.2.2.2.2.2.1
theorem dL_law_1548 : decode cL_law 1548 = .ok (.aload_n 0, 1) := dg_L_law_1529.2.2.2.2.2.2.2.2.2.2.2.2.1
theorem dL_law_1549 : decode cL_law 1549 = .ok (.iload_n 3, 1) := dg_L_law_1529.2.2.2.2.2.2.2.2.2.2.2.2.2.1
theorem dL_law_1550 : decode cL_law 1550 = .ok (.iconst 1, 1) := dg_L_law_1529.2.2.2.2.2.2.2.2.2.2.2.2.2.2.1
theorem dL_law_1551 : decode cL_law 1551 = .ok (.iadd, 1) := dg_L_law_1529.2.2.2.2.2.2.2.2.2.2.2.2.2.2.2
theorem dg_L_law_1552 : (decode cL_law 1552 = .ok (.iaload, 1)) ∧ (decode cL_law 1553 = .ok (.aload_n 0, 1)) ∧ (decode cL_law 1554 = .ok (.iload_n 3, 1)) ∧ (decode cL_law 1555 = .ok (.iconst 2, 1)) ∧ (decode cL_law 1556 = .ok (.iadd, 1)) ∧ (decode cL_law 1557 = .ok (.iaload, 1)) ∧ (decode cL_law 1558 = .ok (.invokevirtual 127, 3)) ∧ (decode cL_law 1561 = .ok (.pop, 1)) ∧ (decode cL_law 1562 = .ok (.aload_n 2, 1)) ∧ (decode cL_law 1563 = .ok (.aload_n 0, 1)) ∧ (decode cL_law 1564 = .ok (.iload_n 3, 1)) ∧ (decode cL_law 1565 = .ok (.iconst 1, 1)) ∧ (decode cL_law 1566 = .ok (.iadd, 1)) ∧ (decode cL_law 1567 = .ok (.iaload, 1)) ∧ (decode cL_law 1568 = .ok (.aload_n 0, 1)) ∧ (decode cL_law 1569 = .ok (.iload_n 3, 1)) := by decide +kernel
theorem dL_law_1552 : decode cL_law 1552 = .ok (.iaload, 1) := dg_L_law_1552.1
theorem dL_law_1553 : decode cL_law 1553 = .ok (.aload_n 0, 1) := dg_L_law_1552.2.1
theorem dL_law_1554 : decode cL_law 1554 = .ok (.iload_n 3, 1) := dg_L_law_1552.2.2.1
theorem dL_law_1555 : decode cL_law 1555 = .ok (.iconst 2, 1) := dg_L_law_1552.2.2.2.1
theorem dL_law_1556 : decode cL_law 1556 = .ok (.iadd, 1) := dg_L_law_1552.2.2.2.2.1
theorem dL_law_1557 : decode cL_law 1557 = .ok (.iaload, 1) := dg_L_law_1552.2.2.2.2.2.1
theorem dL_law_1558 : decode cL_law 1558 = .ok (.invokevirtual 127, 3) := dg_L_law_1552.2.2.2.2.2.2.1
theorem dL_law_1561 : decode cL_law 1561 = .ok (.pop, 1) := dg_L_law_1552.2.2.2.2.2.2.2.1
theorem dL_law_1562 : decode cL_law 1562 = .ok (.aload_n 2, 1) := dg_L_law_1552.2.2.2.2.2.2.2.2.1
theorem dL_law_1563 : decode cL_law 1563 = .ok (.aload_n 0, 1) := dg_L_law_1552.2.2.2.2.2.2.2.2.2.1
theorem dL_law_1564 : decode cL_law 1564 = .ok (.iload_n 3, 1) := dg_L_law_1552.2.2.2.2.2.2.2.2.2.2.1
theorem dL_law_1565 : decode cL_law 1565 = .ok (.iconst 1, 1) := dg_L_law_1552.2.2.2.2.2.2.2.2.2.2.2.1
theorem dL_law_1566 : decode cL_law 1566 = .ok (.iadd, 1) := dg_L_law_1552.2.2.2.2.2.2.2.2.2.2.2.2.1
theorem dL_law_1567 : decode cL_law 1567 = .ok (.iaload, 1) := dg_L_law_1552.2.2.2.2.2.2.2.2.2.2.2.2.2.1
theorem dL_law_1568 : decode cL_law 1568 = .ok (.aload_n 0, 1) := dg_L_law_1552.2.2.2.2.2.2.2.2.2.2.2.2.2.2.1
theorem dL_law_1569 : decode cL_law 1569 = .ok (.iload_n 3, 1) := dg_L_law_1552.2.2.2.2.2.2.2.2.2.2.2.2.2.2.2
theorem dg_L_law_1570 : (decode cL_law 1570 = .ok (.iconst 2, 1)) ∧ (decode cL_law 1571 = .ok (.iadd, 1)) ∧ (decode cL_law 1572 = .ok (.iaload, 1)) ∧ (decode cL_law 1573 = .ok (.invokevirtual 130, 3)) ∧ (decode cL_law 1576 = .ok (.pop, 1)) ∧ (decode cL_law 1577 = .ok (.goto 294, 3)) ∧ (decode cL_law 1580 = .ok (.aload_n 1, 1)) ∧ (decode cL_law 1581 = .ok (.aload_n 0, 1)) ∧ (decode cL_law 1582 = .ok (.iload_n 3, 1)) ∧ (decode cL_law 1583 = .ok (.iconst 1, 1)) ∧ (decode cL_law 1584 = .ok (.iadd, 1)) ∧ (decode cL_law 1585 = .ok (.iaload, 1)) ∧ (decode cL_law 1586 = .ok (.aload_n 0, 1)) ∧ (decode cL_law 1587 = .ok (.iload_n 3, 1)) ∧ (decode cL_law 1588 = .ok (.iconst 2, 1)) ∧ (decode cL_law 1589 = .ok (.iadd, 1)) := by decide +kernel
theorem dL_law_1570 : decode cL_law 1570 = .ok (.iconst 2, 1) := dg_L_law_1570.1
theorem dL_law_1571 : decode cL_law 1571 = .ok (.iadd, 1) := dg_L_law_1570.2.1
theorem dL_law_1572 : decode cL_law 1572 = .ok (.iaload, 1) := dg_L_law_1570.2.2.1
theorem dL_law_1573 : decode cL_law 1573 = .ok (.invokevirtual 130, 3) := dg_L_law_1570.2.2.2.1
theorem dL_law_1576 : decode cL_law 1576 = .ok (.pop, 1) := dg_L_law_1570.2.2.2.2.1
theorem dL_law_1577 : decode cL_law 1577 = .ok (.goto 294, 3) := dg_L_law_1570.2.2.2.2.2.1
theorem dL_law_1580 : decode cL_law 1580 = .ok (.aload_n 1, 1) := dg_L_law_1570.2.2.2.2.2.2.1
theorem dL_law_1581 : decode cL_law 1581 = .ok (.aload_n 0, 1) := dg_L_law_1570.2.2.2.2.2.2.2.1
theorem dL_law_1582 : decode cL_law 1582 = .ok (.iload_n 3, 1) := dg_L_law_1570.2.2.2.2.2.2.2.2.1
theorem dL_law_1583 : decode cL_law 1583 = .ok (.iconst 1, 1) := dg_L_law_1570.2.2.2.2.2.2.2.2.2.1
theorem dL_law_1584 : decode cL_law 1584 = .ok (.iadd, 1) := dg_L_law_1570.2.2.2.2.2.2.2.2.2.2.1
theorem dL_law_1585 : decode cL_law 1585 = .ok (.iaload, 1) := dg_L_law_1570.2.2.2.2.2.2.2.2.2.2.2.1
theorem dL_law_1586 : decode cL_law 1586 = .ok (.aload_n 0, 1) := dg_L_law_1570.2.2.2.2.2.2.2.2.2.2.2.2.1
theorem dL_law_1587 : decode cL_law 1587 = .ok (.iload_n 3, 1) := dg_L_law_1570.2.2.2.2.2.2.2.2.2.2.2.2.2.1
theorem dL_law_1588 : decode cL_law 1588 = .ok (.iconst 2, 1) := dg_L_law_1570.2.2.2.2.2.2.2.2.2.2.2.2.2.2.1
theorem dL_law_1589 : decode cL_law 1589 = .ok (.iadd, 1) := dg_L_law_1570.2.2.2.2.2.2.2.2.2.2.2.2.2.2.2
theorem dg_L_law_1590 : (decode cL_law 1590 = .ok (.iaload, 1)) ∧ (decode cL_law 1591 = .ok (.invokevirtual 131, 3)) ∧ (decode cL_law 1594 = .ok (.pop, 1)) ∧ (decode cL_law 1595 = .ok (.aload_n 2, 1)) ∧ (decode cL_law 1596 = .ok (.aload_n 0, 1)) ∧ (decode cL_law 1597 = .ok (.iload_n 3, 1)) ∧ (decode cL_law 1598 = .ok (.iconst 1, 1)) ∧ (decode cL_law 1599 = .ok (.iadd, 1)) ∧ (decode cL_law 1600 = .ok (.iaload, 1)) ∧ (decode cL_law 1601 = .ok (.aload_n 0, 1)) ∧ (decode cL_law 1602 = .ok (.iload_n 3, 1)) ∧ (decode cL_law 1603 = .ok (.iconst 2, 1)) ∧ (decode cL_law 1604 = .ok (.iadd, 1)) ∧ (decode cL_law 1605 = .ok (.iaload, 1)) ∧ (decode cL_law 1606 = .ok (.invokevirtual 134, 3)) ∧ (decode cL_law 1609 = .ok (.pop, 1)) := by decide +kernel
theorem dL_law_1590 : decode cL_law 1590 = .ok (.iaload, 1) := dg_L_law_1590.1
theorem dL_law_1591 : decode cL_law 1591 = .ok (.invokevirtual 131, 3) := dg_L_law_1590.2.1
theorem dL_law_1594 : decode cL_law 1594 = .ok (.pop, 1) := dg_L_law_1590.2.2.1
theorem dL_law_1595 : decode cL_law 1595 = .ok (.aload_n 2, 1) := dg_L_law_1590.2.2.2.1
theorem dL_law_1596 : decode cL_law 1596 = .ok (.aload_n 0, 1) := dg_L_law_1590.2.2.2.2.1
theorem dL_law_1597 : decode cL_law 1597 = .ok (.iload_n 3, 1) := dg_L_law_1590.2.2.2.2.2.1
theorem dL_law_1598 : decode cL_law 1598 = .ok (.iconst 1, 1) := dg_L_law_1590.2.2.2.2.2.2.1
theorem dL_law_1599 : decode cL_law 1599 = .ok (.iadd, 1) := dg_L_law_1590.2.2.2.2.2.2.2.1
theorem dL_law_1600 : decode cL_law 1600 = .ok (.iaload, 1) := dg_L_law_1590.2.2.2.2.2.2.2.2.1
theorem dL_law_1601 : decode cL_law 1601 = .ok (.aload_n 0, 1) := dg_L_law_1590.2.2.2.2.2.2.2.2.2.1
theorem dL_law_1602 : decode cL_law 1602 = .ok (.iload_n 3, 1) := dg_L_law_1590.2.2.2.2.2.2.2.2.2.2.1
theorem dL_law_1603 : decode cL_law 1603 = .ok (.iconst 2, 1) := dg_L_law_1590.2.2.2.2.2.2.2.2.2.2.2.1
theorem dL_law_1604 : decode cL_law 1604 = .ok (.iadd, 1) := dg_L_law_1590.2.2.2.2.2.2.2.2.2.2.2.2.1
theorem dL_law_1605 : decode cL_law 1605 = .ok (.iaload, 1) := dg_L_law_1590.2.2.2.2.2.2.2.2.2.2.2.2.2.1
theorem dL_law_1606 : decode cL_law 1606 = .ok (.invokevirtual 134, 3) := dg_L_law_1590.2.2.2.2.2.2.2.2.2.2.2.2.2.2.1
theorem dL_law_1609 : decode cL_law 1609 = .ok (.pop, 1) := dg_L_law_1590.2.2.2.2.2.2.2.2.2.2.2.2.2.2.2
theorem dg_L_law_1610 : (decode cL_law 1610 = .ok (.goto 261, 3)) ∧ (decode cL_law 1613 = .ok (.aload_n 1, 1)) ∧ (decode cL_law 1614 = .ok (.aload_n 0, 1)) ∧ (decode cL_law 1615 = .ok (.iload_n 3, 1)) ∧ (decode cL_law 1616 = .ok (.iconst 1, 1)) ∧ (decode cL_law 1617 = .ok (.iadd, 1)) ∧ (decode cL_law 1618 = .ok (.iaload, 1)) ∧ (decode cL_law 1619 = .ok (.aload_n 0, 1)) ∧ (decode cL_law 1620 = .ok (.iload_n 3, 1)) ∧ (decode cL_law 1621 = .ok (.iconst 2, 1)) ∧ (decode cL_law 1622 = .ok (.iadd, 1)) ∧ (decode cL_law 1623 = .ok (.iaload, 1)) ∧ (decode cL_law 1624 = .ok (.invokevirtual 135, 3)) ∧ (decode cL_law 1627 = .ok (.pop2, 1)) ∧ (decode cL_law 1628 = .ok (.aload_n 2, 1)) ∧ (decode cL_law 1629 = .ok (.aload_n 0, 1)) := by decide +kernel
theorem dL_law_1610 : decode cL_law 1610 = .ok (.goto 261, 3) := dg_L_law_1610.1
theorem dL_law_1613 : decode cL_law 1613 = .ok (.aload_n 1, 1) := dg_L_law_1610.2.1
theorem dL_law_1614 : decode cL_law 1614 = .ok (.aload_n 0, 1) := dg_L_law_1610.2.2.1
theorem dL_law_1615 : decode cL_law 1615 = .ok (.iload_n 3, 1) := dg_L_law_1610.2.2.2.1
theorem dL_law_1616 : decode cL_law 1616 = .ok (.iconst 1, 1) := dg_L_law_1610.2.2.2.2.1
theorem dL_law_1617 : decode cL_law 1617 = .ok (.iadd, 1) := dg_L_law_1610.2.2.2.2.2.1
theorem dL_law_1618 : decode cL_law 1618 = .ok (.iaload, 1) := dg_L_law_1610.2.2.2.2.2.2.1
theorem dL_law_1619 : decode cL_law 1619 = .ok (.aload_n 0, 1) := dg_L_law_1610.2.2.2.2.2.2.2.1
theorem dL_law_1620 : decode cL_law 1620 = .ok (.iload_n 3, 1) := dg_L_law_1610.2.2.2.2.2.2.2.2.1
theorem dL_law_1621 : decode cL_law 1621 = .ok (.iconst 2, 1) := dg_L_law_1610.2.2.2.2.2.2.2.2.2.1
theorem dL_law_1622 : decode cL_law 1622 = .ok (.iadd, 1) := dg_L_law_1610.2.2.2.2.2.2.2.2.2.2.1
theorem dL_law_1623 : decode cL_law 1623 = .ok (.iaload, 1) := dg_L_law_1610.2.2.2.2.2.2.2.2.2.2.2.1
theorem dL_law_1624 : decode cL_law 1624 = .ok (.invokevirtual 135, 3) := dg_L_law_1610.2.2.2.2.2.2.2.2.2.2.2.2.1
theorem dL_law_1627 : decode cL_law 1627 = .ok (.pop2, 1) := dg_L_law_1610.2.2.2.2.2.2.2.2.2.2.2.2.2.1
theorem dL_law_1628 : decode cL_law 1628 = .ok (.aload_n 2, 1) := dg_L_law_1610.2.2.2.2.2.2.2.2.2.2.2.2.2.2.1
theorem dL_law_1629 : decode cL_law 1629 = .ok (.aload_n 0, 1) := dg_L_law_1610.2.2.2.2.2.2.2.2.2.2.2.2.2.2.2
theorem dg_L_law_1630 : (decode cL_law 1630 = .ok (.iload_n 3, 1)) ∧ (decode cL_law 1631 = .ok (.iconst 1, 1)) ∧ (decode cL_law 1632 = .ok (.iadd, 1)) ∧ (decode cL_law 1633 = .ok (.iaload, 1)) ∧ (decode cL_law 1634 = .ok (.aload_n 0, 1)) ∧ (decode cL_law 1635 = .ok (.iload_n 3, 1)) ∧ (decode cL_law 1636 = .ok (.iconst 2, 1)) ∧ (decode cL_law 1637 = .ok (.iadd, 1)) ∧ (decode cL_law 1638 = .ok (.iaload, 1)) ∧ (decode cL_law 1639 = .ok (.invokevirtual 139, 3)) ∧ (decode cL_law 1642 = .ok (.pop2, 1)) ∧ (decode cL_law 1643 = .ok (.goto 228, 3)) ∧ (decode cL_law 1646 = .ok (.aload_n 1, 1)) ∧ (decode cL_law 1647 = .ok (.aload_n 0, 1)) ∧ (decode cL_law 1648 = .ok (.iload_n 3, 1)) ∧ (decode cL_law 1649 = .ok (.iconst 1, 1)) := by decide +kernel
theorem dL_law_1630 : decode cL_law 1630 = .ok (.iload_n 3, 1) := dg_L_law_1630.1
theorem dL_law_1631 : decode cL_law 1631 = .ok (.iconst 1, 1) := dg_L_law_1630.2.1
theorem dL_law_1632 : decode cL_law 1632 = .ok (.iadd, 1) := dg_L_law_1630.2.2.1
theorem dL_law_1633 : decode cL_law 1633 = .ok (.iaload, 1) := dg_L_law_1630.2.2.2.1
theorem dL_law_1634 : decode cL_law 1634 = .ok (.aload_n 0, 1) := dg_L_law_1630.2.2.2.2.1
theorem dL_law_1635 : decode cL_law 1635 = .ok (.iload_n 3, 1) := dg_L_law_1630.2.2.2.2.2.1
theorem dL_law_1636 : decode cL_law 1636 = .ok (.iconst 2, 1) := dg_L_law_1630.2.2.2.2.2.2.1
theorem dL_law_1637 : decode cL_law 1637 = .ok (.iadd, 1) := dg_L_law_1630.2.2.2.2.2.2.2.1
theorem dL_law_1638 : decode cL_law 1638 = .ok (.iaload, 1) := dg_L_law_1630.2.2.2.2.2.2.2.2.1
theorem dL_law_1639 : decode cL_law 1639 = .ok (.invokevirtual 139, 3) := dg_L_law_1630.2.2.2.2.2.2.2.2.2.1
theorem dL_law_1642 : decode cL_law 1642 = .ok (.pop2, 1) := dg_L_law_1630.2.2.2.2.2.2.2.2.2.2.1
theorem dL_law_1643 : decode cL_law 1643 = .ok (.goto 228, 3) := dg_L_law_1630.2.2.2.2.2.2.2.2.2.2.2.1
theorem dL_law_1646 : decode cL_law 1646 = .ok (.aload_n 1, 1) := dg_L_law_1630.2.2.2.2.2.2.2.2.2.2.2.2.1
theorem dL_law_1647 : decode cL_law 1647 = .ok (.aload_n 0, 1) := dg_L_law_1630.2.2.2.2.2.2.2.2.2.2.2.2.2.1
theorem dL_law_1648 : decode cL_law 1648 = .ok (.iload_n 3, 1) := dg_L_law_1630.2.2.2.2.2.2.2.2.2.2.2.2.2.2.1
theorem dL_law_1649 : decode cL_law 1649 = .ok (.iconst 1, 1) := dg_L_law_1630.2.2.2.2.2.2.2.2.2.2.2.2.2.2.2
theorem dg_L_law_1650 : (decode cL_law 1650 = .ok (.iadd, 1)) ∧ (decode cL_law 1651 = .ok (.iaload, 1)) ∧ (decode cL_law 1652 = .ok (.aload_n 0, 1)) ∧ (decode cL_law 1653 = .ok (.iload_n 3, 1)) ∧ (decode cL_law 1654 = .ok (.iconst 2, 1)) ∧ (decode cL_law 1655 = .ok (.iadd, 1)) ∧ (decode cL_law 1656 = .ok (.iaload, 1)) ∧ (decode cL_law 1657 = .ok (.aload_n 0, 1)) ∧ (decode cL_law 1658 = .ok (.iload_n 3, 1)) ∧ (decode cL_law 1659 = .ok (.iconst 3, 1)) ∧ (decode cL_law 1660 = .ok (.iadd, 1)) ∧ (decode cL_law 1661 = .ok (.iaload, 1)) ∧ (decode cL_law 1662 = .ok (.aload_n 0, 1)) ∧ (decode cL_law 1663 = .ok (.iload_n 3, 1)) ∧ (decode cL_law 1664 = .ok (.iconst 4, 1)) ∧ (decode cL_law 1665 = .ok (.iadd, 1)) := by decide +kernel
theorem dL_law_1650 : decode cL_law 1650 = .ok (.iadd, 1) := dg_L_law_1650.1
theorem dL_law_1651 : decode cL_law 1651 = .ok (.iaload, 1) := dg_L_law_1650.2.1
theorem dL_law_1652 : decode cL_law 1652 = .ok (.aload_n 0, 1) := dg_L_law_1650.2.2.1
theorem dL_law_1653 : decode cL_law 1653 = .ok (.iload_n 3, 1) := dg_L_law_1650.2.2.2.1
theorem dL_law_1654 : decode cL_law 1654 = .ok (.iconst 2, 1) := dg_L_law_1650.2.2.2.2.1
theorem dL_law_1655 : decode cL_law 1655 = .ok (.iadd, 1) := dg_L_law_1650.2.2.2.2.2.1
theorem dL_law_1656 : decode cL_law 1656 = .ok (.iaload, 1) := dg_L_law_1650.2.2.2.2.2.2.1
theorem dL_law_1657 : decode cL_law 1657 = .ok (.aload_n 0, 1) := dg_L_law_1650.2.2.2.2.2.2.2.1
theorem dL_law_1658 : decode cL_law 1658 = .ok (.iload_n 3, 1) := dg_L_law_1650.2.2.2.2.2.2.2.2.1
theorem dL_law_1659 : decode cL_law 1659 = .ok (.iconst 3, 1) := dg_L_law_1650.2.2.2.2.2.2.2.2.2.1
theorem dL_law_1660 : decode cL_law 1660 = .ok (.iadd, 1) := dg_L_law_1650.2.2.2.2.2.2.2.2.2.2.1
theorem dL_law_1661 : decode cL_law 1661 = .ok (.iaload, 1) := dg_L_law_1650.2.2.2.2.2.2.2.2.2.2.2.1
theorem dL_law_1662 : decode cL_law 1662 = .ok (.aload_n 0, 1) := dg_L_law_1650.2.2.2.2.2.2.2.2.2.2.2.2.1
theorem dL_law_1663 : decode cL_law 1663 = .ok (.iload_n 3, 1) := dg_L_law_1650.2.2.2.2.2.2.2.2.2.2.2.2.2.1
theorem dL_law_1664 : decode cL_law 1664 = .ok (.iconst 4, 1) := dg_L_law_1650.2.2.2.2.2.2.2.2.2.2.2.2.2.2.1
theorem dL_law_1665 : decode cL_law 1665 = .ok (.iadd, 1) := dg_L_law_1650.2.2.2.2.2.2.2.2.2.2.2.2.2.2.2
theorem dg_L_law_1666 : (decode cL_law 1666 = .ok (.iaload, 1)) ∧ (decode cL_law 1667 = .ok (.i2l, 1)) ∧ (decode cL_law 1668 = .ok (.bipush 32, 2)) ∧ (decode cL_law 1670 = .ok (.lshl, 1)) ∧ (decode cL_law 1671 = .ok (.aload_n 0, 1)) ∧ (decode cL_law 1672 = .ok (.iload_n 3, 1)) ∧ (decode cL_law 1673 = .ok (.iconst 5, 1)) ∧ (decode cL_law 1674 = .ok (.iadd, 1)) ∧ (decode cL_law 1675 = .ok (.iaload, 1)) ∧ (decode cL_law 1676 = .ok (.i2l, 1)) ∧ (decode cL_law 1677 = .ok (.ldc2_w 49, 3)) ∧ (decode cL_law 1680 = .ok (.land, 1)) ∧ (decode cL_law 1681 = .ok (.lor, 1)) ∧ (decode cL_law 1682 = .ok (.aload_n 0, 1)) ∧ (decode cL_law 1683 = .ok (.iload_n 3, 1)) ∧ (decode cL_law 1684 = .ok (.bipush 6, 2)) := by decide +kernel
theorem dL_law_1666 : decode cL_law 1666 = .ok (.iaload, 1) := dg_L_law_1666.1
theorem dL_law_1667 : decode cL_law 1667 = .ok (.i2l, 1) := dg_L_law_1666.2.1
theorem dL_law_1668 : decode cL_law 1668 = .ok (.bipush 32, 2) := dg_L_law_1666.2.2.1
theorem dL_law_1670 : decode cL_law 1670 = .ok (.lshl, 1) := dg_L_law_1666.2.2.2.1
theorem dL_law_1671 : decode cL_law 1671 = .ok (.aload_n 0, 1) := dg_L_law_1666.2.2.2.2.1
theorem dL_law_1672 : decode cL_law 1672 = .ok (.iload_n 3, 1) := dg_L_law_1666.2.2.2.2.2.1
theorem dL_law_1673 : decode cL_law 1673 = .ok (.iconst 5, 1) := dg_L_law_1666.2.2.2.2.2.2.1
theorem dL_law_1674 : decode cL_law 1674 = .ok (.iadd, 1) := dg_L_law_1666.2.2.2.2.2.2.2.1
theorem dL_law_1675 : decode cL_law 1675 = .ok (.iaload, 1) := dg_L_law_1666.2.2.2.2.2.2.2.2.1
theorem dL_law_1676 : decode cL_law 1676 = .ok (.i2l, 1) := dg_L_law_1666.2.2.2.2.2.2.2.2.2.1
theorem dL_law_1677 : decode cL_law 1677 = .ok (.ldc2_w 49, 3) := dg_L_law_1666.2.2.2.2.2.2.2.2.2.2.1
theorem dL_law_1680 : decode cL_law 1680 = .ok (.land, 1) := dg_L_law_1666.2.2.2.2.2.2.2.2.2.2.2.1
theorem dL_law_1681 : decode cL_law 1681 = .ok (.lor, 1) := dg_L_law_1666.2.2.2.2.2.2.2.2.2.2.2.2.1
theorem dL_law_1682 : decode cL_law 1682 = .ok (.aload_n 0, 1) := dg_L_law_1666.2.2.2.2.2.2.2.2.2.2.2.2.2.1
theorem dL_law_1683 : decode cL_law 1683 = .ok (.iload_n 3, 1) := dg_L_law_1666.2.2.2.2.2.2.2.2.2.2.2.2.2.2.1
theorem dL_law_1684 : decode cL_law 1684 = .ok (.bipush 6, 2) := dg_L_law_1666.2.2.2.2.2.2.2.2.2.2.2.2.2.2.2
theorem dg_L_law_1686 : (decode cL_law 1686 = .ok (.iadd, 1)) ∧ (decode cL_law 1687 = .ok (.iaload, 1)) ∧ (decode cL_law 1688 = .ok (.i2l, 1)) ∧ (decode cL_law 1689 = .ok (.bipush 32, 2)) ∧ (decode cL_law 1691 = .ok (.lshl, 1)) ∧ (decode cL_law 1692 = .ok (.aload_n 0, 1)) ∧ (decode cL_law 1693 = .ok (.iload_n 3, 1)) ∧ (decode cL_law 1694 = .ok (.bipush 7, 2)) ∧ (decode cL_law 1696 = .ok (.iadd, 1)) ∧ (decode cL_law 1697 = .ok (.iaload, 1)) ∧ (decode cL_law 1698 = .ok (.i2l, 1)) ∧ (decode cL_law 1699 = .ok (.ldc2_w 49, 3)) ∧ (decode cL_law 1702 = .ok (.land, 1)) ∧ (decode cL_law 1703 = .ok (.lor, 1)) ∧ (decode cL_law 1704 = .ok (.invokevirtual 140, 3)) ∧ (decode cL_law 1707 = .ok (.pop, 1)) := by decide +kernel
theorem dL_law_1686 : decode cL_law 1686 = .ok (.iadd, 1) := dg_L_law_1686.1
theorem dL_law_1687 : decode cL_law 1687 = .ok (.iaload, 1) := dg_L_law_1686.2.1
theorem dL_law_1688 : decode cL_law 1688 = .ok (.i2l, 1) := dg_L_law_1686.2.2.1
theorem dL_law_1689 : decode cL_law 1689 = .ok (.bipush 32, 2) := dg_L_law_1686.2.2.2.1
theorem dL_law_1691 : decode cL_law 1691 = .ok (.lshl, 1) := dg_L_law_1686.2.2.2.2.1
theorem dL_law_1692 : decode cL_law 1692 = .ok (.aload_n 0, 1) := dg_L_law_1686.2.2.2.2.2.1
theorem dL_law_1693 : decode cL_law 1693 = .ok (.iload_n 3, 1) := dg_L_law_1686.2.2.2.2.2.2.1
theorem dL_law_1694 : decode cL_law 1694 = .ok (.bipush 7, 2) := dg_L_law_1686.2.2.2.2.2.2.2.1
theorem dL_law_1696 : decode cL_law 1696 = .ok (.iadd, 1) := dg_L_law_1686.2.2.2.2.2.2.2.2.1
theorem dL_law_1697 : decode cL_law 1697 = .ok (.iaload, 1) := dg_L_law_1686.2.2.2.2.2.2.2.2.2.1
theorem dL_law_1698 : decode cL_law 1698 = .ok (.i2l, 1) := dg_L_law_1686.2.2.2.2.2.2.2.2.2.2.1
theorem dL_law_1699 : decode cL_law 1699 = .ok (.ldc2_w 49, 3) := dg_L_law_1686.2.2.2.2.2.2.2.2.2.2.2.1
theorem dL_law_1702 : decode cL_law 1702 = .ok (.land, 1) := dg_L_law_1686.2.2.2.2.2.2.2.2.2.2.2.2.1
theorem dL_law_1703 : decode cL_law 1703 = .ok (.lor, 1) := dg_L_law_1686.2.2.2.2.2.2.2.2.2.2.2.2.2.1
theorem dL_law_1704 : decode cL_law 1704 = .ok (.invokevirtual 140, 3) := dg_L_law_1686.2.2.2.2.2.2.2.2.2.2.2.2.2.2.1
theorem dL_law_1707 : decode cL_law 1707 = .ok (.pop, 1) := dg_L_law_1686.2.2.2.2.2.2.2.2.2.2.2.2.2.2.2
theorem dg_L_law_1708 : (decode cL_law 1708 = .ok (.aload_n 2, 1)) ∧ (decode cL_law 1709 = .ok (.aload_n 0, 1)) ∧ (decode cL_law 1710 = .ok (.iload_n 3, 1)) ∧ (decode cL_law 1711 = .ok (.iconst 1, 1)) ∧ (decode cL_law 1712 = .ok (.iadd, 1)) ∧ (decode cL_law 1713 = .ok (.iaload, 1)) ∧ (decode cL_law 1714 = .ok (.aload_n 0, 1)) ∧ (decode cL_law 1715 = .ok (.iload_n 3, 1)) ∧ (decode cL_law 1716 = .ok (.iconst 2, 1)) ∧ (decode cL_law 1717 = .ok (.iadd, 1)) ∧ (decode cL_law 1718 = .ok (.iaload, 1)) ∧ (decode cL_law 1719 = .ok (.aload_n 0, 1)) ∧ (decode cL_law 1720 = .ok (.iload_n 3, 1)) ∧ (decode cL_law 1721 = .ok (.iconst 3, 1)) ∧ (decode cL_law 1722 = .ok (.iadd, 1)) ∧ (decode cL_law 1723 = .ok (.iaload, 1)) := by decide +kernel
theorem dL_law_1708 : decode cL_law 1708 = .ok (.aload_n 2, 1) := dg_L_law_1708.1
theorem dL_law_1709 : decode cL_law 1709 = .ok (.aload_n 0, 1) := dg_L_law_1708.2.1
theorem dL_law_1710 : decode cL_law 1710 = .ok (.iload_n 3, 1) := dg_L_law_1708.2.2.1
theorem dL_law_1711 : decode cL_law 1711 = .ok (.iconst 1, 1) := dg_L_law_1708.2.2.2.1
theorem dL_law_1712 : decode cL_law 1712 = .ok (.iadd, 1) := dg_L_law_1708.2.2.2.2.1
theorem dL_law_1713 : decode cL_law 1713 = .ok (.iaload, 1) := dg_L_law_1708.2.2.2.2.2.1
theorem dL_law_1714 : decode cL_law 1714 = .ok (.aload_n 0, 1) := dg_L_law_1708.2.2.2.2.2.2.1
theorem dL_law_1715 : decode cL_law 1715 = .ok (.iload_n 3, 1) := dg_L_law_1708.2.2.2.2.2.2.2.1
theorem dL_law_1716 : decode cL_law 1716 = .ok (.iconst 2, 1) := dg_L_law_1708.2.2.2.2.2.2.2.2.1
theorem dL_law_1717 : decode cL_law 1717 = .ok (.iadd, 1) := dg_L_law_1708.2.2.2.2.2.2.2.2.2.1
theorem dL_law_1718 : decode cL_law 1718 = .ok (.iaload, 1) := dg_L_law_1708.2.2.2.2.2.2.2.2.2.2.1
theorem dL_law_1719 : decode cL_law 1719 = .ok (.aload_n 0, 1) := dg_L_law_1708.2.2.2.2.2.2.2.2.2.2.2.1
theorem dL_law_1720 : decode cL_law 1720 = .ok (.iload_n 3, 1) := dg_L_law_1708.2.2.2.2.2.2.2.2.2.2.2.2.1
theorem dL_law_1721 : decode cL_law 1721 = .ok (.iconst 3, 1) := dg_L_law_1708.2.2.2.2.2.2.2.2.2.2.2.2.2.1
theorem dL_law_1722 : decode cL_law 1722 = .ok (.iadd, 1) := dg_L_law_1708.2.2.2.2.2.2.2.2.2.2.2.2.2.2.1
theorem dL_law_1723 : decode cL_law 1723 = .ok (.iaload, 1) := dg_L_law_1708.2.2.2.2.2.2.2.2.2.2.2.2.2.2.2
theorem dg_L_law_1724 : (decode cL_law 1724 = .ok (.aload_n 0, 1)) ∧ (decode cL_law 1725 = .ok (.iload_n 3, 1)) ∧ (decode cL_law 1726 = .ok (.iconst 4, 1)) ∧ (decode cL_law 1727 = .ok (.iadd, 1)) ∧ (decode cL_law 1728 = .ok (.iaload, 1)) ∧ (decode cL_law 1729 = .ok (.i2l, 1)) ∧ (decode cL_law 1730 = .ok (.bipush 32, 2)) ∧ (decode cL_law 1732 = .ok (.lshl, 1)) ∧ (decode cL_law 1733 = .ok (.aload_n 0, 1)) ∧ (decode cL_law 1734 = .ok (.iload_n 3, 1)) ∧ (decode cL_law 1735 = .ok (.iconst 5, 1)) ∧ (decode cL_law 1736 = .ok (.iadd, 1)) ∧ (decode cL_law 1737 = .ok (.iaload, 1)) ∧ (decode cL_law 1738 = .ok (.i2l, 1)) ∧ (decode cL_law 1739 = .ok (.ldc2_w 49, 3)) ∧ (decode cL_law 1742 = .ok (.land, 1)) := by decide +kernel
theorem dL_law_1724 : decode cL_law 1724 = .ok (.aload_n 0, 1) := dg_L_law_1724.1
theorem dL_law_1725 : decode cL_law 1725 = .ok (.iload_n 3, 1) := dg_L_law_1724.2.1
theorem dL_law_1726 : decode cL_law 1726 = .ok (.iconst 4, 1) := dg_L_law_1724.2.2.1
theorem dL_law_1727 : decode cL_law 1727 = .ok (.iadd, 1) := dg_L_law_1724.2.2.2.1
theorem dL_law_1728 : decode cL_law 1728 = .ok (.iaload, 1) := dg_L_law_1724.2.2.2.2.1
theorem dL_law_1729 : decode cL_law 1729 = .ok (.i2l, 1) := dg_L_law_1724.2.2.2.2.2.1
theorem dL_law_1730 : decode cL_law 1730 = .ok (.bipush 32, 2) := dg_L_law_1724.2.2.2.2.2.2.1
theorem dL_law_1732 : decode cL_law 1732 = .ok (.lshl, 1) := dg_L_law_1724.2.2.2.2.2.2.2.1
theorem dL_law_1733 : decode cL_law 1733 = .ok (.aload_n 0, 1) := dg_L_law_1724.2.2.2.2.2.2.2.2.1
theorem dL_law_1734 : decode cL_law 1734 = .ok (.iload_n 3, 1) := dg_L_law_1724.2.2.2.2.2.2.2.2.2.1
theorem dL_law_1735 : decode cL_law 1735 = .ok (.iconst 5, 1) := dg_L_law_1724.2.2.2.2.2.2.2.2.2.2.1
theorem dL_law_1736 : decode cL_law 1736 = .ok (.iadd, 1) := dg_L_law_1724.2.2.2.2.2.2.2.2.2.2.2.1
theorem dL_law_1737 : decode cL_law 1737 = .ok (.iaload, 1) := dg_L_law_1724.2.2.2.2.2.2.2.2.2.2.2.2.1
theorem dL_law_1738 : decode cL_law 1738 = .ok (.i2l, 1) := dg_L_law_1724.2.2.2.2.2.2.2.2.2.2.2.2.2.1
theorem dL_law_1739 : decode cL_law 1739 = .ok (.ldc2_w 49, 3) := dg_L_law_1724.2.2.2.2.2.2.2.2.2.2.2.2.2.2.1
theorem dL_law_1742 : decode cL_law 1742 = .ok (.land, 1) := dg_L_law_1724.2.2.2.2.2.2.2.2.2.2.2.2.2.2.2
theorem dg_L_law_1743 : (decode cL_law 1743 = .ok (.lor, 1)) ∧ (decode cL_law 1744 = .ok (.aload_n 0, 1)) ∧ (decode cL_law 1745 = .ok (.iload_n 3, 1)) ∧ (decode cL_law 1746 = .ok (.bipush 6, 2)) ∧ (decode cL_law 1748 = .ok (.iadd, 1)) ∧ (decode cL_law 1749 = .ok (.iaload, 1)) ∧ (decode cL_law 1750 = .ok (.i2l, 1)) ∧ (decode cL_law 1751 = .ok (.bipush 32, 2)) ∧ (decode cL_law 1753 = .ok (.lshl, 1)) ∧ (decode cL_law 1754 = .ok (.aload_n 0, 1)) ∧ (decode cL_law 1755 = .ok (.iload_n 3, 1)) ∧ (decode cL_law 1756 = .ok (.bipush 7, 2)) ∧ (decode cL_law 1758 = .ok (.iadd, 1)) ∧ (decode cL_law 1759 = .ok (.iaload, 1)) ∧ (decode cL_law 1760 = .ok (.i2l, 1)) ∧ (decode cL_law 1761 = .ok (.ldc2_w 49, 3)) := by decide +kernel
theorem dL_law_1743 : decode cL_law 1743 = .ok (.lor, 1) := dg_L_law_1743.1
theorem dL_law_1744 : decode cL_law 1744 = .ok (.aload_n 0, 1) := dg_L_law_1743.2.1
theorem dL_law_1745 : decode cL_law 1745 = .ok (.iload_n 3, 1) := dg_L_law_1743.2.2.1
theorem dL_law_1746 : decode cL_law 1746 = .ok (.bipush 6, 2) := dg_L_law_1743.2.2.2.1
theorem dL_law_1748 : decode cL_law 1748 = .ok (.iadd, 1) := dg_L_law_1743.2.2.2.2.1
theorem dL_law_1749 : decode cL_law 1749 = .ok (.iaload, 1) := dg_L_law_1743.2.2.2.2.2.1
theorem dL_law_1750 : decode cL_law 1750 = .ok (.i2l, 1) := dg_L_law_1743.2.2.2.2.2.2.1
theorem dL_law_1751 : decode cL_law 1751 = .ok (.bipush 32, 2) := dg_L_law_1743.2.2.2.2.2.2.2.1
theorem dL_law_1753 : decode cL_law 1753 = .ok (.lshl, 1) := dg_L_law_1743.2.2.2.2.2.2.2.2.1
theorem dL_law_1754 : decode cL_law 1754 = .ok (.aload_n 0, 1) := dg_L_law_1743.2.2.2.2.2.2.2.2.2.1
theorem dL_law_1755 : decode cL_law 1755 = .ok (.iload_n 3, 1) := dg_L_law_1743.2.2.2.2.2.2.2.2.2.2.1
theorem dL_law_1756 : decode cL_law 1756 = .ok (.bipush 7, 2) := dg_L_law_1743.2.2.2.2.2.2.2.2.2.2.2.1
theorem dL_law_1758 : decode cL_law 1758 = .ok (.iadd, 1) := dg_L_law_1743.2.2.2.2.2.2.2.2.2.2.2.2.1
theorem dL_law_1759 : decode cL_law 1759 = .ok (.iaload, 1) := dg_L_law_1743.2.2.2.2.2.2.2.2.2.2.2.2.2.1
theorem dL_law_1760 : decode cL_law 1760 = .ok (.i2l, 1) := dg_L_law_1743.2.2.2.2.2.2.2.2.2.2.2.2.2.2.1
theorem dL_law_1761 : decode cL_law 1761 = .ok (.ldc2_w 49, 3) := dg_L_law_1743.2.2.2.2.2.2.2.2.2.2.2.2.2.2.2
theorem dg_L_law_1764 : (decode cL_law 1764 = .ok (.land, 1)) ∧ (decode cL_law 1765 = .ok (.lor, 1)) ∧ (decode cL_law 1766 = .ok (.invokevirtual 144, 3)) ∧ (decode cL_law 1769 = .ok (.pop, 1)) ∧ (decode cL_law 1770 = .ok (.goto 101, 3)) ∧ (decode cL_law 1773 = .ok (.aload_n 1, 1)) ∧ (decode cL_law 1774 = .ok (.aload_n 0, 1)) ∧ (decode cL_law 1775 = .ok (.iload_n 3, 1)) ∧ (decode cL_law 1776 = .ok (.iconst 1, 1)) ∧ (decode cL_law 1777 = .ok (.iadd, 1)) ∧ (decode cL_law 1778 = .ok (.iaload, 1)) ∧ (decode cL_law 1779 = .ok (.invokevirtual 145, 3)) ∧ (decode cL_law 1782 = .ok (.pop2, 1)) ∧ (decode cL_law 1783 = .ok (.aload_n 2, 1)) ∧ (decode cL_law 1784 = .ok (.aload_n 0, 1)) ∧ (decode cL_law 1785 = .ok (.iload_n 3, 1)) := by decide +kernel
theorem dL_law_1764 : decode cL_law 1764 = .ok (.land, 1) := dg_L_law_1764.1
theorem dL_law_1765 : decode cL_law 1765 = .ok (.lor, 1) := dg_L_law_1764.2.1
theorem dL_law_1766 : decode cL_law 1766 = .ok (.invokevirtual 144, 3) := dg_L_law_1764.2.2.1
theorem dL_law_1769 : decode cL_law 1769 = .ok (.pop, 1) := dg_L_law_1764.2.2.2.1
theorem dL_law_1770 : decode cL_law 1770 = .ok (.goto 101, 3) := dg_L_law_1764.2.2.2.2.1
theorem dL_law_1773 : decode cL_law 1773 = .ok (.aload_n 1, 1) := dg_L_law_1764.2.2.2.2.2.1
theorem dL_law_1774 : decode cL_law 1774 = .ok (.aload_n 0, 1) := dg_L_law_1764.2.2.2.2.2.2.1
theorem dL_law_1775 : decode cL_law 1775 = .ok (.iload_n 3, 1) := dg_L_law_1764.2.2.2.2.2.2.2.1
theorem dL_law_1776 : decode cL_law 1776 = .ok (.iconst 1, 1) := dg_L_law_1764.2.2.2.2.2.2.2.2.1
theorem dL_law_1777 : decode cL_law 1777 = .ok (.iadd, 1) := dg_L_law_1764.2.2.2.2.2.2.2.2.2.1
theorem dL_law_1778 : decode cL_law 1778 = .ok (.iaload, 1) := dg_L_law_1764.2.2.2.2.2.2.2.2.2.2.1
theorem dL_law_1779 : decode cL_law 1779 = .ok (.invokevirtual 145, 3) := dg_L_law_1764.2.2.2.2.2.2.2.2.2.2.2.1
theorem dL_law_1782 : decode cL_law 1782 = .ok (.pop2, 1) := dg_L_law_1764.2.2.2.2.2.2.2.2.2.2.2.2.1
theorem dL_law_1783 : decode cL_law 1783 = .ok (.aload_n 2, 1) := dg_L_law_1764.2.2.2.2.2.2.2.2.2.2.2.2.2.1
theorem dL_law_1784 : decode cL_law 1784 = .ok (.aload_n 0, 1) := dg_L_law_1764.2.2.2.2.2.2.2.2.2.2.2.2.2.2.1
theorem dL_law_1785 : decode cL_law 1785 = .ok (.iload_n 3, 1) := dg_L_law_1764.2.2.2.2.2.2.2.2.2.2.2.2.2.2.2
theorem dg_L_law_1786 : (decode cL_law 1786 = .ok (.iconst 1, 1)) ∧ (decode cL_law 1787 = .ok (.iadd, 1)) ∧ (decode cL_law 1788 = .ok (.iaload, 1)) ∧ (decode cL_law 1789 = .ok (.invokevirtual 149, 3)) ∧ (decode cL_law 1792 = .ok (.pop2, 1)) ∧ (decode cL_law 1793 = .ok (.goto 78, 3)) ∧ (decode cL_law 1796 = .ok (.aload_n 1, 1)) ∧ (decode cL_law 1797 = .ok (.invokevirtual 150, 3)) ∧ (decode cL_law 1800 = .ok (.pop2, 1)) ∧ (decode cL_law 1801 = .ok (.aload_n 2, 1)) ∧ (decode cL_law 1802 = .ok (.invokevirtual 154, 3)) ∧ (decode cL_law 1805 = .ok (.pop2, 1)) ∧ (decode cL_law 1806 = .ok (.goto 65, 3)) ∧ (decode cL_law 1809 = .ok (.aload_n 1, 1)) ∧ (decode cL_law 1810 = .ok (.invokevirtual 155, 3)) ∧ (decode cL_law 1813 = .ok (.pop, 1)) := by decide +kernel
theorem dL_law_1786 : decode cL_law 1786 = .ok (.iconst 1, 1) := dg_L_law_1786.1
theorem dL_law_1787 : decode cL_law 1787 = .ok (.iadd, 1) := dg_L_law_1786.2.1
theorem dL_law_1788 : decode cL_law 1788 = .ok (.iaload, 1) := dg_L_law_1786.2.2.1
theorem dL_law_1789 : decode cL_law 1789 = .ok (.invokevirtual 149, 3) := dg_L_law_1786.2.2.2.1
theorem dL_law_1792 : decode cL_law 1792 = .ok (.pop2, 1) := dg_L_law_1786.2.2.2.2.1
theorem dL_law_1793 : decode cL_law 1793 = .ok (.goto 78, 3) := dg_L_law_1786.2.2.2.2.2.1
theorem dL_law_1796 : decode cL_law 1796 = .ok (.aload_n 1, 1) := dg_L_law_1786.2.2.2.2.2.2.1
theorem dL_law_1797 : decode cL_law 1797 = .ok (.invokevirtual 150, 3) := dg_L_law_1786.2.2.2.2.2.2.2.1
theorem dL_law_1800 : decode cL_law 1800 = .ok (.pop2, 1) := dg_L_law_1786.2.2.2.2.2.2.2.2.1
theorem dL_law_1801 : decode cL_law 1801 = .ok (.aload_n 2, 1) := dg_L_law_1786.2.2.2.2.2.2.2.2.2.1
theorem dL_law_1802 : decode cL_law 1802 = .ok (.invokevirtual 154, 3) := dg_L_law_1786.2.2.2.2.2.2.2.2.2.2.1
theorem dL_law_1805 : decode cL_law 1805 = .ok (.pop2, 1) := dg_L_law_1786.2.2.2.2.2.2.2.2.2.2.2.1
theorem dL_law_1806 : decode cL_law 1806 = .ok (.goto 65, 3) := dg_L_law_1786.2.2.2.2.2.2.2.2.2.2.2.2.1
theorem dL_law_1809 : decode cL_law 1809 = .ok (.aload_n 1, 1) := dg_L_law_1786.2.2.2.2.2.2.2.2.2.2.2.2.2.1
theorem dL_law_1810 : decode cL_law 1810 = .ok (.invokevirtual 155, 3) := dg_L_law_1786.2.2.2.2.2.2.2.2.2.2.2.2.2.2.1
theorem dL_law_1813 : decode cL_law 1813 = .ok (.pop, 1) := dg_L_law_1786.2.2.2.2.2.2.2.2.2.2.2.2.2.2.2
theorem dg_L_law_1814 : (decode cL_law 1814 = .ok (.aload_n 2, 1)) ∧ (decode cL_law 1815 = .ok (.invokevirtual 158, 3)) ∧ (decode cL_law 1818 = .ok (.pop, 1)) ∧ (decode cL_law 1819 = .ok (.goto 52, 3)) ∧ (decode cL_law 1822 = .ok (.aload_n 1, 1)) ∧ (decode cL_law 1823 = .ok (.invokevirtual 159, 3)) ∧ (decode cL_law 1826 = .ok (.pop, 1)) ∧ (decode cL_law 1827 = .ok (.aload_n 2, 1)) ∧ (decode cL_law 1828 = .ok (.invokevirtual 162, 3)) ∧ (decode cL_law 1831 = .ok (.pop, 1)) ∧ (decode cL_law 1832 = .ok (.goto 39, 3)) ∧ (decode cL_law 1835 = .ok (.aload_n 1, 1)) ∧ (decode cL_law 1836 = .ok (.invokevirtual 163, 3)) ∧ (decode cL_law 1839 = .ok (.pop, 1)) ∧ (decode cL_law 1840 = .ok (.aload_n 2, 1)) ∧ (decode cL_law 1841 = .ok (.invokevirtual 166, 3)) := by decide +kernel
theorem dL_law_1814 : decode cL_law 1814 = .ok (.aload_n 2, 1) := dg_L_law_1814.1
theorem dL_law_1815 : decode cL_law 1815 = .ok (.invokevirtual 158, 3) := dg_L_law_1814.2.1
theorem dL_law_1818 : decode cL_law 1818 = .ok (.pop, 1) := dg_L_law_1814.2.2.1
theorem dL_law_1819 : decode cL_law 1819 = .ok (.goto 52, 3) := dg_L_law_1814.2.2.2.1
theorem dL_law_1822 : decode cL_law 1822 = .ok (.aload_n 1, 1) := dg_L_law_1814.2.2.2.2.1
theorem dL_law_1823 : decode cL_law 1823 = .ok (.invokevirtual 159, 3) := dg_L_law_1814.2.2.2.2.2.1
theorem dL_law_1826 : decode cL_law 1826 = .ok (.pop, 1) := dg_L_law_1814.2.2.2.2.2.2.1
theorem dL_law_1827 : decode cL_law 1827 = .ok (.aload_n 2, 1) := dg_L_law_1814.2.2.2.2.2.2.2.1
theorem dL_law_1828 : decode cL_law 1828 = .ok (.invokevirtual 162, 3) := dg_L_law_1814.2.2.2.2.2.2.2.2.1
theorem dL_law_1831 : decode cL_law 1831 = .ok (.pop, 1) := dg_L_law_1814.2.2.2.2.2.2.2.2.2.1
theorem dL_law_1832 : decode cL_law 1832 = .ok (.goto 39, 3) := dg_L_law_1814.2.2.2.2.2.2.2.2.2.2.1
theorem dL_law_1835 : decode cL_law 1835 = .ok (.aload_n 1, 1) := dg_L_law_1814.2.2.2.2.2.2.2.2.2.2.2.1
theorem dL_law_1836 : decode cL_law 1836 = .ok (.invokevirtual 163, 3) := dg_L_law_1814.2.2.2.2.2.2.2.2.2.2.2.2.1
theorem dL_law_1839 : decode cL_law 1839 = .ok (.pop, 1) := dg_L_law_1814.2.2.2.2.2.2.2.2.2.2.2.2.2.1
theorem dL_law_1840 : decode cL_law 1840 = .ok (.aload_n 2, 1) := dg_L_law_1814.2.2.2.2.2.2.2.2.2.2.2.2.2.2.1
theorem dL_law_1841 : decode cL_law 1841 = .ok (.invokevirtual 166, 3) := dg_L_law_1814.2.2.2.2.2.2.2.2.2.2.2.2.2.2.2
theorem dg_L_law_1844 : (decode cL_law 1844 = .ok (.pop, 1)) ∧ (decode cL_law 1845 = .ok (.goto 26, 3)) ∧ (decode cL_law 1848 = .ok (.aload_n 1, 1)) ∧ (decode cL_law 1849 = .ok (.aload_n 0, 1)) ∧ (decode cL_law 1850 = .ok (.iload_n 3, 1)) ∧ (decode cL_law 1851 = .ok (.iconst 1, 1)) ∧ (decode cL_law 1852 = .ok (.iadd, 1)) ∧ (decode cL_law 1853 = .ok (.iaload, 1)) ∧ (decode cL_law 1854 = .ok (.invokevirtual 167, 3)) ∧ (decode cL_law 1857 = .ok (.pop, 1)) ∧ (decode cL_law 1858 = .ok (.aload_n 2, 1)) ∧ (decode cL_law 1859 = .ok (.aload_n 0, 1)) ∧ (decode cL_law 1860 = .ok (.iload_n 3, 1)) ∧ (decode cL_law 1861 = .ok (.iconst 1, 1)) ∧ (decode cL_law 1862 = .ok (.iadd, 1)) ∧ (decode cL_law 1863 = .ok (.iaload, 1)) := by decide +kernel
theorem dL_law_1844 : decode cL_law 1844 = .ok (.pop, 1) := dg_L_law_1844.1
theorem dL_law_1845 : decode cL_law 1845 = .ok (.goto 26, 3) := dg_L_law_1844.2.1
theorem dL_law_1848 : decode cL_law 1848 = .ok (.aload_n 1, 1) := dg_L_law_1844.2.2.1
theorem dL_law_1849 : decode cL_law 1849 = .ok (.aload_n 0, 1) := dg_L_law_1844.2.2.2.1
theorem dL_law_1850 : decode cL_law 1850 = .ok (.iload_n 3, 1) := dg_L_law_1844.2.2.2.2.1
theorem dL_law_1851 : decode cL_law 1851 = .ok (.iconst 1, 1) := dg_L_law_1844.2.2.2.2.2.1
theorem dL_law_1852 : decode cL_law 1852 = .ok (.iadd, 1) := dg_L_law_1844.2.2.2.2.2.2.1
theorem dL_law_1853 : decode cL_law 1853 = .ok (.iaload, 1) := dg_L_law_1844.2.2.2.2.2.2.2.1
theorem dL_law_1854 : decode cL_law 1854 = .ok (.invokevirtual 167, 3) := dg_L_law_1844.2.2.2.2.2.2.2.2.1
theorem dL_law_1857 : decode cL_law 1857 = .ok (.pop, 1) := dg_L_law_1844.2.2.2.2.2.2.2.2.2.1
theorem dL_law_1858 : decode cL_law 1858 = .ok (.aload_n 2, 1) := dg_L_law_1844.2.2.2.2.2.2.2.2.2.2.1
theorem dL_law_1859 : decode cL_law 1859 = .ok (.aload_n 0, 1) := dg_L_law_1844.2.2.2.2.2.2.2.2.2.2.2.1
theorem dL_law_1860 : decode cL_law 1860 = .ok (.iload_n 3, 1) := dg_L_law_1844.2.2.2.2.2.2.2.2.2.2.2.2.1
theorem dL_law_1861 : decode cL_law 1861 = .ok (.iconst 1, 1) := dg_L_law_1844.2.2.2.2.2.2.2.2.2.2.2.2.2.1
theorem dL_law_1862 : decode cL_law 1862 = .ok (.iadd, 1) := dg_L_law_1844.2.2.2.2.2.2.2.2.2.2.2.2.2.2.1
theorem dL_law_1863 : decode cL_law 1863 = .ok (.iaload, 1) := dg_L_law_1844.2.2.2.2.2.2.2.2.2.2.2.2.2.2.2
theorem dg_L_law_1864 : (decode cL_law 1864 = .ok (.invokevirtual 170, 3)) ∧ (decode cL_law 1867 = .ok (.pop, 1)) ∧ (decode cL_law 1868 = .ok (.goto 3, 3)) ∧ (decode cL_law 1871 = .ok (.iinc 3 9, 3)) ∧ (decode cL_law 1874 = .ok (.goto (-1856), 3)) ∧ (decode cL_law 1877 = .ok (.iconst 1, 1)) ∧ (decode cL_law 1878 = .ok (.ireturn, 1)) := by decide +kernel
theorem dL_law_1864 : decode cL_law 1864 = .ok (.invokevirtual 170, 3) := dg_L_law_1864.1
theorem dL_law_1867 : decode cL_law 1867 = .ok (.pop, 1) := dg_L_law_1864.2.1
theorem dL_law_1868 : decode cL_law 1868 = .ok (.goto 3, 3) := dg_L_law_1864.2.2.1
theorem dL_law_1871 : decode cL_law 1871 = .ok (.iinc 3 9, 3) := dg_L_law_1864.2.2.2.1
theorem dL_law_1874 : decode cL_law 1874 = .ok (.goto (-1856), 3) := dg_L_law_1864.2.2.2.2.1
theorem dL_law_1877 : decode cL_law 1877 = .ok (.iconst 1, 1) := dg_L_law_1864.2.2.2.2.2.1
theorem dL_law_1878 : decode cL_law 1878 = .ok (.ireturn, 1) := dg_L_law_1864.2.2.2.2.2.2
