/-! # the law: its bytes, 5 (wip/gen/mk61.py) -/
theorem dL_law__1390 : decode cL_law_ 1390 = .ok (.iload 5, 2) := by decide +kernel
theorem dL_law__1392 : decode cL_law_ 1392 = .ok (.if_icmp .eq 5, 3) := by decide +kernel
theorem dL_law__1395 : decode cL_law_ 1395 = .ok (.iconst 0, 1) := by decide +kernel
theorem dL_law__1396 : decode cL_law_ 1396 = .ok (.ireturn, 1) := by decide +kernel
theorem dL_law__1397 : decode cL_law_ 1397 = .ok (.iload 5, 2) := by decide +kernel
theorem dL_law__1399 : decode cL_law_ 1399 = .ok (.ifCond .ne 15, 3) := by decide +kernel
theorem dL_law__1402 : decode cL_law_ 1402 = .ok (.aload_n 3, 1) := by decide +kernel
theorem dL_law__1403 : decode cL_law_ 1403 = .ok (.iconst 0, 1) := by decide +kernel
theorem dL_law__1404 : decode cL_law_ 1404 = .ok (.laload, 1) := by decide +kernel
theorem dL_law__1405 : decode cL_law_ 1405 = .ok (.iload 6, 2) := by decide +kernel
theorem dL_law__1407 : decode cL_law_ 1407 = .ok (.i2l, 1) := by decide +kernel
theorem dL_law__1408 : decode cL_law_ 1408 = .ok (.lcmp, 1) := by decide +kernel
theorem dL_law__1409 : decode cL_law_ 1409 = .ok (.ifCond .eq 5, 3) := by decide +kernel
theorem dL_law__1412 : decode cL_law_ 1412 = .ok (.iconst 0, 1) := by decide +kernel
theorem dL_law__1413 : decode cL_law_ 1413 = .ok (.ireturn, 1) := by decide +kernel
theorem dL_law__1414 : decode cL_law_ 1414 = .ok (.goto 1132, 3) := by decide +kernel
theorem dL_law__1417 : decode cL_law_ 1417 = .ok (.aload_n 1, 1) := by decide +kernel
theorem dL_law__1418 : decode cL_law_ 1418 = .ok (.aload_n 0, 1) := by decide +kernel
theorem dL_law__1419 : decode cL_law_ 1419 = .ok (.iload 4, 2) := by decide +kernel
theorem dL_law__1421 : decode cL_law_ 1421 = .ok (.iconst 1, 1) := by decide +kernel
theorem dL_law__1422 : decode cL_law_ 1422 = .ok (.iadd, 1) := by decide +kernel
theorem dL_law__1423 : decode cL_law_ 1423 = .ok (.iaload, 1) := by decide +kernel
theorem dL_law__1424 : decode cL_law_ 1424 = .ok (.aload_n 3, 1) := by decide +kernel
theorem dL_law__1425 : decode cL_law_ 1425 = .ok (.invokestatic 189, 3) := by decide +kernel
theorem dL_law__1428 : decode cL_law_ 1428 = .ok (.istore 5, 2) := by decide +kernel
theorem dL_law__1430 : decode cL_law_ 1430 = .ok (.aload_n 2, 1) := by decide +kernel
theorem dL_law__1431 : decode cL_law_ 1431 = .ok (.aload_n 0, 1) := by decide +kernel
theorem dL_law__1432 : decode cL_law_ 1432 = .ok (.iload 4, 2) := by decide +kernel
theorem dL_law__1434 : decode cL_law_ 1434 = .ok (.iconst 1, 1) := by decide +kernel
theorem dL_law__1435 : decode cL_law_ 1435 = .ok (.iadd, 1) := by decide +kernel
theorem dL_law__1436 : decode cL_law_ 1436 = .ok (.iaload, 1) := by decide +kernel
theorem dL_law__1437 : decode cL_law_ 1437 = .ok (.invokevirtual 191, 3) := by decide +kernel
theorem dL_law__1440 : decode cL_law_ 1440 = .ok (.istore 6, 2) := by decide +kernel
theorem dL_law__1442 : decode cL_law_ 1442 = .ok (.aload_n 2, 1) := by decide +kernel
theorem dL_law__1443 : decode cL_law_ 1443 = .ok (.invokevirtual 125, 3) := by decide +kernel
theorem dL_law__1446 : decode cL_law_ 1446 = .ok (.iload 5, 2) := by decide +kernel
theorem dL_law__1448 : decode cL_law_ 1448 = .ok (.if_icmp .eq 5, 3) := by decide +kernel
theorem dL_law__1451 : decode cL_law_ 1451 = .ok (.iconst 0, 1) := by decide +kernel
theorem dL_law__1452 : decode cL_law_ 1452 = .ok (.ireturn, 1) := by decide +kernel
theorem dL_law__1453 : decode cL_law_ 1453 = .ok (.iload 5, 2) := by decide +kernel
theorem dL_law__1455 : decode cL_law_ 1455 = .ok (.ifCond .ne 15, 3) := by decide +kernel
theorem dL_law__1458 : decode cL_law_ 1458 = .ok (.aload_n 3, 1) := by decide +kernel
theorem dL_law__1459 : decode cL_law_ 1459 = .ok (.iconst 0, 1) := by decide +kernel
theorem dL_law__1460 : decode cL_law_ 1460 = .ok (.laload, 1) := by decide +kernel
theorem dL_law__1461 : decode cL_law_ 1461 = .ok (.iload 6, 2) := by decide +kernel
theorem dL_law__1463 : decode cL_law_ 1463 = .ok (.i2l, 1) := by decide +kernel
theorem dL_law__1464 : decode cL_law_ 1464 = .ok (.lcmp, 1) := by decide +kernel
theorem dL_law__1465 : decode cL_law_ 1465 = .ok (.ifCond .eq 5, 3) := by decide +kernel
theorem dL_law__1468 : decode cL_law_ 1468 = .ok (.iconst 0, 1) := by decide +kernel
theorem dL_law__1469 : decode cL_law_ 1469 = .ok (.ireturn, 1) := by decide +kernel
theorem dL_law__1470 : decode cL_law_ 1470 = .ok (.goto 1076, 3) := by decide +kernel
theorem dL_law__1473 : decode cL_law_ 1473 = .ok (.aload_n 1, 1) := by decide +kernel
theorem dL_law__1474 : decode cL_law_ 1474 = .ok (.aload_n 0, 1) := by decide +kernel
theorem dL_law__1475 : decode cL_law_ 1475 = .ok (.iload 4, 2) := by decide +kernel
theorem dL_law__1477 : decode cL_law_ 1477 = .ok (.iconst 1, 1) := by decide +kernel
theorem dL_law__1478 : decode cL_law_ 1478 = .ok (.iadd, 1) := by decide +kernel
theorem dL_law__1479 : decode cL_law_ 1479 = .ok (.iaload, 1) := by decide +kernel
theorem dL_law__1480 : decode cL_law_ 1480 = .ok (.aload_n 3, 1) := by decide +kernel
theorem dL_law__1481 : decode cL_law_ 1481 = .ok (.invokestatic 192, 3) := by decide +kernel
theorem dL_law__1484 : decode cL_law_ 1484 = .ok (.istore 5, 2) := by decide +kernel
theorem dL_law__1486 : decode cL_law_ 1486 = .ok (.aload_n 2, 1) := by decide +kernel
theorem dL_law__1487 : decode cL_law_ 1487 = .ok (.aload_n 0, 1) := by decide +kernel
theorem dL_law__1488 : decode cL_law_ 1488 = .ok (.iload 4, 2) := by decide +kernel
theorem dL_law__1490 : decode cL_law_ 1490 = .ok (.iconst 1, 1) := by decide +kernel
theorem dL_law__1491 : decode cL_law_ 1491 = .ok (.iadd, 1) := by decide +kernel
theorem dL_law__1492 : decode cL_law_ 1492 = .ok (.iaload, 1) := by decide +kernel
theorem dL_law__1493 : decode cL_law_ 1493 = .ok (.invokevirtual 194, 3) := by decide +kernel
theorem dL_law__1496 : decode cL_law_ 1496 = .ok (.istore 6, 2) := by decide +kernel
theorem dL_law__1498 : decode cL_law_ 1498 = .ok (.aload_n 2, 1) := by decide +kernel
theorem dL_law__1499 : decode cL_law_ 1499 = .ok (.invokevirtual 125, 3) := by decide +kernel
theorem dL_law__1502 : decode cL_law_ 1502 = .ok (.iload 5, 2) := by decide +kernel
theorem dL_law__1504 : decode cL_law_ 1504 = .ok (.if_icmp .eq 5, 3) := by decide +kernel
theorem dL_law__1507 : decode cL_law_ 1507 = .ok (.iconst 0, 1) := by decide +kernel
theorem dL_law__1508 : decode cL_law_ 1508 = .ok (.ireturn, 1) := by decide +kernel
theorem dL_law__1509 : decode cL_law_ 1509 = .ok (.iload 5, 2) := by decide +kernel
theorem dL_law__1511 : decode cL_law_ 1511 = .ok (.ifCond .ne 15, 3) := by decide +kernel
theorem dL_law__1514 : decode cL_law_ 1514 = .ok (.aload_n 3, 1) := by decide +kernel
theorem dL_law__1515 : decode cL_law_ 1515 = .ok (.iconst 0, 1) := by decide +kernel
theorem dL_law__1516 : decode cL_law_ 1516 = .ok (.laload, 1) := by decide +kernel
theorem dL_law__1517 : decode cL_law_ 1517 = .ok (.iload 6, 2) := by decide +kernel
theorem dL_law__1519 : decode cL_law_ 1519 = .ok (.i2l, 1) := by decide +kernel
theorem dL_law__1520 : decode cL_law_ 1520 = .ok (.lcmp, 1) := by decide +kernel
theorem dL_law__1521 : decode cL_law_ 1521 = .ok (.ifCond .eq 5, 3) := by decide +kernel
theorem dL_law__1524 : decode cL_law_ 1524 = .ok (.iconst 0, 1) := by decide +kernel
theorem dL_law__1525 : decode cL_law_ 1525 = .ok (.ireturn, 1) := by decide +kernel
theorem dL_law__1526 : decode cL_law_ 1526 = .ok (.goto 1020, 3) := by decide +kernel
theorem dL_law__1529 : decode cL_law_ 1529 = .ok (.aload_n 1, 1) := by decide +kernel
theorem dL_law__1530 : decode cL_law_ 1530 = .ok (.aload_n 0, 1) := by decide +kernel
theorem dL_law__1531 : decode cL_law_ 1531 = .ok (.iload 4, 2) := by decide +kernel
theorem dL_law__1533 : decode cL_law_ 1533 = .ok (.iconst 1, 1) := by decide +kernel
theorem dL_law__1534 : decode cL_law_ 1534 = .ok (.iadd, 1) := by decide +kernel
theorem dL_law__1535 : decode cL_law_ 1535 = .ok (.iaload, 1) := by decide +kernel
theorem dL_law__1536 : decode cL_law_ 1536 = .ok (.aload_n 0, 1) := by decide +kernel
theorem dL_law__1537 : decode cL_law_ 1537 = .ok (.iload 4, 2) := by decide +kernel
theorem dL_law__1539 : decode cL_law_ 1539 = .ok (.iconst 2, 1) := by decide +kernel
theorem dL_law__1540 : decode cL_law_ 1540 = .ok (.iadd, 1) := by decide +kernel
theorem dL_law__1541 : decode cL_law_ 1541 = .ok (.iaload, 1) := by decide +kernel
theorem dL_law__1542 : decode cL_law_ 1542 = .ok (.aload_n 3, 1) := by decide +kernel
theorem dL_law__1543 : decode cL_law_ 1543 = .ok (.invokestatic 195, 3) := by decide +kernel
theorem dL_law__1546 : decode cL_law_ 1546 = .ok (.istore 5, 2) := by decide +kernel
theorem dL_law__1548 : decode cL_law_ 1548 = .ok (.aload_n 2, 1) := by decide +kernel
theorem dL_law__1549 : decode cL_law_ 1549 = .ok (.aload_n 0, 1) := by decide +kernel
theorem dL_law__1550 : decode cL_law_ 1550 = .ok (.iload 4, 2) := by decide +kernel
theorem dL_law__1552 : decode cL_law_ 1552 = .ok (.iconst 1, 1) := by decide +kernel
theorem dL_law__1553 : decode cL_law_ 1553 = .ok (.iadd, 1) := by decide +kernel
theorem dL_law__1554 : decode cL_law_ 1554 = .ok (.iaload, 1) := by decide +kernel
theorem dL_law__1555 : decode cL_law_ 1555 = .ok (.aload_n 0, 1) := by decide +kernel
theorem dL_law__1556 : decode cL_law_ 1556 = .ok (.iload 4, 2) := by decide +kernel
theorem dL_law__1558 : decode cL_law_ 1558 = .ok (.iconst 2, 1) := by decide +kernel
theorem dL_law__1559 : decode cL_law_ 1559 = .ok (.iadd, 1) := by decide +kernel
theorem dL_law__1560 : decode cL_law_ 1560 = .ok (.iaload, 1) := by decide +kernel
theorem dL_law__1561 : decode cL_law_ 1561 = .ok (.invokevirtual 197, 3) := by decide +kernel
theorem dL_law__1564 : decode cL_law_ 1564 = .ok (.istore 6, 2) := by decide +kernel
theorem dL_law__1566 : decode cL_law_ 1566 = .ok (.aload_n 2, 1) := by decide +kernel
theorem dL_law__1567 : decode cL_law_ 1567 = .ok (.invokevirtual 125, 3) := by decide +kernel
theorem dL_law__1570 : decode cL_law_ 1570 = .ok (.iload 5, 2) := by decide +kernel
theorem dL_law__1572 : decode cL_law_ 1572 = .ok (.if_icmp .eq 5, 3) := by decide +kernel
theorem dL_law__1575 : decode cL_law_ 1575 = .ok (.iconst 0, 1) := by decide +kernel
theorem dL_law__1576 : decode cL_law_ 1576 = .ok (.ireturn, 1) := by decide +kernel
theorem dL_law__1577 : decode cL_law_ 1577 = .ok (.iload 5, 2) := by decide +kernel
theorem dL_law__1579 : decode cL_law_ 1579 = .ok (.ifCond .ne 15, 3) := by decide +kernel
theorem dL_law__1582 : decode cL_law_ 1582 = .ok (.aload_n 3, 1) := by decide +kernel
theorem dL_law__1583 : decode cL_law_ 1583 = .ok (.iconst 0, 1) := by decide +kernel
theorem dL_law__1584 : decode cL_law_ 1584 = .ok (.laload, 1) := by decide +kernel
theorem dL_law__1585 : decode cL_law_ 1585 = .ok (.iload 6, 2) := by decide +kernel
theorem dL_law__1587 : decode cL_law_ 1587 = .ok (.i2l, 1) := by decide +kernel
theorem dL_law__1588 : decode cL_law_ 1588 = .ok (.lcmp, 1) := by decide +kernel
theorem dL_law__1589 : decode cL_law_ 1589 = .ok (.ifCond .eq 5, 3) := by decide +kernel
theorem dL_law__1592 : decode cL_law_ 1592 = .ok (.iconst 0, 1) := by decide +kernel
theorem dL_law__1593 : decode cL_law_ 1593 = .ok (.ireturn, 1) := by decide +kernel
theorem dL_law__1594 : decode cL_law_ 1594 = .ok (.goto 952, 3) := by decide +kernel
theorem dL_law__1597 : decode cL_law_ 1597 = .ok (.aload_n 1, 1) := by decide +kernel
theorem dL_law__1598 : decode cL_law_ 1598 = .ok (.aload_n 0, 1) := by decide +kernel
theorem dL_law__1599 : decode cL_law_ 1599 = .ok (.iload 4, 2) := by decide +kernel
theorem dL_law__1601 : decode cL_law_ 1601 = .ok (.iconst 1, 1) := by decide +kernel
theorem dL_law__1602 : decode cL_law_ 1602 = .ok (.iadd, 1) := by decide +kernel
theorem dL_law__1603 : decode cL_law_ 1603 = .ok (.iaload, 1) := by decide +kernel
theorem dL_law__1604 : decode cL_law_ 1604 = .ok (.aload_n 3, 1) := by decide +kernel
theorem dL_law__1605 : decode cL_law_ 1605 = .ok (.invokestatic 198, 3) := by decide +kernel
theorem dL_law__1608 : decode cL_law_ 1608 = .ok (.istore 5, 2) := by decide +kernel
theorem dL_law__1610 : decode cL_law_ 1610 = .ok (.aload_n 2, 1) := by decide +kernel
theorem dL_law__1611 : decode cL_law_ 1611 = .ok (.aload_n 0, 1) := by decide +kernel
theorem dL_law__1612 : decode cL_law_ 1612 = .ok (.iload 4, 2) := by decide +kernel
theorem dL_law__1614 : decode cL_law_ 1614 = .ok (.iconst 1, 1) := by decide +kernel
theorem dL_law__1615 : decode cL_law_ 1615 = .ok (.iadd, 1) := by decide +kernel
theorem dL_law__1616 : decode cL_law_ 1616 = .ok (.iaload, 1) := by decide +kernel
theorem dL_law__1617 : decode cL_law_ 1617 = .ok (.invokevirtual 200, 3) := by decide +kernel
theorem dL_law__1620 : decode cL_law_ 1620 = .ok (.istore 6, 2) := by decide +kernel
theorem dL_law__1622 : decode cL_law_ 1622 = .ok (.aload_n 2, 1) := by decide +kernel
theorem dL_law__1623 : decode cL_law_ 1623 = .ok (.invokevirtual 125, 3) := by decide +kernel
theorem dL_law__1626 : decode cL_law_ 1626 = .ok (.iload 5, 2) := by decide +kernel
theorem dL_law__1628 : decode cL_law_ 1628 = .ok (.if_icmp .eq 5, 3) := by decide +kernel
theorem dL_law__1631 : decode cL_law_ 1631 = .ok (.iconst 0, 1) := by decide +kernel
theorem dL_law__1632 : decode cL_law_ 1632 = .ok (.ireturn, 1) := by decide +kernel
theorem dL_law__1633 : decode cL_law_ 1633 = .ok (.iload 5, 2) := by decide +kernel
theorem dL_law__1635 : decode cL_law_ 1635 = .ok (.ifCond .ne 15, 3) := by decide +kernel
theorem dL_law__1638 : decode cL_law_ 1638 = .ok (.aload_n 3, 1) := by decide +kernel
theorem dL_law__1639 : decode cL_law_ 1639 = .ok (.iconst 0, 1) := by decide +kernel
theorem dL_law__1640 : decode cL_law_ 1640 = .ok (.laload, 1) := by decide +kernel
theorem dL_law__1641 : decode cL_law_ 1641 = .ok (.iload 6, 2) := by decide +kernel
theorem dL_law__1643 : decode cL_law_ 1643 = .ok (.i2l, 1) := by decide +kernel
theorem dL_law__1644 : decode cL_law_ 1644 = .ok (.lcmp, 1) := by decide +kernel
theorem dL_law__1645 : decode cL_law_ 1645 = .ok (.ifCond .eq 5, 3) := by decide +kernel
theorem dL_law__1648 : decode cL_law_ 1648 = .ok (.iconst 0, 1) := by decide +kernel
theorem dL_law__1649 : decode cL_law_ 1649 = .ok (.ireturn, 1) := by decide +kernel
theorem dL_law__1650 : decode cL_law_ 1650 = .ok (.goto 896, 3) := by decide +kernel
theorem dL_law__1653 : decode cL_law_ 1653 = .ok (.aload_n 1, 1) := by decide +kernel
theorem dL_law__1654 : decode cL_law_ 1654 = .ok (.aload_n 0, 1) := by decide +kernel
theorem dL_law__1655 : decode cL_law_ 1655 = .ok (.iload 4, 2) := by decide +kernel
theorem dL_law__1657 : decode cL_law_ 1657 = .ok (.iconst 1, 1) := by decide +kernel
theorem dL_law__1658 : decode cL_law_ 1658 = .ok (.iadd, 1) := by decide +kernel
theorem dL_law__1659 : decode cL_law_ 1659 = .ok (.iaload, 1) := by decide +kernel
theorem dL_law__1660 : decode cL_law_ 1660 = .ok (.aload_n 3, 1) := by decide +kernel
theorem dL_law__1661 : decode cL_law_ 1661 = .ok (.invokestatic 201, 3) := by decide +kernel
theorem dL_law__1664 : decode cL_law_ 1664 = .ok (.istore 5, 2) := by decide +kernel
theorem dL_law__1666 : decode cL_law_ 1666 = .ok (.aload_n 2, 1) := by decide +kernel
theorem dL_law__1667 : decode cL_law_ 1667 = .ok (.aload_n 0, 1) := by decide +kernel
theorem dL_law__1668 : decode cL_law_ 1668 = .ok (.iload 4, 2) := by decide +kernel
theorem dL_law__1670 : decode cL_law_ 1670 = .ok (.iconst 1, 1) := by decide +kernel
theorem dL_law__1671 : decode cL_law_ 1671 = .ok (.iadd, 1) := by decide +kernel
theorem dL_law__1672 : decode cL_law_ 1672 = .ok (.iaload, 1) := by decide +kernel
theorem dL_law__1673 : decode cL_law_ 1673 = .ok (.invokevirtual 203, 3) := by decide +kernel
theorem dL_law__1676 : decode cL_law_ 1676 = .ok (.istore 6, 2) := by decide +kernel
theorem dL_law__1678 : decode cL_law_ 1678 = .ok (.aload_n 2, 1) := by decide +kernel
theorem dL_law__1679 : decode cL_law_ 1679 = .ok (.invokevirtual 125, 3) := by decide +kernel
theorem dL_law__1682 : decode cL_law_ 1682 = .ok (.iload 5, 2) := by decide +kernel
theorem dL_law__1684 : decode cL_law_ 1684 = .ok (.if_icmp .eq 5, 3) := by decide +kernel
theorem dL_law__1687 : decode cL_law_ 1687 = .ok (.iconst 0, 1) := by decide +kernel
theorem dL_law__1688 : decode cL_law_ 1688 = .ok (.ireturn, 1) := by decide +kernel
theorem dL_law__1689 : decode cL_law_ 1689 = .ok (.iload 5, 2) := by decide +kernel
theorem dL_law__1691 : decode cL_law_ 1691 = .ok (.ifCond .ne 15, 3) := by decide +kernel
theorem dL_law__1694 : decode cL_law_ 1694 = .ok (.aload_n 3, 1) := by decide +kernel
theorem dL_law__1695 : decode cL_law_ 1695 = .ok (.iconst 0, 1) := by decide +kernel
theorem dL_law__1696 : decode cL_law_ 1696 = .ok (.laload, 1) := by decide +kernel
theorem dL_law__1697 : decode cL_law_ 1697 = .ok (.iload 6, 2) := by decide +kernel
theorem dL_law__1699 : decode cL_law_ 1699 = .ok (.i2l, 1) := by decide +kernel
theorem dL_law__1700 : decode cL_law_ 1700 = .ok (.lcmp, 1) := by decide +kernel
theorem dL_law__1701 : decode cL_law_ 1701 = .ok (.ifCond .eq 5, 3) := by decide +kernel
theorem dL_law__1704 : decode cL_law_ 1704 = .ok (.iconst 0, 1) := by decide +kernel
theorem dL_law__1705 : decode cL_law_ 1705 = .ok (.ireturn, 1) := by decide +kernel
