theorem d_La_1412 : decode code 1412 = .ok (.iconst 2, 1) := by decide +kernel
theorem d_La_1413 : decode code 1413 = .ok (.iadd, 1) := by decide +kernel
theorem d_La_1414 : decode code 1414 = .ok (.iaload, 1) := by decide +kernel
theorem d_La_1415 : decode code 1415 = .ok (.ifCond .eq 7, 3) := by decide +kernel
theorem d_La_1418 : decode code 1418 = .ok (.iconst 1, 1) := by decide +kernel
theorem d_La_1419 : decode code 1419 = .ok (.goto 4, 3) := by decide +kernel
theorem d_La_1422 : decode code 1422 = .ok (.iconst 0, 1) := by decide +kernel
theorem d_La_1423 : decode code 1423 = .ok (.invokevirtual 171, 3) := by decide +kernel
theorem d_La_1426 : decode code 1426 = .ok (.aload_n 2, 1) := by decide +kernel
theorem d_La_1427 : decode code 1427 = .ok (.aload_n 0, 1) := by decide +kernel
theorem d_La_1428 : decode code 1428 = .ok (.iload_n 3, 1) := by decide +kernel
theorem d_La_1429 : decode code 1429 = .ok (.iconst 1, 1) := by decide +kernel
theorem d_La_1430 : decode code 1430 = .ok (.iadd, 1) := by decide +kernel
theorem d_La_1431 : decode code 1431 = .ok (.iaload, 1) := by decide +kernel
theorem d_La_1432 : decode code 1432 = .ok (.aload_n 0, 1) := by decide +kernel
theorem d_La_1433 : decode code 1433 = .ok (.iload_n 3, 1) := by decide +kernel
theorem d_La_1434 : decode code 1434 = .ok (.iconst 2, 1) := by decide +kernel
theorem d_La_1435 : decode code 1435 = .ok (.iadd, 1) := by decide +kernel
theorem d_La_1436 : decode code 1436 = .ok (.iaload, 1) := by decide +kernel
theorem d_La_1437 : decode code 1437 = .ok (.ifCond .eq 7, 3) := by decide +kernel
theorem d_La_1440 : decode code 1440 = .ok (.iconst 1, 1) := by decide +kernel
theorem d_La_1441 : decode code 1441 = .ok (.goto 4, 3) := by decide +kernel
theorem d_La_1444 : decode code 1444 = .ok (.iconst 0, 1) := by decide +kernel
theorem d_La_1445 : decode code 1445 = .ok (.invokevirtual 175, 3) := by decide +kernel
theorem d_La_1448 : decode code 1448 = .ok (.lcmp, 1) := by decide +kernel
theorem d_La_1449 : decode code 1449 = .ok (.ifCond .eq 556, 3) := by decide +kernel
theorem d_La_1452 : decode code 1452 = .ok (.iconst 0, 1) := by decide +kernel
theorem d_La_1453 : decode code 1453 = .ok (.ireturn, 1) := by decide +kernel
theorem d_La_1454 : decode code 1454 = .ok (.aload_n 1, 1) := by decide +kernel
theorem d_La_1455 : decode code 1455 = .ok (.aload_n 0, 1) := by decide +kernel
theorem d_La_1456 : decode code 1456 = .ok (.iload_n 3, 1) := by decide +kernel
theorem d_La_1457 : decode code 1457 = .ok (.iconst 1, 1) := by decide +kernel
theorem d_La_1458 : decode code 1458 = .ok (.iadd, 1) := by decide +kernel
theorem d_La_1459 : decode code 1459 = .ok (.iaload, 1) := by decide +kernel
theorem d_La_1460 : decode code 1460 = .ok (.invokevirtual 176, 3) := by decide +kernel
theorem d_La_1463 : decode code 1463 = .ok (.aload_n 2, 1) := by decide +kernel
theorem d_La_1464 : decode code 1464 = .ok (.aload_n 0, 1) := by decide +kernel
theorem d_La_1465 : decode code 1465 = .ok (.iload_n 3, 1) := by decide +kernel
theorem d_La_1466 : decode code 1466 = .ok (.iconst 1, 1) := by decide +kernel
theorem d_La_1467 : decode code 1467 = .ok (.iadd, 1) := by decide +kernel
theorem d_La_1468 : decode code 1468 = .ok (.iaload, 1) := by decide +kernel
theorem d_La_1469 : decode code 1469 = .ok (.invokevirtual 179, 3) := by decide +kernel
theorem d_La_1472 : decode code 1472 = .ok (.if_icmp .eq 533, 3) := by decide +kernel
theorem d_La_1475 : decode code 1475 = .ok (.iconst 0, 1) := by decide +kernel
theorem d_La_1476 : decode code 1476 = .ok (.ireturn, 1) := by decide +kernel
theorem d_La_1477 : decode code 1477 = .ok (.aload_n 1, 1) := by decide +kernel
theorem d_La_1478 : decode code 1478 = .ok (.invokevirtual 180, 3) := by decide +kernel
theorem d_La_1481 : decode code 1481 = .ok (.aload_n 2, 1) := by decide +kernel
theorem d_La_1482 : decode code 1482 = .ok (.invokevirtual 183, 3) := by decide +kernel
theorem d_La_1485 : decode code 1485 = .ok (.if_icmp .eq 520, 3) := by decide +kernel
theorem d_La_1488 : decode code 1488 = .ok (.iconst 0, 1) := by decide +kernel
theorem d_La_1489 : decode code 1489 = .ok (.ireturn, 1) := by decide +kernel
theorem d_La_1490 : decode code 1490 = .ok (.aload_n 1, 1) := by decide +kernel
theorem d_La_1491 : decode code 1491 = .ok (.invokevirtual 184, 3) := by decide +kernel
theorem d_La_1494 : decode code 1494 = .ok (.aload_n 2, 1) := by decide +kernel
theorem d_La_1495 : decode code 1495 = .ok (.invokevirtual 187, 3) := by decide +kernel
theorem d_La_1498 : decode code 1498 = .ok (.if_icmp .eq 507, 3) := by decide +kernel
theorem d_La_1501 : decode code 1501 = .ok (.iconst 0, 1) := by decide +kernel
theorem d_La_1502 : decode code 1502 = .ok (.ireturn, 1) := by decide +kernel
theorem d_La_1503 : decode code 1503 = .ok (.aload_n 1, 1) := by decide +kernel
theorem d_La_1504 : decode code 1504 = .ok (.invokevirtual 188, 3) := by decide +kernel
theorem d_La_1507 : decode code 1507 = .ok (.aload_n 2, 1) := by decide +kernel
theorem d_La_1508 : decode code 1508 = .ok (.invokevirtual 191, 3) := by decide +kernel
theorem d_La_1511 : decode code 1511 = .ok (.if_icmp .eq 494, 3) := by decide +kernel
theorem d_La_1514 : decode code 1514 = .ok (.iconst 0, 1) := by decide +kernel
theorem d_La_1515 : decode code 1515 = .ok (.ireturn, 1) := by decide +kernel
theorem d_La_1516 : decode code 1516 = .ok (.aload_n 1, 1) := by decide +kernel
theorem d_La_1517 : decode code 1517 = .ok (.aload_n 0, 1) := by decide +kernel
theorem d_La_1518 : decode code 1518 = .ok (.iload_n 3, 1) := by decide +kernel
theorem d_La_1519 : decode code 1519 = .ok (.iconst 1, 1) := by decide +kernel
theorem d_La_1520 : decode code 1520 = .ok (.iadd, 1) := by decide +kernel
theorem d_La_1521 : decode code 1521 = .ok (.iaload, 1) := by decide +kernel
theorem d_La_1522 : decode code 1522 = .ok (.invokevirtual 192, 3) := by decide +kernel
theorem d_La_1525 : decode code 1525 = .ok (.aload_n 2, 1) := by decide +kernel
theorem d_La_1526 : decode code 1526 = .ok (.aload_n 0, 1) := by decide +kernel
theorem d_La_1527 : decode code 1527 = .ok (.iload_n 3, 1) := by decide +kernel
theorem d_La_1528 : decode code 1528 = .ok (.iconst 1, 1) := by decide +kernel
theorem d_La_1529 : decode code 1529 = .ok (.iadd, 1) := by decide +kernel
theorem d_La_1530 : decode code 1530 = .ok (.iaload, 1) := by decide +kernel
theorem d_La_1531 : decode code 1531 = .ok (.invokevirtual 195, 3) := by decide +kernel
theorem d_La_1534 : decode code 1534 = .ok (.if_icmp .eq 471, 3) := by decide +kernel
theorem d_La_1537 : decode code 1537 = .ok (.iconst 0, 1) := by decide +kernel
theorem d_La_1538 : decode code 1538 = .ok (.ireturn, 1) := by decide +kernel
theorem d_La_1539 : decode code 1539 = .ok (.aload_n 1, 1) := by decide +kernel
theorem d_La_1540 : decode code 1540 = .ok (.aload_n 0, 1) := by decide +kernel
theorem d_La_1541 : decode code 1541 = .ok (.iload_n 3, 1) := by decide +kernel
theorem d_La_1542 : decode code 1542 = .ok (.iconst 1, 1) := by decide +kernel
theorem d_La_1543 : decode code 1543 = .ok (.iadd, 1) := by decide +kernel
theorem d_La_1544 : decode code 1544 = .ok (.iaload, 1) := by decide +kernel
theorem d_La_1545 : decode code 1545 = .ok (.invokevirtual 196, 3) := by decide +kernel
theorem d_La_1548 : decode code 1548 = .ok (.aload_n 2, 1) := by decide +kernel
theorem d_La_1549 : decode code 1549 = .ok (.aload_n 0, 1) := by decide +kernel
theorem d_La_1550 : decode code 1550 = .ok (.iload_n 3, 1) := by decide +kernel
theorem d_La_1551 : decode code 1551 = .ok (.iconst 1, 1) := by decide +kernel
theorem d_La_1552 : decode code 1552 = .ok (.iadd, 1) := by decide +kernel
theorem d_La_1553 : decode code 1553 = .ok (.iaload, 1) := by decide +kernel
theorem d_La_1554 : decode code 1554 = .ok (.invokevirtual 199, 3) := by decide +kernel
theorem d_La_1557 : decode code 1557 = .ok (.if_icmp .eq 448, 3) := by decide +kernel
theorem d_La_1560 : decode code 1560 = .ok (.iconst 0, 1) := by decide +kernel
theorem d_La_1561 : decode code 1561 = .ok (.ireturn, 1) := by decide +kernel
theorem d_La_1562 : decode code 1562 = .ok (.aload_n 1, 1) := by decide +kernel
theorem d_La_1563 : decode code 1563 = .ok (.aload_n 0, 1) := by decide +kernel
theorem d_La_1564 : decode code 1564 = .ok (.iload_n 3, 1) := by decide +kernel
theorem d_La_1565 : decode code 1565 = .ok (.iconst 1, 1) := by decide +kernel
theorem d_La_1566 : decode code 1566 = .ok (.iadd, 1) := by decide +kernel
theorem d_La_1567 : decode code 1567 = .ok (.iaload, 1) := by decide +kernel
theorem d_La_1568 : decode code 1568 = .ok (.aload_n 0, 1) := by decide +kernel
theorem d_La_1569 : decode code 1569 = .ok (.iload_n 3, 1) := by decide +kernel
theorem d_La_1570 : decode code 1570 = .ok (.iconst 2, 1) := by decide +kernel
theorem d_La_1571 : decode code 1571 = .ok (.iadd, 1) := by decide +kernel
theorem d_La_1572 : decode code 1572 = .ok (.iaload, 1) := by decide +kernel
theorem d_La_1573 : decode code 1573 = .ok (.invokevirtual 200, 3) := by decide +kernel
theorem d_La_1576 : decode code 1576 = .ok (.aload_n 2, 1) := by decide +kernel
theorem d_La_1577 : decode code 1577 = .ok (.aload_n 0, 1) := by decide +kernel
theorem d_La_1578 : decode code 1578 = .ok (.iload_n 3, 1) := by decide +kernel
theorem d_La_1579 : decode code 1579 = .ok (.iconst 1, 1) := by decide +kernel
theorem d_La_1580 : decode code 1580 = .ok (.iadd, 1) := by decide +kernel
theorem d_La_1581 : decode code 1581 = .ok (.iaload, 1) := by decide +kernel
theorem d_La_1582 : decode code 1582 = .ok (.aload_n 0, 1) := by decide +kernel
theorem d_La_1583 : decode code 1583 = .ok (.iload_n 3, 1) := by decide +kernel
theorem d_La_1584 : decode code 1584 = .ok (.iconst 2, 1) := by decide +kernel
theorem d_La_1585 : decode code 1585 = .ok (.iadd, 1) := by decide +kernel
theorem d_La_1586 : decode code 1586 = .ok (.iaload, 1) := by decide +kernel
theorem d_La_1587 : decode code 1587 = .ok (.invokevirtual 203, 3) := by decide +kernel
theorem d_La_1590 : decode code 1590 = .ok (.if_icmp .eq 415, 3) := by decide +kernel
theorem d_La_1593 : decode code 1593 = .ok (.iconst 0, 1) := by decide +kernel
theorem d_La_1594 : decode code 1594 = .ok (.ireturn, 1) := by decide +kernel
theorem d_La_1595 : decode code 1595 = .ok (.aload_n 1, 1) := by decide +kernel
theorem d_La_1596 : decode code 1596 = .ok (.aload_n 0, 1) := by decide +kernel
theorem d_La_1597 : decode code 1597 = .ok (.iload_n 3, 1) := by decide +kernel
theorem d_La_1598 : decode code 1598 = .ok (.iconst 1, 1) := by decide +kernel
theorem d_La_1599 : decode code 1599 = .ok (.iadd, 1) := by decide +kernel
theorem d_La_1600 : decode code 1600 = .ok (.iaload, 1) := by decide +kernel
theorem d_La_1601 : decode code 1601 = .ok (.invokevirtual 204, 3) := by decide +kernel
theorem d_La_1604 : decode code 1604 = .ok (.aload_n 2, 1) := by decide +kernel
theorem d_La_1605 : decode code 1605 = .ok (.aload_n 0, 1) := by decide +kernel
theorem d_La_1606 : decode code 1606 = .ok (.iload_n 3, 1) := by decide +kernel
theorem d_La_1607 : decode code 1607 = .ok (.iconst 1, 1) := by decide +kernel
theorem d_La_1608 : decode code 1608 = .ok (.iadd, 1) := by decide +kernel
theorem d_La_1609 : decode code 1609 = .ok (.iaload, 1) := by decide +kernel
theorem d_La_1610 : decode code 1610 = .ok (.invokevirtual 207, 3) := by decide +kernel
theorem d_La_1613 : decode code 1613 = .ok (.if_icmp .eq 392, 3) := by decide +kernel
theorem d_La_1616 : decode code 1616 = .ok (.iconst 0, 1) := by decide +kernel
theorem d_La_1617 : decode code 1617 = .ok (.ireturn, 1) := by decide +kernel
theorem d_La_1618 : decode code 1618 = .ok (.aload_n 1, 1) := by decide +kernel
theorem d_La_1619 : decode code 1619 = .ok (.invokevirtual 208, 3) := by decide +kernel
theorem d_La_1622 : decode code 1622 = .ok (.aload_n 2, 1) := by decide +kernel
theorem d_La_1623 : decode code 1623 = .ok (.invokevirtual 211, 3) := by decide +kernel
theorem d_La_1626 : decode code 1626 = .ok (.if_icmp .eq 379, 3) := by decide +kernel
theorem d_La_1629 : decode code 1629 = .ok (.iconst 0, 1) := by decide +kernel
theorem d_La_1630 : decode code 1630 = .ok (.ireturn, 1) := by decide +kernel
theorem d_La_1631 : decode code 1631 = .ok (.aload_n 1, 1) := by decide +kernel
theorem d_La_1632 : decode code 1632 = .ok (.aload_n 0, 1) := by decide +kernel
theorem d_La_1633 : decode code 1633 = .ok (.iload_n 3, 1) := by decide +kernel
theorem d_La_1634 : decode code 1634 = .ok (.iconst 1, 1) := by decide +kernel
theorem d_La_1635 : decode code 1635 = .ok (.iadd, 1) := by decide +kernel
theorem d_La_1636 : decode code 1636 = .ok (.iaload, 1) := by decide +kernel
theorem d_La_1637 : decode code 1637 = .ok (.ifCond .eq 7, 3) := by decide +kernel
theorem d_La_1640 : decode code 1640 = .ok (.iconst 1, 1) := by decide +kernel
theorem d_La_1641 : decode code 1641 = .ok (.goto 4, 3) := by decide +kernel
theorem d_La_1644 : decode code 1644 = .ok (.iconst 0, 1) := by decide +kernel
theorem d_La_1645 : decode code 1645 = .ok (.invokevirtual 212, 3) := by decide +kernel
theorem d_La_1648 : decode code 1648 = .ok (.aload_n 2, 1) := by decide +kernel
theorem d_La_1649 : decode code 1649 = .ok (.aload_n 0, 1) := by decide +kernel
theorem d_La_1650 : decode code 1650 = .ok (.iload_n 3, 1) := by decide +kernel
theorem d_La_1651 : decode code 1651 = .ok (.iconst 1, 1) := by decide +kernel
theorem d_La_1652 : decode code 1652 = .ok (.iadd, 1) := by decide +kernel
theorem d_La_1653 : decode code 1653 = .ok (.iaload, 1) := by decide +kernel
theorem d_La_1654 : decode code 1654 = .ok (.ifCond .eq 7, 3) := by decide +kernel
theorem d_La_1657 : decode code 1657 = .ok (.iconst 1, 1) := by decide +kernel
theorem d_La_1658 : decode code 1658 = .ok (.goto 4, 3) := by decide +kernel
theorem d_La_1661 : decode code 1661 = .ok (.iconst 0, 1) := by decide +kernel
theorem d_La_1662 : decode code 1662 = .ok (.invokevirtual 215, 3) := by decide +kernel
theorem d_La_1665 : decode code 1665 = .ok (.if_icmp .eq 340, 3) := by decide +kernel
theorem d_La_1668 : decode code 1668 = .ok (.iconst 0, 1) := by decide +kernel
theorem d_La_1669 : decode code 1669 = .ok (.ireturn, 1) := by decide +kernel
theorem d_La_1670 : decode code 1670 = .ok (.aload_n 1, 1) := by decide +kernel
theorem d_La_1671 : decode code 1671 = .ok (.aload_n 0, 1) := by decide +kernel
theorem d_La_1672 : decode code 1672 = .ok (.iload_n 3, 1) := by decide +kernel
theorem d_La_1673 : decode code 1673 = .ok (.iconst 1, 1) := by decide +kernel
theorem d_La_1674 : decode code 1674 = .ok (.iadd, 1) := by decide +kernel
theorem d_La_1675 : decode code 1675 = .ok (.iaload, 1) := by decide +kernel
theorem d_La_1676 : decode code 1676 = .ok (.aload_n 0, 1) := by decide +kernel
theorem d_La_1677 : decode code 1677 = .ok (.iload_n 3, 1) := by decide +kernel
theorem d_La_1678 : decode code 1678 = .ok (.iconst 2, 1) := by decide +kernel
theorem d_La_1679 : decode code 1679 = .ok (.iadd, 1) := by decide +kernel
theorem d_La_1680 : decode code 1680 = .ok (.iaload, 1) := by decide +kernel
theorem d_La_1681 : decode code 1681 = .ok (.aload_n 0, 1) := by decide +kernel
theorem d_La_1682 : decode code 1682 = .ok (.iload_n 3, 1) := by decide +kernel
theorem d_La_1683 : decode code 1683 = .ok (.iconst 3, 1) := by decide +kernel
theorem d_La_1684 : decode code 1684 = .ok (.iadd, 1) := by decide +kernel
theorem d_La_1685 : decode code 1685 = .ok (.iaload, 1) := by decide +kernel
theorem d_La_1686 : decode code 1686 = .ok (.invokevirtual 216, 3) := by decide +kernel
theorem d_La_1689 : decode code 1689 = .ok (.aload_n 2, 1) := by decide +kernel
theorem d_La_1690 : decode code 1690 = .ok (.aload_n 0, 1) := by decide +kernel
theorem d_La_1691 : decode code 1691 = .ok (.iload_n 3, 1) := by decide +kernel
theorem d_La_1692 : decode code 1692 = .ok (.iconst 1, 1) := by decide +kernel
theorem d_La_1693 : decode code 1693 = .ok (.iadd, 1) := by decide +kernel
theorem d_La_1694 : decode code 1694 = .ok (.iaload, 1) := by decide +kernel
theorem d_La_1695 : decode code 1695 = .ok (.aload_n 0, 1) := by decide +kernel
theorem d_La_1696 : decode code 1696 = .ok (.iload_n 3, 1) := by decide +kernel
theorem d_La_1697 : decode code 1697 = .ok (.iconst 2, 1) := by decide +kernel
theorem d_La_1698 : decode code 1698 = .ok (.iadd, 1) := by decide +kernel
theorem d_La_1699 : decode code 1699 = .ok (.iaload, 1) := by decide +kernel
theorem d_La_1700 : decode code 1700 = .ok (.aload_n 0, 1) := by decide +kernel
theorem d_La_1701 : decode code 1701 = .ok (.iload_n 3, 1) := by decide +kernel
theorem d_La_1702 : decode code 1702 = .ok (.iconst 3, 1) := by decide +kernel
theorem d_La_1703 : decode code 1703 = .ok (.iadd, 1) := by decide +kernel
theorem d_La_1704 : decode code 1704 = .ok (.iaload, 1) := by decide +kernel
theorem d_La_1705 : decode code 1705 = .ok (.invokevirtual 219, 3) := by decide +kernel
theorem d_La_1708 : decode code 1708 = .ok (.if_icmp .eq 297, 3) := by decide +kernel
theorem d_La_1711 : decode code 1711 = .ok (.iconst 0, 1) := by decide +kernel
theorem d_La_1712 : decode code 1712 = .ok (.ireturn, 1) := by decide +kernel
theorem d_La_1713 : decode code 1713 = .ok (.aload_n 1, 1) := by decide +kernel
theorem d_La_1714 : decode code 1714 = .ok (.aload_n 0, 1) := by decide +kernel
theorem d_La_1715 : decode code 1715 = .ok (.iload_n 3, 1) := by decide +kernel
theorem d_La_1716 : decode code 1716 = .ok (.iconst 1, 1) := by decide +kernel
theorem d_La_1717 : decode code 1717 = .ok (.iadd, 1) := by decide +kernel
theorem d_La_1718 : decode code 1718 = .ok (.iaload, 1) := by decide +kernel
theorem d_La_1719 : decode code 1719 = .ok (.aload_n 0, 1) := by decide +kernel
