/-! the law's instructions, 3 -/
theorem dW_1447 : decode code 1447 = .ok (.ifCond .eq 1461, 3) := by decide +kernel
theorem dW_1452 : decode code 1452 = .ok (.aload_n 1, 1) := by decide +kernel
theorem dW_1453 : decode code 1453 = .ok (.invokevirtual 246, 3) := by decide +kernel
theorem dW_1456 : decode code 1456 = .ok (.aload_n 2, 1) := by decide +kernel
theorem dW_1457 : decode code 1457 = .ok (.invokevirtual 249, 3) := by decide +kernel
theorem dW_1460 : decode code 1460 = .ok (.if_icmp .eq 1448, 3) := by decide +kernel
theorem dW_1465 : decode code 1465 = .ok (.aload_n 1, 1) := by decide +kernel
theorem dW_1466 : decode code 1466 = .ok (.invokevirtual 250, 3) := by decide +kernel
theorem dW_1469 : decode code 1469 = .ok (.aload_n 2, 1) := by decide +kernel
theorem dW_1470 : decode code 1470 = .ok (.invokevirtual 253, 3) := by decide +kernel
theorem dW_1473 : decode code 1473 = .ok (.if_icmp .eq 1435, 3) := by decide +kernel
theorem dW_1478 : decode code 1478 = .ok (.aload_n 1, 1) := by decide +kernel
theorem dW_1479 : decode code 1479 = .ok (.invokevirtual 254, 3) := by decide +kernel
theorem dW_1482 : decode code 1482 = .ok (.aload_n 2, 1) := by decide +kernel
theorem dW_1483 : decode code 1483 = .ok (.invokevirtual 257, 3) := by decide +kernel
theorem dW_1486 : decode code 1486 = .ok (.if_icmp .eq 1422, 3) := by decide +kernel
theorem dW_1491 : decode code 1491 = .ok (.aload_n 1, 1) := by decide +kernel
theorem dW_1492 : decode code 1492 = .ok (.invokevirtual 258, 3) := by decide +kernel
theorem dW_1495 : decode code 1495 = .ok (.aload_n 2, 1) := by decide +kernel
theorem dW_1496 : decode code 1496 = .ok (.invokevirtual 261, 3) := by decide +kernel
theorem dW_1499 : decode code 1499 = .ok (.if_icmp .eq 1409, 3) := by decide +kernel
theorem dW_1504 : decode code 1504 = .ok (.aload_n 1, 1) := by decide +kernel
theorem dW_1505 : decode code 1505 = .ok (.aload_n 0, 1) := by decide +kernel
theorem dW_1506 : decode code 1506 = .ok (.iload 5, 2) := by decide +kernel
theorem dW_1508 : decode code 1508 = .ok (.iconst 1, 1) := by decide +kernel
theorem dW_1509 : decode code 1509 = .ok (.iadd, 1) := by decide +kernel
theorem dW_1510 : decode code 1510 = .ok (.iaload, 1) := by decide +kernel
theorem dW_1511 : decode code 1511 = .ok (.aload 4, 2) := by decide +kernel
theorem dW_1513 : decode code 1513 = .ok (.invokestatic 262, 3) := by decide +kernel
theorem dW_1516 : decode code 1516 = .ok (.istore 6, 2) := by decide +kernel
theorem dW_1518 : decode code 1518 = .ok (.aload_n 2, 1) := by decide +kernel
theorem dW_1519 : decode code 1519 = .ok (.aload_n 0, 1) := by decide +kernel
theorem dW_1520 : decode code 1520 = .ok (.iload 5, 2) := by decide +kernel
theorem dW_1522 : decode code 1522 = .ok (.iconst 1, 1) := by decide +kernel
theorem dW_1523 : decode code 1523 = .ok (.iadd, 1) := by decide +kernel
theorem dW_1524 : decode code 1524 = .ok (.iaload, 1) := by decide +kernel
theorem dW_1525 : decode code 1525 = .ok (.invokevirtual 265, 3) := by decide +kernel
theorem dW_1528 : decode code 1528 = .ok (.dstore 7, 2) := by decide +kernel
theorem dW_1530 : decode code 1530 = .ok (.aload_n 2, 1) := by decide +kernel
theorem dW_1531 : decode code 1531 = .ok (.invokevirtual 144, 3) := by decide +kernel
theorem dW_1534 : decode code 1534 = .ok (.iload 6, 2) := by decide +kernel
theorem dW_1536 : decode code 1536 = .ok (.if_icmp .eq 5, 3) := by decide +kernel
theorem dW_1541 : decode code 1541 = .ok (.iload 6, 2) := by decide +kernel
theorem dW_1543 : decode code 1543 = .ok (.ifCond .ne 35, 3) := by decide +kernel
theorem dW_1546 : decode code 1546 = .ok (.aload 4, 2) := by decide +kernel
theorem dW_1548 : decode code 1548 = .ok (.iconst 0, 1) := by decide +kernel
theorem dW_1549 : decode code 1549 = .ok (.daload, 1) := by decide +kernel
theorem dW_1550 : decode code 1550 = .ok (.dload 7, 2) := by decide +kernel
theorem dW_1552 : decode code 1552 = .ok (.dcmp .l, 1) := by decide +kernel
theorem dW_1553 : decode code 1553 = .ok (.ifCond .eq 25, 3) := by decide +kernel
theorem dW_1578 : decode code 1578 = .ok (.goto 1330, 3) := by decide +kernel
theorem dW_1581 : decode code 1581 = .ok (.aload_n 1, 1) := by decide +kernel
theorem dW_1582 : decode code 1582 = .ok (.aload_n 0, 1) := by decide +kernel
theorem dW_1583 : decode code 1583 = .ok (.iload 5, 2) := by decide +kernel
theorem dW_1585 : decode code 1585 = .ok (.iconst 1, 1) := by decide +kernel
theorem dW_1586 : decode code 1586 = .ok (.iadd, 1) := by decide +kernel
theorem dW_1587 : decode code 1587 = .ok (.iaload, 1) := by decide +kernel
theorem dW_1588 : decode code 1588 = .ok (.aload 4, 2) := by decide +kernel
theorem dW_1590 : decode code 1590 = .ok (.invokestatic 266, 3) := by decide +kernel
theorem dW_1593 : decode code 1593 = .ok (.istore 6, 2) := by decide +kernel
theorem dW_1595 : decode code 1595 = .ok (.aload_n 2, 1) := by decide +kernel
theorem dW_1596 : decode code 1596 = .ok (.aload_n 0, 1) := by decide +kernel
theorem dW_1597 : decode code 1597 = .ok (.iload 5, 2) := by decide +kernel
theorem dW_1599 : decode code 1599 = .ok (.iconst 1, 1) := by decide +kernel
theorem dW_1600 : decode code 1600 = .ok (.iadd, 1) := by decide +kernel
theorem dW_1601 : decode code 1601 = .ok (.iaload, 1) := by decide +kernel
theorem dW_1602 : decode code 1602 = .ok (.invokevirtual 268, 3) := by decide +kernel
theorem dW_1605 : decode code 1605 = .ok (.fstore 7, 2) := by decide +kernel
theorem dW_1607 : decode code 1607 = .ok (.aload_n 2, 1) := by decide +kernel
theorem dW_1608 : decode code 1608 = .ok (.invokevirtual 144, 3) := by decide +kernel
theorem dW_1611 : decode code 1611 = .ok (.iload 6, 2) := by decide +kernel
theorem dW_1613 : decode code 1613 = .ok (.if_icmp .eq 5, 3) := by decide +kernel
theorem dW_1618 : decode code 1618 = .ok (.iload 6, 2) := by decide +kernel
theorem dW_1620 : decode code 1620 = .ok (.ifCond .ne 36, 3) := by decide +kernel
theorem dW_1623 : decode code 1623 = .ok (.aload 4, 2) := by decide +kernel
theorem dW_1625 : decode code 1625 = .ok (.iconst 0, 1) := by decide +kernel
theorem dW_1626 : decode code 1626 = .ok (.daload, 1) := by decide +kernel
theorem dW_1627 : decode code 1627 = .ok (.fload 7, 2) := by decide +kernel
theorem dW_1629 : decode code 1629 = .ok (.f2d, 1) := by decide +kernel
theorem dW_1630 : decode code 1630 = .ok (.dcmp .l, 1) := by decide +kernel
theorem dW_1631 : decode code 1631 = .ok (.ifCond .eq 25, 3) := by decide +kernel
theorem dW_1656 : decode code 1656 = .ok (.goto 1252, 3) := by decide +kernel
theorem dW_1659 : decode code 1659 = .ok (.aload_n 1, 1) := by decide +kernel
theorem dW_1660 : decode code 1660 = .ok (.invokevirtual 269, 3) := by decide +kernel
theorem dW_1663 : decode code 1663 = .ok (.aload_n 2, 1) := by decide +kernel
theorem dW_1664 : decode code 1664 = .ok (.invokevirtual 272, 3) := by decide +kernel
theorem dW_1667 : decode code 1667 = .ok (.if_icmp .eq 1241, 3) := by decide +kernel
theorem dW_1672 : decode code 1672 = .ok (.aload_n 1, 1) := by decide +kernel
theorem dW_1673 : decode code 1673 = .ok (.invokevirtual 273, 3) := by decide +kernel
theorem dW_1676 : decode code 1676 = .ok (.aload_n 2, 1) := by decide +kernel
theorem dW_1677 : decode code 1677 = .ok (.invokevirtual 276, 3) := by decide +kernel
theorem dW_1680 : decode code 1680 = .ok (.if_icmp .eq 1228, 3) := by decide +kernel
theorem dW_1685 : decode code 1685 = .ok (.aload_n 1, 1) := by decide +kernel
theorem dW_1686 : decode code 1686 = .ok (.aload_n 0, 1) := by decide +kernel
theorem dW_1687 : decode code 1687 = .ok (.iload 5, 2) := by decide +kernel
theorem dW_1689 : decode code 1689 = .ok (.iconst 1, 1) := by decide +kernel
theorem dW_1690 : decode code 1690 = .ok (.iadd, 1) := by decide +kernel
theorem dW_1691 : decode code 1691 = .ok (.iaload, 1) := by decide +kernel
theorem dW_1692 : decode code 1692 = .ok (.aload_n 3, 1) := by decide +kernel
theorem dW_1693 : decode code 1693 = .ok (.invokestatic 277, 3) := by decide +kernel
theorem dW_1696 : decode code 1696 = .ok (.istore 6, 2) := by decide +kernel
theorem dW_1698 : decode code 1698 = .ok (.aload_n 2, 1) := by decide +kernel
theorem dW_1699 : decode code 1699 = .ok (.aload_n 0, 1) := by decide +kernel
theorem dW_1700 : decode code 1700 = .ok (.iload 5, 2) := by decide +kernel
theorem dW_1702 : decode code 1702 = .ok (.iconst 1, 1) := by decide +kernel
theorem dW_1703 : decode code 1703 = .ok (.iadd, 1) := by decide +kernel
theorem dW_1704 : decode code 1704 = .ok (.iaload, 1) := by decide +kernel
theorem dW_1705 : decode code 1705 = .ok (.invokevirtual 279, 3) := by decide +kernel
theorem dW_1708 : decode code 1708 = .ok (.istore 7, 2) := by decide +kernel
theorem dW_1710 : decode code 1710 = .ok (.aload_n 2, 1) := by decide +kernel
theorem dW_1711 : decode code 1711 = .ok (.invokevirtual 144, 3) := by decide +kernel
theorem dW_1714 : decode code 1714 = .ok (.iload 6, 2) := by decide +kernel
theorem dW_1716 : decode code 1716 = .ok (.if_icmp .eq 5, 3) := by decide +kernel
theorem dW_1721 : decode code 1721 = .ok (.iload 6, 2) := by decide +kernel
theorem dW_1723 : decode code 1723 = .ok (.ifCond .ne 15, 3) := by decide +kernel
theorem dW_1726 : decode code 1726 = .ok (.aload_n 3, 1) := by decide +kernel
theorem dW_1727 : decode code 1727 = .ok (.iconst 0, 1) := by decide +kernel
theorem dW_1728 : decode code 1728 = .ok (.laload, 1) := by decide +kernel
theorem dW_1729 : decode code 1729 = .ok (.iload 7, 2) := by decide +kernel
theorem dW_1731 : decode code 1731 = .ok (.i2l, 1) := by decide +kernel
theorem dW_1732 : decode code 1732 = .ok (.lcmp, 1) := by decide +kernel
theorem dW_1733 : decode code 1733 = .ok (.ifCond .eq 5, 3) := by decide +kernel
theorem dW_1738 : decode code 1738 = .ok (.goto 1170, 3) := by decide +kernel
theorem dW_1741 : decode code 1741 = .ok (.aload_n 1, 1) := by decide +kernel
theorem dW_1742 : decode code 1742 = .ok (.aload_n 0, 1) := by decide +kernel
theorem dW_1743 : decode code 1743 = .ok (.iload 5, 2) := by decide +kernel
theorem dW_1745 : decode code 1745 = .ok (.iconst 1, 1) := by decide +kernel
theorem dW_1746 : decode code 1746 = .ok (.iadd, 1) := by decide +kernel
theorem dW_1747 : decode code 1747 = .ok (.iaload, 1) := by decide +kernel
theorem dW_1748 : decode code 1748 = .ok (.aload_n 3, 1) := by decide +kernel
theorem dW_1749 : decode code 1749 = .ok (.invokestatic 280, 3) := by decide +kernel
theorem dW_1752 : decode code 1752 = .ok (.istore 6, 2) := by decide +kernel
theorem dW_1754 : decode code 1754 = .ok (.aload_n 2, 1) := by decide +kernel
theorem dW_1755 : decode code 1755 = .ok (.aload_n 0, 1) := by decide +kernel
theorem dW_1756 : decode code 1756 = .ok (.iload 5, 2) := by decide +kernel
theorem dW_1758 : decode code 1758 = .ok (.iconst 1, 1) := by decide +kernel
theorem dW_1759 : decode code 1759 = .ok (.iadd, 1) := by decide +kernel
theorem dW_1760 : decode code 1760 = .ok (.iaload, 1) := by decide +kernel
theorem dW_1761 : decode code 1761 = .ok (.invokevirtual 282, 3) := by decide +kernel
theorem dW_1764 : decode code 1764 = .ok (.istore 7, 2) := by decide +kernel
theorem dW_1766 : decode code 1766 = .ok (.aload_n 2, 1) := by decide +kernel
theorem dW_1767 : decode code 1767 = .ok (.invokevirtual 144, 3) := by decide +kernel
theorem dW_1770 : decode code 1770 = .ok (.iload 6, 2) := by decide +kernel
theorem dW_1772 : decode code 1772 = .ok (.if_icmp .eq 5, 3) := by decide +kernel
theorem dW_1777 : decode code 1777 = .ok (.iload 6, 2) := by decide +kernel
theorem dW_1779 : decode code 1779 = .ok (.ifCond .ne 15, 3) := by decide +kernel
theorem dW_1782 : decode code 1782 = .ok (.aload_n 3, 1) := by decide +kernel
theorem dW_1783 : decode code 1783 = .ok (.iconst 0, 1) := by decide +kernel
theorem dW_1784 : decode code 1784 = .ok (.laload, 1) := by decide +kernel
theorem dW_1785 : decode code 1785 = .ok (.iload 7, 2) := by decide +kernel
theorem dW_1787 : decode code 1787 = .ok (.i2l, 1) := by decide +kernel
theorem dW_1788 : decode code 1788 = .ok (.lcmp, 1) := by decide +kernel
theorem dW_1789 : decode code 1789 = .ok (.ifCond .eq 5, 3) := by decide +kernel
theorem dW_1794 : decode code 1794 = .ok (.goto 1114, 3) := by decide +kernel
theorem dW_1797 : decode code 1797 = .ok (.aload_n 1, 1) := by decide +kernel
theorem dW_1798 : decode code 1798 = .ok (.aload_n 0, 1) := by decide +kernel
theorem dW_1799 : decode code 1799 = .ok (.iload 5, 2) := by decide +kernel
theorem dW_1801 : decode code 1801 = .ok (.iconst 1, 1) := by decide +kernel
theorem dW_1802 : decode code 1802 = .ok (.iadd, 1) := by decide +kernel
theorem dW_1803 : decode code 1803 = .ok (.iaload, 1) := by decide +kernel
theorem dW_1804 : decode code 1804 = .ok (.aload_n 3, 1) := by decide +kernel
theorem dW_1805 : decode code 1805 = .ok (.invokestatic 283, 3) := by decide +kernel
theorem dW_1808 : decode code 1808 = .ok (.istore 6, 2) := by decide +kernel
theorem dW_1810 : decode code 1810 = .ok (.aload_n 2, 1) := by decide +kernel
theorem dW_1811 : decode code 1811 = .ok (.aload_n 0, 1) := by decide +kernel
theorem dW_1812 : decode code 1812 = .ok (.iload 5, 2) := by decide +kernel
theorem dW_1814 : decode code 1814 = .ok (.iconst 1, 1) := by decide +kernel
theorem dW_1815 : decode code 1815 = .ok (.iadd, 1) := by decide +kernel
theorem dW_1816 : decode code 1816 = .ok (.iaload, 1) := by decide +kernel
theorem dW_1817 : decode code 1817 = .ok (.invokevirtual 285, 3) := by decide +kernel
theorem dW_1820 : decode code 1820 = .ok (.istore 7, 2) := by decide +kernel
theorem dW_1822 : decode code 1822 = .ok (.aload_n 2, 1) := by decide +kernel
theorem dW_1823 : decode code 1823 = .ok (.invokevirtual 144, 3) := by decide +kernel
theorem dW_1826 : decode code 1826 = .ok (.iload 6, 2) := by decide +kernel
theorem dW_1828 : decode code 1828 = .ok (.if_icmp .eq 5, 3) := by decide +kernel
theorem dW_1833 : decode code 1833 = .ok (.iload 6, 2) := by decide +kernel
theorem dW_1835 : decode code 1835 = .ok (.ifCond .ne 15, 3) := by decide +kernel
theorem dW_1838 : decode code 1838 = .ok (.aload_n 3, 1) := by decide +kernel
theorem dW_1839 : decode code 1839 = .ok (.iconst 0, 1) := by decide +kernel
theorem dW_1840 : decode code 1840 = .ok (.laload, 1) := by decide +kernel
theorem dW_1841 : decode code 1841 = .ok (.iload 7, 2) := by decide +kernel
theorem dW_1843 : decode code 1843 = .ok (.i2l, 1) := by decide +kernel
theorem dW_1844 : decode code 1844 = .ok (.lcmp, 1) := by decide +kernel
theorem dW_1845 : decode code 1845 = .ok (.ifCond .eq 5, 3) := by decide +kernel
theorem dW_1850 : decode code 1850 = .ok (.goto 1058, 3) := by decide +kernel
theorem dW_1853 : decode code 1853 = .ok (.aload_n 1, 1) := by decide +kernel
theorem dW_1854 : decode code 1854 = .ok (.aload_n 0, 1) := by decide +kernel
theorem dW_1855 : decode code 1855 = .ok (.iload 5, 2) := by decide +kernel
theorem dW_1857 : decode code 1857 = .ok (.iconst 1, 1) := by decide +kernel
theorem dW_1858 : decode code 1858 = .ok (.iadd, 1) := by decide +kernel
theorem dW_1859 : decode code 1859 = .ok (.iaload, 1) := by decide +kernel
theorem dW_1860 : decode code 1860 = .ok (.aload_n 0, 1) := by decide +kernel
theorem dW_1861 : decode code 1861 = .ok (.iload 5, 2) := by decide +kernel
theorem dW_1863 : decode code 1863 = .ok (.iconst 2, 1) := by decide +kernel
theorem dW_1864 : decode code 1864 = .ok (.iadd, 1) := by decide +kernel
theorem dW_1865 : decode code 1865 = .ok (.iaload, 1) := by decide +kernel
theorem dW_1866 : decode code 1866 = .ok (.aload_n 0, 1) := by decide +kernel
theorem dW_1867 : decode code 1867 = .ok (.iload 5, 2) := by decide +kernel
theorem dW_1869 : decode code 1869 = .ok (.iconst 3, 1) := by decide +kernel
theorem dW_1870 : decode code 1870 = .ok (.iadd, 1) := by decide +kernel
theorem dW_1871 : decode code 1871 = .ok (.iaload, 1) := by decide +kernel
theorem dW_1872 : decode code 1872 = .ok (.aload_n 3, 1) := by decide +kernel
theorem dW_1873 : decode code 1873 = .ok (.invokestatic 286, 3) := by decide +kernel
theorem dW_1876 : decode code 1876 = .ok (.istore 6, 2) := by decide +kernel
theorem dW_1878 : decode code 1878 = .ok (.aload_n 2, 1) := by decide +kernel
theorem dW_1879 : decode code 1879 = .ok (.aload_n 0, 1) := by decide +kernel
theorem dW_1880 : decode code 1880 = .ok (.iload 5, 2) := by decide +kernel
theorem dW_1882 : decode code 1882 = .ok (.iconst 1, 1) := by decide +kernel
theorem dW_1883 : decode code 1883 = .ok (.iadd, 1) := by decide +kernel
theorem dW_1884 : decode code 1884 = .ok (.iaload, 1) := by decide +kernel
theorem dW_1885 : decode code 1885 = .ok (.aload_n 0, 1) := by decide +kernel
theorem dW_1886 : decode code 1886 = .ok (.iload 5, 2) := by decide +kernel
theorem dW_1888 : decode code 1888 = .ok (.iconst 2, 1) := by decide +kernel
theorem dW_1889 : decode code 1889 = .ok (.iadd, 1) := by decide +kernel
theorem dW_1890 : decode code 1890 = .ok (.iaload, 1) := by decide +kernel
theorem dW_1891 : decode code 1891 = .ok (.aload_n 0, 1) := by decide +kernel
theorem dW_1892 : decode code 1892 = .ok (.iload 5, 2) := by decide +kernel
theorem dW_1894 : decode code 1894 = .ok (.iconst 3, 1) := by decide +kernel
theorem dW_1895 : decode code 1895 = .ok (.iadd, 1) := by decide +kernel
theorem dW_1896 : decode code 1896 = .ok (.iaload, 1) := by decide +kernel
