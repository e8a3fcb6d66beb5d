theorem dL_law_1503 : decode cL_law 1503 = .ok (.iaload, 1) := by decide +kernel
theorem dL_law_1504 : decode cL_law 1504 = .ok (.invokestatic 45, 3) := by decide +kernel
theorem dL_law_1507 : decode cL_law 1507 = .ok (.istore 25, 2) := by decide +kernel
theorem dL_law_1509 : decode cL_law 1509 = .ok (.aload_n 1, 1) := by decide +kernel
theorem dL_law_1510 : decode cL_law 1510 = .ok (.iconst 5, 1) := by decide +kernel
theorem dL_law_1511 : decode cL_law 1511 = .ok (.iconst 2, 1) := by decide +kernel
theorem dL_law_1512 : decode cL_law 1512 = .ok (.iload 26, 2) := by decide +kernel
theorem dL_law_1514 : decode cL_law 1514 = .ok (.imul, 1) := by decide +kernel
theorem dL_law_1515 : decode cL_law 1515 = .ok (.iload 27, 2) := by decide +kernel
theorem dL_law_1517 : decode cL_law 1517 = .ok (.invokevirtual 137, 3) := by decide +kernel
theorem dL_law_1520 : decode cL_law 1520 = .ok (.iconst 1, 1) := by decide +kernel
theorem dL_law_1521 : decode cL_law 1521 = .ok (.if_icmp .ne 20, 3) := by decide +kernel
theorem dL_law_1524 : decode cL_law 1524 = .ok (.aload_n 1, 1) := by decide +kernel
theorem dL_law_1525 : decode cL_law 1525 = .ok (.iconst 5, 1) := by decide +kernel
theorem dL_law_1526 : decode cL_law 1526 = .ok (.iconst 2, 1) := by decide +kernel
theorem dL_law_1527 : decode cL_law 1527 = .ok (.iload 26, 2) := by decide +kernel
theorem dL_law_1529 : decode cL_law 1529 = .ok (.imul, 1) := by decide +kernel
theorem dL_law_1530 : decode cL_law 1530 = .ok (.iconst 1, 1) := by decide +kernel
theorem dL_law_1531 : decode cL_law 1531 = .ok (.iadd, 1) := by decide +kernel
theorem dL_law_1532 : decode cL_law 1532 = .ok (.iload 25, 2) := by decide +kernel
theorem dL_law_1534 : decode cL_law 1534 = .ok (.invokevirtual 137, 3) := by decide +kernel
theorem dL_law_1537 : decode cL_law 1537 = .ok (.iconst 1, 1) := by decide +kernel
theorem dL_law_1538 : decode cL_law 1538 = .ok (.if_icmp .eq 5, 3) := by decide +kernel
theorem dL_law_1541 : decode cL_law 1541 = .ok (.iconst 0, 1) := by decide +kernel
theorem dL_law_1542 : decode cL_law 1542 = .ok (.ireturn, 1) := by decide +kernel
theorem dL_law_1543 : decode cL_law 1543 = .ok (.iinc 26 1, 3) := by decide +kernel
theorem dL_law_1546 : decode cL_law 1546 = .ok (.goto (-83), 3) := by decide +kernel
theorem dL_law_1549 : decode cL_law 1549 = .ok (.aload_n 1, 1) := by decide +kernel
theorem dL_law_1550 : decode cL_law 1550 = .ok (.iload 22, 2) := by decide +kernel
theorem dL_law_1552 : decode cL_law 1552 = .ok (.iconst 5, 1) := by decide +kernel
theorem dL_law_1553 : decode cL_law 1553 = .ok (.invokevirtual 152, 3) := by decide +kernel
theorem dL_law_1556 : decode cL_law 1556 = .ok (.aload_n 2, 1) := by decide +kernel
theorem dL_law_1557 : decode cL_law 1557 = .ok (.bipush 6, 2) := by decide +kernel
theorem dL_law_1559 : decode cL_law 1559 = .ok (.iload 22, 2) := by decide +kernel
theorem dL_law_1561 : decode cL_law 1561 = .ok (.iadd, 1) := by decide +kernel
theorem dL_law_1562 : decode cL_law 1562 = .ok (.iaload, 1) := by decide +kernel
theorem dL_law_1563 : decode cL_law 1563 = .ok (.ishr, 1) := by decide +kernel
theorem dL_law_1564 : decode cL_law 1564 = .ok (.iconst 1, 1) := by decide +kernel
theorem dL_law_1565 : decode cL_law 1565 = .ok (.iand, 1) := by decide +kernel
theorem dL_law_1566 : decode cL_law 1566 = .ok (.iconst 1, 1) := by decide +kernel
theorem dL_law_1567 : decode cL_law 1567 = .ok (.if_icmp .ne 43, 3) := by decide +kernel
theorem dL_law_1570 : decode cL_law 1570 = .ok (.aload_n 1, 1) := by decide +kernel
theorem dL_law_1571 : decode cL_law 1571 = .ok (.iload 22, 2) := by decide +kernel
theorem dL_law_1573 : decode cL_law 1573 = .ok (.iconst 5, 1) := by decide +kernel
theorem dL_law_1574 : decode cL_law 1574 = .ok (.invokevirtual 155, 3) := by decide +kernel
theorem dL_law_1577 : decode cL_law 1577 = .ok (.iload 23, 2) := by decide +kernel
theorem dL_law_1579 : decode cL_law 1579 = .ok (.ishr, 1) := by decide +kernel
theorem dL_law_1580 : decode cL_law 1580 = .ok (.iconst 1, 1) := by decide +kernel
theorem dL_law_1581 : decode cL_law 1581 = .ok (.iand, 1) := by decide +kernel
theorem dL_law_1582 : decode cL_law 1582 = .ok (.iconst 1, 1) := by decide +kernel
theorem dL_law_1583 : decode cL_law 1583 = .ok (.if_icmp .ne 27, 3) := by decide +kernel
theorem dL_law_1586 : decode cL_law 1586 = .ok (.aload_n 1, 1) := by decide +kernel
theorem dL_law_1587 : decode cL_law 1587 = .ok (.iload 22, 2) := by decide +kernel
theorem dL_law_1589 : decode cL_law 1589 = .ok (.iconst 5, 1) := by decide +kernel
theorem dL_law_1590 : decode cL_law 1590 = .ok (.invokevirtual 152, 3) := by decide +kernel
theorem dL_law_1593 : decode cL_law 1593 = .ok (.bipush 63, 2) := by decide +kernel
theorem dL_law_1595 : decode cL_law 1595 = .ok (.if_icmp .gt 15, 3) := by decide +kernel
theorem dL_law_1598 : decode cL_law 1598 = .ok (.aload_n 1, 1) := by decide +kernel
theorem dL_law_1599 : decode cL_law 1599 = .ok (.iload 22, 2) := by decide +kernel
theorem dL_law_1601 : decode cL_law 1601 = .ok (.iconst 5, 1) := by decide +kernel
theorem dL_law_1602 : decode cL_law 1602 = .ok (.invokevirtual 155, 3) := by decide +kernel
theorem dL_law_1605 : decode cL_law 1605 = .ok (.ldc 159, 2) := by decide +kernel
theorem dL_law_1607 : decode cL_law 1607 = .ok (.if_icmp .lt 5, 3) := by decide +kernel
theorem dL_law_1610 : decode cL_law 1610 = .ok (.iconst 0, 1) := by decide +kernel
theorem dL_law_1611 : decode cL_law 1611 = .ok (.ireturn, 1) := by decide +kernel
theorem dL_law_1612 : decode cL_law 1612 = .ok (.iconst 0, 1) := by decide +kernel
theorem dL_law_1613 : decode cL_law 1613 = .ok (.istore 23, 2) := by decide +kernel
theorem dL_law_1615 : decode cL_law 1615 = .ok (.iload 23, 2) := by decide +kernel
theorem dL_law_1617 : decode cL_law 1617 = .ok (.iload 4, 2) := by decide +kernel
theorem dL_law_1619 : decode cL_law 1619 = .ok (.if_icmp .ge 84, 3) := by decide +kernel
theorem dL_law_1622 : decode cL_law 1622 = .ok (.aload_n 0, 1) := by decide +kernel
theorem dL_law_1623 : decode cL_law 1623 = .ok (.bipush 43, 2) := by decide +kernel
theorem dL_law_1625 : decode cL_law 1625 = .ok (.invokestatic 9, 3) := by decide +kernel
theorem dL_law_1628 : decode cL_law 1628 = .ok (.iconst 4, 1) := by decide +kernel
theorem dL_law_1629 : decode cL_law 1629 = .ok (.invokestatic 15, 3) := by decide +kernel
theorem dL_law_1632 : decode cL_law 1632 = .ok (.istore 24, 2) := by decide +kernel
theorem dL_law_1634 : decode cL_law 1634 = .ok (.aload_n 0, 1) := by decide +kernel
theorem dL_law_1635 : decode cL_law 1635 = .ok (.bipush 44, 2) := by decide +kernel
theorem dL_law_1637 : decode cL_law 1637 = .ok (.iload 23, 2) := by decide +kernel
theorem dL_law_1639 : decode cL_law 1639 = .ok (.iadd, 1) := by decide +kernel
theorem dL_law_1640 : decode cL_law 1640 = .ok (.invokestatic 9, 3) := by decide +kernel
theorem dL_law_1643 : decode cL_law 1643 = .ok (.bipush 21, 2) := by decide +kernel
theorem dL_law_1645 : decode cL_law 1645 = .ok (.invokestatic 15, 3) := by decide +kernel
theorem dL_law_1648 : decode cL_law 1648 = .ok (.istore 25, 2) := by decide +kernel
theorem dL_law_1650 : decode cL_law 1650 = .ok (.aload_n 1, 1) := by decide +kernel
theorem dL_law_1651 : decode cL_law 1651 = .ok (.iload 23, 2) := by decide +kernel
theorem dL_law_1653 : decode cL_law 1653 = .ok (.iload 24, 2) := by decide +kernel
theorem dL_law_1655 : decode cL_law 1655 = .ok (.iload 25, 2) := by decide +kernel
theorem dL_law_1657 : decode cL_law 1657 = .ok (.aload_n 2, 1) := by decide +kernel
theorem dL_law_1658 : decode cL_law 1658 = .ok (.bipush 6, 2) := by decide +kernel
theorem dL_law_1660 : decode cL_law 1660 = .ok (.iload 23, 2) := by decide +kernel
theorem dL_law_1662 : decode cL_law 1662 = .ok (.iadd, 1) := by decide +kernel
theorem dL_law_1663 : decode cL_law 1663 = .ok (.iaload, 1) := by decide +kernel
theorem dL_law_1664 : decode cL_law 1664 = .ok (.iload 25, 2) := by decide +kernel
theorem dL_law_1666 : decode cL_law 1666 = .ok (.iload 24, 2) := by decide +kernel
theorem dL_law_1668 : decode cL_law 1668 = .ok (.aload_n 2, 1) := by decide +kernel
theorem dL_law_1669 : decode cL_law 1669 = .ok (.iconst 2, 1) := by decide +kernel
theorem dL_law_1670 : decode cL_law 1670 = .ok (.iload 24, 2) := by decide +kernel
theorem dL_law_1672 : decode cL_law 1672 = .ok (.iadd, 1) := by decide +kernel
theorem dL_law_1673 : decode cL_law 1673 = .ok (.iaload, 1) := by decide +kernel
theorem dL_law_1674 : decode cL_law 1674 = .ok (.invokestatic 45, 3) := by decide +kernel
theorem dL_law_1677 : decode cL_law 1677 = .ok (.invokevirtual 160, 3) := by decide +kernel
theorem dL_law_1680 : decode cL_law 1680 = .ok (.aload_n 2, 1) := by decide +kernel
theorem dL_law_1681 : decode cL_law 1681 = .ok (.iconst 2, 1) := by decide +kernel
theorem dL_law_1682 : decode cL_law 1682 = .ok (.iload 24, 2) := by decide +kernel
theorem dL_law_1684 : decode cL_law 1684 = .ok (.iadd, 1) := by decide +kernel
theorem dL_law_1685 : decode cL_law 1685 = .ok (.iaload, 1) := by decide +kernel
theorem dL_law_1686 : decode cL_law 1686 = .ok (.iconst 4, 1) := by decide +kernel
theorem dL_law_1687 : decode cL_law 1687 = .ok (.iadd, 1) := by decide +kernel
theorem dL_law_1688 : decode cL_law 1688 = .ok (.ishr, 1) := by decide +kernel
theorem dL_law_1689 : decode cL_law 1689 = .ok (.iconst 1, 1) := by decide +kernel
theorem dL_law_1690 : decode cL_law 1690 = .ok (.iand, 1) := by decide +kernel
theorem dL_law_1691 : decode cL_law 1691 = .ok (.iconst 1, 1) := by decide +kernel
theorem dL_law_1692 : decode cL_law 1692 = .ok (.if_icmp .eq 5, 3) := by decide +kernel
theorem dL_law_1695 : decode cL_law 1695 = .ok (.iconst 0, 1) := by decide +kernel
theorem dL_law_1696 : decode cL_law 1696 = .ok (.ireturn, 1) := by decide +kernel
theorem dL_law_1697 : decode cL_law 1697 = .ok (.iinc 23 1, 3) := by decide +kernel
theorem dL_law_1700 : decode cL_law 1700 = .ok (.goto (-85), 3) := by decide +kernel
theorem dL_law_1703 : decode cL_law 1703 = .ok (.iconst 0, 1) := by decide +kernel
theorem dL_law_1704 : decode cL_law 1704 = .ok (.istore 23, 2) := by decide +kernel
theorem dL_law_1706 : decode cL_law 1706 = .ok (.aload_n 1, 1) := by decide +kernel
theorem dL_law_1707 : decode cL_law 1707 = .ok (.iload 4, 2) := by decide +kernel
theorem dL_law_1709 : decode cL_law 1709 = .ok (.invokestatic 80, 3) := by decide +kernel
theorem dL_law_1712 : decode cL_law 1712 = .ok (.istore 24, 2) := by decide +kernel
theorem dL_law_1714 : decode cL_law 1714 = .ok (.iconst 1, 1) := by decide +kernel
theorem dL_law_1715 : decode cL_law 1715 = .ok (.aload_n 0, 1) := by decide +kernel
theorem dL_law_1716 : decode cL_law 1716 = .ok (.bipush 50, 2) := by decide +kernel
theorem dL_law_1718 : decode cL_law 1718 = .ok (.invokestatic 9, 3) := by decide +kernel
theorem dL_law_1721 : decode cL_law 1721 = .ok (.sipush 999, 3) := by decide +kernel
theorem dL_law_1724 : decode cL_law 1724 = .ok (.invokestatic 15, 3) := by decide +kernel
theorem dL_law_1727 : decode cL_law 1727 = .ok (.iadd, 1) := by decide +kernel
theorem dL_law_1728 : decode cL_law 1728 = .ok (.istore 25, 2) := by decide +kernel
theorem dL_law_1730 : decode cL_law 1730 = .ok (.iconst 0, 1) := by decide +kernel
theorem dL_law_1731 : decode cL_law 1731 = .ok (.istore 26, 2) := by decide +kernel
theorem dL_law_1733 : decode cL_law 1733 = .ok (.iconst 0, 1) := by decide +kernel
theorem dL_law_1734 : decode cL_law 1734 = .ok (.istore 27, 2) := by decide +kernel
theorem dL_law_1736 : decode cL_law 1736 = .ok (.iload 27, 2) := by decide +kernel
theorem dL_law_1738 : decode cL_law 1738 = .ok (.iload 4, 2) := by decide +kernel
theorem dL_law_1740 : decode cL_law 1740 = .ok (.if_icmp .ge 130, 3) := by decide +kernel
theorem dL_law_1743 : decode cL_law 1743 = .ok (.aload_n 1, 1) := by decide +kernel
theorem dL_law_1744 : decode cL_law 1744 = .ok (.iload 27, 2) := by decide +kernel
theorem dL_law_1746 : decode cL_law 1746 = .ok (.iconst 4, 1) := by decide +kernel
theorem dL_law_1747 : decode cL_law 1747 = .ok (.invokevirtual 84, 3) := by decide +kernel
theorem dL_law_1750 : decode cL_law 1750 = .ok (.iconst 1, 1) := by decide +kernel
theorem dL_law_1751 : decode cL_law 1751 = .ok (.if_icmp .eq 5, 3) := by decide +kernel
theorem dL_law_1754 : decode cL_law 1754 = .ok (.iconst 0, 1) := by decide +kernel
theorem dL_law_1755 : decode cL_law 1755 = .ok (.ireturn, 1) := by decide +kernel
theorem dL_law_1756 : decode cL_law 1756 = .ok (.iload 23, 2) := by decide +kernel
theorem dL_law_1758 : decode cL_law 1758 = .ok (.aload_n 1, 1) := by decide +kernel
theorem dL_law_1759 : decode cL_law 1759 = .ok (.invokevirtual 87, 3) := by decide +kernel
theorem dL_law_1762 : decode cL_law 1762 = .ok (.iconst 1, 1) := by decide +kernel
theorem dL_law_1763 : decode cL_law 1763 = .ok (.if_icmp .ne 20, 3) := by decide +kernel
theorem dL_law_1766 : decode cL_law 1766 = .ok (.iload 24, 2) := by decide +kernel
theorem dL_law_1768 : decode cL_law 1768 = .ok (.iload 27, 2) := by decide +kernel
theorem dL_law_1770 : decode cL_law 1770 = .ok (.ishr, 1) := by decide +kernel
theorem dL_law_1771 : decode cL_law 1771 = .ok (.iconst 1, 1) := by decide +kernel
theorem dL_law_1772 : decode cL_law 1772 = .ok (.iand, 1) := by decide +kernel
theorem dL_law_1773 : decode cL_law 1773 = .ok (.ifCond .ne 10, 3) := by decide +kernel
theorem dL_law_1776 : decode cL_law 1776 = .ok (.iconst 1, 1) := by decide +kernel
theorem dL_law_1777 : decode cL_law 1777 = .ok (.iload 27, 2) := by decide +kernel
theorem dL_law_1779 : decode cL_law 1779 = .ok (.ishl, 1) := by decide +kernel
theorem dL_law_1780 : decode cL_law 1780 = .ok (.goto 4, 3) := by decide +kernel
theorem dL_law_1783 : decode cL_law 1783 = .ok (.iconst 0, 1) := by decide +kernel
theorem dL_law_1784 : decode cL_law 1784 = .ok (.ior, 1) := by decide +kernel
theorem dL_law_1785 : decode cL_law 1785 = .ok (.istore 23, 2) := by decide +kernel
theorem dL_law_1787 : decode cL_law 1787 = .ok (.aload_n 1, 1) := by decide +kernel
theorem dL_law_1788 : decode cL_law 1788 = .ok (.iload 27, 2) := by decide +kernel
theorem dL_law_1790 : decode cL_law 1790 = .ok (.iload 25, 2) := by decide +kernel
theorem dL_law_1792 : decode cL_law 1792 = .ok (.invokevirtual 163, 3) := by decide +kernel
theorem dL_law_1795 : decode cL_law 1795 = .ok (.istore 28, 2) := by decide +kernel
theorem dL_law_1797 : decode cL_law 1797 = .ok (.iload 28, 2) := by decide +kernel
theorem dL_law_1799 : decode cL_law 1799 = .ok (.ifCond .lt 56, 3) := by decide +kernel
theorem dL_law_1802 : decode cL_law 1802 = .ok (.iload 24, 2) := by decide +kernel
theorem dL_law_1804 : decode cL_law 1804 = .ok (.iload 27, 2) := by decide +kernel
theorem dL_law_1806 : decode cL_law 1806 = .ok (.ishr, 1) := by decide +kernel
theorem dL_law_1807 : decode cL_law 1807 = .ok (.iconst 1, 1) := by decide +kernel
theorem dL_law_1808 : decode cL_law 1808 = .ok (.iand, 1) := by decide +kernel
theorem dL_law_1809 : decode cL_law 1809 = .ok (.iconst 1, 1) := by decide +kernel
theorem dL_law_1810 : decode cL_law 1810 = .ok (.if_icmp .ne 8, 3) := by decide +kernel
theorem dL_law_1813 : decode cL_law 1813 = .ok (.iload 28, 2) := by decide +kernel
theorem dL_law_1815 : decode cL_law 1815 = .ok (.ifCond .ne 40, 3) := by decide +kernel
theorem dL_law_1818 : decode cL_law 1818 = .ok (.iload 27, 2) := by decide +kernel
theorem dL_law_1820 : decode cL_law 1820 = .ok (.ifCond .le 37, 3) := by decide +kernel
theorem dL_law_1823 : decode cL_law 1823 = .ok (.iload 28, 2) := by decide +kernel
theorem dL_law_1825 : decode cL_law 1825 = .ok (.ifCond .le 32, 3) := by decide +kernel
theorem dL_law_1828 : decode cL_law 1828 = .ok (.iload 24, 2) := by decide +kernel
theorem dL_law_1830 : decode cL_law 1830 = .ok (.iload 27, 2) := by decide +kernel
theorem dL_law_1832 : decode cL_law 1832 = .ok (.iconst 1, 1) := by decide +kernel
theorem dL_law_1833 : decode cL_law 1833 = .ok (.isub, 1) := by decide +kernel
theorem dL_law_1834 : decode cL_law 1834 = .ok (.ishr, 1) := by decide +kernel
theorem dL_law_1835 : decode cL_law 1835 = .ok (.iconst 1, 1) := by decide +kernel
theorem dL_law_1836 : decode cL_law 1836 = .ok (.iand, 1) := by decide +kernel
theorem dL_law_1837 : decode cL_law 1837 = .ok (.ifCond .ne 20, 3) := by decide +kernel
theorem dL_law_1840 : decode cL_law 1840 = .ok (.aload_n 1, 1) := by decide +kernel
theorem dL_law_1841 : decode cL_law 1841 = .ok (.iload 27, 2) := by decide +kernel
theorem dL_law_1843 : decode cL_law 1843 = .ok (.iconst 1, 1) := by decide +kernel
theorem dL_law_1844 : decode cL_law 1844 = .ok (.isub, 1) := by decide +kernel
theorem dL_law_1845 : decode cL_law 1845 = .ok (.iload 25, 2) := by decide +kernel
theorem dL_law_1847 : decode cL_law 1847 = .ok (.invokevirtual 163, 3) := by decide +kernel
theorem dL_law_1850 : decode cL_law 1850 = .ok (.iload 28, 2) := by decide +kernel
theorem dL_law_1852 : decode cL_law 1852 = .ok (.if_icmp .ge 5, 3) := by decide +kernel
theorem dL_law_1855 : decode cL_law 1855 = .ok (.iconst 0, 1) := by decide +kernel
theorem dL_law_1856 : decode cL_law 1856 = .ok (.ireturn, 1) := by decide +kernel
theorem dL_law_1857 : decode cL_law 1857 = .ok (.iload 26, 2) := by decide +kernel
theorem dL_law_1859 : decode cL_law 1859 = .ok (.iload 28, 2) := by decide +kernel
theorem dL_law_1861 : decode cL_law 1861 = .ok (.iadd, 1) := by decide +kernel
theorem dL_law_1862 : decode cL_law 1862 = .ok (.istore 26, 2) := by decide +kernel
theorem dL_law_1864 : decode cL_law 1864 = .ok (.iinc 27 1, 3) := by decide +kernel
theorem dL_law_1867 : decode cL_law 1867 = .ok (.goto (-131), 3) := by decide +kernel
theorem dL_law_1870 : decode cL_law 1870 = .ok (.aload_n 0, 1) := by decide +kernel
theorem dL_law_1871 : decode cL_law 1871 = .ok (.bipush 51, 2) := by decide +kernel
theorem dL_law_1873 : decode cL_law 1873 = .ok (.invokestatic 9, 3) := by decide +kernel
theorem dL_law_1876 : decode cL_law 1876 = .ok (.iload 5, 2) := by decide +kernel
theorem dL_law_1878 : decode cL_law 1878 = .ok (.iconst 1, 1) := by decide +kernel
theorem dL_law_1879 : decode cL_law 1879 = .ok (.iadd, 1) := by decide +kernel
theorem dL_law_1880 : decode cL_law 1880 = .ok (.invokestatic 15, 3) := by decide +kernel
theorem dL_law_1883 : decode cL_law 1883 = .ok (.istore 27, 2) := by decide +kernel
theorem dL_law_1885 : decode cL_law 1885 = .ok (.aload_n 1, 1) := by decide +kernel
theorem dL_law_1886 : decode cL_law 1886 = .ok (.iload 5, 2) := by decide +kernel
theorem dL_law_1888 : decode cL_law 1888 = .ok (.invokevirtual 166, 3) := by decide +kernel
theorem dL_law_1891 : decode cL_law 1891 = .ok (.iload 23, 2) := by decide +kernel
theorem dL_law_1893 : decode cL_law 1893 = .ok (.if_icmp .ne 41, 3) := by decide +kernel
theorem dL_law_1896 : decode cL_law 1896 = .ok (.aload_n 1, 1) := by decide +kernel
theorem dL_law_1897 : decode cL_law 1897 = .ok (.iconst 0, 1) := by decide +kernel
theorem dL_law_1898 : decode cL_law 1898 = .ok (.invokevirtual 166, 3) := by decide +kernel
theorem dL_law_1901 : decode cL_law 1901 = .ok (.ifCond .ne 33, 3) := by decide +kernel
theorem dL_law_1904 : decode cL_law 1904 = .ok (.aload_n 1, 1) := by decide +kernel
theorem dL_law_1905 : decode cL_law 1905 = .ok (.iload 27, 2) := by decide +kernel
theorem dL_law_1907 : decode cL_law 1907 = .ok (.invokevirtual 166, 3) := by decide +kernel
theorem dL_law_1910 : decode cL_law 1910 = .ok (.iload 23, 2) := by decide +kernel
theorem dL_law_1912 : decode cL_law 1912 = .ok (.iconst (-1), 1) := by decide +kernel
theorem dL_law_1913 : decode cL_law 1913 = .ok (.ixor, 1) := by decide +kernel
theorem dL_law_1914 : decode cL_law 1914 = .ok (.iand, 1) := by decide +kernel
theorem dL_law_1915 : decode cL_law 1915 = .ok (.ifCond .ne 19, 3) := by decide +kernel
theorem dL_law_1918 : decode cL_law 1918 = .ok (.iload 26, 2) := by decide +kernel
theorem dL_law_1920 : decode cL_law 1920 = .ok (.iload 7, 2) := by decide +kernel
theorem dL_law_1922 : decode cL_law 1922 = .ok (.ifCond .ne 7, 3) := by decide +kernel
theorem dL_law_1925 : decode cL_law 1925 = .ok (.iconst 0, 1) := by decide +kernel
theorem dL_law_1926 : decode cL_law 1926 = .ok (.goto 5, 3) := by decide +kernel
theorem dL_law_1929 : decode cL_law 1929 = .ok (.iload 25, 2) := by decide +kernel
theorem dL_law_1931 : decode cL_law 1931 = .ok (.if_icmp .eq 5, 3) := by decide +kernel
theorem dL_law_1934 : decode cL_law 1934 = .ok (.iconst 0, 1) := by decide +kernel
theorem dL_law_1935 : decode cL_law 1935 = .ok (.ireturn, 1) := by decide +kernel
theorem dL_law_1936 : decode cL_law 1936 = .ok (.aload_n 1, 1) := by decide +kernel
theorem dL_law_1937 : decode cL_law 1937 = .ok (.invokevirtual 169, 3) := by decide +kernel
theorem dL_law_1940 : decode cL_law 1940 = .ok (.istore 28, 2) := by decide +kernel
theorem dL_law_1942 : decode cL_law 1942 = .ok (.iload 28, 2) := by decide +kernel
theorem dL_law_1944 : decode cL_law 1944 = .ok (.ifCond .lt 30, 3) := by decide +kernel
theorem dL_law_1947 : decode cL_law 1947 = .ok (.iload 28, 2) := by decide +kernel
theorem dL_law_1949 : decode cL_law 1949 = .ok (.invokestatic 97, 3) := by decide +kernel
theorem dL_law_1952 : decode cL_law 1952 = .ok (.iconst 2, 1) := by decide +kernel
theorem dL_law_1953 : decode cL_law 1953 = .ok (.if_icmp .lt 28, 3) := by decide +kernel
theorem dL_law_1956 : decode cL_law 1956 = .ok (.iload 28, 2) := by decide +kernel
theorem dL_law_1958 : decode cL_law 1958 = .ok (.iload 24, 2) := by decide +kernel
theorem dL_law_1960 : decode cL_law 1960 = .ok (.iand, 1) := by decide +kernel
theorem dL_law_1961 : decode cL_law 1961 = .ok (.ifCond .ne 20, 3) := by decide +kernel
theorem dL_law_1964 : decode cL_law 1964 = .ok (.iload 28, 2) := by decide +kernel
theorem dL_law_1966 : decode cL_law 1966 = .ok (.iload 5, 2) := by decide +kernel
theorem dL_law_1968 : decode cL_law 1968 = .ok (.if_icmp .le 15, 3) := by decide +kernel
theorem dL_law_1971 : decode cL_law 1971 = .ok (.goto 10, 3) := by decide +kernel
theorem dL_law_1974 : decode cL_law 1974 = .ok (.iload 28, 2) := by decide +kernel
theorem dL_law_1976 : decode cL_law 1976 = .ok (.bipush (-9), 2) := by decide +kernel
theorem dL_law_1978 : decode cL_law 1978 = .ok (.if_icmp .eq 5, 3) := by decide +kernel
theorem dL_law_1981 : decode cL_law 1981 = .ok (.iconst 0, 1) := by decide +kernel
theorem dL_law_1982 : decode cL_law 1982 = .ok (.ireturn, 1) := by decide +kernel
theorem dL_law_1983 : decode cL_law 1983 = .ok (.iconst 1, 1) := by decide +kernel
theorem dL_law_1984 : decode cL_law 1984 = .ok (.aload_n 0, 1) := by decide +kernel
theorem dL_law_1985 : decode cL_law 1985 = .ok (.bipush 52, 2) := by decide +kernel
theorem dL_law_1987 : decode cL_law 1987 = .ok (.invokestatic 9, 3) := by decide +kernel
theorem dL_law_1990 : decode cL_law 1990 = .ok (.bipush 20, 2) := by decide +kernel
theorem dL_law_1992 : decode cL_law 1992 = .ok (.invokestatic 15, 3) := by decide +kernel
theorem dL_law_1995 : decode cL_law 1995 = .ok (.iadd, 1) := by decide +kernel
theorem dL_law_1996 : decode cL_law 1996 = .ok (.istore 29, 2) := by decide +kernel
theorem dL_law_1998 : decode cL_law 1998 = .ok (.aload_n 1, 1) := by decide +kernel
theorem dL_law_1999 : decode cL_law 1999 = .ok (.iload 29, 2) := by decide +kernel
theorem dL_law_2001 : decode cL_law 2001 = .ok (.iconst 1, 1) := by decide +kernel
theorem dL_law_2002 : decode cL_law 2002 = .ok (.aload_n 0, 1) := by decide +kernel
theorem dL_law_2003 : decode cL_law 2003 = .ok (.bipush 53, 2) := by decide +kernel
theorem dL_law_2005 : decode cL_law 2005 = .ok (.invokestatic 9, 3) := by decide +kernel
theorem dL_law_2008 : decode cL_law 2008 = .ok (.ldc 172, 2) := by decide +kernel
theorem dL_law_2010 : decode cL_law 2010 = .ok (.invokestatic 15, 3) := by decide +kernel
theorem dL_law_2013 : decode cL_law 2013 = .ok (.iadd, 1) := by decide +kernel
theorem dL_law_2014 : decode cL_law 2014 = .ok (.invokevirtual 173, 3) := by decide +kernel
theorem dL_law_2017 : decode cL_law 2017 = .ok (.istore 30, 2) := by decide +kernel
theorem dL_law_2019 : decode cL_law 2019 = .ok (.iload 9, 2) := by decide +kernel
theorem dL_law_2021 : decode cL_law 2021 = .ok (.iload 29, 2) := by decide +kernel
theorem dL_law_2023 : decode cL_law 2023 = .ok (.iadd, 1) := by decide +kernel
theorem dL_law_2024 : decode cL_law 2024 = .ok (.bipush 40, 2) := by decide +kernel
theorem dL_law_2026 : decode cL_law 2026 = .ok (.if_icmp .le 13, 3) := by decide +kernel
theorem dL_law_2029 : decode cL_law 2029 = .ok (.iload 30, 2) := by decide +kernel
theorem dL_law_2031 : decode cL_law 2031 = .ok (.bipush (-2), 2) := by decide +kernel
theorem dL_law_2033 : decode cL_law 2033 = .ok (.if_icmp .eq 57, 3) := by decide +kernel
theorem dL_law_2036 : decode cL_law 2036 = .ok (.goto 52, 3) := by decide +kernel
theorem dL_law_2039 : decode cL_law 2039 = .ok (.iload 30, 2) := by decide +kernel
theorem dL_law_2041 : decode cL_law 2041 = .ok (.ifCond .lt 47, 3) := by decide +kernel
theorem dL_law_2044 : decode cL_law 2044 = .ok (.iload 30, 2) := by decide +kernel
theorem dL_law_2046 : decode cL_law 2046 = .ok (.iload 7, 2) := by decide +kernel
theorem dL_law_2048 : decode cL_law 2048 = .ok (.if_icmp .gt 40, 3) := by decide +kernel
theorem dL_law_2051 : decode cL_law 2051 = .ok (.aload_n 1, 1) := by decide +kernel
theorem dL_law_2052 : decode cL_law 2052 = .ok (.iconst 2, 1) := by decide +kernel
theorem dL_law_2053 : decode cL_law 2053 = .ok (.invokevirtual 35, 3) := by decide +kernel
theorem dL_law_2056 : decode cL_law 2056 = .ok (.iload 9, 2) := by decide +kernel
theorem dL_law_2058 : decode cL_law 2058 = .ok (.iload 29, 2) := by decide +kernel
theorem dL_law_2060 : decode cL_law 2060 = .ok (.iadd, 1) := by decide +kernel
theorem dL_law_2061 : decode cL_law 2061 = .ok (.if_icmp .ne 27, 3) := by decide +kernel
theorem dL_law_2064 : decode cL_law 2064 = .ok (.aload_n 1, 1) := by decide +kernel
theorem dL_law_2065 : decode cL_law 2065 = .ok (.iconst 3, 1) := by decide +kernel
theorem dL_law_2066 : decode cL_law 2066 = .ok (.invokevirtual 35, 3) := by decide +kernel
theorem dL_law_2069 : decode cL_law 2069 = .ok (.iload 7, 2) := by decide +kernel
theorem dL_law_2071 : decode cL_law 2071 = .ok (.iload 30, 2) := by decide +kernel
theorem dL_law_2073 : decode cL_law 2073 = .ok (.isub, 1) := by decide +kernel
theorem dL_law_2074 : decode cL_law 2074 = .ok (.if_icmp .ne 14, 3) := by decide +kernel
theorem dL_law_2077 : decode cL_law 2077 = .ok (.aload_n 1, 1) := by decide +kernel
theorem dL_law_2078 : decode cL_law 2078 = .ok (.iload 9, 2) := by decide +kernel
theorem dL_law_2080 : decode cL_law 2080 = .ok (.invokevirtual 100, 3) := by decide +kernel
theorem dL_law_2083 : decode cL_law 2083 = .ok (.iload 29, 2) := by decide +kernel
theorem dL_law_2085 : decode cL_law 2085 = .ok (.if_icmp .eq 5, 3) := by decide +kernel
theorem dL_law_2088 : decode cL_law 2088 = .ok (.iconst 0, 1) := by decide +kernel
theorem dL_law_2089 : decode cL_law 2089 = .ok (.ireturn, 1) := by decide +kernel
theorem dL_law_2090 : decode cL_law 2090 = .ok (.aload_n 1, 1) := by decide +kernel
theorem dL_law_2091 : decode cL_law 2091 = .ok (.iconst 4, 1) := by decide +kernel
theorem dL_law_2092 : decode cL_law 2092 = .ok (.invokevirtual 35, 3) := by decide +kernel
theorem dL_law_2095 : decode cL_law 2095 = .ok (.iload 8, 2) := by decide +kernel
theorem dL_law_2097 : decode cL_law 2097 = .ok (.if_icmp .ne 41, 3) := by decide +kernel
theorem dL_law_2100 : decode cL_law 2100 = .ok (.aload_n 1, 1) := by decide +kernel
theorem dL_law_2101 : decode cL_law 2101 = .ok (.iconst 0, 1) := by decide +kernel
theorem dL_law_2102 : decode cL_law 2102 = .ok (.invokevirtual 134, 3) := by decide +kernel
theorem dL_law_2105 : decode cL_law 2105 = .ok (.ifCond .ne 33, 3) := by decide +kernel
theorem dL_law_2108 : decode cL_law 2108 = .ok (.aload_n 1, 1) := by decide +kernel
theorem dL_law_2109 : decode cL_law 2109 = .ok (.iconst 3, 1) := by decide +kernel
theorem dL_law_2110 : decode cL_law 2110 = .ok (.invokevirtual 35, 3) := by decide +kernel
theorem dL_law_2113 : decode cL_law 2113 = .ok (.iload 4, 2) := by decide +kernel
theorem dL_law_2115 : decode cL_law 2115 = .ok (.if_icmp .ne 23, 3) := by decide +kernel
theorem dL_law_2118 : decode cL_law 2118 = .ok (.aload_n 1, 1) := by decide +kernel
theorem dL_law_2119 : decode cL_law 2119 = .ok (.iconst 4, 1) := by decide +kernel
theorem dL_law_2120 : decode cL_law 2120 = .ok (.invokevirtual 35, 3) := by decide +kernel
theorem dL_law_2123 : decode cL_law 2123 = .ok (.aload_n 3, 1) := by decide +kernel
theorem dL_law_2124 : decode cL_law 2124 = .ok (.invokestatic 176, 3) := by decide +kernel
theorem dL_law_2127 : decode cL_law 2127 = .ok (.if_icmp .ne 11, 3) := by decide +kernel
theorem dL_law_2130 : decode cL_law 2130 = .ok (.aload_n 1, 1) := by decide +kernel
theorem dL_law_2131 : decode cL_law 2131 = .ok (.iconst 0, 1) := by decide +kernel
theorem dL_law_2132 : decode cL_law 2132 = .ok (.invokevirtual 100, 3) := by decide +kernel
theorem dL_law_2135 : decode cL_law 2135 = .ok (.ifCond .eq 5, 3) := by decide +kernel
theorem dL_law_2138 : decode cL_law 2138 = .ok (.iconst 0, 1) := by decide +kernel
theorem dL_law_2139 : decode cL_law 2139 = .ok (.ireturn, 1) := by decide +kernel
theorem dL_law_2140 : decode cL_law 2140 = .ok (.aload_n 1, 1) := by decide +kernel
theorem dL_law_2141 : decode cL_law 2141 = .ok (.bipush 9, 2) := by decide +kernel
theorem dL_law_2143 : decode cL_law 2143 = .ok (.invokevirtual 35, 3) := by decide +kernel
theorem dL_law_2146 : decode cL_law 2146 = .ok (.iconst 2, 1) := by decide +kernel
theorem dL_law_2147 : decode cL_law 2147 = .ok (.if_icmp .ne 7, 3) := by decide +kernel
theorem dL_law_2150 : decode cL_law 2150 = .ok (.iconst 1, 1) := by decide +kernel
theorem dL_law_2151 : decode cL_law 2151 = .ok (.goto 4, 3) := by decide +kernel
theorem dL_law_2154 : decode cL_law 2154 = .ok (.iconst 0, 1) := by decide +kernel
theorem dL_law_2155 : decode cL_law 2155 = .ok (.ireturn, 1) := by decide +kernel
set_option maxRecDepth 20000 in
theorem ggL_outs_X5_guest : GoodIn wsL_outs wsX5_guest := goodIn_r _ [5, 6, 7, 8, 9, 4, 10, 11, 12, 13, 14, 15, 16, 17, 18, 19, 20, 21, 22, 23, 24, 25, 26, 27, 28, 29, 34, 35, 36, 37, 38, 39, 40, 41, 42, 43, 44, 45, 46, 47, 48, 49, 50, 51, 52, 53, 54, 55, 56, 57] (by decide +kernel) (by decide +kernel)
set_option maxRecDepth 20000 in
theorem gL_outs_X5_guest : GoodIn wsL_outs (wsV RL 84 RX5 yX5_guest wsX5_guest) := goodIn_app (goodIn_of _ (by decide +kernel)) ggL_outs_X5_guest
set_option maxRecDepth 20000 in
theorem ggL_outs_X5_asked : GoodIn wsL_outs wsX5_asked := goodIn_r _ [33, 6, 34, 35, 36, 37, 38, 39, 40, 41, 42, 43, 44, 45, 46, 47] (by decide +kernel) (by decide +kernel)
set_option maxRecDepth 20000 in
theorem gL_outs_X5_asked : GoodIn wsL_outs (wsV RL 87 RX5 yX5_asked wsX5_asked) := goodIn_app (goodIn_of _ (by decide +kernel)) ggL_outs_X5_asked
theorem dL_outs_0 : decode cL_outs 0 = .ok (.iconst 0, 1) := by decide +kernel
theorem dL_outs_1 : decode cL_outs 1 = .ok (.istore_n 2, 1) := by decide +kernel
theorem dL_outs_2 : decode cL_outs 2 = .ok (.iconst 0, 1) := by decide +kernel
theorem dL_outs_3 : decode cL_outs 3 = .ok (.istore_n 3, 1) := by decide +kernel
theorem dL_outs_4 : decode cL_outs 4 = .ok (.iload_n 3, 1) := by decide +kernel
theorem dL_outs_5 : decode cL_outs 5 = .ok (.iload_n 1, 1) := by decide +kernel
theorem dL_outs_6 : decode cL_outs 6 = .ok (.if_icmp .ge 33, 3) := by decide +kernel
theorem dL_outs_9 : decode cL_outs 9 = .ok (.aload_n 0, 1) := by decide +kernel
theorem dL_outs_10 : decode cL_outs 10 = .ok (.iload_n 3, 1) := by decide +kernel
theorem dL_outs_11 : decode cL_outs 11 = .ok (.iconst 2, 1) := by decide +kernel
theorem dL_outs_12 : decode cL_outs 12 = .ok (.invokevirtual 84, 3) := by decide +kernel
theorem dL_outs_15 : decode cL_outs 15 = .ok (.iconst 1, 1) := by decide +kernel
theorem dL_outs_16 : decode cL_outs 16 = .ok (.if_icmp .ne 17, 3) := by decide +kernel
theorem dL_outs_19 : decode cL_outs 19 = .ok (.aload_n 0, 1) := by decide +kernel
theorem dL_outs_20 : decode cL_outs 20 = .ok (.invokevirtual 87, 3) := by decide +kernel
theorem dL_outs_23 : decode cL_outs 23 = .ok (.iconst 1, 1) := by decide +kernel
theorem dL_outs_24 : decode cL_outs 24 = .ok (.if_icmp .ne 9, 3) := by decide +kernel
theorem dL_outs_27 : decode cL_outs 27 = .ok (.iload_n 2, 1) := by decide +kernel
theorem dL_outs_28 : decode cL_outs 28 = .ok (.iconst 1, 1) := by decide +kernel
theorem dL_outs_29 : decode cL_outs 29 = .ok (.iload_n 3, 1) := by decide +kernel
theorem dL_outs_30 : decode cL_outs 30 = .ok (.ishl, 1) := by decide +kernel
theorem dL_outs_31 : decode cL_outs 31 = .ok (.ior, 1) := by decide +kernel
theorem dL_outs_32 : decode cL_outs 32 = .ok (.istore_n 2, 1) := by decide +kernel
theorem dL_outs_33 : decode cL_outs 33 = .ok (.iinc 3 1, 3) := by decide +kernel
theorem dL_outs_36 : decode cL_outs 36 = .ok (.goto (-32), 3) := by decide +kernel
theorem dL_outs_39 : decode cL_outs 39 = .ok (.iload_n 2, 1) := by decide +kernel
theorem dL_outs_40 : decode cL_outs 40 = .ok (.ireturn, 1) := by decide +kernel
