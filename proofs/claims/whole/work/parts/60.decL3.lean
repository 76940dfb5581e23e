theorem dL_law__1643 : decode cL_law_ 1643 = .ok (.iload 4, 2) := by decide +kernel
theorem dL_law__1645 : decode cL_law_ 1645 = .ok (.iconst 1, 1) := by decide +kernel
theorem dL_law__1646 : decode cL_law_ 1646 = .ok (.iadd, 1) := by decide +kernel
theorem dL_law__1647 : decode cL_law_ 1647 = .ok (.iaload, 1) := by decide +kernel
theorem dL_law__1648 : decode cL_law_ 1648 = .ok (.aload_n 0, 1) := by decide +kernel
theorem dL_law__1649 : decode cL_law_ 1649 = .ok (.iload 4, 2) := by decide +kernel
theorem dL_law__1651 : decode cL_law_ 1651 = .ok (.iconst 2, 1) := by decide +kernel
theorem dL_law__1652 : decode cL_law_ 1652 = .ok (.iadd, 1) := by decide +kernel
theorem dL_law__1653 : decode cL_law_ 1653 = .ok (.iaload, 1) := by decide +kernel
theorem dL_law__1654 : decode cL_law_ 1654 = .ok (.invokevirtual 227, 3) := by decide +kernel
theorem dL_law__1657 : decode cL_law_ 1657 = .ok (.istore 6, 2) := by decide +kernel
theorem dL_law__1659 : decode cL_law_ 1659 = .ok (.aload_n 2, 1) := by decide +kernel
theorem dL_law__1660 : decode cL_law_ 1660 = .ok (.invokevirtual 166, 3) := by decide +kernel
theorem dL_law__1663 : decode cL_law_ 1663 = .ok (.iload 5, 2) := by decide +kernel
theorem dL_law__1665 : decode cL_law_ 1665 = .ok (.if_icmp .eq 5, 3) := by decide +kernel
theorem dL_law__1668 : decode cL_law_ 1668 = .ok (.iconst 0, 1) := by decide +kernel
theorem dL_law__1669 : decode cL_law_ 1669 = .ok (.ireturn, 1) := by decide +kernel
theorem dL_law__1670 : decode cL_law_ 1670 = .ok (.iload 5, 2) := by decide +kernel
theorem dL_law__1672 : decode cL_law_ 1672 = .ok (.ifCond .ne 15, 3) := by decide +kernel
theorem dL_law__1675 : decode cL_law_ 1675 = .ok (.aload_n 3, 1) := by decide +kernel
theorem dL_law__1676 : decode cL_law_ 1676 = .ok (.iconst 0, 1) := by decide +kernel
theorem dL_law__1677 : decode cL_law_ 1677 = .ok (.laload, 1) := by decide +kernel
theorem dL_law__1678 : decode cL_law_ 1678 = .ok (.iload 6, 2) := by decide +kernel
theorem dL_law__1680 : decode cL_law_ 1680 = .ok (.i2l, 1) := by decide +kernel
theorem dL_law__1681 : decode cL_law_ 1681 = .ok (.lcmp, 1) := by decide +kernel
theorem dL_law__1682 : decode cL_law_ 1682 = .ok (.ifCond .eq 5, 3) := by decide +kernel
theorem dL_law__1685 : decode cL_law_ 1685 = .ok (.iconst 0, 1) := by decide +kernel
theorem dL_law__1686 : decode cL_law_ 1686 = .ok (.ireturn, 1) := by decide +kernel
theorem dL_law__1687 : decode cL_law_ 1687 = .ok (.goto 1831, 3) := by decide +kernel
theorem dL_law__1690 : decode cL_law_ 1690 = .ok (.aload_n 1, 1) := by decide +kernel
theorem dL_law__1691 : decode cL_law_ 1691 = .ok (.aload_n 0, 1) := by decide +kernel
theorem dL_law__1692 : decode cL_law_ 1692 = .ok (.iload 4, 2) := by decide +kernel
theorem dL_law__1694 : decode cL_law_ 1694 = .ok (.iconst 1, 1) := by decide +kernel
theorem dL_law__1695 : decode cL_law_ 1695 = .ok (.iadd, 1) := by decide +kernel
theorem dL_law__1696 : decode cL_law_ 1696 = .ok (.iaload, 1) := by decide +kernel
theorem dL_law__1697 : decode cL_law_ 1697 = .ok (.aload_n 0, 1) := by decide +kernel
theorem dL_law__1698 : decode cL_law_ 1698 = .ok (.iload 4, 2) := by decide +kernel
theorem dL_law__1700 : decode cL_law_ 1700 = .ok (.iconst 2, 1) := by decide +kernel
theorem dL_law__1701 : decode cL_law_ 1701 = .ok (.iadd, 1) := by decide +kernel
theorem dL_law__1702 : decode cL_law_ 1702 = .ok (.iaload, 1) := by decide +kernel
theorem dL_law__1703 : decode cL_law_ 1703 = .ok (.aload_n 3, 1) := by decide +kernel
theorem dL_law__1704 : decode cL_law_ 1704 = .ok (.invokestatic 228, 3) := by decide +kernel
theorem dL_law__1707 : decode cL_law_ 1707 = .ok (.istore 5, 2) := by decide +kernel
theorem dL_law__1709 : decode cL_law_ 1709 = .ok (.aload_n 2, 1) := by decide +kernel
theorem dL_law__1710 : decode cL_law_ 1710 = .ok (.aload_n 0, 1) := by decide +kernel
theorem dL_law__1711 : decode cL_law_ 1711 = .ok (.iload 4, 2) := by decide +kernel
theorem dL_law__1713 : decode cL_law_ 1713 = .ok (.iconst 1, 1) := by decide +kernel
theorem dL_law__1714 : decode cL_law_ 1714 = .ok (.iadd, 1) := by decide +kernel
theorem dL_law__1715 : decode cL_law_ 1715 = .ok (.iaload, 1) := by decide +kernel
theorem dL_law__1716 : decode cL_law_ 1716 = .ok (.aload_n 0, 1) := by decide +kernel
theorem dL_law__1717 : decode cL_law_ 1717 = .ok (.iload 4, 2) := by decide +kernel
theorem dL_law__1719 : decode cL_law_ 1719 = .ok (.iconst 2, 1) := by decide +kernel
theorem dL_law__1720 : decode cL_law_ 1720 = .ok (.iadd, 1) := by decide +kernel
theorem dL_law__1721 : decode cL_law_ 1721 = .ok (.iaload, 1) := by decide +kernel
theorem dL_law__1722 : decode cL_law_ 1722 = .ok (.invokevirtual 230, 3) := by decide +kernel
theorem dL_law__1725 : decode cL_law_ 1725 = .ok (.istore 6, 2) := by decide +kernel
theorem dL_law__1727 : decode cL_law_ 1727 = .ok (.aload_n 2, 1) := by decide +kernel
theorem dL_law__1728 : decode cL_law_ 1728 = .ok (.invokevirtual 166, 3) := by decide +kernel
theorem dL_law__1731 : decode cL_law_ 1731 = .ok (.iload 5, 2) := by decide +kernel
theorem dL_law__1733 : decode cL_law_ 1733 = .ok (.if_icmp .eq 5, 3) := by decide +kernel
theorem dL_law__1736 : decode cL_law_ 1736 = .ok (.iconst 0, 1) := by decide +kernel
theorem dL_law__1737 : decode cL_law_ 1737 = .ok (.ireturn, 1) := by decide +kernel
theorem dL_law__1738 : decode cL_law_ 1738 = .ok (.iload 5, 2) := by decide +kernel
theorem dL_law__1740 : decode cL_law_ 1740 = .ok (.ifCond .ne 15, 3) := by decide +kernel
theorem dL_law__1743 : decode cL_law_ 1743 = .ok (.aload_n 3, 1) := by decide +kernel
theorem dL_law__1744 : decode cL_law_ 1744 = .ok (.iconst 0, 1) := by decide +kernel
theorem dL_law__1745 : decode cL_law_ 1745 = .ok (.laload, 1) := by decide +kernel
theorem dL_law__1746 : decode cL_law_ 1746 = .ok (.iload 6, 2) := by decide +kernel
theorem dL_law__1748 : decode cL_law_ 1748 = .ok (.i2l, 1) := by decide +kernel
theorem dL_law__1749 : decode cL_law_ 1749 = .ok (.lcmp, 1) := by decide +kernel
theorem dL_law__1750 : decode cL_law_ 1750 = .ok (.ifCond .eq 5, 3) := by decide +kernel
theorem dL_law__1753 : decode cL_law_ 1753 = .ok (.iconst 0, 1) := by decide +kernel
theorem dL_law__1754 : decode cL_law_ 1754 = .ok (.ireturn, 1) := by decide +kernel
theorem dL_law__1755 : decode cL_law_ 1755 = .ok (.goto 1763, 3) := by decide +kernel
theorem dL_law__1758 : decode cL_law_ 1758 = .ok (.aload_n 1, 1) := by decide +kernel
theorem dL_law__1759 : decode cL_law_ 1759 = .ok (.aload_n 0, 1) := by decide +kernel
theorem dL_law__1760 : decode cL_law_ 1760 = .ok (.iload 4, 2) := by decide +kernel
theorem dL_law__1762 : decode cL_law_ 1762 = .ok (.iconst 1, 1) := by decide +kernel
theorem dL_law__1763 : decode cL_law_ 1763 = .ok (.iadd, 1) := by decide +kernel
theorem dL_law__1764 : decode cL_law_ 1764 = .ok (.iaload, 1) := by decide +kernel
theorem dL_law__1765 : decode cL_law_ 1765 = .ok (.aload_n 3, 1) := by decide +kernel
theorem dL_law__1766 : decode cL_law_ 1766 = .ok (.invokestatic 231, 3) := by decide +kernel
theorem dL_law__1769 : decode cL_law_ 1769 = .ok (.istore 5, 2) := by decide +kernel
theorem dL_law__1771 : decode cL_law_ 1771 = .ok (.aload_n 2, 1) := by decide +kernel
theorem dL_law__1772 : decode cL_law_ 1772 = .ok (.aload_n 0, 1) := by decide +kernel
theorem dL_law__1773 : decode cL_law_ 1773 = .ok (.iload 4, 2) := by decide +kernel
theorem dL_law__1775 : decode cL_law_ 1775 = .ok (.iconst 1, 1) := by decide +kernel
theorem dL_law__1776 : decode cL_law_ 1776 = .ok (.iadd, 1) := by decide +kernel
theorem dL_law__1777 : decode cL_law_ 1777 = .ok (.iaload, 1) := by decide +kernel
theorem dL_law__1778 : decode cL_law_ 1778 = .ok (.invokevirtual 233, 3) := by decide +kernel
theorem dL_law__1781 : decode cL_law_ 1781 = .ok (.istore 6, 2) := by decide +kernel
theorem dL_law__1783 : decode cL_law_ 1783 = .ok (.aload_n 2, 1) := by decide +kernel
theorem dL_law__1784 : decode cL_law_ 1784 = .ok (.invokevirtual 166, 3) := by decide +kernel
theorem dL_law__1787 : decode cL_law_ 1787 = .ok (.iload 5, 2) := by decide +kernel
theorem dL_law__1789 : decode cL_law_ 1789 = .ok (.if_icmp .eq 5, 3) := by decide +kernel
theorem dL_law__1792 : decode cL_law_ 1792 = .ok (.iconst 0, 1) := by decide +kernel
theorem dL_law__1793 : decode cL_law_ 1793 = .ok (.ireturn, 1) := by decide +kernel
theorem dL_law__1794 : decode cL_law_ 1794 = .ok (.iload 5, 2) := by decide +kernel
theorem dL_law__1796 : decode cL_law_ 1796 = .ok (.ifCond .ne 15, 3) := by decide +kernel
theorem dL_law__1799 : decode cL_law_ 1799 = .ok (.aload_n 3, 1) := by decide +kernel
theorem dL_law__1800 : decode cL_law_ 1800 = .ok (.iconst 0, 1) := by decide +kernel
theorem dL_law__1801 : decode cL_law_ 1801 = .ok (.laload, 1) := by decide +kernel
theorem dL_law__1802 : decode cL_law_ 1802 = .ok (.iload 6, 2) := by decide +kernel
theorem dL_law__1804 : decode cL_law_ 1804 = .ok (.i2l, 1) := by decide +kernel
theorem dL_law__1805 : decode cL_law_ 1805 = .ok (.lcmp, 1) := by decide +kernel
theorem dL_law__1806 : decode cL_law_ 1806 = .ok (.ifCond .eq 5, 3) := by decide +kernel
theorem dL_law__1809 : decode cL_law_ 1809 = .ok (.iconst 0, 1) := by decide +kernel
theorem dL_law__1810 : decode cL_law_ 1810 = .ok (.ireturn, 1) := by decide +kernel
theorem dL_law__1811 : decode cL_law_ 1811 = .ok (.goto 1707, 3) := by decide +kernel
theorem dL_law__1814 : decode cL_law_ 1814 = .ok (.aload_n 1, 1) := by decide +kernel
theorem dL_law__1815 : decode cL_law_ 1815 = .ok (.aload_n 0, 1) := by decide +kernel
theorem dL_law__1816 : decode cL_law_ 1816 = .ok (.iload 4, 2) := by decide +kernel
theorem dL_law__1818 : decode cL_law_ 1818 = .ok (.iconst 1, 1) := by decide +kernel
theorem dL_law__1819 : decode cL_law_ 1819 = .ok (.iadd, 1) := by decide +kernel
theorem dL_law__1820 : decode cL_law_ 1820 = .ok (.iaload, 1) := by decide +kernel
theorem dL_law__1821 : decode cL_law_ 1821 = .ok (.aload_n 3, 1) := by decide +kernel
theorem dL_law__1822 : decode cL_law_ 1822 = .ok (.invokestatic 234, 3) := by decide +kernel
theorem dL_law__1825 : decode cL_law_ 1825 = .ok (.istore 5, 2) := by decide +kernel
theorem dL_law__1827 : decode cL_law_ 1827 = .ok (.aload_n 2, 1) := by decide +kernel
theorem dL_law__1828 : decode cL_law_ 1828 = .ok (.aload_n 0, 1) := by decide +kernel
theorem dL_law__1829 : decode cL_law_ 1829 = .ok (.iload 4, 2) := by decide +kernel
theorem dL_law__1831 : decode cL_law_ 1831 = .ok (.iconst 1, 1) := by decide +kernel
theorem dL_law__1832 : decode cL_law_ 1832 = .ok (.iadd, 1) := by decide +kernel
theorem dL_law__1833 : decode cL_law_ 1833 = .ok (.iaload, 1) := by decide +kernel
theorem dL_law__1834 : decode cL_law_ 1834 = .ok (.invokevirtual 236, 3) := by decide +kernel
theorem dL_law__1837 : decode cL_law_ 1837 = .ok (.istore 6, 2) := by decide +kernel
theorem dL_law__1839 : decode cL_law_ 1839 = .ok (.aload_n 2, 1) := by decide +kernel
theorem dL_law__1840 : decode cL_law_ 1840 = .ok (.invokevirtual 166, 3) := by decide +kernel
theorem dL_law__1843 : decode cL_law_ 1843 = .ok (.iload 5, 2) := by decide +kernel
theorem dL_law__1845 : decode cL_law_ 1845 = .ok (.if_icmp .eq 5, 3) := by decide +kernel
theorem dL_law__1848 : decode cL_law_ 1848 = .ok (.iconst 0, 1) := by decide +kernel
theorem dL_law__1849 : decode cL_law_ 1849 = .ok (.ireturn, 1) := by decide +kernel
theorem dL_law__1850 : decode cL_law_ 1850 = .ok (.iload 5, 2) := by decide +kernel
theorem dL_law__1852 : decode cL_law_ 1852 = .ok (.ifCond .ne 15, 3) := by decide +kernel
theorem dL_law__1855 : decode cL_law_ 1855 = .ok (.aload_n 3, 1) := by decide +kernel
theorem dL_law__1856 : decode cL_law_ 1856 = .ok (.iconst 0, 1) := by decide +kernel
theorem dL_law__1857 : decode cL_law_ 1857 = .ok (.laload, 1) := by decide +kernel
theorem dL_law__1858 : decode cL_law_ 1858 = .ok (.iload 6, 2) := by decide +kernel
theorem dL_law__1860 : decode cL_law_ 1860 = .ok (.i2l, 1) := by decide +kernel
theorem dL_law__1861 : decode cL_law_ 1861 = .ok (.lcmp, 1) := by decide +kernel
theorem dL_law__1862 : decode cL_law_ 1862 = .ok (.ifCond .eq 5, 3) := by decide +kernel
theorem dL_law__1865 : decode cL_law_ 1865 = .ok (.iconst 0, 1) := by decide +kernel
theorem dL_law__1866 : decode cL_law_ 1866 = .ok (.ireturn, 1) := by decide +kernel
theorem dL_law__1867 : decode cL_law_ 1867 = .ok (.goto 1651, 3) := by decide +kernel
theorem dL_law__1870 : decode cL_law_ 1870 = .ok (.aload_n 1, 1) := by decide +kernel
theorem dL_law__1871 : decode cL_law_ 1871 = .ok (.aload_n 0, 1) := by decide +kernel
theorem dL_law__1872 : decode cL_law_ 1872 = .ok (.iload 4, 2) := by decide +kernel
theorem dL_law__1874 : decode cL_law_ 1874 = .ok (.iconst 1, 1) := by decide +kernel
theorem dL_law__1875 : decode cL_law_ 1875 = .ok (.iadd, 1) := by decide +kernel
theorem dL_law__1876 : decode cL_law_ 1876 = .ok (.iaload, 1) := by decide +kernel
theorem dL_law__1877 : decode cL_law_ 1877 = .ok (.ifCond .eq 7, 3) := by decide +kernel
theorem dL_law__1880 : decode cL_law_ 1880 = .ok (.iconst 1, 1) := by decide +kernel
theorem dL_law__1881 : decode cL_law_ 1881 = .ok (.goto 4, 3) := by decide +kernel
theorem dL_law__1884 : decode cL_law_ 1884 = .ok (.iconst 0, 1) := by decide +kernel
theorem dL_law__1885 : decode cL_law_ 1885 = .ok (.aload_n 0, 1) := by decide +kernel
theorem dL_law__1886 : decode cL_law_ 1886 = .ok (.iload 4, 2) := by decide +kernel
theorem dL_law__1888 : decode cL_law_ 1888 = .ok (.iconst 2, 1) := by decide +kernel
theorem dL_law__1889 : decode cL_law_ 1889 = .ok (.iadd, 1) := by decide +kernel
theorem dL_law__1890 : decode cL_law_ 1890 = .ok (.iaload, 1) := by decide +kernel
theorem dL_law__1891 : decode cL_law_ 1891 = .ok (.ifCond .eq 7, 3) := by decide +kernel
theorem dL_law__1894 : decode cL_law_ 1894 = .ok (.iconst 1, 1) := by decide +kernel
theorem dL_law__1895 : decode cL_law_ 1895 = .ok (.goto 4, 3) := by decide +kernel
theorem dL_law__1898 : decode cL_law_ 1898 = .ok (.iconst 0, 1) := by decide +kernel
theorem dL_law__1899 : decode cL_law_ 1899 = .ok (.invokevirtual 237, 3) := by decide +kernel
theorem dL_law__1902 : decode cL_law_ 1902 = .ok (.aload_n 2, 1) := by decide +kernel
theorem dL_law__1903 : decode cL_law_ 1903 = .ok (.aload_n 0, 1) := by decide +kernel
theorem dL_law__1904 : decode cL_law_ 1904 = .ok (.iload 4, 2) := by decide +kernel
theorem dL_law__1906 : decode cL_law_ 1906 = .ok (.iconst 1, 1) := by decide +kernel
theorem dL_law__1907 : decode cL_law_ 1907 = .ok (.iadd, 1) := by decide +kernel
theorem dL_law__1908 : decode cL_law_ 1908 = .ok (.iaload, 1) := by decide +kernel
theorem dL_law__1909 : decode cL_law_ 1909 = .ok (.ifCond .eq 7, 3) := by decide +kernel
theorem dL_law__1912 : decode cL_law_ 1912 = .ok (.iconst 1, 1) := by decide +kernel
theorem dL_law__1913 : decode cL_law_ 1913 = .ok (.goto 4, 3) := by decide +kernel
theorem dL_law__1916 : decode cL_law_ 1916 = .ok (.iconst 0, 1) := by decide +kernel
theorem dL_law__1917 : decode cL_law_ 1917 = .ok (.aload_n 0, 1) := by decide +kernel
theorem dL_law__1918 : decode cL_law_ 1918 = .ok (.iload 4, 2) := by decide +kernel
theorem dL_law__1920 : decode cL_law_ 1920 = .ok (.iconst 2, 1) := by decide +kernel
theorem dL_law__1921 : decode cL_law_ 1921 = .ok (.iadd, 1) := by decide +kernel
theorem dL_law__1922 : decode cL_law_ 1922 = .ok (.iaload, 1) := by decide +kernel
theorem dL_law__1923 : decode cL_law_ 1923 = .ok (.ifCond .eq 7, 3) := by decide +kernel
theorem dL_law__1926 : decode cL_law_ 1926 = .ok (.iconst 1, 1) := by decide +kernel
theorem dL_law__1927 : decode cL_law_ 1927 = .ok (.goto 4, 3) := by decide +kernel
theorem dL_law__1930 : decode cL_law_ 1930 = .ok (.iconst 0, 1) := by decide +kernel
theorem dL_law__1931 : decode cL_law_ 1931 = .ok (.invokevirtual 241, 3) := by decide +kernel
theorem dL_law__1934 : decode cL_law_ 1934 = .ok (.if_icmp .eq 1584, 3) := by decide +kernel
theorem dL_law__1937 : decode cL_law_ 1937 = .ok (.iconst 0, 1) := by decide +kernel
theorem dL_law__1938 : decode cL_law_ 1938 = .ok (.ireturn, 1) := by decide +kernel
theorem dL_law__1939 : decode cL_law_ 1939 = .ok (.aload_n 1, 1) := by decide +kernel
theorem dL_law__1940 : decode cL_law_ 1940 = .ok (.aload_n 0, 1) := by decide +kernel
theorem dL_law__1941 : decode cL_law_ 1941 = .ok (.iload 4, 2) := by decide +kernel
theorem dL_law__1943 : decode cL_law_ 1943 = .ok (.iconst 1, 1) := by decide +kernel
theorem dL_law__1944 : decode cL_law_ 1944 = .ok (.iadd, 1) := by decide +kernel
theorem dL_law__1945 : decode cL_law_ 1945 = .ok (.iaload, 1) := by decide +kernel
theorem dL_law__1946 : decode cL_law_ 1946 = .ok (.ifCond .eq 7, 3) := by decide +kernel
theorem dL_law__1949 : decode cL_law_ 1949 = .ok (.iconst 1, 1) := by decide +kernel
theorem dL_law__1950 : decode cL_law_ 1950 = .ok (.goto 4, 3) := by decide +kernel
theorem dL_law__1953 : decode cL_law_ 1953 = .ok (.iconst 0, 1) := by decide +kernel
theorem dL_law__1954 : decode cL_law_ 1954 = .ok (.invokevirtual 242, 3) := by decide +kernel
theorem dL_law__1957 : decode cL_law_ 1957 = .ok (.aload_n 2, 1) := by decide +kernel
theorem dL_law__1958 : decode cL_law_ 1958 = .ok (.aload_n 0, 1) := by decide +kernel
theorem dL_law__1959 : decode cL_law_ 1959 = .ok (.iload 4, 2) := by decide +kernel
theorem dL_law__1961 : decode cL_law_ 1961 = .ok (.iconst 1, 1) := by decide +kernel
theorem dL_law__1962 : decode cL_law_ 1962 = .ok (.iadd, 1) := by decide +kernel
theorem dL_law__1963 : decode cL_law_ 1963 = .ok (.iaload, 1) := by decide +kernel
theorem dL_law__1964 : decode cL_law_ 1964 = .ok (.ifCond .eq 7, 3) := by decide +kernel
theorem dL_law__1967 : decode cL_law_ 1967 = .ok (.iconst 1, 1) := by decide +kernel
theorem dL_law__1968 : decode cL_law_ 1968 = .ok (.goto 4, 3) := by decide +kernel
theorem dL_law__1971 : decode cL_law_ 1971 = .ok (.iconst 0, 1) := by decide +kernel
theorem dL_law__1972 : decode cL_law_ 1972 = .ok (.invokevirtual 246, 3) := by decide +kernel
theorem dL_law__1975 : decode cL_law_ 1975 = .ok (.if_icmp .eq 1543, 3) := by decide +kernel
theorem dL_law__1978 : decode cL_law_ 1978 = .ok (.iconst 0, 1) := by decide +kernel
theorem dL_law__1979 : decode cL_law_ 1979 = .ok (.ireturn, 1) := by decide +kernel
theorem dL_law__1980 : decode cL_law_ 1980 = .ok (.aload_n 1, 1) := by decide +kernel
theorem dL_law__1981 : decode cL_law_ 1981 = .ok (.aload_n 0, 1) := by decide +kernel
theorem dL_law__1982 : decode cL_law_ 1982 = .ok (.iload 4, 2) := by decide +kernel
theorem dL_law__1984 : decode cL_law_ 1984 = .ok (.iconst 1, 1) := by decide +kernel
theorem dL_law__1985 : decode cL_law_ 1985 = .ok (.iadd, 1) := by decide +kernel
theorem dL_law__1986 : decode cL_law_ 1986 = .ok (.iaload, 1) := by decide +kernel
theorem dL_law__1987 : decode cL_law_ 1987 = .ok (.aload_n 3, 1) := by decide +kernel
theorem dL_law__1988 : decode cL_law_ 1988 = .ok (.invokestatic 247, 3) := by decide +kernel
theorem dL_law__1991 : decode cL_law_ 1991 = .ok (.istore 5, 2) := by decide +kernel
theorem dL_law__1993 : decode cL_law_ 1993 = .ok (.aload_n 2, 1) := by decide +kernel
theorem dL_law__1994 : decode cL_law_ 1994 = .ok (.aload_n 0, 1) := by decide +kernel
theorem dL_law__1995 : decode cL_law_ 1995 = .ok (.iload 4, 2) := by decide +kernel
theorem dL_law__1997 : decode cL_law_ 1997 = .ok (.iconst 1, 1) := by decide +kernel
theorem dL_law__1998 : decode cL_law_ 1998 = .ok (.iadd, 1) := by decide +kernel
theorem dL_law__1999 : decode cL_law_ 1999 = .ok (.iaload, 1) := by decide +kernel
theorem dL_law__2000 : decode cL_law_ 2000 = .ok (.invokevirtual 249, 3) := by decide +kernel
theorem dL_law__2003 : decode cL_law_ 2003 = .ok (.istore 6, 2) := by decide +kernel
theorem dL_law__2005 : decode cL_law_ 2005 = .ok (.aload_n 2, 1) := by decide +kernel
theorem dL_law__2006 : decode cL_law_ 2006 = .ok (.invokevirtual 166, 3) := by decide +kernel
theorem dL_law__2009 : decode cL_law_ 2009 = .ok (.iload 5, 2) := by decide +kernel
theorem dL_law__2011 : decode cL_law_ 2011 = .ok (.if_icmp .eq 5, 3) := by decide +kernel
theorem dL_law__2014 : decode cL_law_ 2014 = .ok (.iconst 0, 1) := by decide +kernel
theorem dL_law__2015 : decode cL_law_ 2015 = .ok (.ireturn, 1) := by decide +kernel
theorem dL_law__2016 : decode cL_law_ 2016 = .ok (.iload 5, 2) := by decide +kernel
theorem dL_law__2018 : decode cL_law_ 2018 = .ok (.ifCond .ne 15, 3) := by decide +kernel
theorem dL_law__2021 : decode cL_law_ 2021 = .ok (.aload_n 3, 1) := by decide +kernel
theorem dL_law__2022 : decode cL_law_ 2022 = .ok (.iconst 0, 1) := by decide +kernel
theorem dL_law__2023 : decode cL_law_ 2023 = .ok (.laload, 1) := by decide +kernel
theorem dL_law__2024 : decode cL_law_ 2024 = .ok (.iload 6, 2) := by decide +kernel
theorem dL_law__2026 : decode cL_law_ 2026 = .ok (.i2l, 1) := by decide +kernel
theorem dL_law__2027 : decode cL_law_ 2027 = .ok (.lcmp, 1) := by decide +kernel
theorem dL_law__2028 : decode cL_law_ 2028 = .ok (.ifCond .eq 5, 3) := by decide +kernel
theorem dL_law__2031 : decode cL_law_ 2031 = .ok (.iconst 0, 1) := by decide +kernel
theorem dL_law__2032 : decode cL_law_ 2032 = .ok (.ireturn, 1) := by decide +kernel
theorem dL_law__2033 : decode cL_law_ 2033 = .ok (.goto 1485, 3) := by decide +kernel
theorem dL_law__2036 : decode cL_law_ 2036 = .ok (.aload_n 1, 1) := by decide +kernel
theorem dL_law__2037 : decode cL_law_ 2037 = .ok (.aload_n 0, 1) := by decide +kernel
theorem dL_law__2038 : decode cL_law_ 2038 = .ok (.iload 4, 2) := by decide +kernel
theorem dL_law__2040 : decode cL_law_ 2040 = .ok (.iconst 1, 1) := by decide +kernel
theorem dL_law__2041 : decode cL_law_ 2041 = .ok (.iadd, 1) := by decide +kernel
theorem dL_law__2042 : decode cL_law_ 2042 = .ok (.iaload, 1) := by decide +kernel
theorem dL_law__2043 : decode cL_law_ 2043 = .ok (.aload_n 3, 1) := by decide +kernel
theorem dL_law__2044 : decode cL_law_ 2044 = .ok (.invokestatic 250, 3) := by decide +kernel
theorem dL_law__2047 : decode cL_law_ 2047 = .ok (.istore 5, 2) := by decide +kernel
theorem dL_law__2049 : decode cL_law_ 2049 = .ok (.aload_n 2, 1) := by decide +kernel
theorem dL_law__2050 : decode cL_law_ 2050 = .ok (.aload_n 0, 1) := by decide +kernel
theorem dL_law__2051 : decode cL_law_ 2051 = .ok (.iload 4, 2) := by decide +kernel
theorem dL_law__2053 : decode cL_law_ 2053 = .ok (.iconst 1, 1) := by decide +kernel
theorem dL_law__2054 : decode cL_law_ 2054 = .ok (.iadd, 1) := by decide +kernel
theorem dL_law__2055 : decode cL_law_ 2055 = .ok (.iaload, 1) := by decide +kernel
theorem dL_law__2056 : decode cL_law_ 2056 = .ok (.invokevirtual 252, 3) := by decide +kernel
theorem dL_law__2059 : decode cL_law_ 2059 = .ok (.istore 6, 2) := by decide +kernel
theorem dL_law__2061 : decode cL_law_ 2061 = .ok (.aload_n 2, 1) := by decide +kernel
theorem dL_law__2062 : decode cL_law_ 2062 = .ok (.invokevirtual 166, 3) := by decide +kernel
theorem dL_law__2065 : decode cL_law_ 2065 = .ok (.iload 5, 2) := by decide +kernel
theorem dL_law__2067 : decode cL_law_ 2067 = .ok (.if_icmp .eq 5, 3) := by decide +kernel
theorem dL_law__2070 : decode cL_law_ 2070 = .ok (.iconst 0, 1) := by decide +kernel
theorem dL_law__2071 : decode cL_law_ 2071 = .ok (.ireturn, 1) := by decide +kernel
theorem dL_law__2072 : decode cL_law_ 2072 = .ok (.iload 5, 2) := by decide +kernel
theorem dL_law__2074 : decode cL_law_ 2074 = .ok (.ifCond .ne 15, 3) := by decide +kernel
theorem dL_law__2077 : decode cL_law_ 2077 = .ok (.aload_n 3, 1) := by decide +kernel
theorem dL_law__2078 : decode cL_law_ 2078 = .ok (.iconst 0, 1) := by decide +kernel
theorem dL_law__2079 : decode cL_law_ 2079 = .ok (.laload, 1) := by decide +kernel
theorem dL_law__2080 : decode cL_law_ 2080 = .ok (.iload 6, 2) := by decide +kernel
theorem dL_law__2082 : decode cL_law_ 2082 = .ok (.i2l, 1) := by decide +kernel
theorem dL_law__2083 : decode cL_law_ 2083 = .ok (.lcmp, 1) := by decide +kernel
theorem dL_law__2084 : decode cL_law_ 2084 = .ok (.ifCond .eq 5, 3) := by decide +kernel
theorem dL_law__2087 : decode cL_law_ 2087 = .ok (.iconst 0, 1) := by decide +kernel
theorem dL_law__2088 : decode cL_law_ 2088 = .ok (.ireturn, 1) := by decide +kernel
theorem dL_law__2089 : decode cL_law_ 2089 = .ok (.goto 1429, 3) := by decide +kernel
theorem dL_law__2092 : decode cL_law_ 2092 = .ok (.aload_n 1, 1) := by decide +kernel
theorem dL_law__2093 : decode cL_law_ 2093 = .ok (.aload_n 0, 1) := by decide +kernel
theorem dL_law__2094 : decode cL_law_ 2094 = .ok (.iload 4, 2) := by decide +kernel
theorem dL_law__2096 : decode cL_law_ 2096 = .ok (.iconst 1, 1) := by decide +kernel
theorem dL_law__2097 : decode cL_law_ 2097 = .ok (.iadd, 1) := by decide +kernel
theorem dL_law__2098 : decode cL_law_ 2098 = .ok (.iaload, 1) := by decide +kernel
theorem dL_law__2099 : decode cL_law_ 2099 = .ok (.aload_n 3, 1) := by decide +kernel
theorem dL_law__2100 : decode cL_law_ 2100 = .ok (.invokestatic 253, 3) := by decide +kernel
theorem dL_law__2103 : decode cL_law_ 2103 = .ok (.istore 5, 2) := by decide +kernel
theorem dL_law__2105 : decode cL_law_ 2105 = .ok (.aload_n 2, 1) := by decide +kernel
theorem dL_law__2106 : decode cL_law_ 2106 = .ok (.aload_n 0, 1) := by decide +kernel
theorem dL_law__2107 : decode cL_law_ 2107 = .ok (.iload 4, 2) := by decide +kernel
theorem dL_law__2109 : decode cL_law_ 2109 = .ok (.iconst 1, 1) := by decide +kernel
theorem dL_law__2110 : decode cL_law_ 2110 = .ok (.iadd, 1) := by decide +kernel
theorem dL_law__2111 : decode cL_law_ 2111 = .ok (.iaload, 1) := by decide +kernel
theorem dL_law__2112 : decode cL_law_ 2112 = .ok (.invokevirtual 255, 3) := by decide +kernel
theorem dL_law__2115 : decode cL_law_ 2115 = .ok (.istore 6, 2) := by decide +kernel
theorem dL_law__2117 : decode cL_law_ 2117 = .ok (.aload_n 2, 1) := by decide +kernel
