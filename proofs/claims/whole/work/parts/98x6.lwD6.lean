theorem d_La_1720 : decode code 1720 = .ok (.iload_n 3, 1) := by decide +kernel
theorem d_La_1721 : decode code 1721 = .ok (.iconst 2, 1) := by decide +kernel
theorem d_La_1722 : decode code 1722 = .ok (.iadd, 1) := by decide +kernel
theorem d_La_1723 : decode code 1723 = .ok (.iaload, 1) := by decide +kernel
theorem d_La_1724 : decode code 1724 = .ok (.aload_n 0, 1) := by decide +kernel
theorem d_La_1725 : decode code 1725 = .ok (.iload_n 3, 1) := by decide +kernel
theorem d_La_1726 : decode code 1726 = .ok (.iconst 3, 1) := by decide +kernel
theorem d_La_1727 : decode code 1727 = .ok (.iadd, 1) := by decide +kernel
theorem d_La_1728 : decode code 1728 = .ok (.iaload, 1) := by decide +kernel
theorem d_La_1729 : decode code 1729 = .ok (.ifCond .eq 7, 3) := by decide +kernel
theorem d_La_1732 : decode code 1732 = .ok (.iconst 1, 1) := by decide +kernel
theorem d_La_1733 : decode code 1733 = .ok (.goto 4, 3) := by decide +kernel
theorem d_La_1736 : decode code 1736 = .ok (.iconst 0, 1) := by decide +kernel
theorem d_La_1737 : decode code 1737 = .ok (.invokevirtual 220, 3) := by decide +kernel
theorem d_La_1740 : decode code 1740 = .ok (.aload_n 2, 1) := by decide +kernel
theorem d_La_1741 : decode code 1741 = .ok (.aload_n 0, 1) := by decide +kernel
theorem d_La_1742 : decode code 1742 = .ok (.iload_n 3, 1) := by decide +kernel
theorem d_La_1743 : decode code 1743 = .ok (.iconst 1, 1) := by decide +kernel
theorem d_La_1744 : decode code 1744 = .ok (.iadd, 1) := by decide +kernel
theorem d_La_1745 : decode code 1745 = .ok (.iaload, 1) := by decide +kernel
theorem d_La_1746 : decode code 1746 = .ok (.aload_n 0, 1) := by decide +kernel
theorem d_La_1747 : decode code 1747 = .ok (.iload_n 3, 1) := by decide +kernel
theorem d_La_1748 : decode code 1748 = .ok (.iconst 2, 1) := by decide +kernel
theorem d_La_1749 : decode code 1749 = .ok (.iadd, 1) := by decide +kernel
theorem d_La_1750 : decode code 1750 = .ok (.iaload, 1) := by decide +kernel
theorem d_La_1751 : decode code 1751 = .ok (.aload_n 0, 1) := by decide +kernel
theorem d_La_1752 : decode code 1752 = .ok (.iload_n 3, 1) := by decide +kernel
theorem d_La_1753 : decode code 1753 = .ok (.iconst 3, 1) := by decide +kernel
theorem d_La_1754 : decode code 1754 = .ok (.iadd, 1) := by decide +kernel
theorem d_La_1755 : decode code 1755 = .ok (.iaload, 1) := by decide +kernel
theorem d_La_1756 : decode code 1756 = .ok (.ifCond .eq 7, 3) := by decide +kernel
theorem d_La_1759 : decode code 1759 = .ok (.iconst 1, 1) := by decide +kernel
theorem d_La_1760 : decode code 1760 = .ok (.goto 4, 3) := by decide +kernel
theorem d_La_1763 : decode code 1763 = .ok (.iconst 0, 1) := by decide +kernel
theorem d_La_1764 : decode code 1764 = .ok (.invokevirtual 224, 3) := by decide +kernel
theorem d_La_1767 : decode code 1767 = .ok (.if_icmp .eq 238, 3) := by decide +kernel
theorem d_La_1770 : decode code 1770 = .ok (.iconst 0, 1) := by decide +kernel
theorem d_La_1771 : decode code 1771 = .ok (.ireturn, 1) := by decide +kernel
theorem d_La_1772 : decode code 1772 = .ok (.aload_n 1, 1) := by decide +kernel
theorem d_La_1773 : decode code 1773 = .ok (.aload_n 0, 1) := by decide +kernel
theorem d_La_1774 : decode code 1774 = .ok (.iload_n 3, 1) := by decide +kernel
theorem d_La_1775 : decode code 1775 = .ok (.iconst 1, 1) := by decide +kernel
theorem d_La_1776 : decode code 1776 = .ok (.iadd, 1) := by decide +kernel
theorem d_La_1777 : decode code 1777 = .ok (.iaload, 1) := by decide +kernel
theorem d_La_1778 : decode code 1778 = .ok (.aload_n 0, 1) := by decide +kernel
theorem d_La_1779 : decode code 1779 = .ok (.iload_n 3, 1) := by decide +kernel
theorem d_La_1780 : decode code 1780 = .ok (.iconst 2, 1) := by decide +kernel
theorem d_La_1781 : decode code 1781 = .ok (.iadd, 1) := by decide +kernel
theorem d_La_1782 : decode code 1782 = .ok (.iaload, 1) := by decide +kernel
theorem d_La_1783 : decode code 1783 = .ok (.invokevirtual 225, 3) := by decide +kernel
theorem d_La_1786 : decode code 1786 = .ok (.aload_n 2, 1) := by decide +kernel
theorem d_La_1787 : decode code 1787 = .ok (.aload_n 0, 1) := by decide +kernel
theorem d_La_1788 : decode code 1788 = .ok (.iload_n 3, 1) := by decide +kernel
theorem d_La_1789 : decode code 1789 = .ok (.iconst 1, 1) := by decide +kernel
theorem d_La_1790 : decode code 1790 = .ok (.iadd, 1) := by decide +kernel
theorem d_La_1791 : decode code 1791 = .ok (.iaload, 1) := by decide +kernel
theorem d_La_1792 : decode code 1792 = .ok (.aload_n 0, 1) := by decide +kernel
theorem d_La_1793 : decode code 1793 = .ok (.iload_n 3, 1) := by decide +kernel
theorem d_La_1794 : decode code 1794 = .ok (.iconst 2, 1) := by decide +kernel
theorem d_La_1795 : decode code 1795 = .ok (.iadd, 1) := by decide +kernel
theorem d_La_1796 : decode code 1796 = .ok (.iaload, 1) := by decide +kernel
theorem d_La_1797 : decode code 1797 = .ok (.invokevirtual 228, 3) := by decide +kernel
theorem d_La_1800 : decode code 1800 = .ok (.if_icmp .eq 205, 3) := by decide +kernel
theorem d_La_1803 : decode code 1803 = .ok (.iconst 0, 1) := by decide +kernel
theorem d_La_1804 : decode code 1804 = .ok (.ireturn, 1) := by decide +kernel
theorem d_La_1805 : decode code 1805 = .ok (.aload_n 1, 1) := by decide +kernel
theorem d_La_1806 : decode code 1806 = .ok (.aload_n 0, 1) := by decide +kernel
theorem d_La_1807 : decode code 1807 = .ok (.iload_n 3, 1) := by decide +kernel
theorem d_La_1808 : decode code 1808 = .ok (.iconst 1, 1) := by decide +kernel
theorem d_La_1809 : decode code 1809 = .ok (.iadd, 1) := by decide +kernel
theorem d_La_1810 : decode code 1810 = .ok (.iaload, 1) := by decide +kernel
theorem d_La_1811 : decode code 1811 = .ok (.aload_n 0, 1) := by decide +kernel
theorem d_La_1812 : decode code 1812 = .ok (.iload_n 3, 1) := by decide +kernel
theorem d_La_1813 : decode code 1813 = .ok (.iconst 2, 1) := by decide +kernel
theorem d_La_1814 : decode code 1814 = .ok (.iadd, 1) := by decide +kernel
theorem d_La_1815 : decode code 1815 = .ok (.iaload, 1) := by decide +kernel
theorem d_La_1816 : decode code 1816 = .ok (.invokevirtual 229, 3) := by decide +kernel
theorem d_La_1819 : decode code 1819 = .ok (.aload_n 2, 1) := by decide +kernel
theorem d_La_1820 : decode code 1820 = .ok (.aload_n 0, 1) := by decide +kernel
theorem d_La_1821 : decode code 1821 = .ok (.iload_n 3, 1) := by decide +kernel
theorem d_La_1822 : decode code 1822 = .ok (.iconst 1, 1) := by decide +kernel
theorem d_La_1823 : decode code 1823 = .ok (.iadd, 1) := by decide +kernel
theorem d_La_1824 : decode code 1824 = .ok (.iaload, 1) := by decide +kernel
theorem d_La_1825 : decode code 1825 = .ok (.aload_n 0, 1) := by decide +kernel
theorem d_La_1826 : decode code 1826 = .ok (.iload_n 3, 1) := by decide +kernel
theorem d_La_1827 : decode code 1827 = .ok (.iconst 2, 1) := by decide +kernel
theorem d_La_1828 : decode code 1828 = .ok (.iadd, 1) := by decide +kernel
theorem d_La_1829 : decode code 1829 = .ok (.iaload, 1) := by decide +kernel
theorem d_La_1830 : decode code 1830 = .ok (.invokevirtual 232, 3) := by decide +kernel
theorem d_La_1833 : decode code 1833 = .ok (.if_icmp .eq 172, 3) := by decide +kernel
theorem d_La_1836 : decode code 1836 = .ok (.iconst 0, 1) := by decide +kernel
theorem d_La_1837 : decode code 1837 = .ok (.ireturn, 1) := by decide +kernel
theorem d_La_1838 : decode code 1838 = .ok (.aload_n 1, 1) := by decide +kernel
theorem d_La_1839 : decode code 1839 = .ok (.aload_n 0, 1) := by decide +kernel
theorem d_La_1840 : decode code 1840 = .ok (.iload_n 3, 1) := by decide +kernel
theorem d_La_1841 : decode code 1841 = .ok (.iconst 1, 1) := by decide +kernel
theorem d_La_1842 : decode code 1842 = .ok (.iadd, 1) := by decide +kernel
theorem d_La_1843 : decode code 1843 = .ok (.iaload, 1) := by decide +kernel
theorem d_La_1844 : decode code 1844 = .ok (.invokevirtual 233, 3) := by decide +kernel
theorem d_La_1847 : decode code 1847 = .ok (.aload_n 2, 1) := by decide +kernel
theorem d_La_1848 : decode code 1848 = .ok (.aload_n 0, 1) := by decide +kernel
theorem d_La_1849 : decode code 1849 = .ok (.iload_n 3, 1) := by decide +kernel
theorem d_La_1850 : decode code 1850 = .ok (.iconst 1, 1) := by decide +kernel
theorem d_La_1851 : decode code 1851 = .ok (.iadd, 1) := by decide +kernel
theorem d_La_1852 : decode code 1852 = .ok (.iaload, 1) := by decide +kernel
theorem d_La_1853 : decode code 1853 = .ok (.invokevirtual 236, 3) := by decide +kernel
theorem d_La_1856 : decode code 1856 = .ok (.if_icmp .eq 149, 3) := by decide +kernel
theorem d_La_1859 : decode code 1859 = .ok (.iconst 0, 1) := by decide +kernel
theorem d_La_1860 : decode code 1860 = .ok (.ireturn, 1) := by decide +kernel
theorem d_La_1861 : decode code 1861 = .ok (.aload_n 1, 1) := by decide +kernel
theorem d_La_1862 : decode code 1862 = .ok (.aload_n 0, 1) := by decide +kernel
theorem d_La_1863 : decode code 1863 = .ok (.iload_n 3, 1) := by decide +kernel
theorem d_La_1864 : decode code 1864 = .ok (.iconst 1, 1) := by decide +kernel
theorem d_La_1865 : decode code 1865 = .ok (.iadd, 1) := by decide +kernel
theorem d_La_1866 : decode code 1866 = .ok (.iaload, 1) := by decide +kernel
theorem d_La_1867 : decode code 1867 = .ok (.aload_n 0, 1) := by decide +kernel
theorem d_La_1868 : decode code 1868 = .ok (.iload_n 3, 1) := by decide +kernel
theorem d_La_1869 : decode code 1869 = .ok (.iconst 2, 1) := by decide +kernel
theorem d_La_1870 : decode code 1870 = .ok (.iadd, 1) := by decide +kernel
theorem d_La_1871 : decode code 1871 = .ok (.iaload, 1) := by decide +kernel
theorem d_La_1872 : decode code 1872 = .ok (.invokevirtual 237, 3) := by decide +kernel
theorem d_La_1875 : decode code 1875 = .ok (.aload_n 2, 1) := by decide +kernel
theorem d_La_1876 : decode code 1876 = .ok (.aload_n 0, 1) := by decide +kernel
theorem d_La_1877 : decode code 1877 = .ok (.iload_n 3, 1) := by decide +kernel
theorem d_La_1878 : decode code 1878 = .ok (.iconst 1, 1) := by decide +kernel
theorem d_La_1879 : decode code 1879 = .ok (.iadd, 1) := by decide +kernel
theorem d_La_1880 : decode code 1880 = .ok (.iaload, 1) := by decide +kernel
theorem d_La_1881 : decode code 1881 = .ok (.aload_n 0, 1) := by decide +kernel
theorem d_La_1882 : decode code 1882 = .ok (.iload_n 3, 1) := by decide +kernel
theorem d_La_1883 : decode code 1883 = .ok (.iconst 2, 1) := by decide +kernel
theorem d_La_1884 : decode code 1884 = .ok (.iadd, 1) := by decide +kernel
theorem d_La_1885 : decode code 1885 = .ok (.iaload, 1) := by decide +kernel
theorem d_La_1886 : decode code 1886 = .ok (.invokevirtual 240, 3) := by decide +kernel
theorem d_La_1889 : decode code 1889 = .ok (.if_icmp .eq 116, 3) := by decide +kernel
theorem d_La_1892 : decode code 1892 = .ok (.iconst 0, 1) := by decide +kernel
theorem d_La_1893 : decode code 1893 = .ok (.ireturn, 1) := by decide +kernel
theorem d_La_1894 : decode code 1894 = .ok (.aload_n 1, 1) := by decide +kernel
theorem d_La_1895 : decode code 1895 = .ok (.invokevirtual 241, 3) := by decide +kernel
theorem d_La_1898 : decode code 1898 = .ok (.aload_n 2, 1) := by decide +kernel
theorem d_La_1899 : decode code 1899 = .ok (.invokevirtual 244, 3) := by decide +kernel
theorem d_La_1902 : decode code 1902 = .ok (.if_icmp .eq 103, 3) := by decide +kernel
theorem d_La_1905 : decode code 1905 = .ok (.iconst 0, 1) := by decide +kernel
theorem d_La_1906 : decode code 1906 = .ok (.ireturn, 1) := by decide +kernel
theorem d_La_1907 : decode code 1907 = .ok (.aload_n 1, 1) := by decide +kernel
theorem d_La_1908 : decode code 1908 = .ok (.invokevirtual 245, 3) := by decide +kernel
theorem d_La_1911 : decode code 1911 = .ok (.aload_n 2, 1) := by decide +kernel
theorem d_La_1912 : decode code 1912 = .ok (.invokevirtual 248, 3) := by decide +kernel
theorem d_La_1915 : decode code 1915 = .ok (.if_icmp .eq 90, 3) := by decide +kernel
theorem d_La_1918 : decode code 1918 = .ok (.iconst 0, 1) := by decide +kernel
theorem d_La_1919 : decode code 1919 = .ok (.ireturn, 1) := by decide +kernel
theorem d_La_1920 : decode code 1920 = .ok (.aload_n 1, 1) := by decide +kernel
theorem d_La_1921 : decode code 1921 = .ok (.invokevirtual 249, 3) := by decide +kernel
theorem d_La_1924 : decode code 1924 = .ok (.aload_n 2, 1) := by decide +kernel
theorem d_La_1925 : decode code 1925 = .ok (.invokevirtual 252, 3) := by decide +kernel
theorem d_La_1928 : decode code 1928 = .ok (.if_icmp .eq 77, 3) := by decide +kernel
theorem d_La_1931 : decode code 1931 = .ok (.iconst 0, 1) := by decide +kernel
theorem d_La_1932 : decode code 1932 = .ok (.ireturn, 1) := by decide +kernel
theorem d_La_1933 : decode code 1933 = .ok (.aload_n 1, 1) := by decide +kernel
theorem d_La_1934 : decode code 1934 = .ok (.aload_n 0, 1) := by decide +kernel
theorem d_La_1935 : decode code 1935 = .ok (.iload_n 3, 1) := by decide +kernel
theorem d_La_1936 : decode code 1936 = .ok (.iconst 1, 1) := by decide +kernel
theorem d_La_1937 : decode code 1937 = .ok (.iadd, 1) := by decide +kernel
theorem d_La_1938 : decode code 1938 = .ok (.iaload, 1) := by decide +kernel
theorem d_La_1939 : decode code 1939 = .ok (.invokevirtual 253, 3) := by decide +kernel
theorem d_La_1942 : decode code 1942 = .ok (.aload_n 2, 1) := by decide +kernel
theorem d_La_1943 : decode code 1943 = .ok (.aload_n 0, 1) := by decide +kernel
theorem d_La_1944 : decode code 1944 = .ok (.iload_n 3, 1) := by decide +kernel
theorem d_La_1945 : decode code 1945 = .ok (.iconst 1, 1) := by decide +kernel
theorem d_La_1946 : decode code 1946 = .ok (.iadd, 1) := by decide +kernel
theorem d_La_1947 : decode code 1947 = .ok (.iaload, 1) := by decide +kernel
theorem d_La_1948 : decode code 1948 = .ok (.invokevirtual 256, 3) := by decide +kernel
theorem d_La_1951 : decode code 1951 = .ok (.if_icmp .eq 54, 3) := by decide +kernel
theorem d_La_1954 : decode code 1954 = .ok (.iconst 0, 1) := by decide +kernel
theorem d_La_1955 : decode code 1955 = .ok (.ireturn, 1) := by decide +kernel
theorem d_La_1956 : decode code 1956 = .ok (.aload_n 1, 1) := by decide +kernel
theorem d_La_1957 : decode code 1957 = .ok (.invokevirtual 257, 3) := by decide +kernel
theorem d_La_1960 : decode code 1960 = .ok (.aload_n 2, 1) := by decide +kernel
theorem d_La_1961 : decode code 1961 = .ok (.invokevirtual 260, 3) := by decide +kernel
theorem d_La_1964 : decode code 1964 = .ok (.if_icmp .eq 41, 3) := by decide +kernel
theorem d_La_1967 : decode code 1967 = .ok (.iconst 0, 1) := by decide +kernel
theorem d_La_1968 : decode code 1968 = .ok (.ireturn, 1) := by decide +kernel
theorem d_La_1969 : decode code 1969 = .ok (.aload_n 1, 1) := by decide +kernel
theorem d_La_1970 : decode code 1970 = .ok (.invokevirtual 261, 3) := by decide +kernel
theorem d_La_1973 : decode code 1973 = .ok (.aload_n 2, 1) := by decide +kernel
theorem d_La_1974 : decode code 1974 = .ok (.invokevirtual 264, 3) := by decide +kernel
theorem d_La_1977 : decode code 1977 = .ok (.if_icmp .eq 28, 3) := by decide +kernel
theorem d_La_1980 : decode code 1980 = .ok (.iconst 0, 1) := by decide +kernel
theorem d_La_1981 : decode code 1981 = .ok (.ireturn, 1) := by decide +kernel
theorem d_La_1982 : decode code 1982 = .ok (.aload_n 1, 1) := by decide +kernel
theorem d_La_1983 : decode code 1983 = .ok (.aload_n 0, 1) := by decide +kernel
theorem d_La_1984 : decode code 1984 = .ok (.iload_n 3, 1) := by decide +kernel
theorem d_La_1985 : decode code 1985 = .ok (.iconst 1, 1) := by decide +kernel
theorem d_La_1986 : decode code 1986 = .ok (.iadd, 1) := by decide +kernel
theorem d_La_1987 : decode code 1987 = .ok (.iaload, 1) := by decide +kernel
theorem d_La_1988 : decode code 1988 = .ok (.invokevirtual 265, 3) := by decide +kernel
theorem d_La_1991 : decode code 1991 = .ok (.aload_n 2, 1) := by decide +kernel
theorem d_La_1992 : decode code 1992 = .ok (.aload_n 0, 1) := by decide +kernel
theorem d_La_1993 : decode code 1993 = .ok (.iload_n 3, 1) := by decide +kernel
theorem d_La_1994 : decode code 1994 = .ok (.iconst 1, 1) := by decide +kernel
theorem d_La_1995 : decode code 1995 = .ok (.iadd, 1) := by decide +kernel
theorem d_La_1996 : decode code 1996 = .ok (.iaload, 1) := by decide +kernel
theorem d_La_1997 : decode code 1997 = .ok (.invokevirtual 268, 3) := by decide +kernel
theorem d_La_2000 : decode code 2000 = .ok (.if_icmp .eq 5, 3) := by decide +kernel
theorem d_La_2003 : decode code 2003 = .ok (.iconst 0, 1) := by decide +kernel
theorem d_La_2004 : decode code 2004 = .ok (.ireturn, 1) := by decide +kernel
theorem d_La_2005 : decode code 2005 = .ok (.iinc 3 6, 3) := by decide +kernel
theorem d_La_2008 : decode code 2008 = .ok (.goto (-1990), 3) := by decide +kernel
theorem d_La_2011 : decode code 2011 = .ok (.iconst 1, 1) := by decide +kernel
theorem d_La_2012 : decode code 2012 = .ok (.ireturn, 1) := by decide +kernel
