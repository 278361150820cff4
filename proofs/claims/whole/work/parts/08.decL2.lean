theorem dL_law_1684 : decode cL_law 1684 = .ok (.aload_n 0, 1) := by decide +kernel
theorem dL_law_1685 : decode cL_law 1685 = .ok (.iload 5, 2) := by decide +kernel
theorem dL_law_1687 : decode cL_law 1687 = .ok (.iconst 1, 1) := by decide +kernel
theorem dL_law_1688 : decode cL_law 1688 = .ok (.iadd, 1) := by decide +kernel
theorem dL_law_1689 : decode cL_law 1689 = .ok (.iaload, 1) := by decide +kernel
theorem dL_law_1690 : decode cL_law 1690 = .ok (.aload_n 3, 1) := by decide +kernel
theorem dL_law_1691 : decode cL_law 1691 = .ok (.invokestatic 262, 3) := by decide +kernel
theorem dL_law_1694 : decode cL_law 1694 = .ok (.istore 6, 2) := by decide +kernel
theorem dL_law_1696 : decode cL_law 1696 = .ok (.aload_n 2, 1) := by decide +kernel
theorem dL_law_1697 : decode cL_law 1697 = .ok (.aload_n 0, 1) := by decide +kernel
theorem dL_law_1698 : decode cL_law 1698 = .ok (.iload 5, 2) := by decide +kernel
theorem dL_law_1700 : decode cL_law 1700 = .ok (.iconst 1, 1) := by decide +kernel
theorem dL_law_1701 : decode cL_law 1701 = .ok (.iadd, 1) := by decide +kernel
theorem dL_law_1702 : decode cL_law 1702 = .ok (.iaload, 1) := by decide +kernel
theorem dL_law_1703 : decode cL_law 1703 = .ok (.invokevirtual 264, 3) := by decide +kernel
theorem dL_law_1706 : decode cL_law 1706 = .ok (.istore 7, 2) := by decide +kernel
theorem dL_law_1708 : decode cL_law 1708 = .ok (.aload_n 2, 1) := by decide +kernel
theorem dL_law_1709 : decode cL_law 1709 = .ok (.invokevirtual 178, 3) := by decide +kernel
theorem dL_law_1712 : decode cL_law 1712 = .ok (.iload 6, 2) := by decide +kernel
theorem dL_law_1714 : decode cL_law 1714 = .ok (.if_icmp .eq 5, 3) := by decide +kernel
theorem dL_law_1717 : decode cL_law 1717 = .ok (.iconst 0, 1) := by decide +kernel
theorem dL_law_1718 : decode cL_law 1718 = .ok (.ireturn, 1) := by decide +kernel
theorem dL_law_1719 : decode cL_law 1719 = .ok (.iload 6, 2) := by decide +kernel
theorem dL_law_1721 : decode cL_law 1721 = .ok (.ifCond .ne 15, 3) := by decide +kernel
theorem dL_law_1724 : decode cL_law 1724 = .ok (.aload_n 3, 1) := by decide +kernel
theorem dL_law_1725 : decode cL_law 1725 = .ok (.iconst 0, 1) := by decide +kernel
theorem dL_law_1726 : decode cL_law 1726 = .ok (.laload, 1) := by decide +kernel
theorem dL_law_1727 : decode cL_law 1727 = .ok (.iload 7, 2) := by decide +kernel
theorem dL_law_1729 : decode cL_law 1729 = .ok (.i2l, 1) := by decide +kernel
theorem dL_law_1730 : decode cL_law 1730 = .ok (.lcmp, 1) := by decide +kernel
theorem dL_law_1731 : decode cL_law 1731 = .ok (.ifCond .eq 5, 3) := by decide +kernel
theorem dL_law_1734 : decode cL_law 1734 = .ok (.iconst 0, 1) := by decide +kernel
theorem dL_law_1735 : decode cL_law 1735 = .ok (.ireturn, 1) := by decide +kernel
theorem dL_law_1736 : decode cL_law 1736 = .ok (.goto 1372, 3) := by decide +kernel
theorem dL_law_1739 : decode cL_law 1739 = .ok (.aload_n 1, 1) := by decide +kernel
theorem dL_law_1740 : decode cL_law 1740 = .ok (.aload_n 0, 1) := by decide +kernel
theorem dL_law_1741 : decode cL_law 1741 = .ok (.iload 5, 2) := by decide +kernel
theorem dL_law_1743 : decode cL_law 1743 = .ok (.iconst 1, 1) := by decide +kernel
theorem dL_law_1744 : decode cL_law 1744 = .ok (.iadd, 1) := by decide +kernel
theorem dL_law_1745 : decode cL_law 1745 = .ok (.iaload, 1) := by decide +kernel
theorem dL_law_1746 : decode cL_law 1746 = .ok (.aload_n 3, 1) := by decide +kernel
theorem dL_law_1747 : decode cL_law 1747 = .ok (.invokestatic 265, 3) := by decide +kernel
theorem dL_law_1750 : decode cL_law 1750 = .ok (.istore 6, 2) := by decide +kernel
theorem dL_law_1752 : decode cL_law 1752 = .ok (.aload_n 2, 1) := by decide +kernel
theorem dL_law_1753 : decode cL_law 1753 = .ok (.aload_n 0, 1) := by decide +kernel
theorem dL_law_1754 : decode cL_law 1754 = .ok (.iload 5, 2) := by decide +kernel
theorem dL_law_1756 : decode cL_law 1756 = .ok (.iconst 1, 1) := by decide +kernel
theorem dL_law_1757 : decode cL_law 1757 = .ok (.iadd, 1) := by decide +kernel
theorem dL_law_1758 : decode cL_law 1758 = .ok (.iaload, 1) := by decide +kernel
theorem dL_law_1759 : decode cL_law 1759 = .ok (.invokevirtual 267, 3) := by decide +kernel
theorem dL_law_1762 : decode cL_law 1762 = .ok (.istore 7, 2) := by decide +kernel
theorem dL_law_1764 : decode cL_law 1764 = .ok (.aload_n 2, 1) := by decide +kernel
theorem dL_law_1765 : decode cL_law 1765 = .ok (.invokevirtual 178, 3) := by decide +kernel
theorem dL_law_1768 : decode cL_law 1768 = .ok (.iload 6, 2) := by decide +kernel
theorem dL_law_1770 : decode cL_law 1770 = .ok (.if_icmp .eq 5, 3) := by decide +kernel
theorem dL_law_1773 : decode cL_law 1773 = .ok (.iconst 0, 1) := by decide +kernel
theorem dL_law_1774 : decode cL_law 1774 = .ok (.ireturn, 1) := by decide +kernel
theorem dL_law_1775 : decode cL_law 1775 = .ok (.iload 6, 2) := by decide +kernel
theorem dL_law_1777 : decode cL_law 1777 = .ok (.ifCond .ne 15, 3) := by decide +kernel
theorem dL_law_1780 : decode cL_law 1780 = .ok (.aload_n 3, 1) := by decide +kernel
theorem dL_law_1781 : decode cL_law 1781 = .ok (.iconst 0, 1) := by decide +kernel
theorem dL_law_1782 : decode cL_law 1782 = .ok (.laload, 1) := by decide +kernel
theorem dL_law_1783 : decode cL_law 1783 = .ok (.iload 7, 2) := by decide +kernel
theorem dL_law_1785 : decode cL_law 1785 = .ok (.i2l, 1) := by decide +kernel
theorem dL_law_1786 : decode cL_law 1786 = .ok (.lcmp, 1) := by decide +kernel
theorem dL_law_1787 : decode cL_law 1787 = .ok (.ifCond .eq 5, 3) := by decide +kernel
theorem dL_law_1790 : decode cL_law 1790 = .ok (.iconst 0, 1) := by decide +kernel
theorem dL_law_1791 : decode cL_law 1791 = .ok (.ireturn, 1) := by decide +kernel
theorem dL_law_1792 : decode cL_law 1792 = .ok (.goto 1316, 3) := by decide +kernel
theorem dL_law_1795 : decode cL_law 1795 = .ok (.aload_n 1, 1) := by decide +kernel
theorem dL_law_1796 : decode cL_law 1796 = .ok (.aload_n 0, 1) := by decide +kernel
theorem dL_law_1797 : decode cL_law 1797 = .ok (.iload 5, 2) := by decide +kernel
theorem dL_law_1799 : decode cL_law 1799 = .ok (.iconst 1, 1) := by decide +kernel
theorem dL_law_1800 : decode cL_law 1800 = .ok (.iadd, 1) := by decide +kernel
theorem dL_law_1801 : decode cL_law 1801 = .ok (.iaload, 1) := by decide +kernel
theorem dL_law_1802 : decode cL_law 1802 = .ok (.aload_n 3, 1) := by decide +kernel
theorem dL_law_1803 : decode cL_law 1803 = .ok (.invokestatic 268, 3) := by decide +kernel
theorem dL_law_1806 : decode cL_law 1806 = .ok (.istore 6, 2) := by decide +kernel
theorem dL_law_1808 : decode cL_law 1808 = .ok (.aload_n 2, 1) := by decide +kernel
theorem dL_law_1809 : decode cL_law 1809 = .ok (.aload_n 0, 1) := by decide +kernel
theorem dL_law_1810 : decode cL_law 1810 = .ok (.iload 5, 2) := by decide +kernel
theorem dL_law_1812 : decode cL_law 1812 = .ok (.iconst 1, 1) := by decide +kernel
theorem dL_law_1813 : decode cL_law 1813 = .ok (.iadd, 1) := by decide +kernel
theorem dL_law_1814 : decode cL_law 1814 = .ok (.iaload, 1) := by decide +kernel
theorem dL_law_1815 : decode cL_law 1815 = .ok (.invokevirtual 270, 3) := by decide +kernel
theorem dL_law_1818 : decode cL_law 1818 = .ok (.istore 7, 2) := by decide +kernel
theorem dL_law_1820 : decode cL_law 1820 = .ok (.aload_n 2, 1) := by decide +kernel
theorem dL_law_1821 : decode cL_law 1821 = .ok (.invokevirtual 178, 3) := by decide +kernel
theorem dL_law_1824 : decode cL_law 1824 = .ok (.iload 6, 2) := by decide +kernel
theorem dL_law_1826 : decode cL_law 1826 = .ok (.if_icmp .eq 5, 3) := by decide +kernel
theorem dL_law_1829 : decode cL_law 1829 = .ok (.iconst 0, 1) := by decide +kernel
theorem dL_law_1830 : decode cL_law 1830 = .ok (.ireturn, 1) := by decide +kernel
theorem dL_law_1831 : decode cL_law 1831 = .ok (.iload 6, 2) := by decide +kernel
theorem dL_law_1833 : decode cL_law 1833 = .ok (.ifCond .ne 15, 3) := by decide +kernel
theorem dL_law_1836 : decode cL_law 1836 = .ok (.aload_n 3, 1) := by decide +kernel
theorem dL_law_1837 : decode cL_law 1837 = .ok (.iconst 0, 1) := by decide +kernel
theorem dL_law_1838 : decode cL_law 1838 = .ok (.laload, 1) := by decide +kernel
theorem dL_law_1839 : decode cL_law 1839 = .ok (.iload 7, 2) := by decide +kernel
theorem dL_law_1841 : decode cL_law 1841 = .ok (.i2l, 1) := by decide +kernel
theorem dL_law_1842 : decode cL_law 1842 = .ok (.lcmp, 1) := by decide +kernel
theorem dL_law_1843 : decode cL_law 1843 = .ok (.ifCond .eq 5, 3) := by decide +kernel
theorem dL_law_1846 : decode cL_law 1846 = .ok (.iconst 0, 1) := by decide +kernel
theorem dL_law_1847 : decode cL_law 1847 = .ok (.ireturn, 1) := by decide +kernel
theorem dL_law_1848 : decode cL_law 1848 = .ok (.goto 1260, 3) := by decide +kernel
theorem dL_law_1851 : decode cL_law 1851 = .ok (.aload_n 1, 1) := by decide +kernel
theorem dL_law_1852 : decode cL_law 1852 = .ok (.aload_n 0, 1) := by decide +kernel
theorem dL_law_1853 : decode cL_law 1853 = .ok (.iload 5, 2) := by decide +kernel
theorem dL_law_1855 : decode cL_law 1855 = .ok (.iconst 1, 1) := by decide +kernel
theorem dL_law_1856 : decode cL_law 1856 = .ok (.iadd, 1) := by decide +kernel
theorem dL_law_1857 : decode cL_law 1857 = .ok (.iaload, 1) := by decide +kernel
theorem dL_law_1858 : decode cL_law 1858 = .ok (.aload_n 3, 1) := by decide +kernel
theorem dL_law_1859 : decode cL_law 1859 = .ok (.invokestatic 271, 3) := by decide +kernel
theorem dL_law_1862 : decode cL_law 1862 = .ok (.istore 6, 2) := by decide +kernel
theorem dL_law_1864 : decode cL_law 1864 = .ok (.aload_n 2, 1) := by decide +kernel
theorem dL_law_1865 : decode cL_law 1865 = .ok (.aload_n 0, 1) := by decide +kernel
theorem dL_law_1866 : decode cL_law 1866 = .ok (.iload 5, 2) := by decide +kernel
theorem dL_law_1868 : decode cL_law 1868 = .ok (.iconst 1, 1) := by decide +kernel
theorem dL_law_1869 : decode cL_law 1869 = .ok (.iadd, 1) := by decide +kernel
theorem dL_law_1870 : decode cL_law 1870 = .ok (.iaload, 1) := by decide +kernel
theorem dL_law_1871 : decode cL_law 1871 = .ok (.invokevirtual 273, 3) := by decide +kernel
theorem dL_law_1874 : decode cL_law 1874 = .ok (.istore 7, 2) := by decide +kernel
theorem dL_law_1876 : decode cL_law 1876 = .ok (.aload_n 2, 1) := by decide +kernel
theorem dL_law_1877 : decode cL_law 1877 = .ok (.invokevirtual 178, 3) := by decide +kernel
theorem dL_law_1880 : decode cL_law 1880 = .ok (.iload 6, 2) := by decide +kernel
theorem dL_law_1882 : decode cL_law 1882 = .ok (.if_icmp .eq 5, 3) := by decide +kernel
theorem dL_law_1885 : decode cL_law 1885 = .ok (.iconst 0, 1) := by decide +kernel
theorem dL_law_1886 : decode cL_law 1886 = .ok (.ireturn, 1) := by decide +kernel
theorem dL_law_1887 : decode cL_law 1887 = .ok (.iload 6, 2) := by decide +kernel
theorem dL_law_1889 : decode cL_law 1889 = .ok (.ifCond .ne 15, 3) := by decide +kernel
theorem dL_law_1892 : decode cL_law 1892 = .ok (.aload_n 3, 1) := by decide +kernel
theorem dL_law_1893 : decode cL_law 1893 = .ok (.iconst 0, 1) := by decide +kernel
theorem dL_law_1894 : decode cL_law 1894 = .ok (.laload, 1) := by decide +kernel
theorem dL_law_1895 : decode cL_law 1895 = .ok (.iload 7, 2) := by decide +kernel
theorem dL_law_1897 : decode cL_law 1897 = .ok (.i2l, 1) := by decide +kernel
theorem dL_law_1898 : decode cL_law 1898 = .ok (.lcmp, 1) := by decide +kernel
theorem dL_law_1899 : decode cL_law 1899 = .ok (.ifCond .eq 5, 3) := by decide +kernel
theorem dL_law_1902 : decode cL_law 1902 = .ok (.iconst 0, 1) := by decide +kernel
theorem dL_law_1903 : decode cL_law 1903 = .ok (.ireturn, 1) := by decide +kernel
theorem dL_law_1904 : decode cL_law 1904 = .ok (.goto 1204, 3) := by decide +kernel
theorem dL_law_1907 : decode cL_law 1907 = .ok (.aload_n 1, 1) := by decide +kernel
theorem dL_law_1908 : decode cL_law 1908 = .ok (.aload_n 0, 1) := by decide +kernel
theorem dL_law_1909 : decode cL_law 1909 = .ok (.iload 5, 2) := by decide +kernel
theorem dL_law_1911 : decode cL_law 1911 = .ok (.iconst 1, 1) := by decide +kernel
theorem dL_law_1912 : decode cL_law 1912 = .ok (.iadd, 1) := by decide +kernel
theorem dL_law_1913 : decode cL_law 1913 = .ok (.iaload, 1) := by decide +kernel
theorem dL_law_1914 : decode cL_law 1914 = .ok (.aload_n 3, 1) := by decide +kernel
theorem dL_law_1915 : decode cL_law 1915 = .ok (.invokestatic 274, 3) := by decide +kernel
theorem dL_law_1918 : decode cL_law 1918 = .ok (.istore 6, 2) := by decide +kernel
theorem dL_law_1920 : decode cL_law 1920 = .ok (.aload_n 2, 1) := by decide +kernel
theorem dL_law_1921 : decode cL_law 1921 = .ok (.aload_n 0, 1) := by decide +kernel
theorem dL_law_1922 : decode cL_law 1922 = .ok (.iload 5, 2) := by decide +kernel
theorem dL_law_1924 : decode cL_law 1924 = .ok (.iconst 1, 1) := by decide +kernel
theorem dL_law_1925 : decode cL_law 1925 = .ok (.iadd, 1) := by decide +kernel
theorem dL_law_1926 : decode cL_law 1926 = .ok (.iaload, 1) := by decide +kernel
theorem dL_law_1927 : decode cL_law 1927 = .ok (.invokevirtual 276, 3) := by decide +kernel
theorem dL_law_1930 : decode cL_law 1930 = .ok (.istore 7, 2) := by decide +kernel
theorem dL_law_1932 : decode cL_law 1932 = .ok (.aload_n 2, 1) := by decide +kernel
theorem dL_law_1933 : decode cL_law 1933 = .ok (.invokevirtual 178, 3) := by decide +kernel
theorem dL_law_1936 : decode cL_law 1936 = .ok (.iload 6, 2) := by decide +kernel
theorem dL_law_1938 : decode cL_law 1938 = .ok (.if_icmp .eq 5, 3) := by decide +kernel
theorem dL_law_1941 : decode cL_law 1941 = .ok (.iconst 0, 1) := by decide +kernel
theorem dL_law_1942 : decode cL_law 1942 = .ok (.ireturn, 1) := by decide +kernel
theorem dL_law_1943 : decode cL_law 1943 = .ok (.iload 6, 2) := by decide +kernel
theorem dL_law_1945 : decode cL_law 1945 = .ok (.ifCond .ne 15, 3) := by decide +kernel
theorem dL_law_1948 : decode cL_law 1948 = .ok (.aload_n 3, 1) := by decide +kernel
theorem dL_law_1949 : decode cL_law 1949 = .ok (.iconst 0, 1) := by decide +kernel
theorem dL_law_1950 : decode cL_law 1950 = .ok (.laload, 1) := by decide +kernel
theorem dL_law_1951 : decode cL_law 1951 = .ok (.iload 7, 2) := by decide +kernel
theorem dL_law_1953 : decode cL_law 1953 = .ok (.i2l, 1) := by decide +kernel
theorem dL_law_1954 : decode cL_law 1954 = .ok (.lcmp, 1) := by decide +kernel
theorem dL_law_1955 : decode cL_law 1955 = .ok (.ifCond .eq 5, 3) := by decide +kernel
theorem dL_law_1958 : decode cL_law 1958 = .ok (.iconst 0, 1) := by decide +kernel
theorem dL_law_1959 : decode cL_law 1959 = .ok (.ireturn, 1) := by decide +kernel
theorem dL_law_1960 : decode cL_law 1960 = .ok (.goto 1148, 3) := by decide +kernel
theorem dL_law_1963 : decode cL_law 1963 = .ok (.aload_n 1, 1) := by decide +kernel
theorem dL_law_1964 : decode cL_law 1964 = .ok (.aload_n 3, 1) := by decide +kernel
theorem dL_law_1965 : decode cL_law 1965 = .ok (.invokestatic 277, 3) := by decide +kernel
theorem dL_law_1968 : decode cL_law 1968 = .ok (.istore 6, 2) := by decide +kernel
theorem dL_law_1970 : decode cL_law 1970 = .ok (.aload_n 2, 1) := by decide +kernel
theorem dL_law_1971 : decode cL_law 1971 = .ok (.invokevirtual 280, 3) := by decide +kernel
theorem dL_law_1974 : decode cL_law 1974 = .ok (.istore 7, 2) := by decide +kernel
theorem dL_law_1976 : decode cL_law 1976 = .ok (.aload_n 2, 1) := by decide +kernel
theorem dL_law_1977 : decode cL_law 1977 = .ok (.invokevirtual 178, 3) := by decide +kernel
theorem dL_law_1980 : decode cL_law 1980 = .ok (.iload 6, 2) := by decide +kernel
theorem dL_law_1982 : decode cL_law 1982 = .ok (.if_icmp .eq 5, 3) := by decide +kernel
theorem dL_law_1985 : decode cL_law 1985 = .ok (.iconst 0, 1) := by decide +kernel
theorem dL_law_1986 : decode cL_law 1986 = .ok (.ireturn, 1) := by decide +kernel
theorem dL_law_1987 : decode cL_law 1987 = .ok (.iload 6, 2) := by decide +kernel
theorem dL_law_1989 : decode cL_law 1989 = .ok (.ifCond .ne 15, 3) := by decide +kernel
theorem dL_law_1992 : decode cL_law 1992 = .ok (.aload_n 3, 1) := by decide +kernel
theorem dL_law_1993 : decode cL_law 1993 = .ok (.iconst 0, 1) := by decide +kernel
theorem dL_law_1994 : decode cL_law 1994 = .ok (.laload, 1) := by decide +kernel
theorem dL_law_1995 : decode cL_law 1995 = .ok (.iload 7, 2) := by decide +kernel
theorem dL_law_1997 : decode cL_law 1997 = .ok (.i2l, 1) := by decide +kernel
theorem dL_law_1998 : decode cL_law 1998 = .ok (.lcmp, 1) := by decide +kernel
theorem dL_law_1999 : decode cL_law 1999 = .ok (.ifCond .eq 5, 3) := by decide +kernel
theorem dL_law_2002 : decode cL_law 2002 = .ok (.iconst 0, 1) := by decide +kernel
theorem dL_law_2003 : decode cL_law 2003 = .ok (.ireturn, 1) := by decide +kernel
theorem dL_law_2004 : decode cL_law 2004 = .ok (.goto 1104, 3) := by decide +kernel
theorem dL_law_2007 : decode cL_law 2007 = .ok (.aload_n 1, 1) := by decide +kernel
theorem dL_law_2008 : decode cL_law 2008 = .ok (.invokevirtual 281, 3) := by decide +kernel
theorem dL_law_2011 : decode cL_law 2011 = .ok (.aload_n 2, 1) := by decide +kernel
theorem dL_law_2012 : decode cL_law 2012 = .ok (.invokevirtual 284, 3) := by decide +kernel
theorem dL_law_2015 : decode cL_law 2015 = .ok (.if_icmp .eq 1093, 3) := by decide +kernel
theorem dL_law_2018 : decode cL_law 2018 = .ok (.iconst 0, 1) := by decide +kernel
theorem dL_law_2019 : decode cL_law 2019 = .ok (.ireturn, 1) := by decide +kernel
theorem dL_law_2020 : decode cL_law 2020 = .ok (.aload_n 1, 1) := by decide +kernel
theorem dL_law_2021 : decode cL_law 2021 = .ok (.invokevirtual 285, 3) := by decide +kernel
theorem dL_law_2024 : decode cL_law 2024 = .ok (.aload_n 2, 1) := by decide +kernel
theorem dL_law_2025 : decode cL_law 2025 = .ok (.invokevirtual 288, 3) := by decide +kernel
theorem dL_law_2028 : decode cL_law 2028 = .ok (.if_icmp .eq 1080, 3) := by decide +kernel
theorem dL_law_2031 : decode cL_law 2031 = .ok (.iconst 0, 1) := by decide +kernel
theorem dL_law_2032 : decode cL_law 2032 = .ok (.ireturn, 1) := by decide +kernel
theorem dL_law_2033 : decode cL_law 2033 = .ok (.aload_n 1, 1) := by decide +kernel
theorem dL_law_2034 : decode cL_law 2034 = .ok (.aload_n 0, 1) := by decide +kernel
theorem dL_law_2035 : decode cL_law 2035 = .ok (.iload 5, 2) := by decide +kernel
theorem dL_law_2037 : decode cL_law 2037 = .ok (.iconst 1, 1) := by decide +kernel
theorem dL_law_2038 : decode cL_law 2038 = .ok (.iadd, 1) := by decide +kernel
theorem dL_law_2039 : decode cL_law 2039 = .ok (.iaload, 1) := by decide +kernel
theorem dL_law_2040 : decode cL_law 2040 = .ok (.aload_n 3, 1) := by decide +kernel
theorem dL_law_2041 : decode cL_law 2041 = .ok (.invokestatic 289, 3) := by decide +kernel
theorem dL_law_2044 : decode cL_law 2044 = .ok (.istore 6, 2) := by decide +kernel
theorem dL_law_2046 : decode cL_law 2046 = .ok (.aload_n 2, 1) := by decide +kernel
theorem dL_law_2047 : decode cL_law 2047 = .ok (.aload_n 0, 1) := by decide +kernel
theorem dL_law_2048 : decode cL_law 2048 = .ok (.iload 5, 2) := by decide +kernel
theorem dL_law_2050 : decode cL_law 2050 = .ok (.iconst 1, 1) := by decide +kernel
theorem dL_law_2051 : decode cL_law 2051 = .ok (.iadd, 1) := by decide +kernel
theorem dL_law_2052 : decode cL_law 2052 = .ok (.iaload, 1) := by decide +kernel
theorem dL_law_2053 : decode cL_law 2053 = .ok (.invokevirtual 291, 3) := by decide +kernel
theorem dL_law_2056 : decode cL_law 2056 = .ok (.istore 7, 2) := by decide +kernel
theorem dL_law_2058 : decode cL_law 2058 = .ok (.aload_n 2, 1) := by decide +kernel
theorem dL_law_2059 : decode cL_law 2059 = .ok (.invokevirtual 178, 3) := by decide +kernel
theorem dL_law_2062 : decode cL_law 2062 = .ok (.iload 6, 2) := by decide +kernel
theorem dL_law_2064 : decode cL_law 2064 = .ok (.if_icmp .eq 5, 3) := by decide +kernel
theorem dL_law_2067 : decode cL_law 2067 = .ok (.iconst 0, 1) := by decide +kernel
theorem dL_law_2068 : decode cL_law 2068 = .ok (.ireturn, 1) := by decide +kernel
theorem dL_law_2069 : decode cL_law 2069 = .ok (.iload 6, 2) := by decide +kernel
theorem dL_law_2071 : decode cL_law 2071 = .ok (.ifCond .ne 15, 3) := by decide +kernel
theorem dL_law_2074 : decode cL_law 2074 = .ok (.aload_n 3, 1) := by decide +kernel
theorem dL_law_2075 : decode cL_law 2075 = .ok (.iconst 0, 1) := by decide +kernel
theorem dL_law_2076 : decode cL_law 2076 = .ok (.laload, 1) := by decide +kernel
theorem dL_law_2077 : decode cL_law 2077 = .ok (.iload 7, 2) := by decide +kernel
theorem dL_law_2079 : decode cL_law 2079 = .ok (.i2l, 1) := by decide +kernel
theorem dL_law_2080 : decode cL_law 2080 = .ok (.lcmp, 1) := by decide +kernel
theorem dL_law_2081 : decode cL_law 2081 = .ok (.ifCond .eq 5, 3) := by decide +kernel
theorem dL_law_2084 : decode cL_law 2084 = .ok (.iconst 0, 1) := by decide +kernel
theorem dL_law_2085 : decode cL_law 2085 = .ok (.ireturn, 1) := by decide +kernel
theorem dL_law_2086 : decode cL_law 2086 = .ok (.goto 1022, 3) := by decide +kernel
theorem dL_law_2089 : decode cL_law 2089 = .ok (.aload_n 1, 1) := by decide +kernel
theorem dL_law_2090 : decode cL_law 2090 = .ok (.invokevirtual 292, 3) := by decide +kernel
theorem dL_law_2093 : decode cL_law 2093 = .ok (.aload_n 2, 1) := by decide +kernel
theorem dL_law_2094 : decode cL_law 2094 = .ok (.invokevirtual 295, 3) := by decide +kernel
theorem dL_law_2097 : decode cL_law 2097 = .ok (.if_icmp .eq 1011, 3) := by decide +kernel
theorem dL_law_2100 : decode cL_law 2100 = .ok (.iconst 0, 1) := by decide +kernel
theorem dL_law_2101 : decode cL_law 2101 = .ok (.ireturn, 1) := by decide +kernel
theorem dL_law_2102 : decode cL_law 2102 = .ok (.aload_n 1, 1) := by decide +kernel
theorem dL_law_2103 : decode cL_law 2103 = .ok (.invokevirtual 296, 3) := by decide +kernel
theorem dL_law_2106 : decode cL_law 2106 = .ok (.aload_n 2, 1) := by decide +kernel
theorem dL_law_2107 : decode cL_law 2107 = .ok (.invokevirtual 299, 3) := by decide +kernel
theorem dL_law_2110 : decode cL_law 2110 = .ok (.if_icmp .eq 998, 3) := by decide +kernel
theorem dL_law_2113 : decode cL_law 2113 = .ok (.iconst 0, 1) := by decide +kernel
theorem dL_law_2114 : decode cL_law 2114 = .ok (.ireturn, 1) := by decide +kernel
theorem dL_law_2115 : decode cL_law 2115 = .ok (.aload_n 1, 1) := by decide +kernel
theorem dL_law_2116 : decode cL_law 2116 = .ok (.aload_n 0, 1) := by decide +kernel
theorem dL_law_2117 : decode cL_law 2117 = .ok (.iload 5, 2) := by decide +kernel
theorem dL_law_2119 : decode cL_law 2119 = .ok (.iconst 1, 1) := by decide +kernel
theorem dL_law_2120 : decode cL_law 2120 = .ok (.iadd, 1) := by decide +kernel
theorem dL_law_2121 : decode cL_law 2121 = .ok (.iaload, 1) := by decide +kernel
theorem dL_law_2122 : decode cL_law 2122 = .ok (.aload_n 3, 1) := by decide +kernel
theorem dL_law_2123 : decode cL_law 2123 = .ok (.invokestatic 300, 3) := by decide +kernel
theorem dL_law_2126 : decode cL_law 2126 = .ok (.istore 6, 2) := by decide +kernel
theorem dL_law_2128 : decode cL_law 2128 = .ok (.aload_n 2, 1) := by decide +kernel
theorem dL_law_2129 : decode cL_law 2129 = .ok (.aload_n 0, 1) := by decide +kernel
theorem dL_law_2130 : decode cL_law 2130 = .ok (.iload 5, 2) := by decide +kernel
theorem dL_law_2132 : decode cL_law 2132 = .ok (.iconst 1, 1) := by decide +kernel
theorem dL_law_2133 : decode cL_law 2133 = .ok (.iadd, 1) := by decide +kernel
theorem dL_law_2134 : decode cL_law 2134 = .ok (.iaload, 1) := by decide +kernel
theorem dL_law_2135 : decode cL_law 2135 = .ok (.invokevirtual 302, 3) := by decide +kernel
theorem dL_law_2138 : decode cL_law 2138 = .ok (.istore 7, 2) := by decide +kernel
theorem dL_law_2140 : decode cL_law 2140 = .ok (.aload_n 2, 1) := by decide +kernel
theorem dL_law_2141 : decode cL_law 2141 = .ok (.invokevirtual 178, 3) := by decide +kernel
theorem dL_law_2144 : decode cL_law 2144 = .ok (.iload 6, 2) := by decide +kernel
theorem dL_law_2146 : decode cL_law 2146 = .ok (.if_icmp .eq 5, 3) := by decide +kernel
theorem dL_law_2149 : decode cL_law 2149 = .ok (.iconst 0, 1) := by decide +kernel
theorem dL_law_2150 : decode cL_law 2150 = .ok (.ireturn, 1) := by decide +kernel
theorem dL_law_2151 : decode cL_law 2151 = .ok (.iload 6, 2) := by decide +kernel
theorem dL_law_2153 : decode cL_law 2153 = .ok (.ifCond .ne 15, 3) := by decide +kernel
theorem dL_law_2156 : decode cL_law 2156 = .ok (.aload_n 3, 1) := by decide +kernel
theorem dL_law_2157 : decode cL_law 2157 = .ok (.iconst 0, 1) := by decide +kernel
theorem dL_law_2158 : decode cL_law 2158 = .ok (.laload, 1) := by decide +kernel
theorem dL_law_2159 : decode cL_law 2159 = .ok (.iload 7, 2) := by decide +kernel
theorem dL_law_2161 : decode cL_law 2161 = .ok (.i2l, 1) := by decide +kernel
theorem dL_law_2162 : decode cL_law 2162 = .ok (.lcmp, 1) := by decide +kernel
theorem dL_law_2163 : decode cL_law 2163 = .ok (.ifCond .eq 5, 3) := by decide +kernel
theorem dL_law_2166 : decode cL_law 2166 = .ok (.iconst 0, 1) := by decide +kernel
theorem dL_law_2167 : decode cL_law 2167 = .ok (.ireturn, 1) := by decide +kernel
theorem dL_law_2168 : decode cL_law 2168 = .ok (.goto 940, 3) := by decide +kernel
theorem dL_law_2171 : decode cL_law 2171 = .ok (.aload_n 1, 1) := by decide +kernel
theorem dL_law_2172 : decode cL_law 2172 = .ok (.aload_n 0, 1) := by decide +kernel
theorem dL_law_2173 : decode cL_law 2173 = .ok (.iload 5, 2) := by decide +kernel
theorem dL_law_2175 : decode cL_law 2175 = .ok (.iconst 1, 1) := by decide +kernel
theorem dL_law_2176 : decode cL_law 2176 = .ok (.iadd, 1) := by decide +kernel
theorem dL_law_2177 : decode cL_law 2177 = .ok (.iaload, 1) := by decide +kernel
theorem dL_law_2178 : decode cL_law 2178 = .ok (.aload_n 3, 1) := by decide +kernel
theorem dL_law_2179 : decode cL_law 2179 = .ok (.invokestatic 303, 3) := by decide +kernel
theorem dL_law_2182 : decode cL_law 2182 = .ok (.istore 6, 2) := by decide +kernel
theorem dL_law_2184 : decode cL_law 2184 = .ok (.aload_n 2, 1) := by decide +kernel
theorem dL_law_2185 : decode cL_law 2185 = .ok (.aload_n 0, 1) := by decide +kernel
theorem dL_law_2186 : decode cL_law 2186 = .ok (.iload 5, 2) := by decide +kernel
theorem dL_law_2188 : decode cL_law 2188 = .ok (.iconst 1, 1) := by decide +kernel
theorem dL_law_2189 : decode cL_law 2189 = .ok (.iadd, 1) := by decide +kernel
theorem dL_law_2190 : decode cL_law 2190 = .ok (.iaload, 1) := by decide +kernel
theorem dL_law_2191 : decode cL_law 2191 = .ok (.invokevirtual 305, 3) := by decide +kernel
theorem dL_law_2194 : decode cL_law 2194 = .ok (.istore 7, 2) := by decide +kernel
theorem dL_law_2196 : decode cL_law 2196 = .ok (.aload_n 2, 1) := by decide +kernel
theorem dL_law_2197 : decode cL_law 2197 = .ok (.invokevirtual 178, 3) := by decide +kernel
theorem dL_law_2200 : decode cL_law 2200 = .ok (.iload 6, 2) := by decide +kernel
theorem dL_law_2202 : decode cL_law 2202 = .ok (.if_icmp .eq 5, 3) := by decide +kernel
theorem dL_law_2205 : decode cL_law 2205 = .ok (.iconst 0, 1) := by decide +kernel
theorem dL_law_2206 : decode cL_law 2206 = .ok (.ireturn, 1) := by decide +kernel
theorem dL_law_2207 : decode cL_law 2207 = .ok (.iload 6, 2) := by decide +kernel
theorem dL_law_2209 : decode cL_law 2209 = .ok (.ifCond .ne 15, 3) := by decide +kernel
theorem dL_law_2212 : decode cL_law 2212 = .ok (.aload_n 3, 1) := by decide +kernel
theorem dL_law_2213 : decode cL_law 2213 = .ok (.iconst 0, 1) := by decide +kernel
theorem dL_law_2214 : decode cL_law 2214 = .ok (.laload, 1) := by decide +kernel
theorem dL_law_2215 : decode cL_law 2215 = .ok (.iload 7, 2) := by decide +kernel
theorem dL_law_2217 : decode cL_law 2217 = .ok (.i2l, 1) := by decide +kernel
theorem dL_law_2218 : decode cL_law 2218 = .ok (.lcmp, 1) := by decide +kernel
theorem dL_law_2219 : decode cL_law 2219 = .ok (.ifCond .eq 5, 3) := by decide +kernel
theorem dL_law_2222 : decode cL_law 2222 = .ok (.iconst 0, 1) := by decide +kernel
theorem dL_law_2223 : decode cL_law 2223 = .ok (.ireturn, 1) := by decide +kernel
theorem dL_law_2224 : decode cL_law 2224 = .ok (.goto 884, 3) := by decide +kernel
theorem dL_law_2227 : decode cL_law 2227 = .ok (.aload_n 1, 1) := by decide +kernel
theorem dL_law_2228 : decode cL_law 2228 = .ok (.aload_n 0, 1) := by decide +kernel
theorem dL_law_2229 : decode cL_law 2229 = .ok (.iload 5, 2) := by decide +kernel
theorem dL_law_2231 : decode cL_law 2231 = .ok (.iconst 1, 1) := by decide +kernel
theorem dL_law_2232 : decode cL_law 2232 = .ok (.iadd, 1) := by decide +kernel
theorem dL_law_2233 : decode cL_law 2233 = .ok (.iaload, 1) := by decide +kernel
theorem dL_law_2234 : decode cL_law 2234 = .ok (.aload_n 3, 1) := by decide +kernel
theorem dL_law_2235 : decode cL_law 2235 = .ok (.invokestatic 306, 3) := by decide +kernel
theorem dL_law_2238 : decode cL_law 2238 = .ok (.istore 6, 2) := by decide +kernel
theorem dL_law_2240 : decode cL_law 2240 = .ok (.aload_n 2, 1) := by decide +kernel
theorem dL_law_2241 : decode cL_law 2241 = .ok (.aload_n 0, 1) := by decide +kernel
theorem dL_law_2242 : decode cL_law 2242 = .ok (.iload 5, 2) := by decide +kernel
theorem dL_law_2244 : decode cL_law 2244 = .ok (.iconst 1, 1) := by decide +kernel
theorem dL_law_2245 : decode cL_law 2245 = .ok (.iadd, 1) := by decide +kernel
theorem dL_law_2246 : decode cL_law 2246 = .ok (.iaload, 1) := by decide +kernel
theorem dL_law_2247 : decode cL_law 2247 = .ok (.invokevirtual 308, 3) := by decide +kernel
theorem dL_law_2250 : decode cL_law 2250 = .ok (.istore 7, 2) := by decide +kernel
theorem dL_law_2252 : decode cL_law 2252 = .ok (.aload_n 2, 1) := by decide +kernel
theorem dL_law_2253 : decode cL_law 2253 = .ok (.invokevirtual 178, 3) := by decide +kernel
theorem dL_law_2256 : decode cL_law 2256 = .ok (.iload 6, 2) := by decide +kernel
theorem dL_law_2258 : decode cL_law 2258 = .ok (.if_icmp .eq 5, 3) := by decide +kernel
theorem dL_law_2261 : decode cL_law 2261 = .ok (.iconst 0, 1) := by decide +kernel
theorem dL_law_2262 : decode cL_law 2262 = .ok (.ireturn, 1) := by decide +kernel
theorem dL_law_2263 : decode cL_law 2263 = .ok (.iload 6, 2) := by decide +kernel
theorem dL_law_2265 : decode cL_law 2265 = .ok (.ifCond .ne 15, 3) := by decide +kernel
theorem dL_law_2268 : decode cL_law 2268 = .ok (.aload_n 3, 1) := by decide +kernel
theorem dL_law_2269 : decode cL_law 2269 = .ok (.iconst 0, 1) := by decide +kernel
theorem dL_law_2270 : decode cL_law 2270 = .ok (.laload, 1) := by decide +kernel
theorem dL_law_2271 : decode cL_law 2271 = .ok (.iload 7, 2) := by decide +kernel
theorem dL_law_2273 : decode cL_law 2273 = .ok (.i2l, 1) := by decide +kernel
theorem dL_law_2274 : decode cL_law 2274 = .ok (.lcmp, 1) := by decide +kernel
theorem dL_law_2275 : decode cL_law 2275 = .ok (.ifCond .eq 5, 3) := by decide +kernel
theorem dL_law_2278 : decode cL_law 2278 = .ok (.iconst 0, 1) := by decide +kernel
theorem dL_law_2279 : decode cL_law 2279 = .ok (.ireturn, 1) := by decide +kernel
theorem dL_law_2280 : decode cL_law 2280 = .ok (.goto 828, 3) := by decide +kernel
theorem dL_law_2283 : decode cL_law 2283 = .ok (.aload_n 1, 1) := by decide +kernel
theorem dL_law_2284 : decode cL_law 2284 = .ok (.aload_n 0, 1) := by decide +kernel
theorem dL_law_2285 : decode cL_law 2285 = .ok (.iload 5, 2) := by decide +kernel
theorem dL_law_2287 : decode cL_law 2287 = .ok (.iconst 1, 1) := by decide +kernel
theorem dL_law_2288 : decode cL_law 2288 = .ok (.iadd, 1) := by decide +kernel
theorem dL_law_2289 : decode cL_law 2289 = .ok (.iaload, 1) := by decide +kernel
theorem dL_law_2290 : decode cL_law 2290 = .ok (.aload_n 3, 1) := by decide +kernel
theorem dL_law_2291 : decode cL_law 2291 = .ok (.invokestatic 309, 3) := by decide +kernel
theorem dL_law_2294 : decode cL_law 2294 = .ok (.istore 6, 2) := by decide +kernel
theorem dL_law_2296 : decode cL_law 2296 = .ok (.aload_n 2, 1) := by decide +kernel
theorem dL_law_2297 : decode cL_law 2297 = .ok (.aload_n 0, 1) := by decide +kernel
theorem dL_law_2298 : decode cL_law 2298 = .ok (.iload 5, 2) := by decide +kernel
theorem dL_law_2300 : decode cL_law 2300 = .ok (.iconst 1, 1) := by decide +kernel
theorem dL_law_2301 : decode cL_law 2301 = .ok (.iadd, 1) := by decide +kernel
theorem dL_law_2302 : decode cL_law 2302 = .ok (.iaload, 1) := by decide +kernel
theorem dL_law_2303 : decode cL_law 2303 = .ok (.invokevirtual 311, 3) := by decide +kernel
theorem dL_law_2306 : decode cL_law 2306 = .ok (.istore 7, 2) := by decide +kernel
theorem dL_law_2308 : decode cL_law 2308 = .ok (.aload_n 2, 1) := by decide +kernel
theorem dL_law_2309 : decode cL_law 2309 = .ok (.invokevirtual 178, 3) := by decide +kernel
theorem dL_law_2312 : decode cL_law 2312 = .ok (.iload 6, 2) := by decide +kernel
theorem dL_law_2314 : decode cL_law 2314 = .ok (.if_icmp .eq 5, 3) := by decide +kernel
theorem dL_law_2317 : decode cL_law 2317 = .ok (.iconst 0, 1) := by decide +kernel
theorem dL_law_2318 : decode cL_law 2318 = .ok (.ireturn, 1) := by decide +kernel
theorem dL_law_2319 : decode cL_law 2319 = .ok (.iload 6, 2) := by decide +kernel
theorem dL_law_2321 : decode cL_law 2321 = .ok (.ifCond .ne 15, 3) := by decide +kernel
theorem dL_law_2324 : decode cL_law 2324 = .ok (.aload_n 3, 1) := by decide +kernel
theorem dL_law_2325 : decode cL_law 2325 = .ok (.iconst 0, 1) := by decide +kernel
theorem dL_law_2326 : decode cL_law 2326 = .ok (.laload, 1) := by decide +kernel
theorem dL_law_2327 : decode cL_law 2327 = .ok (.iload 7, 2) := by decide +kernel
theorem dL_law_2329 : decode cL_law 2329 = .ok (.i2l, 1) := by decide +kernel
theorem dL_law_2330 : decode cL_law 2330 = .ok (.lcmp, 1) := by decide +kernel
theorem dL_law_2331 : decode cL_law 2331 = .ok (.ifCond .eq 5, 3) := by decide +kernel
theorem dL_law_2334 : decode cL_law 2334 = .ok (.iconst 0, 1) := by decide +kernel
theorem dL_law_2335 : decode cL_law 2335 = .ok (.ireturn, 1) := by decide +kernel
theorem dL_law_2336 : decode cL_law 2336 = .ok (.goto 772, 3) := by decide +kernel
theorem dL_law_2339 : decode cL_law 2339 = .ok (.aload_n 1, 1) := by decide +kernel
theorem dL_law_2340 : decode cL_law 2340 = .ok (.invokevirtual 312, 3) := by decide +kernel
theorem dL_law_2343 : decode cL_law 2343 = .ok (.aload_n 2, 1) := by decide +kernel
theorem dL_law_2344 : decode cL_law 2344 = .ok (.invokevirtual 315, 3) := by decide +kernel
theorem dL_law_2347 : decode cL_law 2347 = .ok (.if_icmp .eq 761, 3) := by decide +kernel
theorem dL_law_2350 : decode cL_law 2350 = .ok (.iconst 0, 1) := by decide +kernel
theorem dL_law_2351 : decode cL_law 2351 = .ok (.ireturn, 1) := by decide +kernel
theorem dL_law_2352 : decode cL_law 2352 = .ok (.aload_n 1, 1) := by decide +kernel
theorem dL_law_2353 : decode cL_law 2353 = .ok (.invokevirtual 316, 3) := by decide +kernel
theorem dL_law_2356 : decode cL_law 2356 = .ok (.aload_n 2, 1) := by decide +kernel
theorem dL_law_2357 : decode cL_law 2357 = .ok (.invokevirtual 319, 3) := by decide +kernel
theorem dL_law_2360 : decode cL_law 2360 = .ok (.if_icmp .eq 748, 3) := by decide +kernel
theorem dL_law_2363 : decode cL_law 2363 = .ok (.iconst 0, 1) := by decide +kernel
theorem dL_law_2364 : decode cL_law 2364 = .ok (.ireturn, 1) := by decide +kernel
theorem dL_law_2365 : decode cL_law 2365 = .ok (.aload_n 1, 1) := by decide +kernel
theorem dL_law_2366 : decode cL_law 2366 = .ok (.invokevirtual 320, 3) := by decide +kernel
theorem dL_law_2369 : decode cL_law 2369 = .ok (.aload_n 2, 1) := by decide +kernel
theorem dL_law_2370 : decode cL_law 2370 = .ok (.invokevirtual 323, 3) := by decide +kernel
theorem dL_law_2373 : decode cL_law 2373 = .ok (.if_icmp .eq 735, 3) := by decide +kernel
theorem dL_law_2376 : decode cL_law 2376 = .ok (.iconst 0, 1) := by decide +kernel
theorem dL_law_2377 : decode cL_law 2377 = .ok (.ireturn, 1) := by decide +kernel
theorem dL_law_2378 : decode cL_law 2378 = .ok (.aload_n 1, 1) := by decide +kernel
theorem dL_law_2379 : decode cL_law 2379 = .ok (.invokevirtual 324, 3) := by decide +kernel
theorem dL_law_2382 : decode cL_law 2382 = .ok (.aload_n 2, 1) := by decide +kernel
theorem dL_law_2383 : decode cL_law 2383 = .ok (.invokevirtual 327, 3) := by decide +kernel
theorem dL_law_2386 : decode cL_law 2386 = .ok (.if_icmp .eq 722, 3) := by decide +kernel
theorem dL_law_2389 : decode cL_law 2389 = .ok (.iconst 0, 1) := by decide +kernel
theorem dL_law_2390 : decode cL_law 2390 = .ok (.ireturn, 1) := by decide +kernel
theorem dL_law_2391 : decode cL_law 2391 = .ok (.aload_n 1, 1) := by decide +kernel
theorem dL_law_2392 : decode cL_law 2392 = .ok (.invokevirtual 328, 3) := by decide +kernel
theorem dL_law_2395 : decode cL_law 2395 = .ok (.aload_n 2, 1) := by decide +kernel
theorem dL_law_2396 : decode cL_law 2396 = .ok (.invokevirtual 331, 3) := by decide +kernel
theorem dL_law_2399 : decode cL_law 2399 = .ok (.if_icmp .eq 709, 3) := by decide +kernel
theorem dL_law_2402 : decode cL_law 2402 = .ok (.iconst 0, 1) := by decide +kernel
theorem dL_law_2403 : decode cL_law 2403 = .ok (.ireturn, 1) := by decide +kernel
theorem dL_law_2404 : decode cL_law 2404 = .ok (.aload_n 1, 1) := by decide +kernel
theorem dL_law_2405 : decode cL_law 2405 = .ok (.invokevirtual 332, 3) := by decide +kernel
theorem dL_law_2408 : decode cL_law 2408 = .ok (.aload_n 2, 1) := by decide +kernel
theorem dL_law_2409 : decode cL_law 2409 = .ok (.invokevirtual 335, 3) := by decide +kernel
theorem dL_law_2412 : decode cL_law 2412 = .ok (.if_icmp .eq 696, 3) := by decide +kernel
theorem dL_law_2415 : decode cL_law 2415 = .ok (.iconst 0, 1) := by decide +kernel
theorem dL_law_2416 : decode cL_law 2416 = .ok (.ireturn, 1) := by decide +kernel
theorem dL_law_2417 : decode cL_law 2417 = .ok (.aload_n 1, 1) := by decide +kernel
theorem dL_law_2418 : decode cL_law 2418 = .ok (.aload_n 0, 1) := by decide +kernel
theorem dL_law_2419 : decode cL_law 2419 = .ok (.iload 5, 2) := by decide +kernel
theorem dL_law_2421 : decode cL_law 2421 = .ok (.iconst 1, 1) := by decide +kernel
theorem dL_law_2422 : decode cL_law 2422 = .ok (.iadd, 1) := by decide +kernel
theorem dL_law_2423 : decode cL_law 2423 = .ok (.iaload, 1) := by decide +kernel
