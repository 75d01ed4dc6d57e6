/-! decode -/
theorem dL_law_1733 : decode cL_law 1733 = .ok (.iconst 4, 1) := by decide +kernel
theorem dL_law_1734 : decode cL_law 1734 = .ok (.iadd, 1) := by decide +kernel
theorem dL_law_1735 : decode cL_law 1735 = .ok (.iaload, 1) := by decide +kernel
theorem dL_law_1736 : decode cL_law 1736 = .ok (.invokevirtual 155, 3) := by decide +kernel
theorem dL_law_1739 : decode cL_law 1739 = .ok (.aload_n 2, 1) := by decide +kernel
theorem dL_law_1740 : decode cL_law 1740 = .ok (.aload_n 0, 1) := by decide +kernel
theorem dL_law_1741 : decode cL_law 1741 = .ok (.iload 4, 2) := by decide +kernel
theorem dL_law_1743 : decode cL_law 1743 = .ok (.iconst 1, 1) := by decide +kernel
theorem dL_law_1744 : decode cL_law 1744 = .ok (.iadd, 1) := by decide +kernel
theorem dL_law_1745 : decode cL_law 1745 = .ok (.iaload, 1) := by decide +kernel
theorem dL_law_1746 : decode cL_law 1746 = .ok (.aload_n 0, 1) := by decide +kernel
theorem dL_law_1747 : decode cL_law 1747 = .ok (.iload 4, 2) := by decide +kernel
theorem dL_law_1749 : decode cL_law 1749 = .ok (.iconst 2, 1) := by decide +kernel
theorem dL_law_1750 : decode cL_law 1750 = .ok (.iadd, 1) := by decide +kernel
theorem dL_law_1751 : decode cL_law 1751 = .ok (.iaload, 1) := by decide +kernel
theorem dL_law_1752 : decode cL_law 1752 = .ok (.aload_n 0, 1) := by decide +kernel
theorem dL_law_1753 : decode cL_law 1753 = .ok (.iload 4, 2) := by decide +kernel
theorem dL_law_1755 : decode cL_law 1755 = .ok (.iconst 3, 1) := by decide +kernel
theorem dL_law_1756 : decode cL_law 1756 = .ok (.iadd, 1) := by decide +kernel
theorem dL_law_1757 : decode cL_law 1757 = .ok (.iaload, 1) := by decide +kernel
theorem dL_law_1758 : decode cL_law 1758 = .ok (.aload_n 0, 1) := by decide +kernel
theorem dL_law_1759 : decode cL_law 1759 = .ok (.iload 4, 2) := by decide +kernel
theorem dL_law_1761 : decode cL_law 1761 = .ok (.iconst 4, 1) := by decide +kernel
theorem dL_law_1762 : decode cL_law 1762 = .ok (.iadd, 1) := by decide +kernel
theorem dL_law_1763 : decode cL_law 1763 = .ok (.iaload, 1) := by decide +kernel
theorem dL_law_1764 : decode cL_law 1764 = .ok (.invokevirtual 158, 3) := by decide +kernel
theorem dL_law_1767 : decode cL_law 1767 = .ok (.if_icmp .eq 285, 3) := by decide +kernel
theorem dL_law_1770 : decode cL_law 1770 = .ok (.iconst 0, 1) := by decide +kernel
theorem dL_law_1771 : decode cL_law 1771 = .ok (.ireturn, 1) := by decide +kernel
theorem dL_law_1772 : decode cL_law 1772 = .ok (.aload_n 1, 1) := by decide +kernel
theorem dL_law_1773 : decode cL_law 1773 = .ok (.aload_n 0, 1) := by decide +kernel
theorem dL_law_1774 : decode cL_law 1774 = .ok (.iload 4, 2) := by decide +kernel
theorem dL_law_1776 : decode cL_law 1776 = .ok (.iconst 1, 1) := by decide +kernel
theorem dL_law_1777 : decode cL_law 1777 = .ok (.iadd, 1) := by decide +kernel
theorem dL_law_1778 : decode cL_law 1778 = .ok (.iaload, 1) := by decide +kernel
theorem dL_law_1779 : decode cL_law 1779 = .ok (.aload_n 0, 1) := by decide +kernel
theorem dL_law_1780 : decode cL_law 1780 = .ok (.iload 4, 2) := by decide +kernel
theorem dL_law_1782 : decode cL_law 1782 = .ok (.iconst 2, 1) := by decide +kernel
theorem dL_law_1783 : decode cL_law 1783 = .ok (.iadd, 1) := by decide +kernel
theorem dL_law_1784 : decode cL_law 1784 = .ok (.iaload, 1) := by decide +kernel
theorem dL_law_1785 : decode cL_law 1785 = .ok (.aload_n 0, 1) := by decide +kernel
theorem dL_law_1786 : decode cL_law 1786 = .ok (.iload 4, 2) := by decide +kernel
theorem dL_law_1788 : decode cL_law 1788 = .ok (.iconst 3, 1) := by decide +kernel
theorem dL_law_1789 : decode cL_law 1789 = .ok (.iadd, 1) := by decide +kernel
theorem dL_law_1790 : decode cL_law 1790 = .ok (.iaload, 1) := by decide +kernel
theorem dL_law_1791 : decode cL_law 1791 = .ok (.aload_n 0, 1) := by decide +kernel
theorem dL_law_1792 : decode cL_law 1792 = .ok (.iload 4, 2) := by decide +kernel
theorem dL_law_1794 : decode cL_law 1794 = .ok (.iconst 4, 1) := by decide +kernel
theorem dL_law_1795 : decode cL_law 1795 = .ok (.iadd, 1) := by decide +kernel
theorem dL_law_1796 : decode cL_law 1796 = .ok (.iaload, 1) := by decide +kernel
theorem dL_law_1797 : decode cL_law 1797 = .ok (.aload_n 0, 1) := by decide +kernel
theorem dL_law_1798 : decode cL_law 1798 = .ok (.iload 4, 2) := by decide +kernel
theorem dL_law_1800 : decode cL_law 1800 = .ok (.iconst 5, 1) := by decide +kernel
theorem dL_law_1801 : decode cL_law 1801 = .ok (.iadd, 1) := by decide +kernel
theorem dL_law_1802 : decode cL_law 1802 = .ok (.iaload, 1) := by decide +kernel
theorem dL_law_1803 : decode cL_law 1803 = .ok (.aload_n 0, 1) := by decide +kernel
theorem dL_law_1804 : decode cL_law 1804 = .ok (.iload 4, 2) := by decide +kernel
theorem dL_law_1806 : decode cL_law 1806 = .ok (.bipush 6, 2) := by decide +kernel
theorem dL_law_1808 : decode cL_law 1808 = .ok (.iadd, 1) := by decide +kernel
theorem dL_law_1809 : decode cL_law 1809 = .ok (.iaload, 1) := by decide +kernel
theorem dL_law_1810 : decode cL_law 1810 = .ok (.aload_n 0, 1) := by decide +kernel
theorem dL_law_1811 : decode cL_law 1811 = .ok (.iload 4, 2) := by decide +kernel
theorem dL_law_1813 : decode cL_law 1813 = .ok (.bipush 7, 2) := by decide +kernel
theorem dL_law_1815 : decode cL_law 1815 = .ok (.iadd, 1) := by decide +kernel
theorem dL_law_1816 : decode cL_law 1816 = .ok (.iaload, 1) := by decide +kernel
theorem dL_law_1817 : decode cL_law 1817 = .ok (.invokevirtual 159, 3) := by decide +kernel
theorem dL_law_1820 : decode cL_law 1820 = .ok (.aload_n 2, 1) := by decide +kernel
theorem dL_law_1821 : decode cL_law 1821 = .ok (.aload_n 0, 1) := by decide +kernel
theorem dL_law_1822 : decode cL_law 1822 = .ok (.iload 4, 2) := by decide +kernel
theorem dL_law_1824 : decode cL_law 1824 = .ok (.iconst 1, 1) := by decide +kernel
theorem dL_law_1825 : decode cL_law 1825 = .ok (.iadd, 1) := by decide +kernel
theorem dL_law_1826 : decode cL_law 1826 = .ok (.iaload, 1) := by decide +kernel
theorem dL_law_1827 : decode cL_law 1827 = .ok (.aload_n 0, 1) := by decide +kernel
theorem dL_law_1828 : decode cL_law 1828 = .ok (.iload 4, 2) := by decide +kernel
theorem dL_law_1830 : decode cL_law 1830 = .ok (.iconst 2, 1) := by decide +kernel
theorem dL_law_1831 : decode cL_law 1831 = .ok (.iadd, 1) := by decide +kernel
theorem dL_law_1832 : decode cL_law 1832 = .ok (.iaload, 1) := by decide +kernel
theorem dL_law_1833 : decode cL_law 1833 = .ok (.aload_n 0, 1) := by decide +kernel
theorem dL_law_1834 : decode cL_law 1834 = .ok (.iload 4, 2) := by decide +kernel
theorem dL_law_1836 : decode cL_law 1836 = .ok (.iconst 3, 1) := by decide +kernel
theorem dL_law_1837 : decode cL_law 1837 = .ok (.iadd, 1) := by decide +kernel
theorem dL_law_1838 : decode cL_law 1838 = .ok (.iaload, 1) := by decide +kernel
theorem dL_law_1839 : decode cL_law 1839 = .ok (.aload_n 0, 1) := by decide +kernel
theorem dL_law_1840 : decode cL_law 1840 = .ok (.iload 4, 2) := by decide +kernel
theorem dL_law_1842 : decode cL_law 1842 = .ok (.iconst 4, 1) := by decide +kernel
theorem dL_law_1843 : decode cL_law 1843 = .ok (.iadd, 1) := by decide +kernel
theorem dL_law_1844 : decode cL_law 1844 = .ok (.iaload, 1) := by decide +kernel
theorem dL_law_1845 : decode cL_law 1845 = .ok (.aload_n 0, 1) := by decide +kernel
theorem dL_law_1846 : decode cL_law 1846 = .ok (.iload 4, 2) := by decide +kernel
theorem dL_law_1848 : decode cL_law 1848 = .ok (.iconst 5, 1) := by decide +kernel
theorem dL_law_1849 : decode cL_law 1849 = .ok (.iadd, 1) := by decide +kernel
theorem dL_law_1850 : decode cL_law 1850 = .ok (.iaload, 1) := by decide +kernel
theorem dL_law_1851 : decode cL_law 1851 = .ok (.aload_n 0, 1) := by decide +kernel
theorem dL_law_1852 : decode cL_law 1852 = .ok (.iload 4, 2) := by decide +kernel
theorem dL_law_1854 : decode cL_law 1854 = .ok (.bipush 6, 2) := by decide +kernel
theorem dL_law_1856 : decode cL_law 1856 = .ok (.iadd, 1) := by decide +kernel
theorem dL_law_1857 : decode cL_law 1857 = .ok (.iaload, 1) := by decide +kernel
theorem dL_law_1858 : decode cL_law 1858 = .ok (.aload_n 0, 1) := by decide +kernel
theorem dL_law_1859 : decode cL_law 1859 = .ok (.iload 4, 2) := by decide +kernel
theorem dL_law_1861 : decode cL_law 1861 = .ok (.bipush 7, 2) := by decide +kernel
theorem dL_law_1863 : decode cL_law 1863 = .ok (.iadd, 1) := by decide +kernel
theorem dL_law_1864 : decode cL_law 1864 = .ok (.iaload, 1) := by decide +kernel
theorem dL_law_1865 : decode cL_law 1865 = .ok (.invokevirtual 163, 3) := by decide +kernel
theorem dL_law_1868 : decode cL_law 1868 = .ok (.if_icmp .eq 184, 3) := by decide +kernel
theorem dL_law_1871 : decode cL_law 1871 = .ok (.iconst 0, 1) := by decide +kernel
theorem dL_law_1872 : decode cL_law 1872 = .ok (.ireturn, 1) := by decide +kernel
theorem dL_law_1873 : decode cL_law 1873 = .ok (.aload_n 1, 1) := by decide +kernel
theorem dL_law_1874 : decode cL_law 1874 = .ok (.aload_n 0, 1) := by decide +kernel
theorem dL_law_1875 : decode cL_law 1875 = .ok (.iload 4, 2) := by decide +kernel
theorem dL_law_1877 : decode cL_law 1877 = .ok (.iconst 1, 1) := by decide +kernel
theorem dL_law_1878 : decode cL_law 1878 = .ok (.iadd, 1) := by decide +kernel
theorem dL_law_1879 : decode cL_law 1879 = .ok (.iaload, 1) := by decide +kernel
theorem dL_law_1880 : decode cL_law 1880 = .ok (.aload_n 0, 1) := by decide +kernel
theorem dL_law_1881 : decode cL_law 1881 = .ok (.iload 4, 2) := by decide +kernel
theorem dL_law_1883 : decode cL_law 1883 = .ok (.iconst 2, 1) := by decide +kernel
theorem dL_law_1884 : decode cL_law 1884 = .ok (.iadd, 1) := by decide +kernel
theorem dL_law_1885 : decode cL_law 1885 = .ok (.iaload, 1) := by decide +kernel
theorem dL_law_1886 : decode cL_law 1886 = .ok (.aload_n 0, 1) := by decide +kernel
theorem dL_law_1887 : decode cL_law 1887 = .ok (.iload 4, 2) := by decide +kernel
theorem dL_law_1889 : decode cL_law 1889 = .ok (.iconst 3, 1) := by decide +kernel
theorem dL_law_1890 : decode cL_law 1890 = .ok (.iadd, 1) := by decide +kernel
theorem dL_law_1891 : decode cL_law 1891 = .ok (.iaload, 1) := by decide +kernel
theorem dL_law_1892 : decode cL_law 1892 = .ok (.aload_n 3, 1) := by decide +kernel
theorem dL_law_1893 : decode cL_law 1893 = .ok (.invokestatic 164, 3) := by decide +kernel
theorem dL_law_1896 : decode cL_law 1896 = .ok (.istore 5, 2) := by decide +kernel
theorem dL_law_1898 : decode cL_law 1898 = .ok (.aload_n 2, 1) := by decide +kernel
theorem dL_law_1899 : decode cL_law 1899 = .ok (.aload_n 0, 1) := by decide +kernel
theorem dL_law_1900 : decode cL_law 1900 = .ok (.iload 4, 2) := by decide +kernel
theorem dL_law_1902 : decode cL_law 1902 = .ok (.iconst 1, 1) := by decide +kernel
theorem dL_law_1903 : decode cL_law 1903 = .ok (.iadd, 1) := by decide +kernel
theorem dL_law_1904 : decode cL_law 1904 = .ok (.iaload, 1) := by decide +kernel
theorem dL_law_1905 : decode cL_law 1905 = .ok (.aload_n 0, 1) := by decide +kernel
theorem dL_law_1906 : decode cL_law 1906 = .ok (.iload 4, 2) := by decide +kernel
theorem dL_law_1908 : decode cL_law 1908 = .ok (.iconst 2, 1) := by decide +kernel
theorem dL_law_1909 : decode cL_law 1909 = .ok (.iadd, 1) := by decide +kernel
theorem dL_law_1910 : decode cL_law 1910 = .ok (.iaload, 1) := by decide +kernel
theorem dL_law_1911 : decode cL_law 1911 = .ok (.aload_n 0, 1) := by decide +kernel
theorem dL_law_1912 : decode cL_law 1912 = .ok (.iload 4, 2) := by decide +kernel
theorem dL_law_1914 : decode cL_law 1914 = .ok (.iconst 3, 1) := by decide +kernel
theorem dL_law_1915 : decode cL_law 1915 = .ok (.iadd, 1) := by decide +kernel
theorem dL_law_1916 : decode cL_law 1916 = .ok (.iaload, 1) := by decide +kernel
theorem dL_law_1917 : decode cL_law 1917 = .ok (.invokevirtual 167, 3) := by decide +kernel
theorem dL_law_1920 : decode cL_law 1920 = .ok (.istore 6, 2) := by decide +kernel
theorem dL_law_1922 : decode cL_law 1922 = .ok (.aload_n 2, 1) := by decide +kernel
theorem dL_law_1923 : decode cL_law 1923 = .ok (.invokevirtual 62, 3) := by decide +kernel
theorem dL_law_1926 : decode cL_law 1926 = .ok (.iload 5, 2) := by decide +kernel
theorem dL_law_1928 : decode cL_law 1928 = .ok (.if_icmp .eq 5, 3) := by decide +kernel
theorem dL_law_1931 : decode cL_law 1931 = .ok (.iconst 0, 1) := by decide +kernel
theorem dL_law_1932 : decode cL_law 1932 = .ok (.ireturn, 1) := by decide +kernel
theorem dL_law_1933 : decode cL_law 1933 = .ok (.iload 5, 2) := by decide +kernel
theorem dL_law_1935 : decode cL_law 1935 = .ok (.ifCond .ne 15, 3) := by decide +kernel
theorem dL_law_1938 : decode cL_law 1938 = .ok (.aload_n 3, 1) := by decide +kernel
theorem dL_law_1939 : decode cL_law 1939 = .ok (.iconst 0, 1) := by decide +kernel
theorem dL_law_1940 : decode cL_law 1940 = .ok (.laload, 1) := by decide +kernel
theorem dL_law_1941 : decode cL_law 1941 = .ok (.iload 6, 2) := by decide +kernel
theorem dL_law_1943 : decode cL_law 1943 = .ok (.i2l, 1) := by decide +kernel
theorem dL_law_1944 : decode cL_law 1944 = .ok (.lcmp, 1) := by decide +kernel
theorem dL_law_1945 : decode cL_law 1945 = .ok (.ifCond .eq 5, 3) := by decide +kernel
theorem dL_law_1948 : decode cL_law 1948 = .ok (.iconst 0, 1) := by decide +kernel
theorem dL_law_1949 : decode cL_law 1949 = .ok (.ireturn, 1) := by decide +kernel
theorem dL_law_1950 : decode cL_law 1950 = .ok (.goto 102, 3) := by decide +kernel
theorem dL_law_1953 : decode cL_law 1953 = .ok (.aload_n 1, 1) := by decide +kernel
theorem dL_law_1954 : decode cL_law 1954 = .ok (.invokevirtual 168, 3) := by decide +kernel
theorem dL_law_1957 : decode cL_law 1957 = .ok (.aload_n 2, 1) := by decide +kernel
theorem dL_law_1958 : decode cL_law 1958 = .ok (.invokevirtual 171, 3) := by decide +kernel
theorem dL_law_1961 : decode cL_law 1961 = .ok (.if_icmp .eq 91, 3) := by decide +kernel
theorem dL_law_1964 : decode cL_law 1964 = .ok (.iconst 0, 1) := by decide +kernel
theorem dL_law_1965 : decode cL_law 1965 = .ok (.ireturn, 1) := by decide +kernel
theorem dL_law_1966 : decode cL_law 1966 = .ok (.aload_n 1, 1) := by decide +kernel
theorem dL_law_1967 : decode cL_law 1967 = .ok (.aload_n 0, 1) := by decide +kernel
theorem dL_law_1968 : decode cL_law 1968 = .ok (.iload 4, 2) := by decide +kernel
theorem dL_law_1970 : decode cL_law 1970 = .ok (.iconst 1, 1) := by decide +kernel
theorem dL_law_1971 : decode cL_law 1971 = .ok (.iadd, 1) := by decide +kernel
theorem dL_law_1972 : decode cL_law 1972 = .ok (.iaload, 1) := by decide +kernel
theorem dL_law_1973 : decode cL_law 1973 = .ok (.aload_n 0, 1) := by decide +kernel
theorem dL_law_1974 : decode cL_law 1974 = .ok (.iload 4, 2) := by decide +kernel
theorem dL_law_1976 : decode cL_law 1976 = .ok (.iconst 2, 1) := by decide +kernel
theorem dL_law_1977 : decode cL_law 1977 = .ok (.iadd, 1) := by decide +kernel
theorem dL_law_1978 : decode cL_law 1978 = .ok (.iaload, 1) := by decide +kernel
theorem dL_law_1979 : decode cL_law 1979 = .ok (.aload_n 0, 1) := by decide +kernel
theorem dL_law_1980 : decode cL_law 1980 = .ok (.iload 4, 2) := by decide +kernel
theorem dL_law_1982 : decode cL_law 1982 = .ok (.iconst 3, 1) := by decide +kernel
theorem dL_law_1983 : decode cL_law 1983 = .ok (.iadd, 1) := by decide +kernel
theorem dL_law_1984 : decode cL_law 1984 = .ok (.iaload, 1) := by decide +kernel
theorem dL_law_1985 : decode cL_law 1985 = .ok (.aload_n 0, 1) := by decide +kernel
theorem dL_law_1986 : decode cL_law 1986 = .ok (.iload 4, 2) := by decide +kernel
theorem dL_law_1988 : decode cL_law 1988 = .ok (.iconst 4, 1) := by decide +kernel
theorem dL_law_1989 : decode cL_law 1989 = .ok (.iadd, 1) := by decide +kernel
theorem dL_law_1990 : decode cL_law 1990 = .ok (.iaload, 1) := by decide +kernel
theorem dL_law_1991 : decode cL_law 1991 = .ok (.invokevirtual 172, 3) := by decide +kernel
theorem dL_law_1994 : decode cL_law 1994 = .ok (.aload_n 2, 1) := by decide +kernel
theorem dL_law_1995 : decode cL_law 1995 = .ok (.aload_n 0, 1) := by decide +kernel
theorem dL_law_1996 : decode cL_law 1996 = .ok (.iload 4, 2) := by decide +kernel
theorem dL_law_1998 : decode cL_law 1998 = .ok (.iconst 1, 1) := by decide +kernel
theorem dL_law_1999 : decode cL_law 1999 = .ok (.iadd, 1) := by decide +kernel
theorem dL_law_2000 : decode cL_law 2000 = .ok (.iaload, 1) := by decide +kernel
theorem dL_law_2001 : decode cL_law 2001 = .ok (.aload_n 0, 1) := by decide +kernel
theorem dL_law_2002 : decode cL_law 2002 = .ok (.iload 4, 2) := by decide +kernel
theorem dL_law_2004 : decode cL_law 2004 = .ok (.iconst 2, 1) := by decide +kernel
theorem dL_law_2005 : decode cL_law 2005 = .ok (.iadd, 1) := by decide +kernel
theorem dL_law_2006 : decode cL_law 2006 = .ok (.iaload, 1) := by decide +kernel
theorem dL_law_2007 : decode cL_law 2007 = .ok (.aload_n 0, 1) := by decide +kernel
theorem dL_law_2008 : decode cL_law 2008 = .ok (.iload 4, 2) := by decide +kernel
theorem dL_law_2010 : decode cL_law 2010 = .ok (.iconst 3, 1) := by decide +kernel
theorem dL_law_2011 : decode cL_law 2011 = .ok (.iadd, 1) := by decide +kernel
theorem dL_law_2012 : decode cL_law 2012 = .ok (.iaload, 1) := by decide +kernel
theorem dL_law_2013 : decode cL_law 2013 = .ok (.aload_n 0, 1) := by decide +kernel
theorem dL_law_2014 : decode cL_law 2014 = .ok (.iload 4, 2) := by decide +kernel
theorem dL_law_2016 : decode cL_law 2016 = .ok (.iconst 4, 1) := by decide +kernel
theorem dL_law_2017 : decode cL_law 2017 = .ok (.iadd, 1) := by decide +kernel
theorem dL_law_2018 : decode cL_law 2018 = .ok (.iaload, 1) := by decide +kernel
theorem dL_law_2019 : decode cL_law 2019 = .ok (.invokevirtual 175, 3) := by decide +kernel
theorem dL_law_2022 : decode cL_law 2022 = .ok (.if_icmp .eq 30, 3) := by decide +kernel
theorem dL_law_2025 : decode cL_law 2025 = .ok (.iconst 0, 1) := by decide +kernel
theorem dL_law_2026 : decode cL_law 2026 = .ok (.ireturn, 1) := by decide +kernel
theorem dL_law_2027 : decode cL_law 2027 = .ok (.aload_n 1, 1) := by decide +kernel
theorem dL_law_2028 : decode cL_law 2028 = .ok (.aload_n 0, 1) := by decide +kernel
theorem dL_law_2029 : decode cL_law 2029 = .ok (.iload 4, 2) := by decide +kernel
theorem dL_law_2031 : decode cL_law 2031 = .ok (.iconst 1, 1) := by decide +kernel
theorem dL_law_2032 : decode cL_law 2032 = .ok (.iadd, 1) := by decide +kernel
theorem dL_law_2033 : decode cL_law 2033 = .ok (.iaload, 1) := by decide +kernel
theorem dL_law_2034 : decode cL_law 2034 = .ok (.invokevirtual 176, 3) := by decide +kernel
theorem dL_law_2037 : decode cL_law 2037 = .ok (.aload_n 2, 1) := by decide +kernel
theorem dL_law_2038 : decode cL_law 2038 = .ok (.aload_n 0, 1) := by decide +kernel
theorem dL_law_2039 : decode cL_law 2039 = .ok (.iload 4, 2) := by decide +kernel
theorem dL_law_2041 : decode cL_law 2041 = .ok (.iconst 1, 1) := by decide +kernel
theorem dL_law_2042 : decode cL_law 2042 = .ok (.iadd, 1) := by decide +kernel
theorem dL_law_2043 : decode cL_law 2043 = .ok (.iaload, 1) := by decide +kernel
theorem dL_law_2044 : decode cL_law 2044 = .ok (.invokevirtual 179, 3) := by decide +kernel
theorem dL_law_2047 : decode cL_law 2047 = .ok (.if_icmp .eq 5, 3) := by decide +kernel
theorem dL_law_2050 : decode cL_law 2050 = .ok (.iconst 0, 1) := by decide +kernel
theorem dL_law_2051 : decode cL_law 2051 = .ok (.ireturn, 1) := by decide +kernel
theorem dL_law_2052 : decode cL_law 2052 = .ok (.iinc 4 9, 3) := by decide +kernel
theorem dL_law_2055 : decode cL_law 2055 = .ok (.goto (-2032), 3) := by decide +kernel
theorem dL_law_2058 : decode cL_law 2058 = .ok (.iconst 1, 1) := by decide +kernel
theorem dL_law_2059 : decode cL_law 2059 = .ok (.ireturn, 1) := by decide +kernel
