/-! # the law: its bytes, 6 (wip/gen/mk61.py) -/
theorem dL_law__1706 : decode cL_law_ 1706 = .ok (.goto 840, 3) := by decide +kernel
theorem dL_law__1709 : decode cL_law_ 1709 = .ok (.aload_n 1, 1) := by decide +kernel
theorem dL_law__1710 : decode cL_law_ 1710 = .ok (.aload_n 0, 1) := by decide +kernel
theorem dL_law__1711 : decode cL_law_ 1711 = .ok (.iload 4, 2) := by decide +kernel
theorem dL_law__1713 : decode cL_law_ 1713 = .ok (.iconst 1, 1) := by decide +kernel
theorem dL_law__1714 : decode cL_law_ 1714 = .ok (.iadd, 1) := by decide +kernel
theorem dL_law__1715 : decode cL_law_ 1715 = .ok (.iaload, 1) := by decide +kernel
theorem dL_law__1716 : decode cL_law_ 1716 = .ok (.aload_n 0, 1) := by decide +kernel
theorem dL_law__1717 : decode cL_law_ 1717 = .ok (.iload 4, 2) := by decide +kernel
theorem dL_law__1719 : decode cL_law_ 1719 = .ok (.iconst 2, 1) := by decide +kernel
theorem dL_law__1720 : decode cL_law_ 1720 = .ok (.iadd, 1) := by decide +kernel
theorem dL_law__1721 : decode cL_law_ 1721 = .ok (.iaload, 1) := by decide +kernel
theorem dL_law__1722 : decode cL_law_ 1722 = .ok (.aload_n 0, 1) := by decide +kernel
theorem dL_law__1723 : decode cL_law_ 1723 = .ok (.iload 4, 2) := by decide +kernel
theorem dL_law__1725 : decode cL_law_ 1725 = .ok (.iconst 3, 1) := by decide +kernel
theorem dL_law__1726 : decode cL_law_ 1726 = .ok (.iadd, 1) := by decide +kernel
theorem dL_law__1727 : decode cL_law_ 1727 = .ok (.iaload, 1) := by decide +kernel
theorem dL_law__1728 : decode cL_law_ 1728 = .ok (.aload_n 0, 1) := by decide +kernel
theorem dL_law__1729 : decode cL_law_ 1729 = .ok (.iload 4, 2) := by decide +kernel
theorem dL_law__1731 : decode cL_law_ 1731 = .ok (.iconst 4, 1) := by decide +kernel
theorem dL_law__1732 : decode cL_law_ 1732 = .ok (.iadd, 1) := by decide +kernel
theorem dL_law__1733 : decode cL_law_ 1733 = .ok (.iaload, 1) := by decide +kernel
theorem dL_law__1734 : decode cL_law_ 1734 = .ok (.aload_n 0, 1) := by decide +kernel
theorem dL_law__1735 : decode cL_law_ 1735 = .ok (.iload 4, 2) := by decide +kernel
theorem dL_law__1737 : decode cL_law_ 1737 = .ok (.iconst 5, 1) := by decide +kernel
theorem dL_law__1738 : decode cL_law_ 1738 = .ok (.iadd, 1) := by decide +kernel
theorem dL_law__1739 : decode cL_law_ 1739 = .ok (.iaload, 1) := by decide +kernel
theorem dL_law__1740 : decode cL_law_ 1740 = .ok (.aload_n 3, 1) := by decide +kernel
theorem dL_law__1741 : decode cL_law_ 1741 = .ok (.invokestatic 204, 3) := by decide +kernel
theorem dL_law__1744 : decode cL_law_ 1744 = .ok (.istore 5, 2) := by decide +kernel
theorem dL_law__1746 : decode cL_law_ 1746 = .ok (.aload_n 2, 1) := by decide +kernel
theorem dL_law__1747 : decode cL_law_ 1747 = .ok (.aload_n 0, 1) := by decide +kernel
theorem dL_law__1748 : decode cL_law_ 1748 = .ok (.iload 4, 2) := by decide +kernel
theorem dL_law__1750 : decode cL_law_ 1750 = .ok (.iconst 1, 1) := by decide +kernel
theorem dL_law__1751 : decode cL_law_ 1751 = .ok (.iadd, 1) := by decide +kernel
theorem dL_law__1752 : decode cL_law_ 1752 = .ok (.iaload, 1) := by decide +kernel
theorem dL_law__1753 : decode cL_law_ 1753 = .ok (.aload_n 0, 1) := by decide +kernel
theorem dL_law__1754 : decode cL_law_ 1754 = .ok (.iload 4, 2) := by decide +kernel
theorem dL_law__1756 : decode cL_law_ 1756 = .ok (.iconst 2, 1) := by decide +kernel
theorem dL_law__1757 : decode cL_law_ 1757 = .ok (.iadd, 1) := by decide +kernel
theorem dL_law__1758 : decode cL_law_ 1758 = .ok (.iaload, 1) := by decide +kernel
theorem dL_law__1759 : decode cL_law_ 1759 = .ok (.aload_n 0, 1) := by decide +kernel
theorem dL_law__1760 : decode cL_law_ 1760 = .ok (.iload 4, 2) := by decide +kernel
theorem dL_law__1762 : decode cL_law_ 1762 = .ok (.iconst 3, 1) := by decide +kernel
theorem dL_law__1763 : decode cL_law_ 1763 = .ok (.iadd, 1) := by decide +kernel
theorem dL_law__1764 : decode cL_law_ 1764 = .ok (.iaload, 1) := by decide +kernel
theorem dL_law__1765 : decode cL_law_ 1765 = .ok (.aload_n 0, 1) := by decide +kernel
theorem dL_law__1766 : decode cL_law_ 1766 = .ok (.iload 4, 2) := by decide +kernel
theorem dL_law__1768 : decode cL_law_ 1768 = .ok (.iconst 4, 1) := by decide +kernel
theorem dL_law__1769 : decode cL_law_ 1769 = .ok (.iadd, 1) := by decide +kernel
theorem dL_law__1770 : decode cL_law_ 1770 = .ok (.iaload, 1) := by decide +kernel
theorem dL_law__1771 : decode cL_law_ 1771 = .ok (.aload_n 0, 1) := by decide +kernel
theorem dL_law__1772 : decode cL_law_ 1772 = .ok (.iload 4, 2) := by decide +kernel
theorem dL_law__1774 : decode cL_law_ 1774 = .ok (.iconst 5, 1) := by decide +kernel
theorem dL_law__1775 : decode cL_law_ 1775 = .ok (.iadd, 1) := by decide +kernel
theorem dL_law__1776 : decode cL_law_ 1776 = .ok (.iaload, 1) := by decide +kernel
theorem dL_law__1777 : decode cL_law_ 1777 = .ok (.invokevirtual 207, 3) := by decide +kernel
theorem dL_law__1780 : decode cL_law_ 1780 = .ok (.lstore 6, 2) := by decide +kernel
theorem dL_law__1782 : decode cL_law_ 1782 = .ok (.aload_n 2, 1) := by decide +kernel
theorem dL_law__1783 : decode cL_law_ 1783 = .ok (.invokevirtual 125, 3) := by decide +kernel
theorem dL_law__1786 : decode cL_law_ 1786 = .ok (.iload 5, 2) := by decide +kernel
theorem dL_law__1788 : decode cL_law_ 1788 = .ok (.if_icmp .eq 5, 3) := by decide +kernel
theorem dL_law__1791 : decode cL_law_ 1791 = .ok (.iconst 0, 1) := by decide +kernel
theorem dL_law__1792 : decode cL_law_ 1792 = .ok (.ireturn, 1) := by decide +kernel
theorem dL_law__1793 : decode cL_law_ 1793 = .ok (.iload 5, 2) := by decide +kernel
theorem dL_law__1795 : decode cL_law_ 1795 = .ok (.ifCond .ne 14, 3) := by decide +kernel
theorem dL_law__1798 : decode cL_law_ 1798 = .ok (.aload_n 3, 1) := by decide +kernel
theorem dL_law__1799 : decode cL_law_ 1799 = .ok (.iconst 0, 1) := by decide +kernel
theorem dL_law__1800 : decode cL_law_ 1800 = .ok (.laload, 1) := by decide +kernel
theorem dL_law__1801 : decode cL_law_ 1801 = .ok (.lload 6, 2) := by decide +kernel
theorem dL_law__1803 : decode cL_law_ 1803 = .ok (.lcmp, 1) := by decide +kernel
theorem dL_law__1804 : decode cL_law_ 1804 = .ok (.ifCond .eq 5, 3) := by decide +kernel
theorem dL_law__1807 : decode cL_law_ 1807 = .ok (.iconst 0, 1) := by decide +kernel
theorem dL_law__1808 : decode cL_law_ 1808 = .ok (.ireturn, 1) := by decide +kernel
theorem dL_law__1809 : decode cL_law_ 1809 = .ok (.goto 737, 3) := by decide +kernel
theorem dL_law__1812 : decode cL_law_ 1812 = .ok (.aload_n 1, 1) := by decide +kernel
theorem dL_law__1813 : decode cL_law_ 1813 = .ok (.aload_n 0, 1) := by decide +kernel
theorem dL_law__1814 : decode cL_law_ 1814 = .ok (.iload 4, 2) := by decide +kernel
theorem dL_law__1816 : decode cL_law_ 1816 = .ok (.iconst 1, 1) := by decide +kernel
theorem dL_law__1817 : decode cL_law_ 1817 = .ok (.iadd, 1) := by decide +kernel
theorem dL_law__1818 : decode cL_law_ 1818 = .ok (.iaload, 1) := by decide +kernel
theorem dL_law__1819 : decode cL_law_ 1819 = .ok (.aload_n 0, 1) := by decide +kernel
theorem dL_law__1820 : decode cL_law_ 1820 = .ok (.iload 4, 2) := by decide +kernel
theorem dL_law__1822 : decode cL_law_ 1822 = .ok (.iconst 2, 1) := by decide +kernel
theorem dL_law__1823 : decode cL_law_ 1823 = .ok (.iadd, 1) := by decide +kernel
theorem dL_law__1824 : decode cL_law_ 1824 = .ok (.iaload, 1) := by decide +kernel
theorem dL_law__1825 : decode cL_law_ 1825 = .ok (.aload_n 0, 1) := by decide +kernel
theorem dL_law__1826 : decode cL_law_ 1826 = .ok (.iload 4, 2) := by decide +kernel
theorem dL_law__1828 : decode cL_law_ 1828 = .ok (.iconst 3, 1) := by decide +kernel
theorem dL_law__1829 : decode cL_law_ 1829 = .ok (.iadd, 1) := by decide +kernel
theorem dL_law__1830 : decode cL_law_ 1830 = .ok (.iaload, 1) := by decide +kernel
theorem dL_law__1831 : decode cL_law_ 1831 = .ok (.aload_n 3, 1) := by decide +kernel
theorem dL_law__1832 : decode cL_law_ 1832 = .ok (.invokestatic 208, 3) := by decide +kernel
theorem dL_law__1835 : decode cL_law_ 1835 = .ok (.istore 5, 2) := by decide +kernel
theorem dL_law__1837 : decode cL_law_ 1837 = .ok (.aload_n 2, 1) := by decide +kernel
theorem dL_law__1838 : decode cL_law_ 1838 = .ok (.aload_n 0, 1) := by decide +kernel
theorem dL_law__1839 : decode cL_law_ 1839 = .ok (.iload 4, 2) := by decide +kernel
theorem dL_law__1841 : decode cL_law_ 1841 = .ok (.iconst 1, 1) := by decide +kernel
theorem dL_law__1842 : decode cL_law_ 1842 = .ok (.iadd, 1) := by decide +kernel
theorem dL_law__1843 : decode cL_law_ 1843 = .ok (.iaload, 1) := by decide +kernel
theorem dL_law__1844 : decode cL_law_ 1844 = .ok (.aload_n 0, 1) := by decide +kernel
theorem dL_law__1845 : decode cL_law_ 1845 = .ok (.iload 4, 2) := by decide +kernel
theorem dL_law__1847 : decode cL_law_ 1847 = .ok (.iconst 2, 1) := by decide +kernel
theorem dL_law__1848 : decode cL_law_ 1848 = .ok (.iadd, 1) := by decide +kernel
theorem dL_law__1849 : decode cL_law_ 1849 = .ok (.iaload, 1) := by decide +kernel
theorem dL_law__1850 : decode cL_law_ 1850 = .ok (.aload_n 0, 1) := by decide +kernel
theorem dL_law__1851 : decode cL_law_ 1851 = .ok (.iload 4, 2) := by decide +kernel
theorem dL_law__1853 : decode cL_law_ 1853 = .ok (.iconst 3, 1) := by decide +kernel
theorem dL_law__1854 : decode cL_law_ 1854 = .ok (.iadd, 1) := by decide +kernel
theorem dL_law__1855 : decode cL_law_ 1855 = .ok (.iaload, 1) := by decide +kernel
theorem dL_law__1856 : decode cL_law_ 1856 = .ok (.invokevirtual 210, 3) := by decide +kernel
theorem dL_law__1859 : decode cL_law_ 1859 = .ok (.istore 6, 2) := by decide +kernel
theorem dL_law__1861 : decode cL_law_ 1861 = .ok (.aload_n 2, 1) := by decide +kernel
theorem dL_law__1862 : decode cL_law_ 1862 = .ok (.invokevirtual 125, 3) := by decide +kernel
theorem dL_law__1865 : decode cL_law_ 1865 = .ok (.iload 5, 2) := by decide +kernel
theorem dL_law__1867 : decode cL_law_ 1867 = .ok (.if_icmp .eq 5, 3) := by decide +kernel
theorem dL_law__1870 : decode cL_law_ 1870 = .ok (.iconst 0, 1) := by decide +kernel
theorem dL_law__1871 : decode cL_law_ 1871 = .ok (.ireturn, 1) := by decide +kernel
theorem dL_law__1872 : decode cL_law_ 1872 = .ok (.iload 5, 2) := by decide +kernel
theorem dL_law__1874 : decode cL_law_ 1874 = .ok (.ifCond .ne 15, 3) := by decide +kernel
theorem dL_law__1877 : decode cL_law_ 1877 = .ok (.aload_n 3, 1) := by decide +kernel
theorem dL_law__1878 : decode cL_law_ 1878 = .ok (.iconst 0, 1) := by decide +kernel
theorem dL_law__1879 : decode cL_law_ 1879 = .ok (.laload, 1) := by decide +kernel
theorem dL_law__1880 : decode cL_law_ 1880 = .ok (.iload 6, 2) := by decide +kernel
theorem dL_law__1882 : decode cL_law_ 1882 = .ok (.i2l, 1) := by decide +kernel
theorem dL_law__1883 : decode cL_law_ 1883 = .ok (.lcmp, 1) := by decide +kernel
theorem dL_law__1884 : decode cL_law_ 1884 = .ok (.ifCond .eq 5, 3) := by decide +kernel
theorem dL_law__1887 : decode cL_law_ 1887 = .ok (.iconst 0, 1) := by decide +kernel
theorem dL_law__1888 : decode cL_law_ 1888 = .ok (.ireturn, 1) := by decide +kernel
theorem dL_law__1889 : decode cL_law_ 1889 = .ok (.goto 657, 3) := by decide +kernel
theorem dL_law__1892 : decode cL_law_ 1892 = .ok (.aload_n 1, 1) := by decide +kernel
theorem dL_law__1893 : decode cL_law_ 1893 = .ok (.aload_n 0, 1) := by decide +kernel
theorem dL_law__1894 : decode cL_law_ 1894 = .ok (.iload 4, 2) := by decide +kernel
theorem dL_law__1896 : decode cL_law_ 1896 = .ok (.iconst 1, 1) := by decide +kernel
theorem dL_law__1897 : decode cL_law_ 1897 = .ok (.iadd, 1) := by decide +kernel
theorem dL_law__1898 : decode cL_law_ 1898 = .ok (.iaload, 1) := by decide +kernel
theorem dL_law__1899 : decode cL_law_ 1899 = .ok (.aload_n 0, 1) := by decide +kernel
theorem dL_law__1900 : decode cL_law_ 1900 = .ok (.iload 4, 2) := by decide +kernel
theorem dL_law__1902 : decode cL_law_ 1902 = .ok (.iconst 2, 1) := by decide +kernel
theorem dL_law__1903 : decode cL_law_ 1903 = .ok (.iadd, 1) := by decide +kernel
theorem dL_law__1904 : decode cL_law_ 1904 = .ok (.iaload, 1) := by decide +kernel
theorem dL_law__1905 : decode cL_law_ 1905 = .ok (.aload_n 0, 1) := by decide +kernel
theorem dL_law__1906 : decode cL_law_ 1906 = .ok (.iload 4, 2) := by decide +kernel
theorem dL_law__1908 : decode cL_law_ 1908 = .ok (.iconst 3, 1) := by decide +kernel
theorem dL_law__1909 : decode cL_law_ 1909 = .ok (.iadd, 1) := by decide +kernel
theorem dL_law__1910 : decode cL_law_ 1910 = .ok (.iaload, 1) := by decide +kernel
theorem dL_law__1911 : decode cL_law_ 1911 = .ok (.aload_n 3, 1) := by decide +kernel
theorem dL_law__1912 : decode cL_law_ 1912 = .ok (.invokestatic 211, 3) := by decide +kernel
theorem dL_law__1915 : decode cL_law_ 1915 = .ok (.istore 5, 2) := by decide +kernel
theorem dL_law__1917 : decode cL_law_ 1917 = .ok (.aload_n 2, 1) := by decide +kernel
theorem dL_law__1918 : decode cL_law_ 1918 = .ok (.aload_n 0, 1) := by decide +kernel
theorem dL_law__1919 : decode cL_law_ 1919 = .ok (.iload 4, 2) := by decide +kernel
theorem dL_law__1921 : decode cL_law_ 1921 = .ok (.iconst 1, 1) := by decide +kernel
theorem dL_law__1922 : decode cL_law_ 1922 = .ok (.iadd, 1) := by decide +kernel
theorem dL_law__1923 : decode cL_law_ 1923 = .ok (.iaload, 1) := by decide +kernel
theorem dL_law__1924 : decode cL_law_ 1924 = .ok (.aload_n 0, 1) := by decide +kernel
theorem dL_law__1925 : decode cL_law_ 1925 = .ok (.iload 4, 2) := by decide +kernel
theorem dL_law__1927 : decode cL_law_ 1927 = .ok (.iconst 2, 1) := by decide +kernel
theorem dL_law__1928 : decode cL_law_ 1928 = .ok (.iadd, 1) := by decide +kernel
theorem dL_law__1929 : decode cL_law_ 1929 = .ok (.iaload, 1) := by decide +kernel
theorem dL_law__1930 : decode cL_law_ 1930 = .ok (.aload_n 0, 1) := by decide +kernel
theorem dL_law__1931 : decode cL_law_ 1931 = .ok (.iload 4, 2) := by decide +kernel
theorem dL_law__1933 : decode cL_law_ 1933 = .ok (.iconst 3, 1) := by decide +kernel
theorem dL_law__1934 : decode cL_law_ 1934 = .ok (.iadd, 1) := by decide +kernel
theorem dL_law__1935 : decode cL_law_ 1935 = .ok (.iaload, 1) := by decide +kernel
theorem dL_law__1936 : decode cL_law_ 1936 = .ok (.invokevirtual 213, 3) := by decide +kernel
theorem dL_law__1939 : decode cL_law_ 1939 = .ok (.istore 6, 2) := by decide +kernel
theorem dL_law__1941 : decode cL_law_ 1941 = .ok (.aload_n 2, 1) := by decide +kernel
theorem dL_law__1942 : decode cL_law_ 1942 = .ok (.invokevirtual 125, 3) := by decide +kernel
theorem dL_law__1945 : decode cL_law_ 1945 = .ok (.iload 5, 2) := by decide +kernel
theorem dL_law__1947 : decode cL_law_ 1947 = .ok (.if_icmp .eq 5, 3) := by decide +kernel
theorem dL_law__1950 : decode cL_law_ 1950 = .ok (.iconst 0, 1) := by decide +kernel
theorem dL_law__1951 : decode cL_law_ 1951 = .ok (.ireturn, 1) := by decide +kernel
theorem dL_law__1952 : decode cL_law_ 1952 = .ok (.iload 5, 2) := by decide +kernel
theorem dL_law__1954 : decode cL_law_ 1954 = .ok (.ifCond .ne 15, 3) := by decide +kernel
theorem dL_law__1957 : decode cL_law_ 1957 = .ok (.aload_n 3, 1) := by decide +kernel
theorem dL_law__1958 : decode cL_law_ 1958 = .ok (.iconst 0, 1) := by decide +kernel
theorem dL_law__1959 : decode cL_law_ 1959 = .ok (.laload, 1) := by decide +kernel
theorem dL_law__1960 : decode cL_law_ 1960 = .ok (.iload 6, 2) := by decide +kernel
theorem dL_law__1962 : decode cL_law_ 1962 = .ok (.i2l, 1) := by decide +kernel
theorem dL_law__1963 : decode cL_law_ 1963 = .ok (.lcmp, 1) := by decide +kernel
theorem dL_law__1964 : decode cL_law_ 1964 = .ok (.ifCond .eq 5, 3) := by decide +kernel
theorem dL_law__1967 : decode cL_law_ 1967 = .ok (.iconst 0, 1) := by decide +kernel
theorem dL_law__1968 : decode cL_law_ 1968 = .ok (.ireturn, 1) := by decide +kernel
theorem dL_law__1969 : decode cL_law_ 1969 = .ok (.goto 577, 3) := by decide +kernel
theorem dL_law__1972 : decode cL_law_ 1972 = .ok (.aload_n 1, 1) := by decide +kernel
theorem dL_law__1973 : decode cL_law_ 1973 = .ok (.aload_n 0, 1) := by decide +kernel
theorem dL_law__1974 : decode cL_law_ 1974 = .ok (.iload 4, 2) := by decide +kernel
theorem dL_law__1976 : decode cL_law_ 1976 = .ok (.iconst 1, 1) := by decide +kernel
theorem dL_law__1977 : decode cL_law_ 1977 = .ok (.iadd, 1) := by decide +kernel
theorem dL_law__1978 : decode cL_law_ 1978 = .ok (.iaload, 1) := by decide +kernel
theorem dL_law__1979 : decode cL_law_ 1979 = .ok (.aload_n 3, 1) := by decide +kernel
theorem dL_law__1980 : decode cL_law_ 1980 = .ok (.invokestatic 214, 3) := by decide +kernel
theorem dL_law__1983 : decode cL_law_ 1983 = .ok (.istore 5, 2) := by decide +kernel
theorem dL_law__1985 : decode cL_law_ 1985 = .ok (.aload_n 2, 1) := by decide +kernel
theorem dL_law__1986 : decode cL_law_ 1986 = .ok (.aload_n 0, 1) := by decide +kernel
theorem dL_law__1987 : decode cL_law_ 1987 = .ok (.iload 4, 2) := by decide +kernel
theorem dL_law__1989 : decode cL_law_ 1989 = .ok (.iconst 1, 1) := by decide +kernel
theorem dL_law__1990 : decode cL_law_ 1990 = .ok (.iadd, 1) := by decide +kernel
theorem dL_law__1991 : decode cL_law_ 1991 = .ok (.iaload, 1) := by decide +kernel
