theorem dL_law_1652 : decode cL_law 1652 = .ok (.aload_n 1, 1) := by decide +kernel
theorem dL_law_1653 : decode cL_law 1653 = .ok (.invokevirtual 196, 3) := by decide +kernel
theorem dL_law_1656 : decode cL_law 1656 = .ok (.aload_n 2, 1) := by decide +kernel
theorem dL_law_1657 : decode cL_law 1657 = .ok (.invokevirtual 199, 3) := by decide +kernel
theorem dL_law_1660 : decode cL_law 1660 = .ok (.if_icmp .eq 660, 3) := by decide +kernel
theorem dL_law_1665 : decode cL_law 1665 = .ok (.aload_n 1, 1) := by decide +kernel
theorem dL_law_1666 : decode cL_law 1666 = .ok (.aload_n 0, 1) := by decide +kernel
theorem dL_law_1667 : decode cL_law 1667 = .ok (.iload 4, 2) := by decide +kernel
theorem dL_law_1669 : decode cL_law 1669 = .ok (.iconst 1, 1) := by decide +kernel
theorem dL_law_1670 : decode cL_law 1670 = .ok (.iadd, 1) := by decide +kernel
theorem dL_law_1671 : decode cL_law 1671 = .ok (.iaload, 1) := by decide +kernel
theorem dL_law_1672 : decode cL_law 1672 = .ok (.aload_n 0, 1) := by decide +kernel
theorem dL_law_1673 : decode cL_law 1673 = .ok (.iload 4, 2) := by decide +kernel
theorem dL_law_1675 : decode cL_law 1675 = .ok (.iconst 2, 1) := by decide +kernel
theorem dL_law_1676 : decode cL_law 1676 = .ok (.iadd, 1) := by decide +kernel
theorem dL_law_1677 : decode cL_law 1677 = .ok (.iaload, 1) := by decide +kernel
theorem dL_law_1678 : decode cL_law 1678 = .ok (.aload_n 0, 1) := by decide +kernel
theorem dL_law_1679 : decode cL_law 1679 = .ok (.iload 4, 2) := by decide +kernel
theorem dL_law_1681 : decode cL_law 1681 = .ok (.iconst 3, 1) := by decide +kernel
theorem dL_law_1682 : decode cL_law 1682 = .ok (.iadd, 1) := by decide +kernel
theorem dL_law_1683 : decode cL_law 1683 = .ok (.iaload, 1) := by decide +kernel
theorem dL_law_1684 : decode cL_law 1684 = .ok (.aload_n 3, 1) := by decide +kernel
theorem dL_law_1685 : decode cL_law 1685 = .ok (.invokestatic 200, 3) := by decide +kernel
theorem dL_law_1688 : decode cL_law 1688 = .ok (.istore 5, 2) := by decide +kernel
theorem dL_law_1690 : decode cL_law 1690 = .ok (.aload_n 2, 1) := by decide +kernel
theorem dL_law_1691 : decode cL_law 1691 = .ok (.aload_n 0, 1) := by decide +kernel
theorem dL_law_1692 : decode cL_law 1692 = .ok (.iload 4, 2) := by decide +kernel
theorem dL_law_1694 : decode cL_law 1694 = .ok (.iconst 1, 1) := by decide +kernel
theorem dL_law_1695 : decode cL_law 1695 = .ok (.iadd, 1) := by decide +kernel
theorem dL_law_1696 : decode cL_law 1696 = .ok (.iaload, 1) := by decide +kernel
theorem dL_law_1697 : decode cL_law 1697 = .ok (.aload_n 0, 1) := by decide +kernel
theorem dL_law_1698 : decode cL_law 1698 = .ok (.iload 4, 2) := by decide +kernel
theorem dL_law_1700 : decode cL_law 1700 = .ok (.iconst 2, 1) := by decide +kernel
theorem dL_law_1701 : decode cL_law 1701 = .ok (.iadd, 1) := by decide +kernel
theorem dL_law_1702 : decode cL_law 1702 = .ok (.iaload, 1) := by decide +kernel
theorem dL_law_1703 : decode cL_law 1703 = .ok (.aload_n 0, 1) := by decide +kernel
theorem dL_law_1704 : decode cL_law 1704 = .ok (.iload 4, 2) := by decide +kernel
theorem dL_law_1706 : decode cL_law 1706 = .ok (.iconst 3, 1) := by decide +kernel
theorem dL_law_1707 : decode cL_law 1707 = .ok (.iadd, 1) := by decide +kernel
theorem dL_law_1708 : decode cL_law 1708 = .ok (.iaload, 1) := by decide +kernel
theorem dL_law_1709 : decode cL_law 1709 = .ok (.invokevirtual 202, 3) := by decide +kernel
theorem dL_law_1712 : decode cL_law 1712 = .ok (.istore 6, 2) := by decide +kernel
theorem dL_law_1714 : decode cL_law 1714 = .ok (.aload_n 2, 1) := by decide +kernel
theorem dL_law_1715 : decode cL_law 1715 = .ok (.invokevirtual 113, 3) := by decide +kernel
theorem dL_law_1718 : decode cL_law 1718 = .ok (.iload 5, 2) := by decide +kernel
theorem dL_law_1720 : decode cL_law 1720 = .ok (.if_icmp .eq 5, 3) := by decide +kernel
theorem dL_law_1725 : decode cL_law 1725 = .ok (.iload 5, 2) := by decide +kernel
theorem dL_law_1727 : decode cL_law 1727 = .ok (.ifCond .ne 15, 3) := by decide +kernel
theorem dL_law_1730 : decode cL_law 1730 = .ok (.aload_n 3, 1) := by decide +kernel
theorem dL_law_1731 : decode cL_law 1731 = .ok (.iconst 0, 1) := by decide +kernel
theorem dL_law_1732 : decode cL_law 1732 = .ok (.laload, 1) := by decide +kernel
theorem dL_law_1733 : decode cL_law 1733 = .ok (.iload 6, 2) := by decide +kernel
theorem dL_law_1735 : decode cL_law 1735 = .ok (.i2l, 1) := by decide +kernel
theorem dL_law_1736 : decode cL_law 1736 = .ok (.lcmp, 1) := by decide +kernel
theorem dL_law_1737 : decode cL_law 1737 = .ok (.ifCond .eq 5, 3) := by decide +kernel
theorem dL_law_1742 : decode cL_law 1742 = .ok (.goto 578, 3) := by decide +kernel
theorem dL_law_1745 : decode cL_law 1745 = .ok (.aload_n 1, 1) := by decide +kernel
theorem dL_law_1746 : decode cL_law 1746 = .ok (.aload_n 0, 1) := by decide +kernel
theorem dL_law_1747 : decode cL_law 1747 = .ok (.iload 4, 2) := by decide +kernel
theorem dL_law_1749 : decode cL_law 1749 = .ok (.iconst 1, 1) := by decide +kernel
theorem dL_law_1750 : decode cL_law 1750 = .ok (.iadd, 1) := by decide +kernel
theorem dL_law_1751 : decode cL_law 1751 = .ok (.iaload, 1) := by decide +kernel
theorem dL_law_1752 : decode cL_law 1752 = .ok (.aload_n 0, 1) := by decide +kernel
theorem dL_law_1753 : decode cL_law 1753 = .ok (.iload 4, 2) := by decide +kernel
theorem dL_law_1755 : decode cL_law 1755 = .ok (.iconst 2, 1) := by decide +kernel
theorem dL_law_1756 : decode cL_law 1756 = .ok (.iadd, 1) := by decide +kernel
theorem dL_law_1757 : decode cL_law 1757 = .ok (.iaload, 1) := by decide +kernel
theorem dL_law_1758 : decode cL_law 1758 = .ok (.aload_n 3, 1) := by decide +kernel
theorem dL_law_1759 : decode cL_law 1759 = .ok (.invokestatic 203, 3) := by decide +kernel
theorem dL_law_1762 : decode cL_law 1762 = .ok (.istore 5, 2) := by decide +kernel
theorem dL_law_1764 : decode cL_law 1764 = .ok (.aload_n 2, 1) := by decide +kernel
theorem dL_law_1765 : decode cL_law 1765 = .ok (.aload_n 0, 1) := by decide +kernel
theorem dL_law_1766 : decode cL_law 1766 = .ok (.iload 4, 2) := by decide +kernel
theorem dL_law_1768 : decode cL_law 1768 = .ok (.iconst 1, 1) := by decide +kernel
theorem dL_law_1769 : decode cL_law 1769 = .ok (.iadd, 1) := by decide +kernel
theorem dL_law_1770 : decode cL_law 1770 = .ok (.iaload, 1) := by decide +kernel
theorem dL_law_1771 : decode cL_law 1771 = .ok (.aload_n 0, 1) := by decide +kernel
theorem dL_law_1772 : decode cL_law 1772 = .ok (.iload 4, 2) := by decide +kernel
theorem dL_law_1774 : decode cL_law 1774 = .ok (.iconst 2, 1) := by decide +kernel
theorem dL_law_1775 : decode cL_law 1775 = .ok (.iadd, 1) := by decide +kernel
theorem dL_law_1776 : decode cL_law 1776 = .ok (.iaload, 1) := by decide +kernel
theorem dL_law_1777 : decode cL_law 1777 = .ok (.invokevirtual 205, 3) := by decide +kernel
theorem dL_law_1780 : decode cL_law 1780 = .ok (.istore 6, 2) := by decide +kernel
theorem dL_law_1782 : decode cL_law 1782 = .ok (.aload_n 2, 1) := by decide +kernel
theorem dL_law_1783 : decode cL_law 1783 = .ok (.invokevirtual 113, 3) := by decide +kernel
theorem dL_law_1786 : decode cL_law 1786 = .ok (.iload 5, 2) := by decide +kernel
theorem dL_law_1788 : decode cL_law 1788 = .ok (.if_icmp .eq 5, 3) := by decide +kernel
theorem dL_law_1793 : decode cL_law 1793 = .ok (.iload 5, 2) := by decide +kernel
theorem dL_law_1795 : decode cL_law 1795 = .ok (.ifCond .ne 15, 3) := by decide +kernel
theorem dL_law_1798 : decode cL_law 1798 = .ok (.aload_n 3, 1) := by decide +kernel
theorem dL_law_1799 : decode cL_law 1799 = .ok (.iconst 0, 1) := by decide +kernel
theorem dL_law_1800 : decode cL_law 1800 = .ok (.laload, 1) := by decide +kernel
theorem dL_law_1801 : decode cL_law 1801 = .ok (.iload 6, 2) := by decide +kernel
theorem dL_law_1803 : decode cL_law 1803 = .ok (.i2l, 1) := by decide +kernel
theorem dL_law_1804 : decode cL_law 1804 = .ok (.lcmp, 1) := by decide +kernel
theorem dL_law_1805 : decode cL_law 1805 = .ok (.ifCond .eq 5, 3) := by decide +kernel
theorem dL_law_1810 : decode cL_law 1810 = .ok (.goto 510, 3) := by decide +kernel
theorem dL_law_1813 : decode cL_law 1813 = .ok (.aload_n 1, 1) := by decide +kernel
theorem dL_law_1814 : decode cL_law 1814 = .ok (.aload_n 0, 1) := by decide +kernel
theorem dL_law_1815 : decode cL_law 1815 = .ok (.iload 4, 2) := by decide +kernel
theorem dL_law_1817 : decode cL_law 1817 = .ok (.iconst 1, 1) := by decide +kernel
theorem dL_law_1818 : decode cL_law 1818 = .ok (.iadd, 1) := by decide +kernel
theorem dL_law_1819 : decode cL_law 1819 = .ok (.iaload, 1) := by decide +kernel
theorem dL_law_1820 : decode cL_law 1820 = .ok (.aload_n 0, 1) := by decide +kernel
theorem dL_law_1821 : decode cL_law 1821 = .ok (.iload 4, 2) := by decide +kernel
theorem dL_law_1823 : decode cL_law 1823 = .ok (.iconst 2, 1) := by decide +kernel
theorem dL_law_1824 : decode cL_law 1824 = .ok (.iadd, 1) := by decide +kernel
theorem dL_law_1825 : decode cL_law 1825 = .ok (.iaload, 1) := by decide +kernel
theorem dL_law_1826 : decode cL_law 1826 = .ok (.aload_n 0, 1) := by decide +kernel
theorem dL_law_1827 : decode cL_law 1827 = .ok (.iload 4, 2) := by decide +kernel
theorem dL_law_1829 : decode cL_law 1829 = .ok (.iconst 3, 1) := by decide +kernel
theorem dL_law_1830 : decode cL_law 1830 = .ok (.iadd, 1) := by decide +kernel
theorem dL_law_1831 : decode cL_law 1831 = .ok (.iaload, 1) := by decide +kernel
theorem dL_law_1832 : decode cL_law 1832 = .ok (.aload_n 3, 1) := by decide +kernel
theorem dL_law_1833 : decode cL_law 1833 = .ok (.invokestatic 206, 3) := by decide +kernel
theorem dL_law_1836 : decode cL_law 1836 = .ok (.istore 5, 2) := by decide +kernel
theorem dL_law_1838 : decode cL_law 1838 = .ok (.aload_n 2, 1) := by decide +kernel
theorem dL_law_1839 : decode cL_law 1839 = .ok (.aload_n 0, 1) := by decide +kernel
theorem dL_law_1840 : decode cL_law 1840 = .ok (.iload 4, 2) := by decide +kernel
theorem dL_law_1842 : decode cL_law 1842 = .ok (.iconst 1, 1) := by decide +kernel
theorem dL_law_1843 : decode cL_law 1843 = .ok (.iadd, 1) := by decide +kernel
theorem dL_law_1844 : decode cL_law 1844 = .ok (.iaload, 1) := by decide +kernel
theorem dL_law_1845 : decode cL_law 1845 = .ok (.aload_n 0, 1) := by decide +kernel
theorem dL_law_1846 : decode cL_law 1846 = .ok (.iload 4, 2) := by decide +kernel
theorem dL_law_1848 : decode cL_law 1848 = .ok (.iconst 2, 1) := by decide +kernel
theorem dL_law_1849 : decode cL_law 1849 = .ok (.iadd, 1) := by decide +kernel
theorem dL_law_1850 : decode cL_law 1850 = .ok (.iaload, 1) := by decide +kernel
theorem dL_law_1851 : decode cL_law 1851 = .ok (.aload_n 0, 1) := by decide +kernel
theorem dL_law_1852 : decode cL_law 1852 = .ok (.iload 4, 2) := by decide +kernel
theorem dL_law_1854 : decode cL_law 1854 = .ok (.iconst 3, 1) := by decide +kernel
theorem dL_law_1855 : decode cL_law 1855 = .ok (.iadd, 1) := by decide +kernel
theorem dL_law_1856 : decode cL_law 1856 = .ok (.iaload, 1) := by decide +kernel
theorem dL_law_1857 : decode cL_law 1857 = .ok (.invokevirtual 208, 3) := by decide +kernel
theorem dL_law_1860 : decode cL_law 1860 = .ok (.istore 6, 2) := by decide +kernel
theorem dL_law_1862 : decode cL_law 1862 = .ok (.aload_n 2, 1) := by decide +kernel
theorem dL_law_1863 : decode cL_law 1863 = .ok (.invokevirtual 113, 3) := by decide +kernel
theorem dL_law_1866 : decode cL_law 1866 = .ok (.iload 5, 2) := by decide +kernel
theorem dL_law_1868 : decode cL_law 1868 = .ok (.if_icmp .eq 5, 3) := by decide +kernel
theorem dL_law_1873 : decode cL_law 1873 = .ok (.iload 5, 2) := by decide +kernel
theorem dL_law_1875 : decode cL_law 1875 = .ok (.ifCond .ne 15, 3) := by decide +kernel
theorem dL_law_1890 : decode cL_law 1890 = .ok (.goto 430, 3) := by decide +kernel
theorem dL_law_1893 : decode cL_law 1893 = .ok (.aload_n 1, 1) := by decide +kernel
theorem dL_law_1894 : decode cL_law 1894 = .ok (.aload_n 0, 1) := by decide +kernel
theorem dL_law_1895 : decode cL_law 1895 = .ok (.iload 4, 2) := by decide +kernel
theorem dL_law_1897 : decode cL_law 1897 = .ok (.iconst 1, 1) := by decide +kernel
theorem dL_law_1898 : decode cL_law 1898 = .ok (.iadd, 1) := by decide +kernel
theorem dL_law_1899 : decode cL_law 1899 = .ok (.iaload, 1) := by decide +kernel
theorem dL_law_1900 : decode cL_law 1900 = .ok (.aload_n 0, 1) := by decide +kernel
theorem dL_law_1901 : decode cL_law 1901 = .ok (.iload 4, 2) := by decide +kernel
theorem dL_law_1903 : decode cL_law 1903 = .ok (.iconst 2, 1) := by decide +kernel
theorem dL_law_1904 : decode cL_law 1904 = .ok (.iadd, 1) := by decide +kernel
theorem dL_law_1905 : decode cL_law 1905 = .ok (.iaload, 1) := by decide +kernel
theorem dL_law_1906 : decode cL_law 1906 = .ok (.aload_n 3, 1) := by decide +kernel
theorem dL_law_1907 : decode cL_law 1907 = .ok (.invokestatic 209, 3) := by decide +kernel
theorem dL_law_1910 : decode cL_law 1910 = .ok (.istore 5, 2) := by decide +kernel
theorem dL_law_1912 : decode cL_law 1912 = .ok (.aload_n 2, 1) := by decide +kernel
theorem dL_law_1913 : decode cL_law 1913 = .ok (.aload_n 0, 1) := by decide +kernel
theorem dL_law_1914 : decode cL_law 1914 = .ok (.iload 4, 2) := by decide +kernel
theorem dL_law_1916 : decode cL_law 1916 = .ok (.iconst 1, 1) := by decide +kernel
theorem dL_law_1917 : decode cL_law 1917 = .ok (.iadd, 1) := by decide +kernel
theorem dL_law_1918 : decode cL_law 1918 = .ok (.iaload, 1) := by decide +kernel
theorem dL_law_1919 : decode cL_law 1919 = .ok (.aload_n 0, 1) := by decide +kernel
theorem dL_law_1920 : decode cL_law 1920 = .ok (.iload 4, 2) := by decide +kernel
theorem dL_law_1922 : decode cL_law 1922 = .ok (.iconst 2, 1) := by decide +kernel
theorem dL_law_1923 : decode cL_law 1923 = .ok (.iadd, 1) := by decide +kernel
theorem dL_law_1924 : decode cL_law 1924 = .ok (.iaload, 1) := by decide +kernel
theorem dL_law_1925 : decode cL_law 1925 = .ok (.invokevirtual 211, 3) := by decide +kernel
theorem dL_law_1928 : decode cL_law 1928 = .ok (.istore 6, 2) := by decide +kernel
theorem dL_law_1930 : decode cL_law 1930 = .ok (.aload_n 2, 1) := by decide +kernel
theorem dL_law_1931 : decode cL_law 1931 = .ok (.invokevirtual 113, 3) := by decide +kernel
theorem dL_law_1934 : decode cL_law 1934 = .ok (.iload 5, 2) := by decide +kernel
theorem dL_law_1936 : decode cL_law 1936 = .ok (.if_icmp .eq 5, 3) := by decide +kernel
theorem dL_law_1941 : decode cL_law 1941 = .ok (.iload 5, 2) := by decide +kernel
theorem dL_law_1943 : decode cL_law 1943 = .ok (.ifCond .ne 15, 3) := by decide +kernel
theorem dL_law_1958 : decode cL_law 1958 = .ok (.goto 362, 3) := by decide +kernel
theorem dL_law_1961 : decode cL_law 1961 = .ok (.aload_n 1, 1) := by decide +kernel
theorem dL_law_1962 : decode cL_law 1962 = .ok (.aload_n 0, 1) := by decide +kernel
theorem dL_law_1963 : decode cL_law 1963 = .ok (.iload 4, 2) := by decide +kernel
theorem dL_law_1965 : decode cL_law 1965 = .ok (.iconst 1, 1) := by decide +kernel
theorem dL_law_1966 : decode cL_law 1966 = .ok (.iadd, 1) := by decide +kernel
theorem dL_law_1967 : decode cL_law 1967 = .ok (.iaload, 1) := by decide +kernel
theorem dL_law_1968 : decode cL_law 1968 = .ok (.aload_n 3, 1) := by decide +kernel
theorem dL_law_1969 : decode cL_law 1969 = .ok (.invokestatic 212, 3) := by decide +kernel
theorem dL_law_1972 : decode cL_law 1972 = .ok (.istore 5, 2) := by decide +kernel
theorem dL_law_1974 : decode cL_law 1974 = .ok (.aload_n 2, 1) := by decide +kernel
theorem dL_law_1975 : decode cL_law 1975 = .ok (.aload_n 0, 1) := by decide +kernel
theorem dL_law_1976 : decode cL_law 1976 = .ok (.iload 4, 2) := by decide +kernel
theorem dL_law_1978 : decode cL_law 1978 = .ok (.iconst 1, 1) := by decide +kernel
theorem dL_law_1979 : decode cL_law 1979 = .ok (.iadd, 1) := by decide +kernel
theorem dL_law_1980 : decode cL_law 1980 = .ok (.iaload, 1) := by decide +kernel
theorem dL_law_1981 : decode cL_law 1981 = .ok (.invokevirtual 214, 3) := by decide +kernel
theorem dL_law_1984 : decode cL_law 1984 = .ok (.istore 6, 2) := by decide +kernel
theorem dL_law_1986 : decode cL_law 1986 = .ok (.aload_n 2, 1) := by decide +kernel
theorem dL_law_1987 : decode cL_law 1987 = .ok (.invokevirtual 113, 3) := by decide +kernel
theorem dL_law_1990 : decode cL_law 1990 = .ok (.iload 5, 2) := by decide +kernel
theorem dL_law_1992 : decode cL_law 1992 = .ok (.if_icmp .eq 5, 3) := by decide +kernel
theorem dL_law_1997 : decode cL_law 1997 = .ok (.iload 5, 2) := by decide +kernel
theorem dL_law_1999 : decode cL_law 1999 = .ok (.ifCond .ne 15, 3) := by decide +kernel
theorem dL_law_2014 : decode cL_law 2014 = .ok (.goto 306, 3) := by decide +kernel
set_option maxHeartbeats 8000000 in
set_option maxRecDepth 100000 in
theorem arm_24 {p : Program} {l : Launch} {e : Env} {s : State} {m : MethodId} {below : List Frame} {meth : Method} {c : Code} {b : Nat} {xs : Nat → Int32} {D : va_G} {K : Nat → ClassId} {sa : Nat × Nat × Nat} {H : Heap} {locs : List Loc} {L : List Nat} {f : Nat → va_E} {Ψ : Nat → Nat} {x m_ o : Nat} {ls : Array Slot} (hls : l.stackTraces = false) (A : LwC p s m meth c b xs) (B : LwW D K sa s H locs L f Ψ x m_ o) (hl : lv_has ls 7 [(0, .ref b), (1, .ref x), (2, .ref m_), (3, .ref o), (4, .int 0)]) : W p l e room_1 s m #[Value.ref b] below meth c H locs 1258 28357 (lw_Z below #[Value.ref b] s) (F0 m 1652 ls []) := by
  obtain ⟨C, hX, hbl, hrt, hlk⟩ := id A
  obtain ⟨w, hT, ⟨hm_x, ht_x⟩, ⟨hm_m, ht_m⟩, ⟨hm_o, ht_o, g0, hf_o⟩, hno_6, hno_7, z4, hno_4⟩ := B
  have hx := C.1
  have hb := C.2.1
  have n0 : (0 : Int32).toInt = 0 := by decide
  have n1 : (1 : Int32).toInt = 1 := by decide
  refine lv_aload_n hx hb dL_law_1652 rfl (lv_at hl 1 rfl) ?_
  refine t_callV (n := 0) C w hT hm_x ht_x (by decide) rfl rfl (c_X6_refill l D K _ sa _ L _ Ψ (hT.mono (gof_sub rfl)) x hm_x ht_x  ) gw_506 gw_503 gw_504 gw_505 gw_1 ⟨by decide, by decide, by decide +kernel⟩ rfl rfl ⟨Nat.le_of_ble_eq_true rfl, Nat.le_of_ble_eq_true rfl⟩ rfl hl.1 rfl (Nat.le_of_ble_eq_true rfl) dL_law_1653 ⟨Nat.le_of_ble_eq_true rfl, Nat.le_of_ble_eq_true rfl⟩ (fun v u H locs hp w => ?_)
  obtain ⟨r1, f2, rfl, rfl, hT2, hR1, hal⟩ := hp
  clear hT
  have hT := hT2.mono (gof_sub (l2 := gM0) rfl)
  refine lv_aload_n hx hb dL_law_1656 rfl (lv_at hl 2 rfl) ?_
  refine t_callV (n := 0) C w hT hm_m ht_m (by decide) rfl rfl (c_X7_refill l D K _ sa _ L _ Ψ hT m_ hm_m ht_m  (fun b c h1 h2 h3 h4 => (hno_7 b h1 h3).trans (hno_7 c h2 h4).symm)) gw_1625 gw_1622 gw_1623 gw_1624 gw_8 ⟨by decide, by decide, by decide +kernel⟩ rfl rfl ⟨Nat.le_of_ble_eq_true rfl, Nat.le_of_ble_eq_true rfl⟩ rfl hl.1 rfl (Nat.le_of_ble_eq_true rfl) dL_law_1657 ⟨Nat.le_of_ble_eq_true rfl, Nat.le_of_ble_eq_true rfl⟩ (fun v u H locs hp w => ?_)
  obtain ⟨r2, th, f3, rfl, rfl, hT3, hR3, hbl2⟩ := hp
  clear hT
  have hT := hT3
  clear hT3
  rcases hal with rfl
  obtain ⟨rfl, rfl⟩ := hbl2
  refine lv_icmp_eq (tgt := 2320) hx hb dL_law_1660 (by decide) (fun _ => ?_) (fun c0 => absurd c0 (by decide))
  exact law_end A w (Nat.le_of_ble_eq_true rfl) (Nat.le_of_ble_eq_true rfl) (lv_sub hl [4, 0] rfl)
set_option maxHeartbeats 8000000 in
set_option maxRecDepth 100000 in
theorem arm_25 {p : Program} {l : Launch} {e : Env} {s : State} {m : MethodId} {below : List Frame} {meth : Method} {c : Code} {b : Nat} {xs : Nat → Int32} {D : va_G} {K : Nat → ClassId} {sa : Nat × Nat × Nat} {H : Heap} {locs : List Loc} {L : List Nat} {f : Nat → va_E} {Ψ : Nat → Nat} {x m_ o : Nat} {ls : Array Slot} (hls : l.stackTraces = false) (A : LwC p s m meth c b xs) (B : LwW D K sa s H locs L f Ψ x m_ o) (hl : lv_has ls 7 [(0, .ref b), (1, .ref x), (2, .ref m_), (3, .ref o), (4, .int 0)]) : W p l e room_1 s m #[Value.ref b] below meth c H locs 1258 28357 (lw_Z below #[Value.ref b] s) (F0 m 1665 ls []) := by
  obtain ⟨C, hX, hbl, hrt, hlk⟩ := id A
  obtain ⟨w, hT, ⟨hm_x, ht_x⟩, ⟨hm_m, ht_m⟩, ⟨hm_o, ht_o, g0, hf_o⟩, hno_6, hno_7, z4, hno_4⟩ := B
  have hx := C.1
  have hb := C.2.1
  have n0 : (0 : Int32).toInt = 0 := by decide
  have n1 : (1 : Int32).toInt = 1 := by decide
  refine lv_aload_n hx hb dL_law_1665 rfl (lv_at hl 1 rfl) ?_
  refine lv_aload_n hx hb dL_law_1666 rfl (lv_at hl 0 rfl) ?_
  refine lv_iload hx hb dL_law_1667 (lv_at hl 4 rfl) ?_
  refine lv_iconst (v := 1) hx hb dL_law_1669 (by decide) ?_
  refine lv_iadd hx hb dL_law_1670 ?_
  refine lv_topi (fun y1 ey1 => ?_)
  obtain rfl : y1 = 1 := ey1.trans (by decide)
  refine t_sld hx hb hX hbl w (j := 1) (by decide) (vp_in_iff.mpr ⟨by decide, by decide⟩) dL_law_1671 ?_
  refine lv_aload_n hx hb dL_law_1672 rfl (lv_at hl 0 rfl) ?_
  refine lv_iload hx hb dL_law_1673 (lv_at hl 4 rfl) ?_
  refine lv_iconst (v := 2) hx hb dL_law_1675 (by decide) ?_
  refine lv_iadd hx hb dL_law_1676 ?_
  refine lv_topi (fun y2 ey2 => ?_)
  obtain rfl : y2 = 2 := ey2.trans (by decide)
  refine t_sld hx hb hX hbl w (j := 2) (by decide) (vp_in_iff.mpr ⟨by decide, by decide⟩) dL_law_1677 ?_
  refine lv_aload_n hx hb dL_law_1678 rfl (lv_at hl 0 rfl) ?_
  refine lv_iload hx hb dL_law_1679 (lv_at hl 4 rfl) ?_
  refine lv_iconst (v := 3) hx hb dL_law_1681 (by decide) ?_
  refine lv_iadd hx hb dL_law_1682 ?_
  refine lv_topi (fun y3 ey3 => ?_)
  obtain rfl : y3 = 3 := ey3.trans (by decide)
  refine t_sld hx hb hX hbl w (j := 3) (by decide) (vp_in_iff.mpr ⟨by decide, by decide⟩) dL_law_1683 ?_
  refine lv_aload_n hx hb dL_law_1684 rfl (lv_at hl 3 rfl) ?_
  refine t_callH (n := 5) C w (c_L_worth l hls D K _ sa _ L _ Ψ (hT.mono (gof_sub rfl)) x hm_x ht_x (xs 1) (xs 2) (xs 3)  o hm_o ht_o g0 hf_o) gw_1058 gw_1056 gw_1057 gw_0 ⟨by decide, by decide, by decide +kernel⟩ rfl rfl ⟨Nat.le_of_ble_eq_true rfl, Nat.le_of_ble_eq_true rfl⟩ rfl hl.1 rfl (Nat.le_of_ble_eq_true rfl) dL_law_1685 ⟨Nat.le_of_ble_eq_true rfl, Nat.le_of_ble_eq_true rfl⟩ (fun v u H locs hp w => ?_)
  obtain ⟨r1, Ψ2, L2, f2, g, rfl, rfl, hT2, hE2, ht_o2, hf_o2, hal⟩ := hp
  have hnm : ¬ (fun q9 => q9 = o) m_ := fun e9 => by have e9 : m_ = o := e9; rw [e9, ht_o] at ht_m; exact absurd ht_m (by decide)
  have hsp := hE2.sp hm_m hnm
  have ht_m := hsp.2.1.trans ht_m
  have hm_m := hsp.1
  have hm_o := (hE2.1 o hm_o).1
  have hno_7 := hno_7.call hE2 (by decide) (fun b e9 h9 => by have e9 : b = o := e9; rw [e9, ht_o2] at h9; exact absurd h9 (by decide))
  clear hT hno_6 hno_4 hm_x ht_x hf_o ht_o hnm hsp
  have hT := hT2
  have ht_o := ht_o2
  have hf_o := hf_o2
  clear hT2 ht_o2 hf_o2
  refine lv_istore (lv' := [(5, .int r1), (0, .ref b), (1, .ref x), (2, .ref m_), (3, .ref o), (4, .int 0)]) hx hb dL_law_1688 hl (by decide) rfl (fun ls hl => ?_)
  refine lv_aload_n hx hb dL_law_1690 rfl (lv_at hl 3 rfl) ?_
  refine lv_aload_n hx hb dL_law_1691 rfl (lv_at hl 1 rfl) ?_
  refine lv_iload hx hb dL_law_1692 (lv_at hl 5 rfl) ?_
  refine lv_iconst (v := 1) hx hb dL_law_1694 (by decide) ?_
  refine lv_iadd hx hb dL_law_1695 ?_
  refine lv_topi (fun y4 ey4 => ?_)
  obtain rfl : y4 = 1 := ey4.trans (by decide)
  refine t_sld hx hb hX hbl w (j := 1) (by decide) (vp_in_iff.mpr ⟨by decide, by decide⟩) dL_law_1696 ?_
  refine lv_aload_n hx hb dL_law_1697 rfl (lv_at hl 1 rfl) ?_
  refine lv_iload hx hb dL_law_1698 (lv_at hl 5 rfl) ?_
  refine lv_iconst (v := 2) hx hb dL_law_1700 (by decide) ?_
  refine lv_iadd hx hb dL_law_1701 ?_
  refine lv_topi (fun y5 ey5 => ?_)
  obtain rfl : y5 = 2 := ey5.trans (by decide)
  refine t_sld hx hb hX hbl w (j := 2) (by decide) (vp_in_iff.mpr ⟨by decide, by decide⟩) dL_law_1702 ?_
  refine lv_aload_n hx hb dL_law_1703 rfl (lv_at hl 1 rfl) ?_
  refine lv_iload hx hb dL_law_1704 (lv_at hl 5 rfl) ?_
  refine lv_iconst (v := 3) hx hb dL_law_1706 (by decide) ?_
  refine lv_iadd hx hb dL_law_1707 ?_
  refine lv_topi (fun y6 ey6 => ?_)
  obtain rfl : y6 = 3 := ey6.trans (by decide)
  refine t_sld hx hb hX hbl w (j := 3) (by decide) (vp_in_iff.mpr ⟨by decide, by decide⟩) dL_law_1708 ?_
  refine t_callV (n := 3) C w hT hm_m ht_m (by decide) rfl rfl (c_X7_worth l D K _ sa _ L2 _ Ψ2 hT m_ hm_m ht_m (xs 1) (xs 2) (xs 3) (fun b c h1 h2 h3 h4 => (hno_7 b h1 h3).trans (hno_7 c h2 h4).symm)) gw_1629 gw_1626 gw_1627 gw_1628 gw_8 ⟨by decide, by decide, by decide +kernel⟩ rfl rfl ⟨Nat.le_of_ble_eq_true rfl, Nat.le_of_ble_eq_true rfl⟩ rfl hl.1 rfl (Nat.le_of_ble_eq_true rfl) dL_law_1709 ⟨Nat.le_of_ble_eq_true rfl, Nat.le_of_ble_eq_true rfl⟩ (fun v u H locs hp w => ?_)
  obtain ⟨r2, th, f3, rfl, rfl, hT3, hR3, hbl2⟩ := hp
  have hf_o := (hR3 o hm_o ht_o).trans hf_o
  clear hT
  have hT := hT3
  clear hT3
  rcases hal with ⟨rfl, v1, hg, ⟨rfl, ha0, ha1⟩⟩ | ⟨rfl, ha0⟩ | ⟨rfl, ha0, ha1⟩
  ·
    rcases hbl2 with ⟨rfl, rfl, hb0⟩ | ⟨rfl, rfl, hb0, hb1⟩ | ⟨rfl, rfl, hb0, hb1⟩
    ·
      exfalso
      omega
    ·
      exfalso
      omega
    ·
      refine lv_istore (lv' := [(6, .int (-1)), (5, .int 0), (0, .ref b), (1, .ref x), (2, .ref m_), (3, .ref o), (4, .int 0)]) hx hb dL_law_1712 hl (by decide) rfl (fun ls hl => ?_)
      refine lv_aload_n hx hb dL_law_1714 rfl (lv_at hl 4 rfl) ?_
      refine t_callV (n := 0) C w hT hm_m ht_m (by decide) rfl rfl (c_X7_thrown l D K _ sa _ L2 _ Ψ2 0 hT m_ hm_m ht_m) gw_1332 gw_1329 gw_1330 gw_1331 gw_8 ⟨by decide, by decide, by decide +kernel⟩ rfl rfl ⟨Nat.le_of_ble_eq_true rfl, Nat.le_of_ble_eq_true rfl⟩ rfl hl.1 rfl (Nat.le_of_ble_eq_true rfl) dL_law_1715 ⟨Nat.le_of_ble_eq_true rfl, Nat.le_of_ble_eq_true rfl⟩ (fun v u H locs hp w => ?_)
      obtain ⟨rfl, rfl⟩ := hp
      refine lv_iload hx hb dL_law_1718 (lv_at hl 1 rfl) ?_
      refine lv_icmp_eq (tgt := 1725) hx hb dL_law_1720 (by decide) (fun _ => ?_) (fun c0 => absurd c0 (by decide))
      refine lv_iload hx hb dL_law_1725 (lv_at hl 1 rfl) ?_
      refine lv_if_ne (tgt := 1742) hx hb dL_law_1727 (by decide) (fun c0 => absurd c0 (by decide)) (fun _ => ?_)
      refine lv_aload_n hx hb dL_law_1730 rfl (lv_at hl 5 rfl) ?_
      refine lv_iconst (v := 0) hx hb dL_law_1731 (by decide) ?_
      refine t_laldR C w hm_o hf_o hg dL_law_1732 ?_
      refine lv_iload hx hb dL_law_1733 (lv_at hl 0 rfl) ?_
      refine lv_i2l (v := ((-1) : Int32).toInt64) hx hb dL_law_1735 rfl ?_
      refine W.lcmp hx hb dL_law_1736 ?_
      refine lv_topi (fun y7 ey7 => ?_)
      obtain rfl : y7 = 0 := ey7.trans (lg_cmp_self _)
      refine lv_if_eq (tgt := 1742) hx hb dL_law_1737 (by decide) (fun _ => ?_) (fun c0 => absurd c0 (by decide))
      refine lv_goto (tgt := 2320) hx hb dL_law_1742 (by decide) ?_
      exact law_end A w (Nat.le_of_ble_eq_true rfl) (Nat.le_of_ble_eq_true rfl) (lv_sub hl [6, 2] rfl)
  ·
    rcases hbl2 with ⟨rfl, rfl, hb0⟩ | ⟨rfl, rfl, hb0, hb1⟩ | ⟨rfl, rfl, hb0, hb1⟩
    ·
      refine lv_istore (lv' := [(6, .int 0), (5, .int 1), (0, .ref b), (1, .ref x), (2, .ref m_), (3, .ref o), (4, .int 0)]) hx hb dL_law_1712 hl (by decide) rfl (fun ls hl => ?_)
      refine lv_aload_n hx hb dL_law_1714 rfl (lv_at hl 4 rfl) ?_
      refine t_callV (n := 0) C w hT hm_m ht_m (by decide) rfl rfl (c_X7_thrown l D K _ sa _ L2 _ Ψ2 1 hT m_ hm_m ht_m) gw_1332 gw_1329 gw_1330 gw_1331 gw_8 ⟨by decide, by decide, by decide +kernel⟩ rfl rfl ⟨Nat.le_of_ble_eq_true rfl, Nat.le_of_ble_eq_true rfl⟩ rfl hl.1 rfl (Nat.le_of_ble_eq_true rfl) dL_law_1715 ⟨Nat.le_of_ble_eq_true rfl, Nat.le_of_ble_eq_true rfl⟩ (fun v u H locs hp w => ?_)
      obtain ⟨rfl, rfl⟩ := hp
      refine lv_iload hx hb dL_law_1718 (lv_at hl 1 rfl) ?_
      refine lv_icmp_eq (tgt := 1725) hx hb dL_law_1720 (by decide) (fun _ => ?_) (fun c0 => absurd c0 (by decide))
      refine lv_iload hx hb dL_law_1725 (lv_at hl 1 rfl) ?_
      refine lv_if_ne (tgt := 1742) hx hb dL_law_1727 (by decide) (fun _ => ?_) (fun c0 => absurd c0 (by decide))
      refine lv_goto (tgt := 2320) hx hb dL_law_1742 (by decide) ?_
      exact law_end A w (Nat.le_of_ble_eq_true rfl) (Nat.le_of_ble_eq_true rfl) (lv_sub hl [6, 2] rfl)
    ·
      exfalso
      omega
    ·
      exfalso
      omega
  ·
    rcases hbl2 with ⟨rfl, rfl, hb0⟩ | ⟨rfl, rfl, hb0, hb1⟩ | ⟨rfl, rfl, hb0, hb1⟩
    ·
      exfalso
      omega
    ·
      refine lv_istore (lv' := [(6, .int 0), (5, .int 2), (0, .ref b), (1, .ref x), (2, .ref m_), (3, .ref o), (4, .int 0)]) hx hb dL_law_1712 hl (by decide) rfl (fun ls hl => ?_)
      refine lv_aload_n hx hb dL_law_1714 rfl (lv_at hl 4 rfl) ?_
      refine t_callV (n := 0) C w hT hm_m ht_m (by decide) rfl rfl (c_X7_thrown l D K _ sa _ L2 _ Ψ2 2 hT m_ hm_m ht_m) gw_1332 gw_1329 gw_1330 gw_1331 gw_8 ⟨by decide, by decide, by decide +kernel⟩ rfl rfl ⟨Nat.le_of_ble_eq_true rfl, Nat.le_of_ble_eq_true rfl⟩ rfl hl.1 rfl (Nat.le_of_ble_eq_true rfl) dL_law_1715 ⟨Nat.le_of_ble_eq_true rfl, Nat.le_of_ble_eq_true rfl⟩ (fun v u H locs hp w => ?_)
      obtain ⟨rfl, rfl⟩ := hp
      refine lv_iload hx hb dL_law_1718 (lv_at hl 1 rfl) ?_
      refine lv_icmp_eq (tgt := 1725) hx hb dL_law_1720 (by decide) (fun _ => ?_) (fun c0 => absurd c0 (by decide))
      refine lv_iload hx hb dL_law_1725 (lv_at hl 1 rfl) ?_
      refine lv_if_ne (tgt := 1742) hx hb dL_law_1727 (by decide) (fun _ => ?_) (fun c0 => absurd c0 (by decide))
      refine lv_goto (tgt := 2320) hx hb dL_law_1742 (by decide) ?_
      exact law_end A w (Nat.le_of_ble_eq_true rfl) (Nat.le_of_ble_eq_true rfl) (lv_sub hl [6, 2] rfl)
    ·
      exfalso
      omega
set_option maxHeartbeats 8000000 in
set_option maxRecDepth 100000 in
theorem arm_26 {p : Program} {l : Launch} {e : Env} {s : State} {m : MethodId} {below : List Frame} {meth : Method} {c : Code} {b : Nat} {xs : Nat → Int32} {D : va_G} {K : Nat → ClassId} {sa : Nat × Nat × Nat} {H : Heap} {locs : List Loc} {L : List Nat} {f : Nat → va_E} {Ψ : Nat → Nat} {x m_ o : Nat} {ls : Array Slot} (hls : l.stackTraces = false) (A : LwC p s m meth c b xs) (B : LwW D K sa s H locs L f Ψ x m_ o) (hl : lv_has ls 7 [(0, .ref b), (1, .ref x), (2, .ref m_), (3, .ref o), (4, .int 0)]) : W p l e room_1 s m #[Value.ref b] below meth c H locs 1258 28357 (lw_Z below #[Value.ref b] s) (F0 m 1745 ls []) := by
  obtain ⟨C, hX, hbl, hrt, hlk⟩ := id A
  obtain ⟨w, hT, ⟨hm_x, ht_x⟩, ⟨hm_m, ht_m⟩, ⟨hm_o, ht_o, g0, hf_o⟩, hno_6, hno_7, z4, hno_4⟩ := B
  have hx := C.1
  have hb := C.2.1
  have n0 : (0 : Int32).toInt = 0 := by decide
  have n1 : (1 : Int32).toInt = 1 := by decide
  refine lv_aload_n hx hb dL_law_1745 rfl (lv_at hl 1 rfl) ?_
  refine lv_aload_n hx hb dL_law_1746 rfl (lv_at hl 0 rfl) ?_
  refine lv_iload hx hb dL_law_1747 (lv_at hl 4 rfl) ?_
  refine lv_iconst (v := 1) hx hb dL_law_1749 (by decide) ?_
  refine lv_iadd hx hb dL_law_1750 ?_
  refine lv_topi (fun y1 ey1 => ?_)
  obtain rfl : y1 = 1 := ey1.trans (by decide)
  refine t_sld hx hb hX hbl w (j := 1) (by decide) (vp_in_iff.mpr ⟨by decide, by decide⟩) dL_law_1751 ?_
  refine lv_aload_n hx hb dL_law_1752 rfl (lv_at hl 0 rfl) ?_
  refine lv_iload hx hb dL_law_1753 (lv_at hl 4 rfl) ?_
  refine lv_iconst (v := 2) hx hb dL_law_1755 (by decide) ?_
  refine lv_iadd hx hb dL_law_1756 ?_
  refine lv_topi (fun y2 ey2 => ?_)
  obtain rfl : y2 = 2 := ey2.trans (by decide)
  refine t_sld hx hb hX hbl w (j := 2) (by decide) (vp_in_iff.mpr ⟨by decide, by decide⟩) dL_law_1757 ?_
  refine lv_aload_n hx hb dL_law_1758 rfl (lv_at hl 3 rfl) ?_
  refine t_callH (n := 4) C w (c_L_bide l hls D K _ sa _ L _ Ψ (hT.mono (gof_sub rfl)) x hm_x ht_x (xs 1) (xs 2)  o hm_o ht_o g0 hf_o) gw_1078 gw_1076 gw_1077 gw_0 ⟨by decide, by decide, by decide +kernel⟩ rfl rfl ⟨Nat.le_of_ble_eq_true rfl, Nat.le_of_ble_eq_true rfl⟩ rfl hl.1 rfl (Nat.le_of_ble_eq_true rfl) dL_law_1759 ⟨Nat.le_of_ble_eq_true rfl, Nat.le_of_ble_eq_true rfl⟩ (fun v u H locs hp w => ?_)
  obtain ⟨r1, Ψ2, L2, f2, g, rfl, rfl, hT2, hE2, ht_o2, hf_o2, hal⟩ := hp
  have hnm : ¬ (fun q9 => q9 = o) m_ := fun e9 => by have e9 : m_ = o := e9; rw [e9, ht_o] at ht_m; exact absurd ht_m (by decide)
  have hsp := hE2.sp hm_m hnm
  have ht_m := hsp.2.1.trans ht_m
  have hm_m := hsp.1
  have hm_o := (hE2.1 o hm_o).1
  have hno_7 := hno_7.call hE2 (by decide) (fun b e9 h9 => by have e9 : b = o := e9; rw [e9, ht_o2] at h9; exact absurd h9 (by decide))
  clear hT hno_6 hno_4 hm_x ht_x hf_o ht_o hnm hsp
  have hT := hT2
  have ht_o := ht_o2
  have hf_o := hf_o2
  clear hT2 ht_o2 hf_o2
  refine lv_istore (lv' := [(5, .int r1), (0, .ref b), (1, .ref x), (2, .ref m_), (3, .ref o), (4, .int 0)]) hx hb dL_law_1762 hl (by decide) rfl (fun ls hl => ?_)
  refine lv_aload_n hx hb dL_law_1764 rfl (lv_at hl 3 rfl) ?_
  refine lv_aload_n hx hb dL_law_1765 rfl (lv_at hl 1 rfl) ?_
  refine lv_iload hx hb dL_law_1766 (lv_at hl 5 rfl) ?_
  refine lv_iconst (v := 1) hx hb dL_law_1768 (by decide) ?_
  refine lv_iadd hx hb dL_law_1769 ?_
  refine lv_topi (fun y3 ey3 => ?_)
  obtain rfl : y3 = 1 := ey3.trans (by decide)
  refine t_sld hx hb hX hbl w (j := 1) (by decide) (vp_in_iff.mpr ⟨by decide, by decide⟩) dL_law_1770 ?_
  refine lv_aload_n hx hb dL_law_1771 rfl (lv_at hl 1 rfl) ?_
  refine lv_iload hx hb dL_law_1772 (lv_at hl 5 rfl) ?_
  refine lv_iconst (v := 2) hx hb dL_law_1774 (by decide) ?_
  refine lv_iadd hx hb dL_law_1775 ?_
  refine lv_topi (fun y4 ey4 => ?_)
  obtain rfl : y4 = 2 := ey4.trans (by decide)
  refine t_sld hx hb hX hbl w (j := 2) (by decide) (vp_in_iff.mpr ⟨by decide, by decide⟩) dL_law_1776 ?_
  refine t_callV (n := 2) C w hT hm_m ht_m (by decide) rfl rfl (c_X7_bide l D K _ sa _ L2 _ Ψ2 hT m_ hm_m ht_m (xs 1) (xs 2) (fun b c h1 h2 h3 h4 => (hno_7 b h1 h3).trans (hno_7 c h2 h4).symm)) gw_1645 gw_1642 gw_1643 gw_1644 gw_8 ⟨by decide, by decide, by decide +kernel⟩ rfl rfl ⟨Nat.le_of_ble_eq_true rfl, Nat.le_of_ble_eq_true rfl⟩ rfl hl.1 rfl (Nat.le_of_ble_eq_true rfl) dL_law_1777 ⟨Nat.le_of_ble_eq_true rfl, Nat.le_of_ble_eq_true rfl⟩ (fun v u H locs hp w => ?_)
  obtain ⟨r2, th, f3, rfl, rfl, hT3, hR3, hbl2⟩ := hp
  have hf_o := (hR3 o hm_o ht_o).trans hf_o
  clear hT
  have hT := hT3
  clear hT3
  rcases hal with ⟨rfl, v1, hg, ⟨rfl, ha0⟩⟩ | ⟨rfl, ha0⟩
  ·
    rcases hbl2 with ⟨rfl, rfl, hb0⟩ | ⟨rfl, rfl, hb0⟩
    ·
      exfalso
      omega
    ·
      refine lv_istore (lv' := [(6, .int 1), (5, .int 0), (0, .ref b), (1, .ref x), (2, .ref m_), (3, .ref o), (4, .int 0)]) hx hb dL_law_1780 hl (by decide) rfl (fun ls hl => ?_)
      refine lv_aload_n hx hb dL_law_1782 rfl (lv_at hl 4 rfl) ?_
      refine t_callV (n := 0) C w hT hm_m ht_m (by decide) rfl rfl (c_X7_thrown l D K _ sa _ L2 _ Ψ2 0 hT m_ hm_m ht_m) gw_1332 gw_1329 gw_1330 gw_1331 gw_8 ⟨by decide, by decide, by decide +kernel⟩ rfl rfl ⟨Nat.le_of_ble_eq_true rfl, Nat.le_of_ble_eq_true rfl⟩ rfl hl.1 rfl (Nat.le_of_ble_eq_true rfl) dL_law_1783 ⟨Nat.le_of_ble_eq_true rfl, Nat.le_of_ble_eq_true rfl⟩ (fun v u H locs hp w => ?_)
      obtain ⟨rfl, rfl⟩ := hp
      refine lv_iload hx hb dL_law_1786 (lv_at hl 1 rfl) ?_
      refine lv_icmp_eq (tgt := 1793) hx hb dL_law_1788 (by decide) (fun _ => ?_) (fun c0 => absurd c0 (by decide))
      refine lv_iload hx hb dL_law_1793 (lv_at hl 1 rfl) ?_
      refine lv_if_ne (tgt := 1810) hx hb dL_law_1795 (by decide) (fun c0 => absurd c0 (by decide)) (fun _ => ?_)
      refine lv_aload_n hx hb dL_law_1798 rfl (lv_at hl 5 rfl) ?_
      refine lv_iconst (v := 0) hx hb dL_law_1799 (by decide) ?_
      refine t_laldR C w hm_o hf_o hg dL_law_1800 ?_
      refine lv_iload hx hb dL_law_1801 (lv_at hl 0 rfl) ?_
      refine lv_i2l (v := (1 : Int32).toInt64) hx hb dL_law_1803 rfl ?_
      refine W.lcmp hx hb dL_law_1804 ?_
      refine lv_topi (fun y5 ey5 => ?_)
      obtain rfl : y5 = 0 := ey5.trans (lg_cmp_self _)
      refine lv_if_eq (tgt := 1810) hx hb dL_law_1805 (by decide) (fun _ => ?_) (fun c0 => absurd c0 (by decide))
      refine lv_goto (tgt := 2320) hx hb dL_law_1810 (by decide) ?_
      exact law_end A w (Nat.le_of_ble_eq_true rfl) (Nat.le_of_ble_eq_true rfl) (lv_sub hl [6, 2] rfl)
  ·
    rcases hbl2 with ⟨rfl, rfl, hb0⟩ | ⟨rfl, rfl, hb0⟩
    ·
      refine lv_istore (lv' := [(6, .int 0), (5, .int 1), (0, .ref b), (1, .ref x), (2, .ref m_), (3, .ref o), (4, .int 0)]) hx hb dL_law_1780 hl (by decide) rfl (fun ls hl => ?_)
      refine lv_aload_n hx hb dL_law_1782 rfl (lv_at hl 4 rfl) ?_
      refine t_callV (n := 0) C w hT hm_m ht_m (by decide) rfl rfl (c_X7_thrown l D K _ sa _ L2 _ Ψ2 1 hT m_ hm_m ht_m) gw_1332 gw_1329 gw_1330 gw_1331 gw_8 ⟨by decide, by decide, by decide +kernel⟩ rfl rfl ⟨Nat.le_of_ble_eq_true rfl, Nat.le_of_ble_eq_true rfl⟩ rfl hl.1 rfl (Nat.le_of_ble_eq_true rfl) dL_law_1783 ⟨Nat.le_of_ble_eq_true rfl, Nat.le_of_ble_eq_true rfl⟩ (fun v u H locs hp w => ?_)
      obtain ⟨rfl, rfl⟩ := hp
      refine lv_iload hx hb dL_law_1786 (lv_at hl 1 rfl) ?_
      refine lv_icmp_eq (tgt := 1793) hx hb dL_law_1788 (by decide) (fun _ => ?_) (fun c0 => absurd c0 (by decide))
      refine lv_iload hx hb dL_law_1793 (lv_at hl 1 rfl) ?_
      refine lv_if_ne (tgt := 1810) hx hb dL_law_1795 (by decide) (fun _ => ?_) (fun c0 => absurd c0 (by decide))
      refine lv_goto (tgt := 2320) hx hb dL_law_1810 (by decide) ?_
      exact law_end A w (Nat.le_of_ble_eq_true rfl) (Nat.le_of_ble_eq_true rfl) (lv_sub hl [6, 2] rfl)
    ·
      exfalso
      omega
set_option maxHeartbeats 8000000 in
set_option maxRecDepth 100000 in
theorem arm_27 {p : Program} {l : Launch} {e : Env} {s : State} {m : MethodId} {below : List Frame} {meth : Method} {c : Code} {b : Nat} {xs : Nat → Int32} {D : va_G} {K : Nat → ClassId} {sa : Nat × Nat × Nat} {H : Heap} {locs : List Loc} {L : List Nat} {f : Nat → va_E} {Ψ : Nat → Nat} {x m_ o : Nat} {ls : Array Slot} (hls : l.stackTraces = false) (A : LwC p s m meth c b xs) (B : LwW D K sa s H locs L f Ψ x m_ o) (hl : lv_has ls 7 [(0, .ref b), (1, .ref x), (2, .ref m_), (3, .ref o), (4, .int 0)]) : W p l e room_1 s m #[Value.ref b] below meth c H locs 1258 28357 (lw_Z below #[Value.ref b] s) (F0 m 1813 ls []) := by
  obtain ⟨C, hX, hbl, hrt, hlk⟩ := id A
  obtain ⟨w, hT, ⟨hm_x, ht_x⟩, ⟨hm_m, ht_m⟩, ⟨hm_o, ht_o, g0, hf_o⟩, hno_6, hno_7, z4, hno_4⟩ := B
  have hx := C.1
  have hb := C.2.1
  have n0 : (0 : Int32).toInt = 0 := by decide
  have n1 : (1 : Int32).toInt = 1 := by decide
  refine lv_aload_n hx hb dL_law_1813 rfl (lv_at hl 1 rfl) ?_
  refine lv_aload_n hx hb dL_law_1814 rfl (lv_at hl 0 rfl) ?_
  refine lv_iload hx hb dL_law_1815 (lv_at hl 4 rfl) ?_
  refine lv_iconst (v := 1) hx hb dL_law_1817 (by decide) ?_
  refine lv_iadd hx hb dL_law_1818 ?_
  refine lv_topi (fun y1 ey1 => ?_)
  obtain rfl : y1 = 1 := ey1.trans (by decide)
  refine t_sld hx hb hX hbl w (j := 1) (by decide) (vp_in_iff.mpr ⟨by decide, by decide⟩) dL_law_1819 ?_
  refine lv_aload_n hx hb dL_law_1820 rfl (lv_at hl 0 rfl) ?_
  refine lv_iload hx hb dL_law_1821 (lv_at hl 4 rfl) ?_
  refine lv_iconst (v := 2) hx hb dL_law_1823 (by decide) ?_
  refine lv_iadd hx hb dL_law_1824 ?_
  refine lv_topi (fun y2 ey2 => ?_)
  obtain rfl : y2 = 2 := ey2.trans (by decide)
  refine t_sld hx hb hX hbl w (j := 2) (by decide) (vp_in_iff.mpr ⟨by decide, by decide⟩) dL_law_1825 ?_
  refine lv_aload_n hx hb dL_law_1826 rfl (lv_at hl 0 rfl) ?_
  refine lv_iload hx hb dL_law_1827 (lv_at hl 4 rfl) ?_
  refine lv_iconst (v := 3) hx hb dL_law_1829 (by decide) ?_
  refine lv_iadd hx hb dL_law_1830 ?_
  refine lv_topi (fun y3 ey3 => ?_)
  obtain rfl : y3 = 3 := ey3.trans (by decide)
  refine t_sld hx hb hX hbl w (j := 3) (by decide) (vp_in_iff.mpr ⟨by decide, by decide⟩) dL_law_1831 ?_
  refine lv_aload_n hx hb dL_law_1832 rfl (lv_at hl 3 rfl) ?_
  refine t_callH (n := 5) C w (c_L_settle l hls D K _ sa _ L _ Ψ (hT.mono (gof_sub rfl)) x hm_x ht_x (xs 1) (xs 2) (xs 3)  o hm_o ht_o g0 hf_o) gw_1085 gw_1083 gw_1084 gw_0 ⟨by decide, by decide, by decide +kernel⟩ rfl rfl ⟨Nat.le_of_ble_eq_true rfl, Nat.le_of_ble_eq_true rfl⟩ rfl hl.1 rfl (Nat.le_of_ble_eq_true rfl) dL_law_1833 ⟨Nat.le_of_ble_eq_true rfl, Nat.le_of_ble_eq_true rfl⟩ (fun v u H locs hp w => ?_)
  obtain ⟨r1, Ψ2, L2, f2, g, rfl, rfl, hT2, hE2, ht_o2, hf_o2, hal⟩ := hp
  have hnm : ¬ (fun q9 => q9 = o) m_ := fun e9 => by have e9 : m_ = o := e9; rw [e9, ht_o] at ht_m; exact absurd ht_m (by decide)
  have hsp := hE2.sp hm_m hnm
  have ht_m := hsp.2.1.trans ht_m
  have hm_m := hsp.1
  have hm_o := (hE2.1 o hm_o).1
  have hno_7 := hno_7.call hE2 (by decide) (fun b e9 h9 => by have e9 : b = o := e9; rw [e9, ht_o2] at h9; exact absurd h9 (by decide))
  clear hT hno_6 hno_4 hm_x ht_x hf_o ht_o hnm hsp
  have hT := hT2
  have ht_o := ht_o2
  have hf_o := hf_o2
  clear hT2 ht_o2 hf_o2
  refine lv_istore (lv' := [(5, .int r1), (0, .ref b), (1, .ref x), (2, .ref m_), (3, .ref o), (4, .int 0)]) hx hb dL_law_1836 hl (by decide) rfl (fun ls hl => ?_)
  refine lv_aload_n hx hb dL_law_1838 rfl (lv_at hl 3 rfl) ?_
  refine lv_aload_n hx hb dL_law_1839 rfl (lv_at hl 1 rfl) ?_
  refine lv_iload hx hb dL_law_1840 (lv_at hl 5 rfl) ?_
  refine lv_iconst (v := 1) hx hb dL_law_1842 (by decide) ?_
  refine lv_iadd hx hb dL_law_1843 ?_
  refine lv_topi (fun y4 ey4 => ?_)
  obtain rfl : y4 = 1 := ey4.trans (by decide)
  refine t_sld hx hb hX hbl w (j := 1) (by decide) (vp_in_iff.mpr ⟨by decide, by decide⟩) dL_law_1844 ?_
  refine lv_aload_n hx hb dL_law_1845 rfl (lv_at hl 1 rfl) ?_
  refine lv_iload hx hb dL_law_1846 (lv_at hl 5 rfl) ?_
  refine lv_iconst (v := 2) hx hb dL_law_1848 (by decide) ?_
  refine lv_iadd hx hb dL_law_1849 ?_
  refine lv_topi (fun y5 ey5 => ?_)
  obtain rfl : y5 = 2 := ey5.trans (by decide)
  refine t_sld hx hb hX hbl w (j := 2) (by decide) (vp_in_iff.mpr ⟨by decide, by decide⟩) dL_law_1850 ?_
  refine lv_aload_n hx hb dL_law_1851 rfl (lv_at hl 1 rfl) ?_
  refine lv_iload hx hb dL_law_1852 (lv_at hl 5 rfl) ?_
  refine lv_iconst (v := 3) hx hb dL_law_1854 (by decide) ?_
  refine lv_iadd hx hb dL_law_1855 ?_
  refine lv_topi (fun y6 ey6 => ?_)
  obtain rfl : y6 = 3 := ey6.trans (by decide)
  refine t_sld hx hb hX hbl w (j := 3) (by decide) (vp_in_iff.mpr ⟨by decide, by decide⟩) dL_law_1856 ?_
  refine t_callV (n := 3) C w hT hm_m ht_m (by decide) rfl rfl (c_X7_settle l D K _ sa _ L2 _ Ψ2 hT m_ hm_m ht_m (xs 1) (xs 2) (xs 3) (fun b c h1 h2 h3 h4 => (hno_7 b h1 h3).trans (hno_7 c h2 h4).symm)) gw_1649 gw_1646 gw_1647 gw_1648 gw_8 ⟨by decide, by decide, by decide +kernel⟩ rfl rfl ⟨Nat.le_of_ble_eq_true rfl, Nat.le_of_ble_eq_true rfl⟩ rfl hl.1 rfl (Nat.le_of_ble_eq_true rfl) dL_law_1857 ⟨Nat.le_of_ble_eq_true rfl, Nat.le_of_ble_eq_true rfl⟩ (fun v u H locs hp w => ?_)
  obtain ⟨r2, th, f3, rfl, rfl, hT3, hR3, hbl2⟩ := hp
  have hf_o := (hR3 o hm_o ht_o).trans hf_o
  clear hT
  have hT := hT3
  clear hT3
  rcases hal with rfl
  obtain ⟨rfl, rfl⟩ := hbl2
  refine lv_istore (lv' := [(6, .int 0), (5, .int 1), (0, .ref b), (1, .ref x), (2, .ref m_), (3, .ref o), (4, .int 0)]) hx hb dL_law_1860 hl (by decide) rfl (fun ls hl => ?_)
  refine lv_aload_n hx hb dL_law_1862 rfl (lv_at hl 4 rfl) ?_
  refine t_callV (n := 0) C w hT hm_m ht_m (by decide) rfl rfl (c_X7_thrown l D K _ sa _ L2 _ Ψ2 1 hT m_ hm_m ht_m) gw_1332 gw_1329 gw_1330 gw_1331 gw_8 ⟨by decide, by decide, by decide +kernel⟩ rfl rfl ⟨Nat.le_of_ble_eq_true rfl, Nat.le_of_ble_eq_true rfl⟩ rfl hl.1 rfl (Nat.le_of_ble_eq_true rfl) dL_law_1863 ⟨Nat.le_of_ble_eq_true rfl, Nat.le_of_ble_eq_true rfl⟩ (fun v u H locs hp w => ?_)
  obtain ⟨rfl, rfl⟩ := hp
  refine lv_iload hx hb dL_law_1866 (lv_at hl 1 rfl) ?_
  refine lv_icmp_eq (tgt := 1873) hx hb dL_law_1868 (by decide) (fun _ => ?_) (fun c0 => absurd c0 (by decide))
  refine lv_iload hx hb dL_law_1873 (lv_at hl 1 rfl) ?_
  refine lv_if_ne (tgt := 1890) hx hb dL_law_1875 (by decide) (fun _ => ?_) (fun c0 => absurd c0 (by decide))
  refine lv_goto (tgt := 2320) hx hb dL_law_1890 (by decide) ?_
  exact law_end A w (Nat.le_of_ble_eq_true rfl) (Nat.le_of_ble_eq_true rfl) (lv_sub hl [6, 2] rfl)
set_option maxHeartbeats 8000000 in
set_option maxRecDepth 100000 in
theorem arm_28 {p : Program} {l : Launch} {e : Env} {s : State} {m : MethodId} {below : List Frame} {meth : Method} {c : Code} {b : Nat} {xs : Nat → Int32} {D : va_G} {K : Nat → ClassId} {sa : Nat × Nat × Nat} {H : Heap} {locs : List Loc} {L : List Nat} {f : Nat → va_E} {Ψ : Nat → Nat} {x m_ o : Nat} {ls : Array Slot} (hls : l.stackTraces = false) (A : LwC p s m meth c b xs) (B : LwW D K sa s H locs L f Ψ x m_ o) (hl : lv_has ls 7 [(0, .ref b), (1, .ref x), (2, .ref m_), (3, .ref o), (4, .int 0)]) : W p l e room_1 s m #[Value.ref b] below meth c H locs 1258 28357 (lw_Z below #[Value.ref b] s) (F0 m 1893 ls []) := by
  obtain ⟨C, hX, hbl, hrt, hlk⟩ := id A
  obtain ⟨w, hT, ⟨hm_x, ht_x⟩, ⟨hm_m, ht_m⟩, ⟨hm_o, ht_o, g0, hf_o⟩, hno_6, hno_7, z4, hno_4⟩ := B
  have hx := C.1
  have hb := C.2.1
  have n0 : (0 : Int32).toInt = 0 := by decide
  have n1 : (1 : Int32).toInt = 1 := by decide
  refine lv_aload_n hx hb dL_law_1893 rfl (lv_at hl 1 rfl) ?_
  refine lv_aload_n hx hb dL_law_1894 rfl (lv_at hl 0 rfl) ?_
  refine lv_iload hx hb dL_law_1895 (lv_at hl 4 rfl) ?_
  refine lv_iconst (v := 1) hx hb dL_law_1897 (by decide) ?_
  refine lv_iadd hx hb dL_law_1898 ?_
  refine lv_topi (fun y1 ey1 => ?_)
  obtain rfl : y1 = 1 := ey1.trans (by decide)
  refine t_sld hx hb hX hbl w (j := 1) (by decide) (vp_in_iff.mpr ⟨by decide, by decide⟩) dL_law_1899 ?_
  refine lv_aload_n hx hb dL_law_1900 rfl (lv_at hl 0 rfl) ?_
  refine lv_iload hx hb dL_law_1901 (lv_at hl 4 rfl) ?_
  refine lv_iconst (v := 2) hx hb dL_law_1903 (by decide) ?_
  refine lv_iadd hx hb dL_law_1904 ?_
  refine lv_topi (fun y2 ey2 => ?_)
  obtain rfl : y2 = 2 := ey2.trans (by decide)
  refine t_sld hx hb hX hbl w (j := 2) (by decide) (vp_in_iff.mpr ⟨by decide, by decide⟩) dL_law_1905 ?_
  refine lv_aload_n hx hb dL_law_1906 rfl (lv_at hl 3 rfl) ?_
  refine t_callH (n := 4) C w (c_L_back l hls D K _ sa _ L _ Ψ (hT.mono (gof_sub rfl)) x hm_x ht_x (xs 1) (xs 2)  o hm_o ht_o g0 hf_o) gw_1096 gw_1094 gw_1095 gw_0 ⟨by decide, by decide, by decide +kernel⟩ rfl rfl ⟨Nat.le_of_ble_eq_true rfl, Nat.le_of_ble_eq_true rfl⟩ rfl hl.1 rfl (Nat.le_of_ble_eq_true rfl) dL_law_1907 ⟨Nat.le_of_ble_eq_true rfl, Nat.le_of_ble_eq_true rfl⟩ (fun v u H locs hp w => ?_)
  obtain ⟨r1, Ψ2, L2, f2, g, rfl, rfl, hT2, hE2, ht_o2, hf_o2, hal⟩ := hp
  have hnm : ¬ (fun q9 => q9 = o) m_ := fun e9 => by have e9 : m_ = o := e9; rw [e9, ht_o] at ht_m; exact absurd ht_m (by decide)
  have hsp := hE2.sp hm_m hnm
  have ht_m := hsp.2.1.trans ht_m
  have hm_m := hsp.1
  have hm_o := (hE2.1 o hm_o).1
  have hno_7 := hno_7.call hE2 (by decide) (fun b e9 h9 => by have e9 : b = o := e9; rw [e9, ht_o2] at h9; exact absurd h9 (by decide))
  clear hT hno_6 hno_4 hm_x ht_x hf_o ht_o hnm hsp
  have hT := hT2
  have ht_o := ht_o2
  have hf_o := hf_o2
  clear hT2 ht_o2 hf_o2
  refine lv_istore (lv' := [(5, .int r1), (0, .ref b), (1, .ref x), (2, .ref m_), (3, .ref o), (4, .int 0)]) hx hb dL_law_1910 hl (by decide) rfl (fun ls hl => ?_)
  refine lv_aload_n hx hb dL_law_1912 rfl (lv_at hl 3 rfl) ?_
  refine lv_aload_n hx hb dL_law_1913 rfl (lv_at hl 1 rfl) ?_
  refine lv_iload hx hb dL_law_1914 (lv_at hl 5 rfl) ?_
  refine lv_iconst (v := 1) hx hb dL_law_1916 (by decide) ?_
  refine lv_iadd hx hb dL_law_1917 ?_
  refine lv_topi (fun y3 ey3 => ?_)
  obtain rfl : y3 = 1 := ey3.trans (by decide)
  refine t_sld hx hb hX hbl w (j := 1) (by decide) (vp_in_iff.mpr ⟨by decide, by decide⟩) dL_law_1918 ?_
  refine lv_aload_n hx hb dL_law_1919 rfl (lv_at hl 1 rfl) ?_
  refine lv_iload hx hb dL_law_1920 (lv_at hl 5 rfl) ?_
  refine lv_iconst (v := 2) hx hb dL_law_1922 (by decide) ?_
  refine lv_iadd hx hb dL_law_1923 ?_
  refine lv_topi (fun y4 ey4 => ?_)
  obtain rfl : y4 = 2 := ey4.trans (by decide)
  refine t_sld hx hb hX hbl w (j := 2) (by decide) (vp_in_iff.mpr ⟨by decide, by decide⟩) dL_law_1924 ?_
  refine t_callV (n := 2) C w hT hm_m ht_m (by decide) rfl rfl (c_X7_back l D K _ sa _ L2 _ Ψ2 hT m_ hm_m ht_m (xs 1) (xs 2) (fun b c h1 h2 h3 h4 => (hno_7 b h1 h3).trans (hno_7 c h2 h4).symm)) gw_1657 gw_1654 gw_1655 gw_1656 gw_8 ⟨by decide, by decide, by decide +kernel⟩ rfl rfl ⟨Nat.le_of_ble_eq_true rfl, Nat.le_of_ble_eq_true rfl⟩ rfl hl.1 rfl (Nat.le_of_ble_eq_true rfl) dL_law_1925 ⟨Nat.le_of_ble_eq_true rfl, Nat.le_of_ble_eq_true rfl⟩ (fun v u H locs hp w => ?_)
  obtain ⟨r2, th, f3, rfl, rfl, hT3, hR3, hbl2⟩ := hp
  have hf_o := (hR3 o hm_o ht_o).trans hf_o
  clear hT
  have hT := hT3
  clear hT3
  rcases hal with rfl
  obtain ⟨rfl, rfl⟩ := hbl2
  refine lv_istore (lv' := [(6, .int 0), (5, .int 1), (0, .ref b), (1, .ref x), (2, .ref m_), (3, .ref o), (4, .int 0)]) hx hb dL_law_1928 hl (by decide) rfl (fun ls hl => ?_)
  refine lv_aload_n hx hb dL_law_1930 rfl (lv_at hl 4 rfl) ?_
  refine t_callV (n := 0) C w hT hm_m ht_m (by decide) rfl rfl (c_X7_thrown l D K _ sa _ L2 _ Ψ2 1 hT m_ hm_m ht_m) gw_1332 gw_1329 gw_1330 gw_1331 gw_8 ⟨by decide, by decide, by decide +kernel⟩ rfl rfl ⟨Nat.le_of_ble_eq_true rfl, Nat.le_of_ble_eq_true rfl⟩ rfl hl.1 rfl (Nat.le_of_ble_eq_true rfl) dL_law_1931 ⟨Nat.le_of_ble_eq_true rfl, Nat.le_of_ble_eq_true rfl⟩ (fun v u H locs hp w => ?_)
  obtain ⟨rfl, rfl⟩ := hp
  refine lv_iload hx hb dL_law_1934 (lv_at hl 1 rfl) ?_
  refine lv_icmp_eq (tgt := 1941) hx hb dL_law_1936 (by decide) (fun _ => ?_) (fun c0 => absurd c0 (by decide))
  refine lv_iload hx hb dL_law_1941 (lv_at hl 1 rfl) ?_
  refine lv_if_ne (tgt := 1958) hx hb dL_law_1943 (by decide) (fun _ => ?_) (fun c0 => absurd c0 (by decide))
  refine lv_goto (tgt := 2320) hx hb dL_law_1958 (by decide) ?_
  exact law_end A w (Nat.le_of_ble_eq_true rfl) (Nat.le_of_ble_eq_true rfl) (lv_sub hl [6, 2] rfl)
set_option maxHeartbeats 8000000 in
set_option maxRecDepth 100000 in
theorem arm_29 {p : Program} {l : Launch} {e : Env} {s : State} {m : MethodId} {below : List Frame} {meth : Method} {c : Code} {b : Nat} {xs : Nat → Int32} {D : va_G} {K : Nat → ClassId} {sa : Nat × Nat × Nat} {H : Heap} {locs : List Loc} {L : List Nat} {f : Nat → va_E} {Ψ : Nat → Nat} {x m_ o : Nat} {ls : Array Slot} (hls : l.stackTraces = false) (A : LwC p s m meth c b xs) (B : LwW D K sa s H locs L f Ψ x m_ o) (hl : lv_has ls 7 [(0, .ref b), (1, .ref x), (2, .ref m_), (3, .ref o), (4, .int 0)]) : W p l e room_1 s m #[Value.ref b] below meth c H locs 1258 28357 (lw_Z below #[Value.ref b] s) (F0 m 1961 ls []) := by
  obtain ⟨C, hX, hbl, hrt, hlk⟩ := id A
  obtain ⟨w, hT, ⟨hm_x, ht_x⟩, ⟨hm_m, ht_m⟩, ⟨hm_o, ht_o, g0, hf_o⟩, hno_6, hno_7, z4, hno_4⟩ := B
  have hx := C.1
  have hb := C.2.1
  have n0 : (0 : Int32).toInt = 0 := by decide
  have n1 : (1 : Int32).toInt = 1 := by decide
  refine lv_aload_n hx hb dL_law_1961 rfl (lv_at hl 1 rfl) ?_
  refine lv_aload_n hx hb dL_law_1962 rfl (lv_at hl 0 rfl) ?_
  refine lv_iload hx hb dL_law_1963 (lv_at hl 4 rfl) ?_
  refine lv_iconst (v := 1) hx hb dL_law_1965 (by decide) ?_
  refine lv_iadd hx hb dL_law_1966 ?_
  refine lv_topi (fun y1 ey1 => ?_)
  obtain rfl : y1 = 1 := ey1.trans (by decide)
  refine t_sld hx hb hX hbl w (j := 1) (by decide) (vp_in_iff.mpr ⟨by decide, by decide⟩) dL_law_1967 ?_
  refine lv_aload_n hx hb dL_law_1968 rfl (lv_at hl 3 rfl) ?_
  refine t_callH (n := 3) C w (c_L_broken l hls D K _ sa _ L _ Ψ (hT.mono (gof_sub rfl)) x hm_x ht_x (xs 1)  o hm_o ht_o g0 hf_o) gw_1107 gw_1105 gw_1106 gw_0 ⟨by decide, by decide, by decide +kernel⟩ rfl rfl ⟨Nat.le_of_ble_eq_true rfl, Nat.le_of_ble_eq_true rfl⟩ rfl hl.1 rfl (Nat.le_of_ble_eq_true rfl) dL_law_1969 ⟨Nat.le_of_ble_eq_true rfl, Nat.le_of_ble_eq_true rfl⟩ (fun v u H locs hp w => ?_)
  obtain ⟨r1, Ψ2, L2, f2, g, rfl, rfl, hT2, hE2, ht_o2, hf_o2, hal⟩ := hp
  have hnm : ¬ (fun q9 => q9 = o) m_ := fun e9 => by have e9 : m_ = o := e9; rw [e9, ht_o] at ht_m; exact absurd ht_m (by decide)
  have hsp := hE2.sp hm_m hnm
  have ht_m := hsp.2.1.trans ht_m
  have hm_m := hsp.1
  have hm_o := (hE2.1 o hm_o).1
  have hno_7 := hno_7.call hE2 (by decide) (fun b e9 h9 => by have e9 : b = o := e9; rw [e9, ht_o2] at h9; exact absurd h9 (by decide))
  clear hT hno_6 hno_4 hm_x ht_x hf_o ht_o hnm hsp
  have hT := hT2
  have ht_o := ht_o2
  have hf_o := hf_o2
  clear hT2 ht_o2 hf_o2
  refine lv_istore (lv' := [(5, .int r1), (0, .ref b), (1, .ref x), (2, .ref m_), (3, .ref o), (4, .int 0)]) hx hb dL_law_1972 hl (by decide) rfl (fun ls hl => ?_)
  refine lv_aload_n hx hb dL_law_1974 rfl (lv_at hl 3 rfl) ?_
  refine lv_aload_n hx hb dL_law_1975 rfl (lv_at hl 1 rfl) ?_
  refine lv_iload hx hb dL_law_1976 (lv_at hl 5 rfl) ?_
  refine lv_iconst (v := 1) hx hb dL_law_1978 (by decide) ?_
  refine lv_iadd hx hb dL_law_1979 ?_
  refine lv_topi (fun y2 ey2 => ?_)
  obtain rfl : y2 = 1 := ey2.trans (by decide)
  refine t_sld hx hb hX hbl w (j := 1) (by decide) (vp_in_iff.mpr ⟨by decide, by decide⟩) dL_law_1980 ?_
  refine t_callV (n := 1) C w hT hm_m ht_m (by decide) rfl rfl (c_X7_broken l D K _ sa _ L2 _ Ψ2 hT m_ hm_m ht_m (xs 1) (fun b c h1 h2 h3 h4 => (hno_7 b h1 h3).trans (hno_7 c h2 h4).symm)) gw_1662 gw_1659 gw_1660 gw_1661 gw_8 ⟨by decide, by decide, by decide +kernel⟩ rfl rfl ⟨Nat.le_of_ble_eq_true rfl, Nat.le_of_ble_eq_true rfl⟩ rfl hl.1 rfl (Nat.le_of_ble_eq_true rfl) dL_law_1981 ⟨Nat.le_of_ble_eq_true rfl, Nat.le_of_ble_eq_true rfl⟩ (fun v u H locs hp w => ?_)
  obtain ⟨r2, th, f3, rfl, rfl, hT3, hR3, hbl2⟩ := hp
  have hf_o := (hR3 o hm_o ht_o).trans hf_o
  clear hT
  have hT := hT3
  clear hT3
  rcases hal with rfl
  obtain ⟨rfl, rfl⟩ := hbl2
  refine lv_istore (lv' := [(6, .int 0), (5, .int 1), (0, .ref b), (1, .ref x), (2, .ref m_), (3, .ref o), (4, .int 0)]) hx hb dL_law_1984 hl (by decide) rfl (fun ls hl => ?_)
  refine lv_aload_n hx hb dL_law_1986 rfl (lv_at hl 4 rfl) ?_
  refine t_callV (n := 0) C w hT hm_m ht_m (by decide) rfl rfl (c_X7_thrown l D K _ sa _ L2 _ Ψ2 1 hT m_ hm_m ht_m) gw_1332 gw_1329 gw_1330 gw_1331 gw_8 ⟨by decide, by decide, by decide +kernel⟩ rfl rfl ⟨Nat.le_of_ble_eq_true rfl, Nat.le_of_ble_eq_true rfl⟩ rfl hl.1 rfl (Nat.le_of_ble_eq_true rfl) dL_law_1987 ⟨Nat.le_of_ble_eq_true rfl, Nat.le_of_ble_eq_true rfl⟩ (fun v u H locs hp w => ?_)
  obtain ⟨rfl, rfl⟩ := hp
  refine lv_iload hx hb dL_law_1990 (lv_at hl 1 rfl) ?_
  refine lv_icmp_eq (tgt := 1997) hx hb dL_law_1992 (by decide) (fun _ => ?_) (fun c0 => absurd c0 (by decide))
  refine lv_iload hx hb dL_law_1997 (lv_at hl 1 rfl) ?_
  refine lv_if_ne (tgt := 2014) hx hb dL_law_1999 (by decide) (fun _ => ?_) (fun c0 => absurd c0 (by decide))
  refine lv_goto (tgt := 2320) hx hb dL_law_2014 (by decide) ?_
  exact law_end A w (Nat.le_of_ble_eq_true rfl) (Nat.le_of_ble_eq_true rfl) (lv_sub hl [6, 2] rfl)
