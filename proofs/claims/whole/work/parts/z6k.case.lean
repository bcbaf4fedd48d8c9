/-! the law's cases, by program -/
theorem dL_law_1790 : decode code 1790 = .ok (.aload_n 1, 1) := by decide +kernel
theorem dL_law_1791 : decode code 1791 = .ok (.aload_n 0, 1) := by decide +kernel
theorem dL_law_1792 : decode code 1792 = .ok (.iload 4, 2) := by decide +kernel
theorem dL_law_1794 : decode code 1794 = .ok (.iconst 1, 1) := by decide +kernel
theorem dL_law_1795 : decode code 1795 = .ok (.iadd, 1) := by decide +kernel
theorem dL_law_1796 : decode code 1796 = .ok (.iaload, 1) := by decide +kernel
theorem dL_law_1797 : decode code 1797 = .ok (.aload_n 0, 1) := by decide +kernel
theorem dL_law_1798 : decode code 1798 = .ok (.iload 4, 2) := by decide +kernel
theorem dL_law_1800 : decode code 1800 = .ok (.iconst 2, 1) := by decide +kernel
theorem dL_law_1801 : decode code 1801 = .ok (.iadd, 1) := by decide +kernel
theorem dL_law_1802 : decode code 1802 = .ok (.iaload, 1) := by decide +kernel
theorem dL_law_1803 : decode code 1803 = .ok (.aload_n 3, 1) := by decide +kernel
theorem dL_law_1804 : decode code 1804 = .ok (.invokestatic 225, 3) := by decide +kernel
theorem dL_law_1807 : decode code 1807 = .ok (.istore 5, 2) := by decide +kernel
theorem dL_law_1809 : decode code 1809 = .ok (.aload_n 2, 1) := by decide +kernel
theorem dL_law_1810 : decode code 1810 = .ok (.aload_n 0, 1) := by decide +kernel
theorem dL_law_1811 : decode code 1811 = .ok (.iload 4, 2) := by decide +kernel
theorem dL_law_1813 : decode code 1813 = .ok (.iconst 1, 1) := by decide +kernel
theorem dL_law_1814 : decode code 1814 = .ok (.iadd, 1) := by decide +kernel
theorem dL_law_1815 : decode code 1815 = .ok (.iaload, 1) := by decide +kernel
theorem dL_law_1816 : decode code 1816 = .ok (.aload_n 0, 1) := by decide +kernel
theorem dL_law_1817 : decode code 1817 = .ok (.iload 4, 2) := by decide +kernel
theorem dL_law_1819 : decode code 1819 = .ok (.iconst 2, 1) := by decide +kernel
theorem dL_law_1820 : decode code 1820 = .ok (.iadd, 1) := by decide +kernel
theorem dL_law_1821 : decode code 1821 = .ok (.iaload, 1) := by decide +kernel
theorem dL_law_1822 : decode code 1822 = .ok (.invokevirtual 227, 3) := by decide +kernel
theorem dL_law_1825 : decode code 1825 = .ok (.istore 6, 2) := by decide +kernel
theorem dL_law_1827 : decode code 1827 = .ok (.aload_n 2, 1) := by decide +kernel
theorem dL_law_1828 : decode code 1828 = .ok (.invokevirtual 116, 3) := by decide +kernel
theorem dL_law_1831 : decode code 1831 = .ok (.iload 5, 2) := by decide +kernel
theorem dL_law_1833 : decode code 1833 = .ok (.if_icmp .eq 5, 3) := by decide +kernel
theorem dL_law_1838 : decode code 1838 = .ok (.iload 5, 2) := by decide +kernel
theorem dL_law_1840 : decode code 1840 = .ok (.ifCond .ne 15, 3) := by decide +kernel
theorem dL_law_1843 : decode code 1843 = .ok (.aload_n 3, 1) := by decide +kernel
theorem dL_law_1844 : decode code 1844 = .ok (.iconst 0, 1) := by decide +kernel
theorem dL_law_1845 : decode code 1845 = .ok (.laload, 1) := by decide +kernel
theorem dL_law_1846 : decode code 1846 = .ok (.iload 6, 2) := by decide +kernel
theorem dL_law_1848 : decode code 1848 = .ok (.i2l, 1) := by decide +kernel
theorem dL_law_1849 : decode code 1849 = .ok (.lcmp, 1) := by decide +kernel
theorem dL_law_1850 : decode code 1850 = .ok (.ifCond .eq 5, 3) := by decide +kernel
theorem dL_law_1855 : decode code 1855 = .ok (.goto 428, 3) := by decide +kernel
/-- add -/
theorem lc_31 {X : gX} {V V2 : gEnv} {b L t k n : Nat} {xs : Nat → Int32} {M N : gMem} (hC : zL X V V2 b L xs) (h : REL t M N) (hi : 6 * t + 6 ≤ L) (hL : L ≤ 3072) (hR : k + 4 ≤ 601024 ∧ n + 24 ≤ 7293034) (kk : ∀ M1 N1, REL (t + 1) M1 N1 → gB X V V2 M1 N1 (k + 4) (n + 24) 2283 (zLS V V2 b (6 * t)) []) : gB X V V2 M N k n 1790 (zLS V V2 b (6 * t)) [] := by
  obtain ⟨q, M1, bb, N1, e1, e2, hq2, hth, hout, hrel⟩ := st_add h (xs (6 * t + 1)) (xs (6 * t + 2))
  refine zb_aload_n hC 2 rfl rfl dL_law_1790 ?_
  refine zb_arg hC (a := 6 * t) (j := 1) (ja := 1) (jb := 0) rfl rfl rfl (by omega) hL dL_law_1791 dL_law_1792 dL_law_1794 dL_law_1795 dL_law_1796 ?_
  refine zb_arg hC (a := 6 * t) (j := 2) (ja := 1) (jb := 0) rfl rfl rfl (by omega) hL dL_law_1797 dL_law_1798 dL_law_1800 dL_law_1801 dL_law_1802 ?_
  refine zb_aload_n hC 4 rfl rfl dL_law_1803 ?_
  refine zb_help hC LL_225 (kL_add hC.2.2.2.2.2.2.2.2.2.2 e1) rfl rfl (Nat.le_of_ble_eq_true rfl) ⟨Nat.le_of_ble_eq_true rfl, Nat.le_of_ble_eq_true rfl⟩ (show k + 2 ≤ 601024 ∧ n + 12 ≤ 7293034 by omega) dL_law_1804 ?_
  refine zb_istore hC (by decide) rfl dL_law_1807 ?_
  refine zb_aload_n hC 4 rfl rfl dL_law_1809 ?_
  refine zb_arg hC (a := 6 * t) (j := 1) (ja := 2) (jb := 1) rfl rfl rfl (by omega) hL dL_law_1810 dL_law_1811 dL_law_1813 dL_law_1814 dL_law_1815 ?_
  refine zb_arg hC (a := 6 * t) (j := 2) (ja := 2) (jb := 1) rfl rfl rfl (by omega) hL dL_law_1816 dL_law_1817 dL_law_1819 dL_law_1820 dL_law_1821 ?_
  refine zb_call2 hC LL_227 rfl (kX11_add e2) rfl rfl (Nat.le_of_ble_eq_true rfl) ⟨Nat.le_of_ble_eq_true rfl, Nat.le_of_ble_eq_true rfl⟩ (show k + 2 ≤ 601024 ∧ n + 12 ≤ 7293034 by omega) dL_law_1822 ?_
  refine zb_istore hC (by decide) rfl dL_law_1825 ?_
  refine zb_aload_n hC 5 rfl rfl dL_law_1827 ?_
  refine zb_call2 hC LL_116 rfl (kX11_thrown (show fX11_thrown N1 = some (nI q) by rw [← hth]; rfl)) rfl rfl (Nat.le_of_ble_eq_true rfl) ⟨Nat.le_of_ble_eq_true rfl, Nat.le_of_ble_eq_true rfl⟩ (show k + 2 ≤ 601024 ∧ n + 12 ≤ 7293034 by omega) dL_law_1828 ?_
  refine zb_iload hC 1 rfl dL_law_1831 ?_
  refine zb_icmp_eq_t hC rfl (tgt := 1838) rfl dL_law_1833 ?_
  refine zb_iload hC 1 rfl dL_law_1838 ?_
  by_cases hq : q = 0
  · have hq0 : nI q = 0 := by rw [hq]; rfl
    refine zb_if_ne_f hC hq0 (tgt := 1855) rfl dL_law_1840 ?_
    refine zb_aload_n hC 6 rfl rfl dL_law_1843 ?_
    refine zb_iconst hC (v := 0) rfl dL_law_1844 ?_
    refine zb_out hC (hout hq) dL_law_1845 ?_
    refine zb_iload hC 0 rfl dL_law_1846 ?_
    refine zb_i2l hC dL_law_1848 ?_
    refine zb_lcmp hC dL_law_1849 ?_
    refine zb_if_eq_t hC (zcmp _) (tgt := 1855) rfl dL_law_1850 ?_
    refine zb_goto hC (tgt := 2283) rfl dL_law_1855 ?_
    exact zb_sub [2, 3, 4, 5, 6] rfl (zb_wid (show k + 2 ≤ k + 4 ∧ n + 12 ≤ n + 24 by omega) (kk M1 N1 hrel))
  · have hq0 : ¬ nI q = 0 := by rw [show (0 : Int32) = nI 0 from rfl, p_eq (by omega) (by omega)]; exact hq
    refine zb_if_ne_t hC hq0 (tgt := 1855) rfl dL_law_1840 ?_
    refine zb_goto hC (tgt := 2283) rfl dL_law_1855 ?_
    exact zb_sub [2, 3, 4, 5, 6] rfl (zb_wid (show k + 2 ≤ k + 4 ∧ n + 12 ≤ n + 24 by omega) (kk M1 N1 hrel))
theorem dL_law_1858 : decode code 1858 = .ok (.aload_n 1, 1) := by decide +kernel
theorem dL_law_1859 : decode code 1859 = .ok (.aload_n 0, 1) := by decide +kernel
theorem dL_law_1860 : decode code 1860 = .ok (.iload 4, 2) := by decide +kernel
theorem dL_law_1862 : decode code 1862 = .ok (.iconst 1, 1) := by decide +kernel
theorem dL_law_1863 : decode code 1863 = .ok (.iadd, 1) := by decide +kernel
theorem dL_law_1864 : decode code 1864 = .ok (.iaload, 1) := by decide +kernel
theorem dL_law_1865 : decode code 1865 = .ok (.aload_n 3, 1) := by decide +kernel
theorem dL_law_1866 : decode code 1866 = .ok (.invokestatic 228, 3) := by decide +kernel
theorem dL_law_1869 : decode code 1869 = .ok (.istore 5, 2) := by decide +kernel
theorem dL_law_1871 : decode code 1871 = .ok (.aload_n 2, 1) := by decide +kernel
theorem dL_law_1872 : decode code 1872 = .ok (.aload_n 0, 1) := by decide +kernel
theorem dL_law_1873 : decode code 1873 = .ok (.iload 4, 2) := by decide +kernel
theorem dL_law_1875 : decode code 1875 = .ok (.iconst 1, 1) := by decide +kernel
theorem dL_law_1876 : decode code 1876 = .ok (.iadd, 1) := by decide +kernel
theorem dL_law_1877 : decode code 1877 = .ok (.iaload, 1) := by decide +kernel
theorem dL_law_1878 : decode code 1878 = .ok (.invokevirtual 230, 3) := by decide +kernel
theorem dL_law_1881 : decode code 1881 = .ok (.istore 6, 2) := by decide +kernel
theorem dL_law_1883 : decode code 1883 = .ok (.aload_n 2, 1) := by decide +kernel
theorem dL_law_1884 : decode code 1884 = .ok (.invokevirtual 116, 3) := by decide +kernel
theorem dL_law_1887 : decode code 1887 = .ok (.iload 5, 2) := by decide +kernel
theorem dL_law_1889 : decode code 1889 = .ok (.if_icmp .eq 5, 3) := by decide +kernel
theorem dL_law_1894 : decode code 1894 = .ok (.iload 5, 2) := by decide +kernel
theorem dL_law_1896 : decode code 1896 = .ok (.ifCond .ne 15, 3) := by decide +kernel
theorem dL_law_1899 : decode code 1899 = .ok (.aload_n 3, 1) := by decide +kernel
theorem dL_law_1900 : decode code 1900 = .ok (.iconst 0, 1) := by decide +kernel
theorem dL_law_1901 : decode code 1901 = .ok (.laload, 1) := by decide +kernel
theorem dL_law_1902 : decode code 1902 = .ok (.iload 6, 2) := by decide +kernel
theorem dL_law_1904 : decode code 1904 = .ok (.i2l, 1) := by decide +kernel
theorem dL_law_1905 : decode code 1905 = .ok (.lcmp, 1) := by decide +kernel
theorem dL_law_1906 : decode code 1906 = .ok (.ifCond .eq 5, 3) := by decide +kernel
theorem dL_law_1911 : decode code 1911 = .ok (.goto 372, 3) := by decide +kernel
/-- cut -/
theorem lc_32 {X : gX} {V V2 : gEnv} {b L t k n : Nat} {xs : Nat → Int32} {M N : gMem} (hC : zL X V V2 b L xs) (h : REL t M N) (hi : 6 * t + 6 ≤ L) (hL : L ≤ 3072) (hR : k + 4 ≤ 601024 ∧ n + 24 ≤ 7293034) (kk : ∀ M1 N1, REL (t + 1) M1 N1 → gB X V V2 M1 N1 (k + 4) (n + 24) 2283 (zLS V V2 b (6 * t)) []) : gB X V V2 M N k n 1858 (zLS V V2 b (6 * t)) [] := by
  obtain ⟨q, M1, bb, N1, e1, e2, hq2, hth, hout, hrel⟩ := st_cut h (xs (6 * t + 1))
  refine zb_aload_n hC 2 rfl rfl dL_law_1858 ?_
  refine zb_arg hC (a := 6 * t) (j := 1) (ja := 1) (jb := 0) rfl rfl rfl (by omega) hL dL_law_1859 dL_law_1860 dL_law_1862 dL_law_1863 dL_law_1864 ?_
  refine zb_aload_n hC 4 rfl rfl dL_law_1865 ?_
  refine zb_help hC LL_228 (kL_cut hC.2.2.2.2.2.2.2.2.2.2 e1) rfl rfl (Nat.le_of_ble_eq_true rfl) ⟨Nat.le_of_ble_eq_true rfl, Nat.le_of_ble_eq_true rfl⟩ (show k + 1 ≤ 601024 ∧ n + 6 ≤ 7293034 by omega) dL_law_1866 ?_
  refine zb_istore hC (by decide) rfl dL_law_1869 ?_
  refine zb_aload_n hC 4 rfl rfl dL_law_1871 ?_
  refine zb_arg hC (a := 6 * t) (j := 1) (ja := 2) (jb := 1) rfl rfl rfl (by omega) hL dL_law_1872 dL_law_1873 dL_law_1875 dL_law_1876 dL_law_1877 ?_
  refine zb_call2 hC LL_230 rfl (kX11_cut e2) rfl rfl (Nat.le_of_ble_eq_true rfl) ⟨Nat.le_of_ble_eq_true rfl, Nat.le_of_ble_eq_true rfl⟩ (show k + 1 ≤ 601024 ∧ n + 6 ≤ 7293034 by omega) dL_law_1878 ?_
  refine zb_istore hC (by decide) rfl dL_law_1881 ?_
  refine zb_aload_n hC 5 rfl rfl dL_law_1883 ?_
  refine zb_call2 hC LL_116 rfl (kX11_thrown (show fX11_thrown N1 = some (nI q) by rw [← hth]; rfl)) rfl rfl (Nat.le_of_ble_eq_true rfl) ⟨Nat.le_of_ble_eq_true rfl, Nat.le_of_ble_eq_true rfl⟩ (show k + 1 ≤ 601024 ∧ n + 6 ≤ 7293034 by omega) dL_law_1884 ?_
  refine zb_iload hC 1 rfl dL_law_1887 ?_
  refine zb_icmp_eq_t hC rfl (tgt := 1894) rfl dL_law_1889 ?_
  refine zb_iload hC 1 rfl dL_law_1894 ?_
  by_cases hq : q = 0
  · have hq0 : nI q = 0 := by rw [hq]; rfl
    refine zb_if_ne_f hC hq0 (tgt := 1911) rfl dL_law_1896 ?_
    refine zb_aload_n hC 6 rfl rfl dL_law_1899 ?_
    refine zb_iconst hC (v := 0) rfl dL_law_1900 ?_
    refine zb_out hC (hout hq) dL_law_1901 ?_
    refine zb_iload hC 0 rfl dL_law_1902 ?_
    refine zb_i2l hC dL_law_1904 ?_
    refine zb_lcmp hC dL_law_1905 ?_
    refine zb_if_eq_t hC (zcmp _) (tgt := 1911) rfl dL_law_1906 ?_
    refine zb_goto hC (tgt := 2283) rfl dL_law_1911 ?_
    exact zb_sub [2, 3, 4, 5, 6] rfl (zb_wid (show k + 1 ≤ k + 4 ∧ n + 6 ≤ n + 24 by omega) (kk M1 N1 hrel))
  · have hq0 : ¬ nI q = 0 := by rw [show (0 : Int32) = nI 0 from rfl, p_eq (by omega) (by omega)]; exact hq
    refine zb_if_ne_t hC hq0 (tgt := 1911) rfl dL_law_1896 ?_
    refine zb_goto hC (tgt := 2283) rfl dL_law_1911 ?_
    exact zb_sub [2, 3, 4, 5, 6] rfl (zb_wid (show k + 1 ≤ k + 4 ∧ n + 6 ≤ n + 24 by omega) (kk M1 N1 hrel))
theorem dL_law_1914 : decode code 1914 = .ok (.aload_n 1, 1) := by decide +kernel
theorem dL_law_1915 : decode code 1915 = .ok (.aload_n 0, 1) := by decide +kernel
theorem dL_law_1916 : decode code 1916 = .ok (.iload 4, 2) := by decide +kernel
theorem dL_law_1918 : decode code 1918 = .ok (.iconst 1, 1) := by decide +kernel
theorem dL_law_1919 : decode code 1919 = .ok (.iadd, 1) := by decide +kernel
theorem dL_law_1920 : decode code 1920 = .ok (.iaload, 1) := by decide +kernel
theorem dL_law_1921 : decode code 1921 = .ok (.aload_n 3, 1) := by decide +kernel
theorem dL_law_1922 : decode code 1922 = .ok (.invokestatic 231, 3) := by decide +kernel
theorem dL_law_1925 : decode code 1925 = .ok (.istore 5, 2) := by decide +kernel
theorem dL_law_1927 : decode code 1927 = .ok (.aload_n 2, 1) := by decide +kernel
theorem dL_law_1928 : decode code 1928 = .ok (.aload_n 0, 1) := by decide +kernel
theorem dL_law_1929 : decode code 1929 = .ok (.iload 4, 2) := by decide +kernel
theorem dL_law_1931 : decode code 1931 = .ok (.iconst 1, 1) := by decide +kernel
theorem dL_law_1932 : decode code 1932 = .ok (.iadd, 1) := by decide +kernel
theorem dL_law_1933 : decode code 1933 = .ok (.iaload, 1) := by decide +kernel
theorem dL_law_1934 : decode code 1934 = .ok (.invokevirtual 233, 3) := by decide +kernel
theorem dL_law_1937 : decode code 1937 = .ok (.istore 6, 2) := by decide +kernel
theorem dL_law_1939 : decode code 1939 = .ok (.aload_n 2, 1) := by decide +kernel
theorem dL_law_1940 : decode code 1940 = .ok (.invokevirtual 116, 3) := by decide +kernel
theorem dL_law_1943 : decode code 1943 = .ok (.iload 5, 2) := by decide +kernel
theorem dL_law_1945 : decode code 1945 = .ok (.if_icmp .eq 5, 3) := by decide +kernel
theorem dL_law_1950 : decode code 1950 = .ok (.iload 5, 2) := by decide +kernel
theorem dL_law_1952 : decode code 1952 = .ok (.ifCond .ne 15, 3) := by decide +kernel
theorem dL_law_1955 : decode code 1955 = .ok (.aload_n 3, 1) := by decide +kernel
theorem dL_law_1956 : decode code 1956 = .ok (.iconst 0, 1) := by decide +kernel
theorem dL_law_1957 : decode code 1957 = .ok (.laload, 1) := by decide +kernel
theorem dL_law_1958 : decode code 1958 = .ok (.iload 6, 2) := by decide +kernel
theorem dL_law_1960 : decode code 1960 = .ok (.i2l, 1) := by decide +kernel
theorem dL_law_1961 : decode code 1961 = .ok (.lcmp, 1) := by decide +kernel
theorem dL_law_1962 : decode code 1962 = .ok (.ifCond .eq 5, 3) := by decide +kernel
theorem dL_law_1967 : decode code 1967 = .ok (.goto 316, 3) := by decide +kernel
/-- swap -/
theorem lc_33 {X : gX} {V V2 : gEnv} {b L t k n : Nat} {xs : Nat → Int32} {M N : gMem} (hC : zL X V V2 b L xs) (h : REL t M N) (hi : 6 * t + 6 ≤ L) (hL : L ≤ 3072) (hR : k + 4 ≤ 601024 ∧ n + 24 ≤ 7293034) (kk : ∀ M1 N1, REL (t + 1) M1 N1 → gB X V V2 M1 N1 (k + 4) (n + 24) 2283 (zLS V V2 b (6 * t)) []) : gB X V V2 M N k n 1914 (zLS V V2 b (6 * t)) [] := by
  obtain ⟨q, M1, bb, N1, e1, e2, hq2, hth, hout, hrel⟩ := st_swap h (xs (6 * t + 1))
  refine zb_aload_n hC 2 rfl rfl dL_law_1914 ?_
  refine zb_arg hC (a := 6 * t) (j := 1) (ja := 1) (jb := 0) rfl rfl rfl (by omega) hL dL_law_1915 dL_law_1916 dL_law_1918 dL_law_1919 dL_law_1920 ?_
  refine zb_aload_n hC 4 rfl rfl dL_law_1921 ?_
  refine zb_help hC LL_231 (kL_swap hC.2.2.2.2.2.2.2.2.2.2 e1) rfl rfl (Nat.le_of_ble_eq_true rfl) ⟨Nat.le_of_ble_eq_true rfl, Nat.le_of_ble_eq_true rfl⟩ (show k + 1 ≤ 601024 ∧ n + 6 ≤ 7293034 by omega) dL_law_1922 ?_
  refine zb_istore hC (by decide) rfl dL_law_1925 ?_
  refine zb_aload_n hC 4 rfl rfl dL_law_1927 ?_
  refine zb_arg hC (a := 6 * t) (j := 1) (ja := 2) (jb := 1) rfl rfl rfl (by omega) hL dL_law_1928 dL_law_1929 dL_law_1931 dL_law_1932 dL_law_1933 ?_
  refine zb_call2 hC LL_233 rfl (kX11_swap e2) rfl rfl (Nat.le_of_ble_eq_true rfl) ⟨Nat.le_of_ble_eq_true rfl, Nat.le_of_ble_eq_true rfl⟩ (show k + 1 ≤ 601024 ∧ n + 6 ≤ 7293034 by omega) dL_law_1934 ?_
  refine zb_istore hC (by decide) rfl dL_law_1937 ?_
  refine zb_aload_n hC 5 rfl rfl dL_law_1939 ?_
  refine zb_call2 hC LL_116 rfl (kX11_thrown (show fX11_thrown N1 = some (nI q) by rw [← hth]; rfl)) rfl rfl (Nat.le_of_ble_eq_true rfl) ⟨Nat.le_of_ble_eq_true rfl, Nat.le_of_ble_eq_true rfl⟩ (show k + 1 ≤ 601024 ∧ n + 6 ≤ 7293034 by omega) dL_law_1940 ?_
  refine zb_iload hC 1 rfl dL_law_1943 ?_
  refine zb_icmp_eq_t hC rfl (tgt := 1950) rfl dL_law_1945 ?_
  refine zb_iload hC 1 rfl dL_law_1950 ?_
  by_cases hq : q = 0
  · have hq0 : nI q = 0 := by rw [hq]; rfl
    refine zb_if_ne_f hC hq0 (tgt := 1967) rfl dL_law_1952 ?_
    refine zb_aload_n hC 6 rfl rfl dL_law_1955 ?_
    refine zb_iconst hC (v := 0) rfl dL_law_1956 ?_
    refine zb_out hC (hout hq) dL_law_1957 ?_
    refine zb_iload hC 0 rfl dL_law_1958 ?_
    refine zb_i2l hC dL_law_1960 ?_
    refine zb_lcmp hC dL_law_1961 ?_
    refine zb_if_eq_t hC (zcmp _) (tgt := 1967) rfl dL_law_1962 ?_
    refine zb_goto hC (tgt := 2283) rfl dL_law_1967 ?_
    exact zb_sub [2, 3, 4, 5, 6] rfl (zb_wid (show k + 1 ≤ k + 4 ∧ n + 6 ≤ n + 24 by omega) (kk M1 N1 hrel))
  · have hq0 : ¬ nI q = 0 := by rw [show (0 : Int32) = nI 0 from rfl, p_eq (by omega) (by omega)]; exact hq
    refine zb_if_ne_t hC hq0 (tgt := 1967) rfl dL_law_1952 ?_
    refine zb_goto hC (tgt := 2283) rfl dL_law_1967 ?_
    exact zb_sub [2, 3, 4, 5, 6] rfl (zb_wid (show k + 1 ≤ k + 4 ∧ n + 6 ≤ n + 24 by omega) (kk M1 N1 hrel))
