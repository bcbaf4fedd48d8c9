/-! the law's cases, by program -/
theorem dL_law_1970 : decode code 1970 = .ok (.aload_n 1, 1) := by decide +kernel
theorem dL_law_1971 : decode code 1971 = .ok (.aload_n 0, 1) := by decide +kernel
theorem dL_law_1972 : decode code 1972 = .ok (.iload 4, 2) := by decide +kernel
theorem dL_law_1974 : decode code 1974 = .ok (.iconst 1, 1) := by decide +kernel
theorem dL_law_1975 : decode code 1975 = .ok (.iadd, 1) := by decide +kernel
theorem dL_law_1976 : decode code 1976 = .ok (.iaload, 1) := by decide +kernel
theorem dL_law_1977 : decode code 1977 = .ok (.aload_n 0, 1) := by decide +kernel
theorem dL_law_1978 : decode code 1978 = .ok (.iload 4, 2) := by decide +kernel
theorem dL_law_1980 : decode code 1980 = .ok (.iconst 2, 1) := by decide +kernel
theorem dL_law_1981 : decode code 1981 = .ok (.iadd, 1) := by decide +kernel
theorem dL_law_1982 : decode code 1982 = .ok (.iaload, 1) := by decide +kernel
theorem dL_law_1983 : decode code 1983 = .ok (.aload_n 3, 1) := by decide +kernel
theorem dL_law_1984 : decode code 1984 = .ok (.invokestatic 234, 3) := by decide +kernel
theorem dL_law_1987 : decode code 1987 = .ok (.istore 5, 2) := by decide +kernel
theorem dL_law_1989 : decode code 1989 = .ok (.aload_n 2, 1) := by decide +kernel
theorem dL_law_1990 : decode code 1990 = .ok (.aload_n 0, 1) := by decide +kernel
theorem dL_law_1991 : decode code 1991 = .ok (.iload 4, 2) := by decide +kernel
theorem dL_law_1993 : decode code 1993 = .ok (.iconst 1, 1) := by decide +kernel
theorem dL_law_1994 : decode code 1994 = .ok (.iadd, 1) := by decide +kernel
theorem dL_law_1995 : decode code 1995 = .ok (.iaload, 1) := by decide +kernel
theorem dL_law_1996 : decode code 1996 = .ok (.aload_n 0, 1) := by decide +kernel
theorem dL_law_1997 : decode code 1997 = .ok (.iload 4, 2) := by decide +kernel
theorem dL_law_1999 : decode code 1999 = .ok (.iconst 2, 1) := by decide +kernel
theorem dL_law_2000 : decode code 2000 = .ok (.iadd, 1) := by decide +kernel
theorem dL_law_2001 : decode code 2001 = .ok (.iaload, 1) := by decide +kernel
theorem dL_law_2002 : decode code 2002 = .ok (.invokevirtual 236, 3) := by decide +kernel
theorem dL_law_2005 : decode code 2005 = .ok (.istore 6, 2) := by decide +kernel
theorem dL_law_2007 : decode code 2007 = .ok (.aload_n 2, 1) := by decide +kernel
theorem dL_law_2008 : decode code 2008 = .ok (.invokevirtual 116, 3) := by decide +kernel
theorem dL_law_2011 : decode code 2011 = .ok (.iload 5, 2) := by decide +kernel
theorem dL_law_2013 : decode code 2013 = .ok (.if_icmp .eq 5, 3) := by decide +kernel
theorem dL_law_2018 : decode code 2018 = .ok (.iload 5, 2) := by decide +kernel
theorem dL_law_2020 : decode code 2020 = .ok (.ifCond .ne 15, 3) := by decide +kernel
theorem dL_law_2023 : decode code 2023 = .ok (.aload_n 3, 1) := by decide +kernel
theorem dL_law_2024 : decode code 2024 = .ok (.iconst 0, 1) := by decide +kernel
theorem dL_law_2025 : decode code 2025 = .ok (.laload, 1) := by decide +kernel
theorem dL_law_2026 : decode code 2026 = .ok (.iload 6, 2) := by decide +kernel
theorem dL_law_2028 : decode code 2028 = .ok (.i2l, 1) := by decide +kernel
theorem dL_law_2029 : decode code 2029 = .ok (.lcmp, 1) := by decide +kernel
theorem dL_law_2030 : decode code 2030 = .ok (.ifCond .eq 5, 3) := by decide +kernel
theorem dL_law_2035 : decode code 2035 = .ok (.goto 248, 3) := by decide +kernel
/-- setHours -/
theorem lc_34 {X : gX} {V V2 : gEnv} {b L t k n : Nat} {xs : Nat → Int32} {M N : gMem} (hC : zL X V V2 b L xs) (h : REL t M N) (hi : 6 * t + 6 ≤ L) (hL : L ≤ 3072) (hR : k + 4 ≤ 601024 ∧ n + 24 ≤ 7293034) (kk : ∀ M1 N1, REL (t + 1) M1 N1 → gB X V V2 M1 N1 (k + 4) (n + 24) 2283 (zLS V V2 b (6 * t)) []) : gB X V V2 M N k n 1970 (zLS V V2 b (6 * t)) [] := by
  obtain ⟨q, M1, bb, N1, e1, e2, hq2, hth, hout, hrel⟩ := st_setHours h (xs (6 * t + 1)) (xs (6 * t + 2))
  refine zb_aload_n hC 2 rfl rfl dL_law_1970 ?_
  refine zb_arg hC (a := 6 * t) (j := 1) (ja := 1) (jb := 0) rfl rfl rfl (by omega) hL dL_law_1971 dL_law_1972 dL_law_1974 dL_law_1975 dL_law_1976 ?_
  refine zb_arg hC (a := 6 * t) (j := 2) (ja := 1) (jb := 0) rfl rfl rfl (by omega) hL dL_law_1977 dL_law_1978 dL_law_1980 dL_law_1981 dL_law_1982 ?_
  refine zb_aload_n hC 4 rfl rfl dL_law_1983 ?_
  refine zb_help hC LL_234 (kL_setHours hC.2.2.2.2.2.2.2.2.2.2 e1) rfl rfl (Nat.le_of_ble_eq_true rfl) ⟨Nat.le_of_ble_eq_true rfl, Nat.le_of_ble_eq_true rfl⟩ (show k + 2 ≤ 601024 ∧ n + 12 ≤ 7293034 by omega) dL_law_1984 ?_
  refine zb_istore hC (by decide) rfl dL_law_1987 ?_
  refine zb_aload_n hC 4 rfl rfl dL_law_1989 ?_
  refine zb_arg hC (a := 6 * t) (j := 1) (ja := 2) (jb := 1) rfl rfl rfl (by omega) hL dL_law_1990 dL_law_1991 dL_law_1993 dL_law_1994 dL_law_1995 ?_
  refine zb_arg hC (a := 6 * t) (j := 2) (ja := 2) (jb := 1) rfl rfl rfl (by omega) hL dL_law_1996 dL_law_1997 dL_law_1999 dL_law_2000 dL_law_2001 ?_
  refine zb_call2 hC LL_236 rfl (kX11_setHours e2) rfl rfl (Nat.le_of_ble_eq_true rfl) ⟨Nat.le_of_ble_eq_true rfl, Nat.le_of_ble_eq_true rfl⟩ (show k + 2 ≤ 601024 ∧ n + 12 ≤ 7293034 by omega) dL_law_2002 ?_
  refine zb_istore hC (by decide) rfl dL_law_2005 ?_
  refine zb_aload_n hC 5 rfl rfl dL_law_2007 ?_
  refine zb_call2 hC LL_116 rfl (kX11_thrown (show fX11_thrown N1 = some (nI q) by rw [← hth]; rfl)) rfl rfl (Nat.le_of_ble_eq_true rfl) ⟨Nat.le_of_ble_eq_true rfl, Nat.le_of_ble_eq_true rfl⟩ (show k + 2 ≤ 601024 ∧ n + 12 ≤ 7293034 by omega) dL_law_2008 ?_
  refine zb_iload hC 1 rfl dL_law_2011 ?_
  refine zb_icmp_eq_t hC rfl (tgt := 2018) rfl dL_law_2013 ?_
  refine zb_iload hC 1 rfl dL_law_2018 ?_
  by_cases hq : q = 0
  · have hq0 : nI q = 0 := by rw [hq]; rfl
    refine zb_if_ne_f hC hq0 (tgt := 2035) rfl dL_law_2020 ?_
    refine zb_aload_n hC 6 rfl rfl dL_law_2023 ?_
    refine zb_iconst hC (v := 0) rfl dL_law_2024 ?_
    refine zb_out hC (hout hq) dL_law_2025 ?_
    refine zb_iload hC 0 rfl dL_law_2026 ?_
    refine zb_i2l hC dL_law_2028 ?_
    refine zb_lcmp hC dL_law_2029 ?_
    refine zb_if_eq_t hC (zcmp _) (tgt := 2035) rfl dL_law_2030 ?_
    refine zb_goto hC (tgt := 2283) rfl dL_law_2035 ?_
    exact zb_sub [2, 3, 4, 5, 6] rfl (zb_wid (show k + 2 ≤ k + 4 ∧ n + 12 ≤ n + 24 by omega) (kk M1 N1 hrel))
  · have hq0 : ¬ nI q = 0 := by rw [show (0 : Int32) = nI 0 from rfl, p_eq (by omega) (by omega)]; exact hq
    refine zb_if_ne_t hC hq0 (tgt := 2035) rfl dL_law_2020 ?_
    refine zb_goto hC (tgt := 2283) rfl dL_law_2035 ?_
    exact zb_sub [2, 3, 4, 5, 6] rfl (zb_wid (show k + 2 ≤ k + 4 ∧ n + 12 ≤ n + 24 by omega) (kk M1 N1 hrel))
theorem dL_law_2038 : decode code 2038 = .ok (.aload_n 1, 1) := by decide +kernel
theorem dL_law_2039 : decode code 2039 = .ok (.aload_n 0, 1) := by decide +kernel
theorem dL_law_2040 : decode code 2040 = .ok (.iload 4, 2) := by decide +kernel
theorem dL_law_2042 : decode code 2042 = .ok (.iconst 1, 1) := by decide +kernel
theorem dL_law_2043 : decode code 2043 = .ok (.iadd, 1) := by decide +kernel
theorem dL_law_2044 : decode code 2044 = .ok (.iaload, 1) := by decide +kernel
theorem dL_law_2045 : decode code 2045 = .ok (.aload_n 0, 1) := by decide +kernel
theorem dL_law_2046 : decode code 2046 = .ok (.iload 4, 2) := by decide +kernel
theorem dL_law_2048 : decode code 2048 = .ok (.iconst 2, 1) := by decide +kernel
theorem dL_law_2049 : decode code 2049 = .ok (.iadd, 1) := by decide +kernel
theorem dL_law_2050 : decode code 2050 = .ok (.iaload, 1) := by decide +kernel
theorem dL_law_2051 : decode code 2051 = .ok (.aload_n 3, 1) := by decide +kernel
theorem dL_law_2052 : decode code 2052 = .ok (.invokestatic 237, 3) := by decide +kernel
theorem dL_law_2055 : decode code 2055 = .ok (.istore 5, 2) := by decide +kernel
theorem dL_law_2057 : decode code 2057 = .ok (.aload_n 2, 1) := by decide +kernel
theorem dL_law_2058 : decode code 2058 = .ok (.aload_n 0, 1) := by decide +kernel
theorem dL_law_2059 : decode code 2059 = .ok (.iload 4, 2) := by decide +kernel
theorem dL_law_2061 : decode code 2061 = .ok (.iconst 1, 1) := by decide +kernel
theorem dL_law_2062 : decode code 2062 = .ok (.iadd, 1) := by decide +kernel
theorem dL_law_2063 : decode code 2063 = .ok (.iaload, 1) := by decide +kernel
theorem dL_law_2064 : decode code 2064 = .ok (.aload_n 0, 1) := by decide +kernel
theorem dL_law_2065 : decode code 2065 = .ok (.iload 4, 2) := by decide +kernel
theorem dL_law_2067 : decode code 2067 = .ok (.iconst 2, 1) := by decide +kernel
theorem dL_law_2068 : decode code 2068 = .ok (.iadd, 1) := by decide +kernel
theorem dL_law_2069 : decode code 2069 = .ok (.iaload, 1) := by decide +kernel
theorem dL_law_2070 : decode code 2070 = .ok (.invokevirtual 239, 3) := by decide +kernel
theorem dL_law_2073 : decode code 2073 = .ok (.istore 6, 2) := by decide +kernel
theorem dL_law_2075 : decode code 2075 = .ok (.aload_n 2, 1) := by decide +kernel
theorem dL_law_2076 : decode code 2076 = .ok (.invokevirtual 116, 3) := by decide +kernel
theorem dL_law_2079 : decode code 2079 = .ok (.iload 5, 2) := by decide +kernel
theorem dL_law_2081 : decode code 2081 = .ok (.if_icmp .eq 5, 3) := by decide +kernel
theorem dL_law_2086 : decode code 2086 = .ok (.iload 5, 2) := by decide +kernel
theorem dL_law_2088 : decode code 2088 = .ok (.ifCond .ne 15, 3) := by decide +kernel
theorem dL_law_2091 : decode code 2091 = .ok (.aload_n 3, 1) := by decide +kernel
theorem dL_law_2092 : decode code 2092 = .ok (.iconst 0, 1) := by decide +kernel
theorem dL_law_2093 : decode code 2093 = .ok (.laload, 1) := by decide +kernel
theorem dL_law_2094 : decode code 2094 = .ok (.iload 6, 2) := by decide +kernel
theorem dL_law_2096 : decode code 2096 = .ok (.i2l, 1) := by decide +kernel
theorem dL_law_2097 : decode code 2097 = .ok (.lcmp, 1) := by decide +kernel
theorem dL_law_2098 : decode code 2098 = .ok (.ifCond .eq 5, 3) := by decide +kernel
theorem dL_law_2103 : decode code 2103 = .ok (.goto 180, 3) := by decide +kernel
/-- set -/
theorem lc_35 {X : gX} {V V2 : gEnv} {b L t k n : Nat} {xs : Nat → Int32} {M N : gMem} (hC : zL X V V2 b L xs) (h : REL t M N) (hi : 6 * t + 6 ≤ L) (hL : L ≤ 3072) (hR : k + 4 ≤ 601024 ∧ n + 24 ≤ 7293034) (kk : ∀ M1 N1, REL (t + 1) M1 N1 → gB X V V2 M1 N1 (k + 4) (n + 24) 2283 (zLS V V2 b (6 * t)) []) : gB X V V2 M N k n 2038 (zLS V V2 b (6 * t)) [] := by
  obtain ⟨q, M1, bb, N1, e1, e2, hq2, hth, hout, hrel⟩ := st_set h (xs (6 * t + 1)) (xs (6 * t + 2))
  refine zb_aload_n hC 2 rfl rfl dL_law_2038 ?_
  refine zb_arg hC (a := 6 * t) (j := 1) (ja := 1) (jb := 0) rfl rfl rfl (by omega) hL dL_law_2039 dL_law_2040 dL_law_2042 dL_law_2043 dL_law_2044 ?_
  refine zb_arg hC (a := 6 * t) (j := 2) (ja := 1) (jb := 0) rfl rfl rfl (by omega) hL dL_law_2045 dL_law_2046 dL_law_2048 dL_law_2049 dL_law_2050 ?_
  refine zb_aload_n hC 4 rfl rfl dL_law_2051 ?_
  refine zb_help hC LL_237 (kL_set hC.2.2.2.2.2.2.2.2.2.2 e1) rfl rfl (Nat.le_of_ble_eq_true rfl) ⟨Nat.le_of_ble_eq_true rfl, Nat.le_of_ble_eq_true rfl⟩ (show k + 1 ≤ 601024 ∧ n + 6 ≤ 7293034 by omega) dL_law_2052 ?_
  refine zb_istore hC (by decide) rfl dL_law_2055 ?_
  refine zb_aload_n hC 4 rfl rfl dL_law_2057 ?_
  refine zb_arg hC (a := 6 * t) (j := 1) (ja := 2) (jb := 1) rfl rfl rfl (by omega) hL dL_law_2058 dL_law_2059 dL_law_2061 dL_law_2062 dL_law_2063 ?_
  refine zb_arg hC (a := 6 * t) (j := 2) (ja := 2) (jb := 1) rfl rfl rfl (by omega) hL dL_law_2064 dL_law_2065 dL_law_2067 dL_law_2068 dL_law_2069 ?_
  refine zb_call2 hC LL_239 rfl (kX11_set e2) rfl rfl (Nat.le_of_ble_eq_true rfl) ⟨Nat.le_of_ble_eq_true rfl, Nat.le_of_ble_eq_true rfl⟩ (show k + 1 ≤ 601024 ∧ n + 6 ≤ 7293034 by omega) dL_law_2070 ?_
  refine zb_istore hC (by decide) rfl dL_law_2073 ?_
  refine zb_aload_n hC 5 rfl rfl dL_law_2075 ?_
  refine zb_call2 hC LL_116 rfl (kX11_thrown (show fX11_thrown N1 = some (nI q) by rw [← hth]; rfl)) rfl rfl (Nat.le_of_ble_eq_true rfl) ⟨Nat.le_of_ble_eq_true rfl, Nat.le_of_ble_eq_true rfl⟩ (show k + 1 ≤ 601024 ∧ n + 6 ≤ 7293034 by omega) dL_law_2076 ?_
  refine zb_iload hC 1 rfl dL_law_2079 ?_
  refine zb_icmp_eq_t hC rfl (tgt := 2086) rfl dL_law_2081 ?_
  refine zb_iload hC 1 rfl dL_law_2086 ?_
  by_cases hq : q = 0
  · have hq0 : nI q = 0 := by rw [hq]; rfl
    refine zb_if_ne_f hC hq0 (tgt := 2103) rfl dL_law_2088 ?_
    refine zb_aload_n hC 6 rfl rfl dL_law_2091 ?_
    refine zb_iconst hC (v := 0) rfl dL_law_2092 ?_
    refine zb_out hC (hout hq) dL_law_2093 ?_
    refine zb_iload hC 0 rfl dL_law_2094 ?_
    refine zb_i2l hC dL_law_2096 ?_
    refine zb_lcmp hC dL_law_2097 ?_
    refine zb_if_eq_t hC (zcmp _) (tgt := 2103) rfl dL_law_2098 ?_
    refine zb_goto hC (tgt := 2283) rfl dL_law_2103 ?_
    exact zb_sub [2, 3, 4, 5, 6] rfl (zb_wid (show k + 1 ≤ k + 4 ∧ n + 6 ≤ n + 24 by omega) (kk M1 N1 hrel))
  · have hq0 : ¬ nI q = 0 := by rw [show (0 : Int32) = nI 0 from rfl, p_eq (by omega) (by omega)]; exact hq
    refine zb_if_ne_t hC hq0 (tgt := 2103) rfl dL_law_2088 ?_
    refine zb_goto hC (tgt := 2283) rfl dL_law_2103 ?_
    exact zb_sub [2, 3, 4, 5, 6] rfl (zb_wid (show k + 1 ≤ k + 4 ∧ n + 6 ≤ n + 24 by omega) (kk M1 N1 hrel))
theorem dL_law_2106 : decode code 2106 = .ok (.aload_n 1, 1) := by decide +kernel
theorem dL_law_2107 : decode code 2107 = .ok (.invokevirtual 240, 3) := by decide +kernel
theorem dL_law_2110 : decode code 2110 = .ok (.aload_n 2, 1) := by decide +kernel
theorem dL_law_2111 : decode code 2111 = .ok (.invokevirtual 243, 3) := by decide +kernel
theorem dL_law_2114 : decode code 2114 = .ok (.if_icmp .eq 169, 3) := by decide +kernel
/-- refresh -/
theorem lc_36 {X : gX} {V V2 : gEnv} {b L t k n : Nat} {xs : Nat → Int32} {M N : gMem} (hC : zL X V V2 b L xs) (h : REL t M N) (hi : 6 * t + 6 ≤ L) (hL : L ≤ 3072) (hR : k + 4 ≤ 601024 ∧ n + 24 ≤ 7293034) (kk : ∀ M1 N1, REL (t + 1) M1 N1 → gB X V V2 M1 N1 (k + 4) (n + 24) 2283 (zLS V V2 b (6 * t)) []) : gB X V V2 M N k n 2106 (zLS V V2 b (6 * t)) [] := by
  obtain ⟨v, M1, N1, e1, e2, hrel⟩ := st_refresh h
  refine zb_aload_n hC 2 rfl rfl dL_law_2106 ?_
  refine zb_call1 hC LL_240 rfl (kX10_refresh e1) rfl rfl (Nat.le_of_ble_eq_true rfl) ⟨Nat.le_of_ble_eq_true rfl, Nat.le_of_ble_eq_true rfl⟩ (show k + 0 ≤ 601024 ∧ n + 0 ≤ 7293034 by omega) dL_law_2107 ?_
  refine zb_aload_n hC 3 rfl rfl dL_law_2110 ?_
  refine zb_call2 hC LL_243 rfl (kX11_refresh e2) rfl rfl (Nat.le_of_ble_eq_true rfl) ⟨Nat.le_of_ble_eq_true rfl, Nat.le_of_ble_eq_true rfl⟩ (show k + 0 ≤ 601024 ∧ n + 0 ≤ 7293034 by omega) dL_law_2111 ?_
  refine zb_icmp_eq_t hC rfl (tgt := 2283) rfl dL_law_2114 ?_
  exact zb_sub [0, 1, 2, 3, 4] rfl (zb_wid (show k + 0 ≤ k + 4 ∧ n + 0 ≤ n + 24 by omega) (kk M1 N1 hrel))
theorem dL_law_2119 : decode code 2119 = .ok (.aload_n 1, 1) := by decide +kernel
theorem dL_law_2120 : decode code 2120 = .ok (.invokevirtual 244, 3) := by decide +kernel
theorem dL_law_2123 : decode code 2123 = .ok (.aload_n 2, 1) := by decide +kernel
theorem dL_law_2124 : decode code 2124 = .ok (.invokevirtual 247, 3) := by decide +kernel
theorem dL_law_2127 : decode code 2127 = .ok (.if_icmp .eq 156, 3) := by decide +kernel
/-- writeOrder -/
theorem lc_37 {X : gX} {V V2 : gEnv} {b L t k n : Nat} {xs : Nat → Int32} {M N : gMem} (hC : zL X V V2 b L xs) (h : REL t M N) (hi : 6 * t + 6 ≤ L) (hL : L ≤ 3072) (hR : k + 4 ≤ 601024 ∧ n + 24 ≤ 7293034) (kk : ∀ M1 N1, REL (t + 1) M1 N1 → gB X V V2 M1 N1 (k + 4) (n + 24) 2283 (zLS V V2 b (6 * t)) []) : gB X V V2 M N k n 2119 (zLS V V2 b (6 * t)) [] := by
  obtain ⟨v, M1, N1, e1, e2, hrel⟩ := st_writeOrder h
  refine zb_aload_n hC 2 rfl rfl dL_law_2119 ?_
  refine zb_call1 hC LL_244 rfl (kX10_writeOrder e1) rfl rfl (Nat.le_of_ble_eq_true rfl) ⟨Nat.le_of_ble_eq_true rfl, Nat.le_of_ble_eq_true rfl⟩ (show k + 0 ≤ 601024 ∧ n + 0 ≤ 7293034 by omega) dL_law_2120 ?_
  refine zb_aload_n hC 3 rfl rfl dL_law_2123 ?_
  refine zb_call2 hC LL_247 rfl (kX11_writeOrder e2) rfl rfl (Nat.le_of_ble_eq_true rfl) ⟨Nat.le_of_ble_eq_true rfl, Nat.le_of_ble_eq_true rfl⟩ (show k + 0 ≤ 601024 ∧ n + 0 ≤ 7293034 by omega) dL_law_2124 ?_
  refine zb_icmp_eq_t hC rfl (tgt := 2283) rfl dL_law_2127 ?_
  exact zb_sub [0, 1, 2, 3, 4] rfl (zb_wid (show k + 0 ≤ k + 4 ∧ n + 0 ≤ n + 24 by omega) (kk M1 N1 (REL_mono hrel (Nat.le_succ t))))
