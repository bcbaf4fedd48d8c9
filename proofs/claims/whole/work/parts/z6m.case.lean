/-! the law's cases, by program -/
theorem dL_law_2132 : decode code 2132 = .ok (.aload_n 1, 1) := by decide +kernel
theorem dL_law_2133 : decode code 2133 = .ok (.aload_n 0, 1) := by decide +kernel
theorem dL_law_2134 : decode code 2134 = .ok (.iload 4, 2) := by decide +kernel
theorem dL_law_2136 : decode code 2136 = .ok (.iconst 1, 1) := by decide +kernel
theorem dL_law_2137 : decode code 2137 = .ok (.iadd, 1) := by decide +kernel
theorem dL_law_2138 : decode code 2138 = .ok (.iaload, 1) := by decide +kernel
theorem dL_law_2139 : decode code 2139 = .ok (.aload_n 3, 1) := by decide +kernel
theorem dL_law_2140 : decode code 2140 = .ok (.invokestatic 248, 3) := by decide +kernel
theorem dL_law_2143 : decode code 2143 = .ok (.istore 5, 2) := by decide +kernel
theorem dL_law_2145 : decode code 2145 = .ok (.aload_n 2, 1) := by decide +kernel
theorem dL_law_2146 : decode code 2146 = .ok (.aload_n 0, 1) := by decide +kernel
theorem dL_law_2147 : decode code 2147 = .ok (.iload 4, 2) := by decide +kernel
theorem dL_law_2149 : decode code 2149 = .ok (.iconst 1, 1) := by decide +kernel
theorem dL_law_2150 : decode code 2150 = .ok (.iadd, 1) := by decide +kernel
theorem dL_law_2151 : decode code 2151 = .ok (.iaload, 1) := by decide +kernel
theorem dL_law_2152 : decode code 2152 = .ok (.invokevirtual 250, 3) := by decide +kernel
theorem dL_law_2155 : decode code 2155 = .ok (.istore 6, 2) := by decide +kernel
theorem dL_law_2157 : decode code 2157 = .ok (.aload_n 2, 1) := by decide +kernel
theorem dL_law_2158 : decode code 2158 = .ok (.invokevirtual 116, 3) := by decide +kernel
theorem dL_law_2161 : decode code 2161 = .ok (.iload 5, 2) := by decide +kernel
theorem dL_law_2163 : decode code 2163 = .ok (.if_icmp .eq 5, 3) := by decide +kernel
theorem dL_law_2168 : decode code 2168 = .ok (.iload 5, 2) := by decide +kernel
theorem dL_law_2170 : decode code 2170 = .ok (.ifCond .ne 15, 3) := by decide +kernel
theorem dL_law_2173 : decode code 2173 = .ok (.aload_n 3, 1) := by decide +kernel
theorem dL_law_2174 : decode code 2174 = .ok (.iconst 0, 1) := by decide +kernel
theorem dL_law_2175 : decode code 2175 = .ok (.laload, 1) := by decide +kernel
theorem dL_law_2176 : decode code 2176 = .ok (.iload 6, 2) := by decide +kernel
theorem dL_law_2178 : decode code 2178 = .ok (.i2l, 1) := by decide +kernel
theorem dL_law_2179 : decode code 2179 = .ok (.lcmp, 1) := by decide +kernel
theorem dL_law_2180 : decode code 2180 = .ok (.ifCond .eq 5, 3) := by decide +kernel
theorem dL_law_2185 : decode code 2185 = .ok (.goto 98, 3) := by decide +kernel
/-- writeArrows -/
theorem lc_38 {X : gX} {V V2 : gEnv} {b L t k n : Nat} {xs : Nat → Int32} {M N : gMem} (hC : zL X V V2 b L xs) (h : REL t M N) (hi : 6 * t + 6 ≤ L) (hL : L ≤ 3072) (hR : k + 4 ≤ 601024 ∧ n + 24 ≤ 7293034) (kk : ∀ M1 N1, REL (t + 1) M1 N1 → gB X V V2 M1 N1 (k + 4) (n + 24) 2283 (zLS V V2 b (6 * t)) []) : gB X V V2 M N k n 2132 (zLS V V2 b (6 * t)) [] := by
  obtain ⟨q, M1, bb, N1, e1, e2, hq2, hth, hout, hrel⟩ := st_writeArrows h (xs (6 * t + 1))
  refine zb_aload_n hC 2 rfl rfl dL_law_2132 ?_
  refine zb_arg hC (a := 6 * t) (j := 1) (ja := 1) (jb := 0) rfl rfl rfl (by omega) hL dL_law_2133 dL_law_2134 dL_law_2136 dL_law_2137 dL_law_2138 ?_
  refine zb_aload_n hC 4 rfl rfl dL_law_2139 ?_
  refine zb_help hC LL_248 (kL_writeArrows hC.2.2.2.2.2.2.2.2.2.2 e1) rfl rfl (Nat.le_of_ble_eq_true rfl) ⟨Nat.le_of_ble_eq_true rfl, Nat.le_of_ble_eq_true rfl⟩ (show k + 1 ≤ 601024 ∧ n + 6 ≤ 7293034 by omega) dL_law_2140 ?_
  refine zb_istore hC (by decide) rfl dL_law_2143 ?_
  refine zb_aload_n hC 4 rfl rfl dL_law_2145 ?_
  refine zb_arg hC (a := 6 * t) (j := 1) (ja := 2) (jb := 1) rfl rfl rfl (by omega) hL dL_law_2146 dL_law_2147 dL_law_2149 dL_law_2150 dL_law_2151 ?_
  refine zb_call2 hC LL_250 rfl (kX11_writeArrows e2) rfl rfl (Nat.le_of_ble_eq_true rfl) ⟨Nat.le_of_ble_eq_true rfl, Nat.le_of_ble_eq_true rfl⟩ (show k + 1 ≤ 601024 ∧ n + 6 ≤ 7293034 by omega) dL_law_2152 ?_
  refine zb_istore hC (by decide) rfl dL_law_2155 ?_
  refine zb_aload_n hC 5 rfl rfl dL_law_2157 ?_
  refine zb_call2 hC LL_116 rfl (kX11_thrown (show fX11_thrown N1 = some (nI q) by rw [← hth]; rfl)) rfl rfl (Nat.le_of_ble_eq_true rfl) ⟨Nat.le_of_ble_eq_true rfl, Nat.le_of_ble_eq_true rfl⟩ (show k + 1 ≤ 601024 ∧ n + 6 ≤ 7293034 by omega) dL_law_2158 ?_
  refine zb_iload hC 1 rfl dL_law_2161 ?_
  refine zb_icmp_eq_t hC rfl (tgt := 2168) rfl dL_law_2163 ?_
  refine zb_iload hC 1 rfl dL_law_2168 ?_
  by_cases hq : q = 0
  · have hq0 : nI q = 0 := by rw [hq]; rfl
    refine zb_if_ne_f hC hq0 (tgt := 2185) rfl dL_law_2170 ?_
    refine zb_aload_n hC 6 rfl rfl dL_law_2173 ?_
    refine zb_iconst hC (v := 0) rfl dL_law_2174 ?_
    refine zb_out hC (hout hq) dL_law_2175 ?_
    refine zb_iload hC 0 rfl dL_law_2176 ?_
    refine zb_i2l hC dL_law_2178 ?_
    refine zb_lcmp hC dL_law_2179 ?_
    refine zb_if_eq_t hC (zcmp _) (tgt := 2185) rfl dL_law_2180 ?_
    refine zb_goto hC (tgt := 2283) rfl dL_law_2185 ?_
    exact zb_sub [2, 3, 4, 5, 6] rfl (zb_wid (show k + 1 ≤ k + 4 ∧ n + 6 ≤ n + 24 by omega) (kk M1 N1 (REL_mono hrel (Nat.le_succ t))))
  · have hq0 : ¬ nI q = 0 := by rw [show (0 : Int32) = nI 0 from rfl, p_eq (by omega) (by omega)]; exact hq
    refine zb_if_ne_t hC hq0 (tgt := 2185) rfl dL_law_2170 ?_
    refine zb_goto hC (tgt := 2283) rfl dL_law_2185 ?_
    exact zb_sub [2, 3, 4, 5, 6] rfl (zb_wid (show k + 1 ≤ k + 4 ∧ n + 6 ≤ n + 24 by omega) (kk M1 N1 (REL_mono hrel (Nat.le_succ t))))
theorem dL_law_2188 : decode code 2188 = .ok (.aload_n 1, 1) := by decide +kernel
theorem dL_law_2189 : decode code 2189 = .ok (.aload_n 0, 1) := by decide +kernel
theorem dL_law_2190 : decode code 2190 = .ok (.iload 4, 2) := by decide +kernel
theorem dL_law_2192 : decode code 2192 = .ok (.iconst 1, 1) := by decide +kernel
theorem dL_law_2193 : decode code 2193 = .ok (.iadd, 1) := by decide +kernel
theorem dL_law_2194 : decode code 2194 = .ok (.iaload, 1) := by decide +kernel
theorem dL_law_2195 : decode code 2195 = .ok (.invokevirtual 251, 3) := by decide +kernel
theorem dL_law_2198 : decode code 2198 = .ok (.aload_n 2, 1) := by decide +kernel
theorem dL_law_2199 : decode code 2199 = .ok (.aload_n 0, 1) := by decide +kernel
theorem dL_law_2200 : decode code 2200 = .ok (.iload 4, 2) := by decide +kernel
theorem dL_law_2202 : decode code 2202 = .ok (.iconst 1, 1) := by decide +kernel
theorem dL_law_2203 : decode code 2203 = .ok (.iadd, 1) := by decide +kernel
theorem dL_law_2204 : decode code 2204 = .ok (.iaload, 1) := by decide +kernel
theorem dL_law_2205 : decode code 2205 = .ok (.invokevirtual 254, 3) := by decide +kernel
theorem dL_law_2208 : decode code 2208 = .ok (.if_icmp .eq 75, 3) := by decide +kernel
/-- outputByte -/
theorem lc_39 {X : gX} {V V2 : gEnv} {b L t k n : Nat} {xs : Nat → Int32} {M N : gMem} (hC : zL X V V2 b L xs) (h : REL t M N) (hi : 6 * t + 6 ≤ L) (hL : L ≤ 3072) (hR : k + 4 ≤ 601024 ∧ n + 24 ≤ 7293034) (kk : ∀ M1 N1, REL (t + 1) M1 N1 → gB X V V2 M1 N1 (k + 4) (n + 24) 2283 (zLS V V2 b (6 * t)) []) : gB X V V2 M N k n 2188 (zLS V V2 b (6 * t)) [] := by
  obtain ⟨v, M1, N1, e1, e2, hrel⟩ := st_outputByte h (xs (6 * t + 1))
  obtain ⟨e0, rfl⟩ := zbd e1
  refine zb_aload_n hC 2 rfl rfl dL_law_2188 ?_
  refine zb_arg hC (a := 6 * t) (j := 1) (ja := 1) (jb := 0) rfl rfl rfl (by omega) hL dL_law_2189 dL_law_2190 dL_law_2192 dL_law_2193 dL_law_2194 ?_
  refine zb_call1 hC LL_251 rfl (kX10_outputByte e0) rfl rfl (Nat.le_of_ble_eq_true rfl) ⟨Nat.le_of_ble_eq_true rfl, Nat.le_of_ble_eq_true rfl⟩ (show k + 0 ≤ 601024 ∧ n + 0 ≤ 7293034 by omega) dL_law_2195 ?_
  refine zb_aload_n hC 3 rfl rfl dL_law_2198 ?_
  refine zb_arg hC (a := 6 * t) (j := 1) (ja := 1) (jb := 0) rfl rfl rfl (by omega) hL dL_law_2199 dL_law_2200 dL_law_2202 dL_law_2203 dL_law_2204 ?_
  refine zb_call2 hC LL_254 rfl (kX11_outputByte e2) rfl rfl (Nat.le_of_ble_eq_true rfl) ⟨Nat.le_of_ble_eq_true rfl, Nat.le_of_ble_eq_true rfl⟩ (show k + 0 ≤ 601024 ∧ n + 0 ≤ 7293034 by omega) dL_law_2205 ?_
  refine zb_icmp_eq_t hC rfl (tgt := 2283) rfl dL_law_2208 ?_
  exact zb_sub [0, 1, 2, 3, 4] rfl (zb_wid (show k + 0 ≤ k + 4 ∧ n + 0 ≤ n + 24 by omega) (kk M N1 (REL_mono hrel (Nat.le_succ t))))
theorem dL_law_2213 : decode code 2213 = .ok (.aload_n 1, 1) := by decide +kernel
theorem dL_law_2214 : decode code 2214 = .ok (.invokevirtual 255, 3) := by decide +kernel
theorem dL_law_2217 : decode code 2217 = .ok (.aload_n 2, 1) := by decide +kernel
theorem dL_law_2218 : decode code 2218 = .ok (.invokevirtual 258, 3) := by decide +kernel
theorem dL_law_2221 : decode code 2221 = .ok (.if_icmp .eq 62, 3) := by decide +kernel
/-- undo -/
theorem lc_40 {X : gX} {V V2 : gEnv} {b L t k n : Nat} {xs : Nat → Int32} {M N : gMem} (hC : zL X V V2 b L xs) (h : REL t M N) (hi : 6 * t + 6 ≤ L) (hL : L ≤ 3072) (hR : k + 4 ≤ 601024 ∧ n + 24 ≤ 7293034) (kk : ∀ M1 N1, REL (t + 1) M1 N1 → gB X V V2 M1 N1 (k + 4) (n + 24) 2283 (zLS V V2 b (6 * t)) []) : gB X V V2 M N k n 2213 (zLS V V2 b (6 * t)) [] := by
  obtain ⟨v, M1, N1, e1, e2, hrel⟩ := st_undo h
  refine zb_aload_n hC 2 rfl rfl dL_law_2213 ?_
  refine zb_call1 hC LL_255 rfl (kX10_undo e1) rfl rfl (Nat.le_of_ble_eq_true rfl) ⟨Nat.le_of_ble_eq_true rfl, Nat.le_of_ble_eq_true rfl⟩ (show k + 0 ≤ 601024 ∧ n + 0 ≤ 7293034 by omega) dL_law_2214 ?_
  refine zb_aload_n hC 3 rfl rfl dL_law_2217 ?_
  refine zb_call2 hC LL_258 rfl (kX11_undo e2) rfl rfl (Nat.le_of_ble_eq_true rfl) ⟨Nat.le_of_ble_eq_true rfl, Nat.le_of_ble_eq_true rfl⟩ (show k + 0 ≤ 601024 ∧ n + 0 ≤ 7293034 by omega) dL_law_2218 ?_
  refine zb_icmp_eq_t hC rfl (tgt := 2283) rfl dL_law_2221 ?_
  exact zb_sub [0, 1, 2, 3, 4] rfl (zb_wid (show k + 0 ≤ k + 4 ∧ n + 0 ≤ n + 24 by omega) (kk M1 N1 (REL_mono hrel (Nat.le_succ t))))
theorem dL_law_2226 : decode code 2226 = .ok (.aload_n 1, 1) := by decide +kernel
theorem dL_law_2227 : decode code 2227 = .ok (.invokevirtual 259, 3) := by decide +kernel
theorem dL_law_2230 : decode code 2230 = .ok (.aload_n 2, 1) := by decide +kernel
theorem dL_law_2231 : decode code 2231 = .ok (.invokevirtual 262, 3) := by decide +kernel
theorem dL_law_2234 : decode code 2234 = .ok (.if_icmp .eq 49, 3) := by decide +kernel
/-- save -/
theorem lc_41 {X : gX} {V V2 : gEnv} {b L t k n : Nat} {xs : Nat → Int32} {M N : gMem} (hC : zL X V V2 b L xs) (h : REL t M N) (hi : 6 * t + 6 ≤ L) (hL : L ≤ 3072) (hR : k + 4 ≤ 601024 ∧ n + 24 ≤ 7293034) (kk : ∀ M1 N1, REL (t + 1) M1 N1 → gB X V V2 M1 N1 (k + 4) (n + 24) 2283 (zLS V V2 b (6 * t)) []) : gB X V V2 M N k n 2226 (zLS V V2 b (6 * t)) [] := by
  obtain ⟨v, M1, N1, e1, e2, hrel⟩ := st_save h
  refine zb_aload_n hC 2 rfl rfl dL_law_2226 ?_
  refine zb_call1 hC LL_259 rfl (kX10_save e1) rfl rfl (Nat.le_of_ble_eq_true rfl) ⟨Nat.le_of_ble_eq_true rfl, Nat.le_of_ble_eq_true rfl⟩ (show k + 0 ≤ 601024 ∧ n + 0 ≤ 7293034 by omega) dL_law_2227 ?_
  refine zb_aload_n hC 3 rfl rfl dL_law_2230 ?_
  refine zb_call2 hC LL_262 rfl (kX11_save e2) rfl rfl (Nat.le_of_ble_eq_true rfl) ⟨Nat.le_of_ble_eq_true rfl, Nat.le_of_ble_eq_true rfl⟩ (show k + 0 ≤ 601024 ∧ n + 0 ≤ 7293034 by omega) dL_law_2231 ?_
  refine zb_icmp_eq_t hC rfl (tgt := 2283) rfl dL_law_2234 ?_
  exact zb_sub [0, 1, 2, 3, 4] rfl (zb_wid (show k + 0 ≤ k + 4 ∧ n + 0 ≤ n + 24 by omega) (kk M1 N1 (REL_mono hrel (Nat.le_succ t))))
theorem dL_law_2239 : decode code 2239 = .ok (.aload_n 1, 1) := by decide +kernel
theorem dL_law_2240 : decode code 2240 = .ok (.aload_n 3, 1) := by decide +kernel
theorem dL_law_2241 : decode code 2241 = .ok (.invokestatic 263, 3) := by decide +kernel
theorem dL_law_2244 : decode code 2244 = .ok (.istore 5, 2) := by decide +kernel
theorem dL_law_2246 : decode code 2246 = .ok (.aload_n 2, 1) := by decide +kernel
theorem dL_law_2247 : decode code 2247 = .ok (.invokevirtual 265, 3) := by decide +kernel
theorem dL_law_2250 : decode code 2250 = .ok (.istore 6, 2) := by decide +kernel
theorem dL_law_2252 : decode code 2252 = .ok (.aload_n 2, 1) := by decide +kernel
theorem dL_law_2253 : decode code 2253 = .ok (.invokevirtual 116, 3) := by decide +kernel
theorem dL_law_2256 : decode code 2256 = .ok (.iload 5, 2) := by decide +kernel
theorem dL_law_2258 : decode code 2258 = .ok (.if_icmp .eq 5, 3) := by decide +kernel
theorem dL_law_2263 : decode code 2263 = .ok (.iload 5, 2) := by decide +kernel
theorem dL_law_2265 : decode code 2265 = .ok (.ifCond .ne 15, 3) := by decide +kernel
theorem dL_law_2268 : decode code 2268 = .ok (.aload_n 3, 1) := by decide +kernel
theorem dL_law_2269 : decode code 2269 = .ok (.iconst 0, 1) := by decide +kernel
theorem dL_law_2270 : decode code 2270 = .ok (.laload, 1) := by decide +kernel
theorem dL_law_2271 : decode code 2271 = .ok (.iload 6, 2) := by decide +kernel
theorem dL_law_2273 : decode code 2273 = .ok (.i2l, 1) := by decide +kernel
theorem dL_law_2274 : decode code 2274 = .ok (.lcmp, 1) := by decide +kernel
theorem dL_law_2275 : decode code 2275 = .ok (.ifCond .eq 5, 3) := by decide +kernel
theorem dL_law_2280 : decode code 2280 = .ok (.goto 3, 3) := by decide +kernel
/-- restore -/
theorem lc_42 {X : gX} {V V2 : gEnv} {b L t k n : Nat} {xs : Nat → Int32} {M N : gMem} (hC : zL X V V2 b L xs) (h : REL t M N) (hi : 6 * t + 6 ≤ L) (hL : L ≤ 3072) (hR : k + 4 ≤ 601024 ∧ n + 24 ≤ 7293034) (kk : ∀ M1 N1, REL (t + 1) M1 N1 → gB X V V2 M1 N1 (k + 4) (n + 24) 2283 (zLS V V2 b (6 * t)) []) : gB X V V2 M N k n 2239 (zLS V V2 b (6 * t)) [] := by
  obtain ⟨q, M1, bb, N1, e1, e2, hq2, hth, hout, hrel⟩ := st_restore h
  refine zb_aload_n hC 2 rfl rfl dL_law_2239 ?_
  refine zb_aload_n hC 4 rfl rfl dL_law_2240 ?_
  refine zb_help hC LL_263 (kL_restore hC.2.2.2.2.2.2.2.2.2.2 e1) rfl rfl (Nat.le_of_ble_eq_true rfl) ⟨Nat.le_of_ble_eq_true rfl, Nat.le_of_ble_eq_true rfl⟩ (show k + 1 ≤ 601024 ∧ n + 6 ≤ 7293034 by omega) dL_law_2241 ?_
  refine zb_istore hC (by decide) rfl dL_law_2244 ?_
  refine zb_aload_n hC 4 rfl rfl dL_law_2246 ?_
  refine zb_call2 hC LL_265 rfl (kX11_restore e2) rfl rfl (Nat.le_of_ble_eq_true rfl) ⟨Nat.le_of_ble_eq_true rfl, Nat.le_of_ble_eq_true rfl⟩ (show k + 1 ≤ 601024 ∧ n + 6 ≤ 7293034 by omega) dL_law_2247 ?_
  refine zb_istore hC (by decide) rfl dL_law_2250 ?_
  refine zb_aload_n hC 5 rfl rfl dL_law_2252 ?_
  refine zb_call2 hC LL_116 rfl (kX11_thrown (show fX11_thrown N1 = some (nI q) by rw [← hth]; rfl)) rfl rfl (Nat.le_of_ble_eq_true rfl) ⟨Nat.le_of_ble_eq_true rfl, Nat.le_of_ble_eq_true rfl⟩ (show k + 1 ≤ 601024 ∧ n + 6 ≤ 7293034 by omega) dL_law_2253 ?_
  refine zb_iload hC 1 rfl dL_law_2256 ?_
  refine zb_icmp_eq_t hC rfl (tgt := 2263) rfl dL_law_2258 ?_
  refine zb_iload hC 1 rfl dL_law_2263 ?_
  by_cases hq : q = 0
  · have hq0 : nI q = 0 := by rw [hq]; rfl
    refine zb_if_ne_f hC hq0 (tgt := 2280) rfl dL_law_2265 ?_
    refine zb_aload_n hC 6 rfl rfl dL_law_2268 ?_
    refine zb_iconst hC (v := 0) rfl dL_law_2269 ?_
    refine zb_out hC (hout hq) dL_law_2270 ?_
    refine zb_iload hC 0 rfl dL_law_2271 ?_
    refine zb_i2l hC dL_law_2273 ?_
    refine zb_lcmp hC dL_law_2274 ?_
    refine zb_if_eq_t hC (zcmp _) (tgt := 2280) rfl dL_law_2275 ?_
    refine zb_goto hC (tgt := 2283) rfl dL_law_2280 ?_
    exact zb_sub [2, 3, 4, 5, 6] rfl (zb_wid (show k + 1 ≤ k + 4 ∧ n + 6 ≤ n + 24 by omega) (kk M1 N1 (REL_mono hrel (Nat.le_succ t))))
  · have hq0 : ¬ nI q = 0 := by rw [show (0 : Int32) = nI 0 from rfl, p_eq (by omega) (by omega)]; exact hq
    refine zb_if_ne_t hC hq0 (tgt := 2280) rfl dL_law_2265 ?_
    refine zb_goto hC (tgt := 2283) rfl dL_law_2280 ?_
    exact zb_sub [2, 3, 4, 5, 6] rfl (zb_wid (show k + 1 ≤ k + 4 ∧ n + 6 ≤ n + 24 by omega) (kk M1 N1 (REL_mono hrel (Nat.le_succ t))))
