/-! the law's cases, by program -/
theorem zcmp (x : Int64) : lg_cmp x x = 0 := by
  unfold lg_cmp
  rw [if_neg (fun h => (Int64.lt_irrefl h)), if_pos rfl]
theorem zbd {α β : Type} {o : Option α} {M M1 : β} {v : α} (h : (o.bind fun v => some (v, M)) = some (v, M1)) : o = some v ∧ M = M1 := by
  cases o with
  | none => cases h
  | some a => cases h; exact ⟨rfl, rfl⟩
def zHF : Prop := ∀ a, a < 61 → ∀ b, b < 61 → b ≠ 0 → ∃ v, fdivO (FP.i2f (nI a)) (FP.i2f (nI b)) = some v ∧ vf_n64 (FP.f2d v)
theorem st_innerShare2 {M N : gMem} {c : Nat} (hf : zHF) (h : REL c M N) : ∃ v N', fX10_innerShare M = some v ∧ fX11_innerShare N = some (v, N') ∧ REL c M N' ∧ vf_n64 (FP.f2d v) := by
  obtain ⟨S, P, h1, h2, h3, h4, h5, h6⟩ := id h
  have hm := h1.1.2.1.2.1
  have hr : RS (gI N 0 0 (nI 0)) S := RS_of h1.2.1 (p_gI_o (by decide))
  have e1 : rI (gI N 0 0 (nI 0)) 1 374 (1 : Int32) = some (nI (sM S)) := by rw [show (1 : Int32) = nI 1 from rfl, p_rI (by omega) (by omega), hr.1.1.2.1]
  have ry : fX11_innerShare N = if nI (sM S) = 0 then (some (FP.fconst0, gI N 0 0 (nI 0))) else (fdivO (FP.i2f (nI (fb_ct (sIn S) (sM S)))) (FP.i2f (nI (sM S)))).bind fun v6 => some (v6, gI N 0 0 (nI 0)) := by
    unfold fX11_innerShare
    rw [show (0 : Int32) = nI 0 from rfl, p_wF, p_bnd, e1, p_bnd, rs_inners hr, p_bnd, p_bnd]
  have cx : fX10_innerShare M = if nI (sM S) = 0 then (some FP.fconst0) else (fdivO (FP.i2f (nI (fb_ct (sIn S) (sM S)))) (FP.i2f (nI (sM S)))).bind fun v3 => some v3 := by
    unfold fX10_innerShare
    rw [cs_m h1.1, cs_innerArrows h1.1, p_bnd]
  by_cases z : sM S = 0
  · have e9 : nI (sM S) = 0 := by rw [z]; rfl
    exact ⟨_, _, cx.trans (if_pos e9), ry.trans (if_pos e9), REL_sc h gFr_rf (G00 N _), (show FP.f2d FP.fconst0 &&& 0x7fffffffffffffff ≤ 0x7ff0000000000000 by decide +kernel)⟩
  · have e9 : ¬ nI (sM S) = 0 := by rw [show (0 : Int32) = nI 0 from rfl, p_eq (by omega) (by omega)]; exact z
    have le := fb_ct_le (sIn S) (sM S)
    obtain ⟨v, hv, hn⟩ := hf (fb_ct (sIn S) (sM S)) (by omega) (sM S) (by omega) (by omega)
    rw [if_neg e9, hv, p_bnd] at cx ry
    exact ⟨v, _, cx, ry, REL_sc h gFr_rf (G00 N _), hn⟩
theorem dL_law_228 : decode code 228 = .ok (.aload_n 1, 1) := by decide +kernel
theorem dL_law_229 : decode code 229 = .ok (.aload_n 0, 1) := by decide +kernel
theorem dL_law_230 : decode code 230 = .ok (.iload 4, 2) := by decide +kernel
theorem dL_law_232 : decode code 232 = .ok (.iconst 1, 1) := by decide +kernel
theorem dL_law_233 : decode code 233 = .ok (.iadd, 1) := by decide +kernel
theorem dL_law_234 : decode code 234 = .ok (.iaload, 1) := by decide +kernel
theorem dL_law_235 : decode code 235 = .ok (.aload_n 0, 1) := by decide +kernel
theorem dL_law_236 : decode code 236 = .ok (.iload 4, 2) := by decide +kernel
theorem dL_law_238 : decode code 238 = .ok (.iconst 2, 1) := by decide +kernel
theorem dL_law_239 : decode code 239 = .ok (.iadd, 1) := by decide +kernel
theorem dL_law_240 : decode code 240 = .ok (.iaload, 1) := by decide +kernel
theorem dL_law_241 : decode code 241 = .ok (.aload_n 0, 1) := by decide +kernel
theorem dL_law_242 : decode code 242 = .ok (.iload 4, 2) := by decide +kernel
theorem dL_law_244 : decode code 244 = .ok (.iconst 3, 1) := by decide +kernel
theorem dL_law_245 : decode code 245 = .ok (.iadd, 1) := by decide +kernel
theorem dL_law_246 : decode code 246 = .ok (.iaload, 1) := by decide +kernel
theorem dL_law_247 : decode code 247 = .ok (.aload_n 0, 1) := by decide +kernel
theorem dL_law_248 : decode code 248 = .ok (.iload 4, 2) := by decide +kernel
theorem dL_law_250 : decode code 250 = .ok (.iconst 4, 1) := by decide +kernel
theorem dL_law_251 : decode code 251 = .ok (.iadd, 1) := by decide +kernel
theorem dL_law_252 : decode code 252 = .ok (.iaload, 1) := by decide +kernel
theorem dL_law_253 : decode code 253 = .ok (.aload_n 0, 1) := by decide +kernel
theorem dL_law_254 : decode code 254 = .ok (.iload 4, 2) := by decide +kernel
theorem dL_law_256 : decode code 256 = .ok (.iconst 5, 1) := by decide +kernel
theorem dL_law_257 : decode code 257 = .ok (.iadd, 1) := by decide +kernel
theorem dL_law_258 : decode code 258 = .ok (.iaload, 1) := by decide +kernel
theorem dL_law_259 : decode code 259 = .ok (.aload_n 3, 1) := by decide +kernel
theorem dL_law_260 : decode code 260 = .ok (.invokestatic 110, 3) := by decide +kernel
theorem dL_law_263 : decode code 263 = .ok (.istore 5, 2) := by decide +kernel
theorem dL_law_265 : decode code 265 = .ok (.aload_n 2, 1) := by decide +kernel
theorem dL_law_266 : decode code 266 = .ok (.aload_n 0, 1) := by decide +kernel
theorem dL_law_267 : decode code 267 = .ok (.iload 4, 2) := by decide +kernel
theorem dL_law_269 : decode code 269 = .ok (.iconst 1, 1) := by decide +kernel
theorem dL_law_270 : decode code 270 = .ok (.iadd, 1) := by decide +kernel
theorem dL_law_271 : decode code 271 = .ok (.iaload, 1) := by decide +kernel
theorem dL_law_272 : decode code 272 = .ok (.aload_n 0, 1) := by decide +kernel
theorem dL_law_273 : decode code 273 = .ok (.iload 4, 2) := by decide +kernel
theorem dL_law_275 : decode code 275 = .ok (.iconst 2, 1) := by decide +kernel
theorem dL_law_276 : decode code 276 = .ok (.iadd, 1) := by decide +kernel
theorem dL_law_277 : decode code 277 = .ok (.iaload, 1) := by decide +kernel
theorem dL_law_278 : decode code 278 = .ok (.aload_n 0, 1) := by decide +kernel
theorem dL_law_279 : decode code 279 = .ok (.iload 4, 2) := by decide +kernel
theorem dL_law_281 : decode code 281 = .ok (.iconst 3, 1) := by decide +kernel
theorem dL_law_282 : decode code 282 = .ok (.iadd, 1) := by decide +kernel
theorem dL_law_283 : decode code 283 = .ok (.iaload, 1) := by decide +kernel
theorem dL_law_284 : decode code 284 = .ok (.aload_n 0, 1) := by decide +kernel
theorem dL_law_285 : decode code 285 = .ok (.iload 4, 2) := by decide +kernel
theorem dL_law_287 : decode code 287 = .ok (.iconst 4, 1) := by decide +kernel
theorem dL_law_288 : decode code 288 = .ok (.iadd, 1) := by decide +kernel
theorem dL_law_289 : decode code 289 = .ok (.iaload, 1) := by decide +kernel
theorem dL_law_290 : decode code 290 = .ok (.aload_n 0, 1) := by decide +kernel
theorem dL_law_291 : decode code 291 = .ok (.iload 4, 2) := by decide +kernel
theorem dL_law_293 : decode code 293 = .ok (.iconst 5, 1) := by decide +kernel
theorem dL_law_294 : decode code 294 = .ok (.iadd, 1) := by decide +kernel
theorem dL_law_295 : decode code 295 = .ok (.iaload, 1) := by decide +kernel
theorem dL_law_296 : decode code 296 = .ok (.invokevirtual 115, 3) := by decide +kernel
theorem dL_law_299 : decode code 299 = .ok (.istore 6, 2) := by decide +kernel
theorem dL_law_301 : decode code 301 = .ok (.aload_n 2, 1) := by decide +kernel
theorem dL_law_302 : decode code 302 = .ok (.invokevirtual 116, 3) := by decide +kernel
theorem dL_law_305 : decode code 305 = .ok (.iload 5, 2) := by decide +kernel
theorem dL_law_307 : decode code 307 = .ok (.if_icmp .eq 5, 3) := by decide +kernel
theorem dL_law_312 : decode code 312 = .ok (.iload 5, 2) := by decide +kernel
theorem dL_law_314 : decode code 314 = .ok (.ifCond .ne 15, 3) := by decide +kernel
theorem dL_law_317 : decode code 317 = .ok (.aload_n 3, 1) := by decide +kernel
theorem dL_law_318 : decode code 318 = .ok (.iconst 0, 1) := by decide +kernel
theorem dL_law_319 : decode code 319 = .ok (.laload, 1) := by decide +kernel
theorem dL_law_320 : decode code 320 = .ok (.iload 6, 2) := by decide +kernel
theorem dL_law_322 : decode code 322 = .ok (.i2l, 1) := by decide +kernel
theorem dL_law_323 : decode code 323 = .ok (.lcmp, 1) := by decide +kernel
theorem dL_law_324 : decode code 324 = .ok (.ifCond .eq 5, 3) := by decide +kernel
theorem dL_law_329 : decode code 329 = .ok (.goto 1954, 3) := by decide +kernel
/-- append -/
theorem lc_0 {X : gX} {V V2 : gEnv} {b L t k n : Nat} {xs : Nat → Int32} {M N : gMem} (hC : zL X V V2 b L xs) (h : REL t M N) (hi : 6 * t + 6 ≤ L) (hL : L ≤ 3072) (hR : k + 4 ≤ 601024 ∧ n + 24 ≤ 7293034) (kk : ∀ M1 N1, REL (t + 1) M1 N1 → gB X V V2 M1 N1 (k + 4) (n + 24) 2283 (zLS V V2 b (6 * t)) []) : gB X V V2 M N k n 228 (zLS V V2 b (6 * t)) [] := by
  obtain ⟨q, M1, bb, N1, e1, e2, hq2, hth, hout, hrel⟩ := st_append h (xs (6 * t + 1)) (xs (6 * t + 2)) (xs (6 * t + 3)) (xs (6 * t + 4)) (xs (6 * t + 5))
  refine zb_aload_n hC 2 rfl rfl dL_law_228 ?_
  refine zb_arg hC (a := 6 * t) (j := 1) (ja := 1) (jb := 0) rfl rfl rfl (by omega) hL dL_law_229 dL_law_230 dL_law_232 dL_law_233 dL_law_234 ?_
  refine zb_arg hC (a := 6 * t) (j := 2) (ja := 1) (jb := 0) rfl rfl rfl (by omega) hL dL_law_235 dL_law_236 dL_law_238 dL_law_239 dL_law_240 ?_
  refine zb_arg hC (a := 6 * t) (j := 3) (ja := 1) (jb := 0) rfl rfl rfl (by omega) hL dL_law_241 dL_law_242 dL_law_244 dL_law_245 dL_law_246 ?_
  refine zb_arg hC (a := 6 * t) (j := 4) (ja := 1) (jb := 0) rfl rfl rfl (by omega) hL dL_law_247 dL_law_248 dL_law_250 dL_law_251 dL_law_252 ?_
  refine zb_arg hC (a := 6 * t) (j := 5) (ja := 1) (jb := 0) rfl rfl rfl (by omega) hL dL_law_253 dL_law_254 dL_law_256 dL_law_257 dL_law_258 ?_
  refine zb_aload_n hC 4 rfl rfl dL_law_259 ?_
  refine zb_help hC LL_110 (kL_append hC.2.2.2.2.2.2.2.2.2.2 e1) rfl rfl (Nat.le_of_ble_eq_true rfl) ⟨Nat.le_of_ble_eq_true rfl, Nat.le_of_ble_eq_true rfl⟩ (show k + 1 ≤ 601024 ∧ n + 6 ≤ 7293034 by omega) dL_law_260 ?_
  refine zb_istore hC (by decide) rfl dL_law_263 ?_
  refine zb_aload_n hC 4 rfl rfl dL_law_265 ?_
  refine zb_arg hC (a := 6 * t) (j := 1) (ja := 2) (jb := 1) rfl rfl rfl (by omega) hL dL_law_266 dL_law_267 dL_law_269 dL_law_270 dL_law_271 ?_
  refine zb_arg hC (a := 6 * t) (j := 2) (ja := 2) (jb := 1) rfl rfl rfl (by omega) hL dL_law_272 dL_law_273 dL_law_275 dL_law_276 dL_law_277 ?_
  refine zb_arg hC (a := 6 * t) (j := 3) (ja := 2) (jb := 1) rfl rfl rfl (by omega) hL dL_law_278 dL_law_279 dL_law_281 dL_law_282 dL_law_283 ?_
  refine zb_arg hC (a := 6 * t) (j := 4) (ja := 2) (jb := 1) rfl rfl rfl (by omega) hL dL_law_284 dL_law_285 dL_law_287 dL_law_288 dL_law_289 ?_
  refine zb_arg hC (a := 6 * t) (j := 5) (ja := 2) (jb := 1) rfl rfl rfl (by omega) hL dL_law_290 dL_law_291 dL_law_293 dL_law_294 dL_law_295 ?_
  refine zb_call2 hC LL_115 rfl (kX11_append e2) rfl rfl (Nat.le_of_ble_eq_true rfl) ⟨Nat.le_of_ble_eq_true rfl, Nat.le_of_ble_eq_true rfl⟩ (show k + 1 ≤ 601024 ∧ n + 6 ≤ 7293034 by omega) dL_law_296 ?_
  refine zb_istore hC (by decide) rfl dL_law_299 ?_
  refine zb_aload_n hC 5 rfl rfl dL_law_301 ?_
  refine zb_call2 hC LL_116 rfl (kX11_thrown (show fX11_thrown N1 = some (nI q) by rw [← hth]; rfl)) rfl rfl (Nat.le_of_ble_eq_true rfl) ⟨Nat.le_of_ble_eq_true rfl, Nat.le_of_ble_eq_true rfl⟩ (show k + 1 ≤ 601024 ∧ n + 6 ≤ 7293034 by omega) dL_law_302 ?_
  refine zb_iload hC 1 rfl dL_law_305 ?_
  refine zb_icmp_eq_t hC rfl (tgt := 312) rfl dL_law_307 ?_
  refine zb_iload hC 1 rfl dL_law_312 ?_
  by_cases hq : q = 0
  · have hq0 : nI q = 0 := by rw [hq]; rfl
    refine zb_if_ne_f hC hq0 (tgt := 329) rfl dL_law_314 ?_
    refine zb_aload_n hC 6 rfl rfl dL_law_317 ?_
    refine zb_iconst hC (v := 0) rfl dL_law_318 ?_
    refine zb_out hC (hout hq) dL_law_319 ?_
    refine zb_iload hC 0 rfl dL_law_320 ?_
    refine zb_i2l hC dL_law_322 ?_
    refine zb_lcmp hC dL_law_323 ?_
    refine zb_if_eq_t hC (zcmp _) (tgt := 329) rfl dL_law_324 ?_
    refine zb_goto hC (tgt := 2283) rfl dL_law_329 ?_
    exact zb_sub [2, 3, 4, 5, 6] rfl (zb_wid (show k + 1 ≤ k + 4 ∧ n + 6 ≤ n + 24 by omega) (kk M1 N1 (REL_mono hrel (Nat.le_succ t))))
  · have hq0 : ¬ nI q = 0 := by rw [show (0 : Int32) = nI 0 from rfl, p_eq (by omega) (by omega)]; exact hq
    refine zb_if_ne_t hC hq0 (tgt := 329) rfl dL_law_314 ?_
    refine zb_goto hC (tgt := 2283) rfl dL_law_329 ?_
    exact zb_sub [2, 3, 4, 5, 6] rfl (zb_wid (show k + 1 ≤ k + 4 ∧ n + 6 ≤ n + 24 by omega) (kk M1 N1 (REL_mono hrel (Nat.le_succ t))))
theorem dL_law_332 : decode code 332 = .ok (.aload_n 1, 1) := by decide +kernel
theorem dL_law_333 : decode code 333 = .ok (.aload_n 0, 1) := by decide +kernel
theorem dL_law_334 : decode code 334 = .ok (.iload 4, 2) := by decide +kernel
theorem dL_law_336 : decode code 336 = .ok (.iconst 1, 1) := by decide +kernel
theorem dL_law_337 : decode code 337 = .ok (.iadd, 1) := by decide +kernel
theorem dL_law_338 : decode code 338 = .ok (.iaload, 1) := by decide +kernel
theorem dL_law_339 : decode code 339 = .ok (.aload_n 3, 1) := by decide +kernel
theorem dL_law_340 : decode code 340 = .ok (.invokestatic 119, 3) := by decide +kernel
theorem dL_law_343 : decode code 343 = .ok (.istore 5, 2) := by decide +kernel
theorem dL_law_345 : decode code 345 = .ok (.aload_n 2, 1) := by decide +kernel
theorem dL_law_346 : decode code 346 = .ok (.aload_n 0, 1) := by decide +kernel
theorem dL_law_347 : decode code 347 = .ok (.iload 4, 2) := by decide +kernel
theorem dL_law_349 : decode code 349 = .ok (.iconst 1, 1) := by decide +kernel
theorem dL_law_350 : decode code 350 = .ok (.iadd, 1) := by decide +kernel
theorem dL_law_351 : decode code 351 = .ok (.iaload, 1) := by decide +kernel
theorem dL_law_352 : decode code 352 = .ok (.invokevirtual 122, 3) := by decide +kernel
theorem dL_law_355 : decode code 355 = .ok (.istore 6, 2) := by decide +kernel
theorem dL_law_357 : decode code 357 = .ok (.aload_n 2, 1) := by decide +kernel
theorem dL_law_358 : decode code 358 = .ok (.invokevirtual 116, 3) := by decide +kernel
theorem dL_law_361 : decode code 361 = .ok (.iload 5, 2) := by decide +kernel
theorem dL_law_363 : decode code 363 = .ok (.if_icmp .eq 5, 3) := by decide +kernel
theorem dL_law_368 : decode code 368 = .ok (.iload 5, 2) := by decide +kernel
theorem dL_law_370 : decode code 370 = .ok (.ifCond .ne 15, 3) := by decide +kernel
theorem dL_law_373 : decode code 373 = .ok (.aload_n 3, 1) := by decide +kernel
theorem dL_law_374 : decode code 374 = .ok (.iconst 0, 1) := by decide +kernel
theorem dL_law_375 : decode code 375 = .ok (.laload, 1) := by decide +kernel
theorem dL_law_376 : decode code 376 = .ok (.iload 6, 2) := by decide +kernel
theorem dL_law_378 : decode code 378 = .ok (.i2l, 1) := by decide +kernel
theorem dL_law_379 : decode code 379 = .ok (.lcmp, 1) := by decide +kernel
theorem dL_law_380 : decode code 380 = .ok (.ifCond .eq 5, 3) := by decide +kernel
theorem dL_law_385 : decode code 385 = .ok (.goto 1898, 3) := by decide +kernel
/-- truncate -/
theorem lc_1 {X : gX} {V V2 : gEnv} {b L t k n : Nat} {xs : Nat → Int32} {M N : gMem} (hC : zL X V V2 b L xs) (h : REL t M N) (hi : 6 * t + 6 ≤ L) (hL : L ≤ 3072) (hR : k + 4 ≤ 601024 ∧ n + 24 ≤ 7293034) (kk : ∀ M1 N1, REL (t + 1) M1 N1 → gB X V V2 M1 N1 (k + 4) (n + 24) 2283 (zLS V V2 b (6 * t)) []) : gB X V V2 M N k n 332 (zLS V V2 b (6 * t)) [] := by
  obtain ⟨q, M1, bb, N1, e1, e2, hq2, hth, hout, hrel⟩ := st_truncate h (xs (6 * t + 1))
  refine zb_aload_n hC 2 rfl rfl dL_law_332 ?_
  refine zb_arg hC (a := 6 * t) (j := 1) (ja := 1) (jb := 0) rfl rfl rfl (by omega) hL dL_law_333 dL_law_334 dL_law_336 dL_law_337 dL_law_338 ?_
  refine zb_aload_n hC 4 rfl rfl dL_law_339 ?_
  refine zb_help hC LL_119 (kL_truncate hC.2.2.2.2.2.2.2.2.2.2 e1) rfl rfl (Nat.le_of_ble_eq_true rfl) ⟨Nat.le_of_ble_eq_true rfl, Nat.le_of_ble_eq_true rfl⟩ (show k + 1 ≤ 601024 ∧ n + 6 ≤ 7293034 by omega) dL_law_340 ?_
  refine zb_istore hC (by decide) rfl dL_law_343 ?_
  refine zb_aload_n hC 4 rfl rfl dL_law_345 ?_
  refine zb_arg hC (a := 6 * t) (j := 1) (ja := 2) (jb := 1) rfl rfl rfl (by omega) hL dL_law_346 dL_law_347 dL_law_349 dL_law_350 dL_law_351 ?_
  refine zb_call2 hC LL_122 rfl (kX11_truncate e2) rfl rfl (Nat.le_of_ble_eq_true rfl) ⟨Nat.le_of_ble_eq_true rfl, Nat.le_of_ble_eq_true rfl⟩ (show k + 1 ≤ 601024 ∧ n + 6 ≤ 7293034 by omega) dL_law_352 ?_
  refine zb_istore hC (by decide) rfl dL_law_355 ?_
  refine zb_aload_n hC 5 rfl rfl dL_law_357 ?_
  refine zb_call2 hC LL_116 rfl (kX11_thrown (show fX11_thrown N1 = some (nI q) by rw [← hth]; rfl)) rfl rfl (Nat.le_of_ble_eq_true rfl) ⟨Nat.le_of_ble_eq_true rfl, Nat.le_of_ble_eq_true rfl⟩ (show k + 1 ≤ 601024 ∧ n + 6 ≤ 7293034 by omega) dL_law_358 ?_
  refine zb_iload hC 1 rfl dL_law_361 ?_
  refine zb_icmp_eq_t hC rfl (tgt := 368) rfl dL_law_363 ?_
  refine zb_iload hC 1 rfl dL_law_368 ?_
  by_cases hq : q = 0
  · have hq0 : nI q = 0 := by rw [hq]; rfl
    refine zb_if_ne_f hC hq0 (tgt := 385) rfl dL_law_370 ?_
    refine zb_aload_n hC 6 rfl rfl dL_law_373 ?_
    refine zb_iconst hC (v := 0) rfl dL_law_374 ?_
    refine zb_out hC (hout hq) dL_law_375 ?_
    refine zb_iload hC 0 rfl dL_law_376 ?_
    refine zb_i2l hC dL_law_378 ?_
    refine zb_lcmp hC dL_law_379 ?_
    refine zb_if_eq_t hC (zcmp _) (tgt := 385) rfl dL_law_380 ?_
    refine zb_goto hC (tgt := 2283) rfl dL_law_385 ?_
    exact zb_sub [2, 3, 4, 5, 6] rfl (zb_wid (show k + 1 ≤ k + 4 ∧ n + 6 ≤ n + 24 by omega) (kk M1 N1 (REL_mono hrel (Nat.le_succ t))))
  · have hq0 : ¬ nI q = 0 := by rw [show (0 : Int32) = nI 0 from rfl, p_eq (by omega) (by omega)]; exact hq
    refine zb_if_ne_t hC hq0 (tgt := 385) rfl dL_law_370 ?_
    refine zb_goto hC (tgt := 2283) rfl dL_law_385 ?_
    exact zb_sub [2, 3, 4, 5, 6] rfl (zb_wid (show k + 1 ≤ k + 4 ∧ n + 6 ≤ n + 24 by omega) (kk M1 N1 (REL_mono hrel (Nat.le_succ t))))
