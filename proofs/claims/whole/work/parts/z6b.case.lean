/-! the law's cases, by program -/
theorem dL_law_388 : decode code 388 = .ok (.aload_n 1, 1) := by decide +kernel
theorem dL_law_389 : decode code 389 = .ok (.aload_n 3, 1) := by decide +kernel
theorem dL_law_390 : decode code 390 = .ok (.invokestatic 123, 3) := by decide +kernel
theorem dL_law_393 : decode code 393 = .ok (.istore 5, 2) := by decide +kernel
theorem dL_law_395 : decode code 395 = .ok (.aload_n 2, 1) := by decide +kernel
theorem dL_law_396 : decode code 396 = .ok (.invokevirtual 126, 3) := by decide +kernel
theorem dL_law_399 : decode code 399 = .ok (.istore 6, 2) := by decide +kernel
theorem dL_law_401 : decode code 401 = .ok (.aload_n 2, 1) := by decide +kernel
theorem dL_law_402 : decode code 402 = .ok (.invokevirtual 116, 3) := by decide +kernel
theorem dL_law_405 : decode code 405 = .ok (.iload 5, 2) := by decide +kernel
theorem dL_law_407 : decode code 407 = .ok (.if_icmp .eq 5, 3) := by decide +kernel
theorem dL_law_412 : decode code 412 = .ok (.iload 5, 2) := by decide +kernel
theorem dL_law_414 : decode code 414 = .ok (.ifCond .ne 15, 3) := by decide +kernel
theorem dL_law_417 : decode code 417 = .ok (.aload_n 3, 1) := by decide +kernel
theorem dL_law_418 : decode code 418 = .ok (.iconst 0, 1) := by decide +kernel
theorem dL_law_419 : decode code 419 = .ok (.laload, 1) := by decide +kernel
theorem dL_law_420 : decode code 420 = .ok (.iload 6, 2) := by decide +kernel
theorem dL_law_422 : decode code 422 = .ok (.i2l, 1) := by decide +kernel
theorem dL_law_423 : decode code 423 = .ok (.lcmp, 1) := by decide +kernel
theorem dL_law_424 : decode code 424 = .ok (.ifCond .eq 5, 3) := by decide +kernel
theorem dL_law_429 : decode code 429 = .ok (.goto 1854, 3) := by decide +kernel
/-- readText -/
theorem lc_2 {X : gX} {V V2 : gEnv} {b L t k n : Nat} {xs : Nat → Int32} {M N : gMem} (hC : zL X V V2 b L xs) (h : REL t M N) (hi : 6 * t + 6 ≤ L) (hL : L ≤ 3072) (hR : k + 4 ≤ 601024 ∧ n + 24 ≤ 7293034) (kk : ∀ M1 N1, REL (t + 1) M1 N1 → gB X V V2 M1 N1 (k + 4) (n + 24) 2283 (zLS V V2 b (6 * t)) []) : gB X V V2 M N k n 388 (zLS V V2 b (6 * t)) [] := by
  obtain ⟨q, M1, bb, N1, e1, e2, hq2, hth, hout, hrel⟩ := st_readText h
  refine zb_aload_n hC 2 rfl rfl dL_law_388 ?_
  refine zb_aload_n hC 4 rfl rfl dL_law_389 ?_
  refine zb_help hC LL_123 (kL_readText hC.2.2.2.2.2.2.2.2.2.2 e1) rfl rfl (Nat.le_of_ble_eq_true rfl) ⟨Nat.le_of_ble_eq_true rfl, Nat.le_of_ble_eq_true rfl⟩ (show k + 1 ≤ 601024 ∧ n + 6 ≤ 7293034 by omega) dL_law_390 ?_
  refine zb_istore hC (by decide) rfl dL_law_393 ?_
  refine zb_aload_n hC 4 rfl rfl dL_law_395 ?_
  refine zb_call2 hC LL_126 rfl (kX11_readText e2) rfl rfl (Nat.le_of_ble_eq_true rfl) ⟨Nat.le_of_ble_eq_true rfl, Nat.le_of_ble_eq_true rfl⟩ (show k + 1 ≤ 601024 ∧ n + 6 ≤ 7293034 by omega) dL_law_396 ?_
  refine zb_istore hC (by decide) rfl dL_law_399 ?_
  refine zb_aload_n hC 5 rfl rfl dL_law_401 ?_
  refine zb_call2 hC LL_116 rfl (kX11_thrown (show fX11_thrown N1 = some (nI q) by rw [← hth]; rfl)) rfl rfl (Nat.le_of_ble_eq_true rfl) ⟨Nat.le_of_ble_eq_true rfl, Nat.le_of_ble_eq_true rfl⟩ (show k + 1 ≤ 601024 ∧ n + 6 ≤ 7293034 by omega) dL_law_402 ?_
  refine zb_iload hC 1 rfl dL_law_405 ?_
  refine zb_icmp_eq_t hC rfl (tgt := 412) rfl dL_law_407 ?_
  refine zb_iload hC 1 rfl dL_law_412 ?_
  by_cases hq : q = 0
  · have hq0 : nI q = 0 := by rw [hq]; rfl
    refine zb_if_ne_f hC hq0 (tgt := 429) rfl dL_law_414 ?_
    refine zb_aload_n hC 6 rfl rfl dL_law_417 ?_
    refine zb_iconst hC (v := 0) rfl dL_law_418 ?_
    refine zb_out hC (hout hq) dL_law_419 ?_
    refine zb_iload hC 0 rfl dL_law_420 ?_
    refine zb_i2l hC dL_law_422 ?_
    refine zb_lcmp hC dL_law_423 ?_
    refine zb_if_eq_t hC (zcmp _) (tgt := 429) rfl dL_law_424 ?_
    refine zb_goto hC (tgt := 2283) rfl dL_law_429 ?_
    exact zb_sub [2, 3, 4, 5, 6] rfl (zb_wid (show k + 1 ≤ k + 4 ∧ n + 6 ≤ n + 24 by omega) (kk M1 N1 (REL_mono hrel (Nat.le_succ t))))
  · have hq0 : ¬ nI q = 0 := by rw [show (0 : Int32) = nI 0 from rfl, p_eq (by omega) (by omega)]; exact hq
    refine zb_if_ne_t hC hq0 (tgt := 429) rfl dL_law_414 ?_
    refine zb_goto hC (tgt := 2283) rfl dL_law_429 ?_
    exact zb_sub [2, 3, 4, 5, 6] rfl (zb_wid (show k + 1 ≤ k + 4 ∧ n + 6 ≤ n + 24 by omega) (kk M1 N1 (REL_mono hrel (Nat.le_succ t))))
theorem dL_law_432 : decode code 432 = .ok (.aload_n 1, 1) := by decide +kernel
theorem dL_law_433 : decode code 433 = .ok (.aload_n 3, 1) := by decide +kernel
theorem dL_law_434 : decode code 434 = .ok (.invokestatic 127, 3) := by decide +kernel
theorem dL_law_437 : decode code 437 = .ok (.istore 5, 2) := by decide +kernel
theorem dL_law_439 : decode code 439 = .ok (.aload_n 2, 1) := by decide +kernel
theorem dL_law_440 : decode code 440 = .ok (.invokevirtual 129, 3) := by decide +kernel
theorem dL_law_443 : decode code 443 = .ok (.istore 6, 2) := by decide +kernel
theorem dL_law_445 : decode code 445 = .ok (.aload_n 2, 1) := by decide +kernel
theorem dL_law_446 : decode code 446 = .ok (.invokevirtual 116, 3) := by decide +kernel
theorem dL_law_449 : decode code 449 = .ok (.iload 5, 2) := by decide +kernel
theorem dL_law_451 : decode code 451 = .ok (.if_icmp .eq 5, 3) := by decide +kernel
theorem dL_law_456 : decode code 456 = .ok (.iload 5, 2) := by decide +kernel
theorem dL_law_458 : decode code 458 = .ok (.ifCond .ne 15, 3) := by decide +kernel
theorem dL_law_461 : decode code 461 = .ok (.aload_n 3, 1) := by decide +kernel
theorem dL_law_462 : decode code 462 = .ok (.iconst 0, 1) := by decide +kernel
theorem dL_law_463 : decode code 463 = .ok (.laload, 1) := by decide +kernel
theorem dL_law_464 : decode code 464 = .ok (.iload 6, 2) := by decide +kernel
theorem dL_law_466 : decode code 466 = .ok (.i2l, 1) := by decide +kernel
theorem dL_law_467 : decode code 467 = .ok (.lcmp, 1) := by decide +kernel
theorem dL_law_468 : decode code 468 = .ok (.ifCond .eq 5, 3) := by decide +kernel
theorem dL_law_473 : decode code 473 = .ok (.goto 1810, 3) := by decide +kernel
/-- runOrders -/
theorem lc_3 {X : gX} {V V2 : gEnv} {b L t k n : Nat} {xs : Nat → Int32} {M N : gMem} (hC : zL X V V2 b L xs) (h : REL t M N) (hi : 6 * t + 6 ≤ L) (hL : L ≤ 3072) (hR : k + 4 ≤ 601024 ∧ n + 24 ≤ 7293034) (kk : ∀ M1 N1, REL (t + 1) M1 N1 → gB X V V2 M1 N1 (k + 4) (n + 24) 2283 (zLS V V2 b (6 * t)) []) : gB X V V2 M N k n 432 (zLS V V2 b (6 * t)) [] := by
  obtain ⟨q, M1, bb, N1, e1, e2, hq2, hth, hout, hrel⟩ := st_runOrders h
  refine zb_aload_n hC 2 rfl rfl dL_law_432 ?_
  refine zb_aload_n hC 4 rfl rfl dL_law_433 ?_
  refine zb_help hC LL_127 (kL_runOrders hC.2.2.2.2.2.2.2.2.2.2 e1) rfl rfl (Nat.le_of_ble_eq_true rfl) ⟨Nat.le_of_ble_eq_true rfl, Nat.le_of_ble_eq_true rfl⟩ (show k + 1 ≤ 601024 ∧ n + 6 ≤ 7293034 by omega) dL_law_434 ?_
  refine zb_istore hC (by decide) rfl dL_law_437 ?_
  refine zb_aload_n hC 4 rfl rfl dL_law_439 ?_
  refine zb_call2 hC LL_129 rfl (kX11_runOrders e2) rfl rfl (Nat.le_of_ble_eq_true rfl) ⟨Nat.le_of_ble_eq_true rfl, Nat.le_of_ble_eq_true rfl⟩ (show k + 1 ≤ 601024 ∧ n + 6 ≤ 7293034 by omega) dL_law_440 ?_
  refine zb_istore hC (by decide) rfl dL_law_443 ?_
  refine zb_aload_n hC 5 rfl rfl dL_law_445 ?_
  refine zb_call2 hC LL_116 rfl (kX11_thrown (show fX11_thrown N1 = some (nI q) by rw [← hth]; rfl)) rfl rfl (Nat.le_of_ble_eq_true rfl) ⟨Nat.le_of_ble_eq_true rfl, Nat.le_of_ble_eq_true rfl⟩ (show k + 1 ≤ 601024 ∧ n + 6 ≤ 7293034 by omega) dL_law_446 ?_
  refine zb_iload hC 1 rfl dL_law_449 ?_
  refine zb_icmp_eq_t hC rfl (tgt := 456) rfl dL_law_451 ?_
  refine zb_iload hC 1 rfl dL_law_456 ?_
  by_cases hq : q = 0
  · have hq0 : nI q = 0 := by rw [hq]; rfl
    refine zb_if_ne_f hC hq0 (tgt := 473) rfl dL_law_458 ?_
    refine zb_aload_n hC 6 rfl rfl dL_law_461 ?_
    refine zb_iconst hC (v := 0) rfl dL_law_462 ?_
    refine zb_out hC (hout hq) dL_law_463 ?_
    refine zb_iload hC 0 rfl dL_law_464 ?_
    refine zb_i2l hC dL_law_466 ?_
    refine zb_lcmp hC dL_law_467 ?_
    refine zb_if_eq_t hC (zcmp _) (tgt := 473) rfl dL_law_468 ?_
    refine zb_goto hC (tgt := 2283) rfl dL_law_473 ?_
    exact zb_sub [2, 3, 4, 5, 6] rfl (zb_wid (show k + 1 ≤ k + 4 ∧ n + 6 ≤ n + 24 by omega) (kk M1 N1 hrel))
  · have hq0 : ¬ nI q = 0 := by rw [show (0 : Int32) = nI 0 from rfl, p_eq (by omega) (by omega)]; exact hq
    refine zb_if_ne_t hC hq0 (tgt := 473) rfl dL_law_458 ?_
    refine zb_goto hC (tgt := 2283) rfl dL_law_473 ?_
    exact zb_sub [2, 3, 4, 5, 6] rfl (zb_wid (show k + 1 ≤ k + 4 ∧ n + 6 ≤ n + 24 by omega) (kk M1 N1 hrel))
theorem dL_law_476 : decode code 476 = .ok (.aload_n 1, 1) := by decide +kernel
theorem dL_law_477 : decode code 477 = .ok (.invokevirtual 130, 3) := by decide +kernel
theorem dL_law_480 : decode code 480 = .ok (.aload_n 2, 1) := by decide +kernel
theorem dL_law_481 : decode code 481 = .ok (.invokevirtual 133, 3) := by decide +kernel
theorem dL_law_484 : decode code 484 = .ok (.if_icmp .eq 1799, 3) := by decide +kernel
/-- errorCode -/
theorem lc_4 {X : gX} {V V2 : gEnv} {b L t k n : Nat} {xs : Nat → Int32} {M N : gMem} (hC : zL X V V2 b L xs) (h : REL t M N) (hi : 6 * t + 6 ≤ L) (hL : L ≤ 3072) (hR : k + 4 ≤ 601024 ∧ n + 24 ≤ 7293034) (kk : ∀ M1 N1, REL (t + 1) M1 N1 → gB X V V2 M1 N1 (k + 4) (n + 24) 2283 (zLS V V2 b (6 * t)) []) : gB X V V2 M N k n 476 (zLS V V2 b (6 * t)) [] := by
  obtain ⟨v, M1, N1, e1, e2, hrel⟩ := st_errorCode h
  obtain ⟨e0, rfl⟩ := zbd e1
  refine zb_aload_n hC 2 rfl rfl dL_law_476 ?_
  refine zb_call1 hC LL_130 rfl (kX10_errorCode e0) rfl rfl (Nat.le_of_ble_eq_true rfl) ⟨Nat.le_of_ble_eq_true rfl, Nat.le_of_ble_eq_true rfl⟩ (show k + 0 ≤ 601024 ∧ n + 0 ≤ 7293034 by omega) dL_law_477 ?_
  refine zb_aload_n hC 3 rfl rfl dL_law_480 ?_
  refine zb_call2 hC LL_133 rfl (kX11_errorCode e2) rfl rfl (Nat.le_of_ble_eq_true rfl) ⟨Nat.le_of_ble_eq_true rfl, Nat.le_of_ble_eq_true rfl⟩ (show k + 0 ≤ 601024 ∧ n + 0 ≤ 7293034 by omega) dL_law_481 ?_
  refine zb_icmp_eq_t hC rfl (tgt := 2283) rfl dL_law_484 ?_
  exact zb_sub [0, 1, 2, 3, 4] rfl (zb_wid (show k + 0 ≤ k + 4 ∧ n + 0 ≤ n + 24 by omega) (kk M N1 (REL_mono hrel (Nat.le_succ t))))
theorem dL_law_489 : decode code 489 = .ok (.aload_n 1, 1) := by decide +kernel
theorem dL_law_490 : decode code 490 = .ok (.invokevirtual 134, 3) := by decide +kernel
theorem dL_law_493 : decode code 493 = .ok (.aload_n 2, 1) := by decide +kernel
theorem dL_law_494 : decode code 494 = .ok (.invokevirtual 137, 3) := by decide +kernel
theorem dL_law_497 : decode code 497 = .ok (.if_icmp .eq 1786, 3) := by decide +kernel
/-- errorPosition -/
theorem lc_5 {X : gX} {V V2 : gEnv} {b L t k n : Nat} {xs : Nat → Int32} {M N : gMem} (hC : zL X V V2 b L xs) (h : REL t M N) (hi : 6 * t + 6 ≤ L) (hL : L ≤ 3072) (hR : k + 4 ≤ 601024 ∧ n + 24 ≤ 7293034) (kk : ∀ M1 N1, REL (t + 1) M1 N1 → gB X V V2 M1 N1 (k + 4) (n + 24) 2283 (zLS V V2 b (6 * t)) []) : gB X V V2 M N k n 489 (zLS V V2 b (6 * t)) [] := by
  obtain ⟨v, M1, N1, e1, e2, hrel⟩ := st_errorPosition h
  obtain ⟨e0, rfl⟩ := zbd e1
  refine zb_aload_n hC 2 rfl rfl dL_law_489 ?_
  refine zb_call1 hC LL_134 rfl (kX10_errorPosition e0) rfl rfl (Nat.le_of_ble_eq_true rfl) ⟨Nat.le_of_ble_eq_true rfl, Nat.le_of_ble_eq_true rfl⟩ (show k + 0 ≤ 601024 ∧ n + 0 ≤ 7293034 by omega) dL_law_490 ?_
  refine zb_aload_n hC 3 rfl rfl dL_law_493 ?_
  refine zb_call2 hC LL_137 rfl (kX11_errorPosition e2) rfl rfl (Nat.le_of_ble_eq_true rfl) ⟨Nat.le_of_ble_eq_true rfl, Nat.le_of_ble_eq_true rfl⟩ (show k + 0 ≤ 601024 ∧ n + 0 ≤ 7293034 by omega) dL_law_494 ?_
  refine zb_icmp_eq_t hC rfl (tgt := 2283) rfl dL_law_497 ?_
  exact zb_sub [0, 1, 2, 3, 4] rfl (zb_wid (show k + 0 ≤ k + 4 ∧ n + 0 ≤ n + 24 by omega) (kk M N1 (REL_mono hrel (Nat.le_succ t))))
theorem dL_law_502 : decode code 502 = .ok (.aload_n 1, 1) := by decide +kernel
theorem dL_law_503 : decode code 503 = .ok (.aload_n 0, 1) := by decide +kernel
theorem dL_law_504 : decode code 504 = .ok (.iload 4, 2) := by decide +kernel
theorem dL_law_506 : decode code 506 = .ok (.iconst 1, 1) := by decide +kernel
theorem dL_law_507 : decode code 507 = .ok (.iadd, 1) := by decide +kernel
theorem dL_law_508 : decode code 508 = .ok (.iaload, 1) := by decide +kernel
theorem dL_law_509 : decode code 509 = .ok (.aload_n 3, 1) := by decide +kernel
theorem dL_law_510 : decode code 510 = .ok (.invokestatic 138, 3) := by decide +kernel
theorem dL_law_513 : decode code 513 = .ok (.istore 5, 2) := by decide +kernel
theorem dL_law_515 : decode code 515 = .ok (.aload_n 2, 1) := by decide +kernel
theorem dL_law_516 : decode code 516 = .ok (.aload_n 0, 1) := by decide +kernel
theorem dL_law_517 : decode code 517 = .ok (.iload 4, 2) := by decide +kernel
theorem dL_law_519 : decode code 519 = .ok (.iconst 1, 1) := by decide +kernel
theorem dL_law_520 : decode code 520 = .ok (.iadd, 1) := by decide +kernel
theorem dL_law_521 : decode code 521 = .ok (.iaload, 1) := by decide +kernel
theorem dL_law_522 : decode code 522 = .ok (.invokevirtual 140, 3) := by decide +kernel
theorem dL_law_525 : decode code 525 = .ok (.istore 6, 2) := by decide +kernel
theorem dL_law_527 : decode code 527 = .ok (.aload_n 2, 1) := by decide +kernel
theorem dL_law_528 : decode code 528 = .ok (.invokevirtual 116, 3) := by decide +kernel
theorem dL_law_531 : decode code 531 = .ok (.iload 5, 2) := by decide +kernel
theorem dL_law_533 : decode code 533 = .ok (.if_icmp .eq 5, 3) := by decide +kernel
theorem dL_law_538 : decode code 538 = .ok (.iload 5, 2) := by decide +kernel
theorem dL_law_540 : decode code 540 = .ok (.ifCond .ne 15, 3) := by decide +kernel
theorem dL_law_543 : decode code 543 = .ok (.aload_n 3, 1) := by decide +kernel
theorem dL_law_544 : decode code 544 = .ok (.iconst 0, 1) := by decide +kernel
theorem dL_law_545 : decode code 545 = .ok (.laload, 1) := by decide +kernel
theorem dL_law_546 : decode code 546 = .ok (.iload 6, 2) := by decide +kernel
theorem dL_law_548 : decode code 548 = .ok (.i2l, 1) := by decide +kernel
theorem dL_law_549 : decode code 549 = .ok (.lcmp, 1) := by decide +kernel
theorem dL_law_550 : decode code 550 = .ok (.ifCond .eq 5, 3) := by decide +kernel
theorem dL_law_555 : decode code 555 = .ok (.goto 1728, 3) := by decide +kernel
/-- size -/
theorem lc_6 {X : gX} {V V2 : gEnv} {b L t k n : Nat} {xs : Nat → Int32} {M N : gMem} (hC : zL X V V2 b L xs) (h : REL t M N) (hi : 6 * t + 6 ≤ L) (hL : L ≤ 3072) (hR : k + 4 ≤ 601024 ∧ n + 24 ≤ 7293034) (kk : ∀ M1 N1, REL (t + 1) M1 N1 → gB X V V2 M1 N1 (k + 4) (n + 24) 2283 (zLS V V2 b (6 * t)) []) : gB X V V2 M N k n 502 (zLS V V2 b (6 * t)) [] := by
  obtain ⟨q, M1, bb, N1, e1, e2, hq2, hth, hout, hrel⟩ := st_size h (xs (6 * t + 1))
  refine zb_aload_n hC 2 rfl rfl dL_law_502 ?_
  refine zb_arg hC (a := 6 * t) (j := 1) (ja := 1) (jb := 0) rfl rfl rfl (by omega) hL dL_law_503 dL_law_504 dL_law_506 dL_law_507 dL_law_508 ?_
  refine zb_aload_n hC 4 rfl rfl dL_law_509 ?_
  refine zb_help hC LL_138 (kL_size hC.2.2.2.2.2.2.2.2.2.2 e1) rfl rfl (Nat.le_of_ble_eq_true rfl) ⟨Nat.le_of_ble_eq_true rfl, Nat.le_of_ble_eq_true rfl⟩ (show k + 1 ≤ 601024 ∧ n + 6 ≤ 7293034 by omega) dL_law_510 ?_
  refine zb_istore hC (by decide) rfl dL_law_513 ?_
  refine zb_aload_n hC 4 rfl rfl dL_law_515 ?_
  refine zb_arg hC (a := 6 * t) (j := 1) (ja := 2) (jb := 1) rfl rfl rfl (by omega) hL dL_law_516 dL_law_517 dL_law_519 dL_law_520 dL_law_521 ?_
  refine zb_call2 hC LL_140 rfl (kX11_size e2) rfl rfl (Nat.le_of_ble_eq_true rfl) ⟨Nat.le_of_ble_eq_true rfl, Nat.le_of_ble_eq_true rfl⟩ (show k + 1 ≤ 601024 ∧ n + 6 ≤ 7293034 by omega) dL_law_522 ?_
  refine zb_istore hC (by decide) rfl dL_law_525 ?_
  refine zb_aload_n hC 5 rfl rfl dL_law_527 ?_
  refine zb_call2 hC LL_116 rfl (kX11_thrown (show fX11_thrown N1 = some (nI q) by rw [← hth]; rfl)) rfl rfl (Nat.le_of_ble_eq_true rfl) ⟨Nat.le_of_ble_eq_true rfl, Nat.le_of_ble_eq_true rfl⟩ (show k + 1 ≤ 601024 ∧ n + 6 ≤ 7293034 by omega) dL_law_528 ?_
  refine zb_iload hC 1 rfl dL_law_531 ?_
  refine zb_icmp_eq_t hC rfl (tgt := 538) rfl dL_law_533 ?_
  refine zb_iload hC 1 rfl dL_law_538 ?_
  by_cases hq : q = 0
  · have hq0 : nI q = 0 := by rw [hq]; rfl
    refine zb_if_ne_f hC hq0 (tgt := 555) rfl dL_law_540 ?_
    refine zb_aload_n hC 6 rfl rfl dL_law_543 ?_
    refine zb_iconst hC (v := 0) rfl dL_law_544 ?_
    refine zb_out hC (hout hq) dL_law_545 ?_
    refine zb_iload hC 0 rfl dL_law_546 ?_
    refine zb_i2l hC dL_law_548 ?_
    refine zb_lcmp hC dL_law_549 ?_
    refine zb_if_eq_t hC (zcmp _) (tgt := 555) rfl dL_law_550 ?_
    refine zb_goto hC (tgt := 2283) rfl dL_law_555 ?_
    exact zb_sub [2, 3, 4, 5, 6] rfl (zb_wid (show k + 1 ≤ k + 4 ∧ n + 6 ≤ n + 24 by omega) (kk M1 N1 (REL_mono hrel (Nat.le_succ t))))
  · have hq0 : ¬ nI q = 0 := by rw [show (0 : Int32) = nI 0 from rfl, p_eq (by omega) (by omega)]; exact hq
    refine zb_if_ne_t hC hq0 (tgt := 555) rfl dL_law_540 ?_
    refine zb_goto hC (tgt := 2283) rfl dL_law_555 ?_
    exact zb_sub [2, 3, 4, 5, 6] rfl (zb_wid (show k + 1 ≤ k + 4 ∧ n + 6 ≤ n + 24 by omega) (kk M1 N1 (REL_mono hrel (Nat.le_succ t))))
