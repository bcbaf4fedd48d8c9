/-! the law's cases, by program -/
theorem dL_law_1461 : decode code 1461 = .ok (.aload_n 1, 1) := by decide +kernel
theorem dL_law_1462 : decode code 1462 = .ok (.aload_n 0, 1) := by decide +kernel
theorem dL_law_1463 : decode code 1463 = .ok (.iload 4, 2) := by decide +kernel
theorem dL_law_1465 : decode code 1465 = .ok (.iconst 1, 1) := by decide +kernel
theorem dL_law_1466 : decode code 1466 = .ok (.iadd, 1) := by decide +kernel
theorem dL_law_1467 : decode code 1467 = .ok (.iaload, 1) := by decide +kernel
theorem dL_law_1468 : decode code 1468 = .ok (.aload_n 3, 1) := by decide +kernel
theorem dL_law_1469 : decode code 1469 = .ok (.invokestatic 182, 3) := by decide +kernel
theorem dL_law_1472 : decode code 1472 = .ok (.istore 5, 2) := by decide +kernel
theorem dL_law_1474 : decode code 1474 = .ok (.aload_n 2, 1) := by decide +kernel
theorem dL_law_1475 : decode code 1475 = .ok (.aload_n 0, 1) := by decide +kernel
theorem dL_law_1476 : decode code 1476 = .ok (.iload 4, 2) := by decide +kernel
theorem dL_law_1478 : decode code 1478 = .ok (.iconst 1, 1) := by decide +kernel
theorem dL_law_1479 : decode code 1479 = .ok (.iadd, 1) := by decide +kernel
theorem dL_law_1480 : decode code 1480 = .ok (.iaload, 1) := by decide +kernel
theorem dL_law_1481 : decode code 1481 = .ok (.invokevirtual 184, 3) := by decide +kernel
theorem dL_law_1484 : decode code 1484 = .ok (.istore 6, 2) := by decide +kernel
theorem dL_law_1486 : decode code 1486 = .ok (.aload_n 2, 1) := by decide +kernel
theorem dL_law_1487 : decode code 1487 = .ok (.invokevirtual 116, 3) := by decide +kernel
theorem dL_law_1490 : decode code 1490 = .ok (.iload 5, 2) := by decide +kernel
theorem dL_law_1492 : decode code 1492 = .ok (.if_icmp .eq 5, 3) := by decide +kernel
theorem dL_law_1497 : decode code 1497 = .ok (.iload 5, 2) := by decide +kernel
theorem dL_law_1499 : decode code 1499 = .ok (.ifCond .ne 15, 3) := by decide +kernel
theorem dL_law_1502 : decode code 1502 = .ok (.aload_n 3, 1) := by decide +kernel
theorem dL_law_1503 : decode code 1503 = .ok (.iconst 0, 1) := by decide +kernel
theorem dL_law_1504 : decode code 1504 = .ok (.laload, 1) := by decide +kernel
theorem dL_law_1505 : decode code 1505 = .ok (.iload 6, 2) := by decide +kernel
theorem dL_law_1507 : decode code 1507 = .ok (.i2l, 1) := by decide +kernel
theorem dL_law_1508 : decode code 1508 = .ok (.lcmp, 1) := by decide +kernel
theorem dL_law_1509 : decode code 1509 = .ok (.ifCond .eq 5, 3) := by decide +kernel
theorem dL_law_1514 : decode code 1514 = .ok (.goto 769, 3) := by decide +kernel
/-- fresh -/
theorem lc_20 {X : gX} {V V2 : gEnv} {b L t k n : Nat} {xs : Nat → Int32} {M N : gMem} (hC : zL X V V2 b L xs) (h : REL t M N) (hi : 6 * t + 6 ≤ L) (hL : L ≤ 3072) (hR : k + 4 ≤ 601024 ∧ n + 24 ≤ 7293034) (kk : ∀ M1 N1, REL (t + 1) M1 N1 → gB X V V2 M1 N1 (k + 4) (n + 24) 2283 (zLS V V2 b (6 * t)) []) : gB X V V2 M N k n 1461 (zLS V V2 b (6 * t)) [] := by
  obtain ⟨q, M1, bb, N1, e1, e2, hq2, hth, hout, hrel⟩ := st_fresh h (xs (6 * t + 1))
  refine zb_aload_n hC 2 rfl rfl dL_law_1461 ?_
  refine zb_arg hC (a := 6 * t) (j := 1) (ja := 1) (jb := 0) rfl rfl rfl (by omega) hL dL_law_1462 dL_law_1463 dL_law_1465 dL_law_1466 dL_law_1467 ?_
  refine zb_aload_n hC 4 rfl rfl dL_law_1468 ?_
  refine zb_help hC LL_182 (kL_fresh hC.2.2.2.2.2.2.2.2.2.2 e1) rfl rfl (Nat.le_of_ble_eq_true rfl) ⟨Nat.le_of_ble_eq_true rfl, Nat.le_of_ble_eq_true rfl⟩ (show k + 1 ≤ 601024 ∧ n + 6 ≤ 7293034 by omega) dL_law_1469 ?_
  refine zb_istore hC (by decide) rfl dL_law_1472 ?_
  refine zb_aload_n hC 4 rfl rfl dL_law_1474 ?_
  refine zb_arg hC (a := 6 * t) (j := 1) (ja := 2) (jb := 1) rfl rfl rfl (by omega) hL dL_law_1475 dL_law_1476 dL_law_1478 dL_law_1479 dL_law_1480 ?_
  refine zb_call2 hC LL_184 rfl (kX11_fresh e2) rfl rfl (Nat.le_of_ble_eq_true rfl) ⟨Nat.le_of_ble_eq_true rfl, Nat.le_of_ble_eq_true rfl⟩ (show k + 1 ≤ 601024 ∧ n + 6 ≤ 7293034 by omega) dL_law_1481 ?_
  refine zb_istore hC (by decide) rfl dL_law_1484 ?_
  refine zb_aload_n hC 5 rfl rfl dL_law_1486 ?_
  refine zb_call2 hC LL_116 rfl (kX11_thrown (show fX11_thrown N1 = some (nI q) by rw [← hth]; rfl)) rfl rfl (Nat.le_of_ble_eq_true rfl) ⟨Nat.le_of_ble_eq_true rfl, Nat.le_of_ble_eq_true rfl⟩ (show k + 1 ≤ 601024 ∧ n + 6 ≤ 7293034 by omega) dL_law_1487 ?_
  refine zb_iload hC 1 rfl dL_law_1490 ?_
  refine zb_icmp_eq_t hC rfl (tgt := 1497) rfl dL_law_1492 ?_
  refine zb_iload hC 1 rfl dL_law_1497 ?_
  by_cases hq : q = 0
  · have hq0 : nI q = 0 := by rw [hq]; rfl
    refine zb_if_ne_f hC hq0 (tgt := 1514) rfl dL_law_1499 ?_
    refine zb_aload_n hC 6 rfl rfl dL_law_1502 ?_
    refine zb_iconst hC (v := 0) rfl dL_law_1503 ?_
    refine zb_out hC (hout hq) dL_law_1504 ?_
    refine zb_iload hC 0 rfl dL_law_1505 ?_
    refine zb_i2l hC dL_law_1507 ?_
    refine zb_lcmp hC dL_law_1508 ?_
    refine zb_if_eq_t hC (zcmp _) (tgt := 1514) rfl dL_law_1509 ?_
    refine zb_goto hC (tgt := 2283) rfl dL_law_1514 ?_
    exact zb_sub [2, 3, 4, 5, 6] rfl (zb_wid (show k + 1 ≤ k + 4 ∧ n + 6 ≤ n + 24 by omega) (kk M1 N1 (REL_mono hrel (Nat.le_succ t))))
  · have hq0 : ¬ nI q = 0 := by rw [show (0 : Int32) = nI 0 from rfl, p_eq (by omega) (by omega)]; exact hq
    refine zb_if_ne_t hC hq0 (tgt := 1514) rfl dL_law_1499 ?_
    refine zb_goto hC (tgt := 2283) rfl dL_law_1514 ?_
    exact zb_sub [2, 3, 4, 5, 6] rfl (zb_wid (show k + 1 ≤ k + 4 ∧ n + 6 ≤ n + 24 by omega) (kk M1 N1 (REL_mono hrel (Nat.le_succ t))))
theorem dL_law_1517 : decode code 1517 = .ok (.aload_n 1, 1) := by decide +kernel
theorem dL_law_1518 : decode code 1518 = .ok (.invokevirtual 185, 3) := by decide +kernel
theorem dL_law_1521 : decode code 1521 = .ok (.aload_n 2, 1) := by decide +kernel
theorem dL_law_1522 : decode code 1522 = .ok (.invokevirtual 188, 3) := by decide +kernel
theorem dL_law_1525 : decode code 1525 = .ok (.if_icmp .eq 758, 3) := by decide +kernel
/-- turned -/
theorem lc_21 {X : gX} {V V2 : gEnv} {b L t k n : Nat} {xs : Nat → Int32} {M N : gMem} (hC : zL X V V2 b L xs) (h : REL t M N) (hi : 6 * t + 6 ≤ L) (hL : L ≤ 3072) (hR : k + 4 ≤ 601024 ∧ n + 24 ≤ 7293034) (kk : ∀ M1 N1, REL (t + 1) M1 N1 → gB X V V2 M1 N1 (k + 4) (n + 24) 2283 (zLS V V2 b (6 * t)) []) : gB X V V2 M N k n 1517 (zLS V V2 b (6 * t)) [] := by
  obtain ⟨v, M1, N1, e1, e2, hrel⟩ := st_turned h
  refine zb_aload_n hC 2 rfl rfl dL_law_1517 ?_
  refine zb_call1 hC LL_185 rfl (kX10_turned e1) rfl rfl (Nat.le_of_ble_eq_true rfl) ⟨Nat.le_of_ble_eq_true rfl, Nat.le_of_ble_eq_true rfl⟩ (show k + 0 ≤ 601024 ∧ n + 0 ≤ 7293034 by omega) dL_law_1518 ?_
  refine zb_aload_n hC 3 rfl rfl dL_law_1521 ?_
  refine zb_call2 hC LL_188 rfl (kX11_turned e2) rfl rfl (Nat.le_of_ble_eq_true rfl) ⟨Nat.le_of_ble_eq_true rfl, Nat.le_of_ble_eq_true rfl⟩ (show k + 0 ≤ 601024 ∧ n + 0 ≤ 7293034 by omega) dL_law_1522 ?_
  refine zb_icmp_eq_t hC rfl (tgt := 2283) rfl dL_law_1525 ?_
  exact zb_sub [0, 1, 2, 3, 4] rfl (zb_wid (show k + 0 ≤ k + 4 ∧ n + 0 ≤ n + 24 by omega) (kk M1 N1 (REL_mono hrel (Nat.le_succ t))))
theorem dL_law_1530 : decode code 1530 = .ok (.aload_n 1, 1) := by decide +kernel
theorem dL_law_1531 : decode code 1531 = .ok (.invokevirtual 189, 3) := by decide +kernel
theorem dL_law_1534 : decode code 1534 = .ok (.aload_n 2, 1) := by decide +kernel
theorem dL_law_1535 : decode code 1535 = .ok (.invokevirtual 192, 3) := by decide +kernel
theorem dL_law_1538 : decode code 1538 = .ok (.if_icmp .eq 745, 3) := by decide +kernel
/-- length -/
theorem lc_22 {X : gX} {V V2 : gEnv} {b L t k n : Nat} {xs : Nat → Int32} {M N : gMem} (hC : zL X V V2 b L xs) (h : REL t M N) (hi : 6 * t + 6 ≤ L) (hL : L ≤ 3072) (hR : k + 4 ≤ 601024 ∧ n + 24 ≤ 7293034) (kk : ∀ M1 N1, REL (t + 1) M1 N1 → gB X V V2 M1 N1 (k + 4) (n + 24) 2283 (zLS V V2 b (6 * t)) []) : gB X V V2 M N k n 1530 (zLS V V2 b (6 * t)) [] := by
  obtain ⟨v, M1, N1, e1, e2, hrel⟩ := st_length h
  refine zb_aload_n hC 2 rfl rfl dL_law_1530 ?_
  refine zb_call1 hC LL_189 rfl (kX10_length e1) rfl rfl (Nat.le_of_ble_eq_true rfl) ⟨Nat.le_of_ble_eq_true rfl, Nat.le_of_ble_eq_true rfl⟩ (show k + 0 ≤ 601024 ∧ n + 0 ≤ 7293034 by omega) dL_law_1531 ?_
  refine zb_aload_n hC 3 rfl rfl dL_law_1534 ?_
  refine zb_call2 hC LL_192 rfl (kX11_length e2) rfl rfl (Nat.le_of_ble_eq_true rfl) ⟨Nat.le_of_ble_eq_true rfl, Nat.le_of_ble_eq_true rfl⟩ (show k + 0 ≤ 601024 ∧ n + 0 ≤ 7293034 by omega) dL_law_1535 ?_
  refine zb_icmp_eq_t hC rfl (tgt := 2283) rfl dL_law_1538 ?_
  exact zb_sub [0, 1, 2, 3, 4] rfl (zb_wid (show k + 0 ≤ k + 4 ∧ n + 0 ≤ n + 24 by omega) (kk M1 N1 (REL_mono hrel (Nat.le_succ t))))
theorem dL_law_1543 : decode code 1543 = .ok (.aload_n 1, 1) := by decide +kernel
theorem dL_law_1544 : decode code 1544 = .ok (.invokevirtual 193, 3) := by decide +kernel
theorem dL_law_1547 : decode code 1547 = .ok (.aload_n 2, 1) := by decide +kernel
theorem dL_law_1548 : decode code 1548 = .ok (.invokevirtual 196, 3) := by decide +kernel
theorem dL_law_1551 : decode code 1551 = .ok (.if_icmp .eq 732, 3) := by decide +kernel
/-- tight -/
theorem lc_23 {X : gX} {V V2 : gEnv} {b L t k n : Nat} {xs : Nat → Int32} {M N : gMem} (hC : zL X V V2 b L xs) (h : REL t M N) (hi : 6 * t + 6 ≤ L) (hL : L ≤ 3072) (hR : k + 4 ≤ 601024 ∧ n + 24 ≤ 7293034) (kk : ∀ M1 N1, REL (t + 1) M1 N1 → gB X V V2 M1 N1 (k + 4) (n + 24) 2283 (zLS V V2 b (6 * t)) []) : gB X V V2 M N k n 1543 (zLS V V2 b (6 * t)) [] := by
  obtain ⟨v, M1, N1, e1, e2, hrel⟩ := st_tight h
  refine zb_aload_n hC 2 rfl rfl dL_law_1543 ?_
  refine zb_call1 hC LL_193 rfl (kX10_tight e1) rfl rfl (Nat.le_of_ble_eq_true rfl) ⟨Nat.le_of_ble_eq_true rfl, Nat.le_of_ble_eq_true rfl⟩ (show k + 0 ≤ 601024 ∧ n + 0 ≤ 7293034 by omega) dL_law_1544 ?_
  refine zb_aload_n hC 3 rfl rfl dL_law_1547 ?_
  refine zb_call2 hC LL_196 rfl (kX11_tight e2) rfl rfl (Nat.le_of_ble_eq_true rfl) ⟨Nat.le_of_ble_eq_true rfl, Nat.le_of_ble_eq_true rfl⟩ (show k + 0 ≤ 601024 ∧ n + 0 ≤ 7293034 by omega) dL_law_1548 ?_
  refine zb_icmp_eq_t hC rfl (tgt := 2283) rfl dL_law_1551 ?_
  exact zb_sub [0, 1, 2, 3, 4] rfl (zb_wid (show k + 0 ≤ k + 4 ∧ n + 0 ≤ n + 24 by omega) (kk M1 N1 (REL_mono hrel (Nat.le_succ t))))
theorem dL_law_1556 : decode code 1556 = .ok (.aload_n 1, 1) := by decide +kernel
theorem dL_law_1557 : decode code 1557 = .ok (.invokevirtual 197, 3) := by decide +kernel
theorem dL_law_1560 : decode code 1560 = .ok (.aload_n 2, 1) := by decide +kernel
theorem dL_law_1561 : decode code 1561 = .ok (.invokevirtual 200, 3) := by decide +kernel
theorem dL_law_1564 : decode code 1564 = .ok (.if_icmp .eq 719, 3) := by decide +kernel
/-- gap -/
theorem lc_24 {X : gX} {V V2 : gEnv} {b L t k n : Nat} {xs : Nat → Int32} {M N : gMem} (hC : zL X V V2 b L xs) (h : REL t M N) (hi : 6 * t + 6 ≤ L) (hL : L ≤ 3072) (hR : k + 4 ≤ 601024 ∧ n + 24 ≤ 7293034) (kk : ∀ M1 N1, REL (t + 1) M1 N1 → gB X V V2 M1 N1 (k + 4) (n + 24) 2283 (zLS V V2 b (6 * t)) []) : gB X V V2 M N k n 1556 (zLS V V2 b (6 * t)) [] := by
  obtain ⟨v, M1, N1, e1, e2, hrel⟩ := st_gap h
  obtain ⟨e0, rfl⟩ := zbd e1
  refine zb_aload_n hC 2 rfl rfl dL_law_1556 ?_
  refine zb_call1 hC LL_197 rfl (kX10_gap e0) rfl rfl (Nat.le_of_ble_eq_true rfl) ⟨Nat.le_of_ble_eq_true rfl, Nat.le_of_ble_eq_true rfl⟩ (show k + 0 ≤ 601024 ∧ n + 0 ≤ 7293034 by omega) dL_law_1557 ?_
  refine zb_aload_n hC 3 rfl rfl dL_law_1560 ?_
  refine zb_call2 hC LL_200 rfl (kX11_gap e2) rfl rfl (Nat.le_of_ble_eq_true rfl) ⟨Nat.le_of_ble_eq_true rfl, Nat.le_of_ble_eq_true rfl⟩ (show k + 0 ≤ 601024 ∧ n + 0 ≤ 7293034 by omega) dL_law_1561 ?_
  refine zb_icmp_eq_t hC rfl (tgt := 2283) rfl dL_law_1564 ?_
  exact zb_sub [0, 1, 2, 3, 4] rfl (zb_wid (show k + 0 ≤ k + 4 ∧ n + 0 ≤ n + 24 by omega) (kk M N1 (REL_mono hrel (Nat.le_succ t))))
theorem dL_law_1569 : decode code 1569 = .ok (.aload_n 1, 1) := by decide +kernel
theorem dL_law_1570 : decode code 1570 = .ok (.invokevirtual 201, 3) := by decide +kernel
theorem dL_law_1573 : decode code 1573 = .ok (.aload_n 2, 1) := by decide +kernel
theorem dL_law_1574 : decode code 1574 = .ok (.invokevirtual 204, 3) := by decide +kernel
theorem dL_law_1577 : decode code 1577 = .ok (.if_icmp .eq 706, 3) := by decide +kernel
/-- weakest -/
theorem lc_25 {X : gX} {V V2 : gEnv} {b L t k n : Nat} {xs : Nat → Int32} {M N : gMem} (hC : zL X V V2 b L xs) (h : REL t M N) (hi : 6 * t + 6 ≤ L) (hL : L ≤ 3072) (hR : k + 4 ≤ 601024 ∧ n + 24 ≤ 7293034) (kk : ∀ M1 N1, REL (t + 1) M1 N1 → gB X V V2 M1 N1 (k + 4) (n + 24) 2283 (zLS V V2 b (6 * t)) []) : gB X V V2 M N k n 1569 (zLS V V2 b (6 * t)) [] := by
  obtain ⟨v, M1, N1, e1, e2, hrel⟩ := st_weakest h
  refine zb_aload_n hC 2 rfl rfl dL_law_1569 ?_
  refine zb_call1 hC LL_201 rfl (kX10_weakest e1) rfl rfl (Nat.le_of_ble_eq_true rfl) ⟨Nat.le_of_ble_eq_true rfl, Nat.le_of_ble_eq_true rfl⟩ (show k + 0 ≤ 601024 ∧ n + 0 ≤ 7293034 by omega) dL_law_1570 ?_
  refine zb_aload_n hC 3 rfl rfl dL_law_1573 ?_
  refine zb_call2 hC LL_204 rfl (kX11_weakest e2) rfl rfl (Nat.le_of_ble_eq_true rfl) ⟨Nat.le_of_ble_eq_true rfl, Nat.le_of_ble_eq_true rfl⟩ (show k + 0 ≤ 601024 ∧ n + 0 ≤ 7293034 by omega) dL_law_1574 ?_
  refine zb_icmp_eq_t hC rfl (tgt := 2283) rfl dL_law_1577 ?_
  exact zb_sub [0, 1, 2, 3, 4] rfl (zb_wid (show k + 0 ≤ k + 4 ∧ n + 0 ≤ n + 24 by omega) (kk M1 N1 (REL_mono hrel (Nat.le_succ t))))
theorem dL_law_1582 : decode code 1582 = .ok (.aload_n 1, 1) := by decide +kernel
theorem dL_law_1583 : decode code 1583 = .ok (.invokevirtual 205, 3) := by decide +kernel
theorem dL_law_1586 : decode code 1586 = .ok (.aload_n 2, 1) := by decide +kernel
theorem dL_law_1587 : decode code 1587 = .ok (.invokevirtual 208, 3) := by decide +kernel
theorem dL_law_1590 : decode code 1590 = .ok (.if_icmp .eq 693, 3) := by decide +kernel
/-- needless -/
theorem lc_26 {X : gX} {V V2 : gEnv} {b L t k n : Nat} {xs : Nat → Int32} {M N : gMem} (hC : zL X V V2 b L xs) (h : REL t M N) (hi : 6 * t + 6 ≤ L) (hL : L ≤ 3072) (hR : k + 4 ≤ 601024 ∧ n + 24 ≤ 7293034) (kk : ∀ M1 N1, REL (t + 1) M1 N1 → gB X V V2 M1 N1 (k + 4) (n + 24) 2283 (zLS V V2 b (6 * t)) []) : gB X V V2 M N k n 1582 (zLS V V2 b (6 * t)) [] := by
  obtain ⟨v, M1, N1, e1, e2, hrel⟩ := st_needless h
  obtain ⟨e0, rfl⟩ := zbd e1
  refine zb_aload_n hC 2 rfl rfl dL_law_1582 ?_
  refine zb_call1 hC LL_205 rfl (kX10_needless e0) rfl rfl (Nat.le_of_ble_eq_true rfl) ⟨Nat.le_of_ble_eq_true rfl, Nat.le_of_ble_eq_true rfl⟩ (show k + 0 ≤ 601024 ∧ n + 0 ≤ 7293034 by omega) dL_law_1583 ?_
  refine zb_aload_n hC 3 rfl rfl dL_law_1586 ?_
  refine zb_call2 hC LL_208 rfl (kX11_needless e2) rfl rfl (Nat.le_of_ble_eq_true rfl) ⟨Nat.le_of_ble_eq_true rfl, Nat.le_of_ble_eq_true rfl⟩ (show k + 0 ≤ 601024 ∧ n + 0 ≤ 7293034 by omega) dL_law_1587 ?_
  refine zb_icmp_eq_t hC rfl (tgt := 2283) rfl dL_law_1590 ?_
  exact zb_sub [0, 1, 2, 3, 4] rfl (zb_wid (show k + 0 ≤ k + 4 ∧ n + 0 ≤ n + 24 by omega) (kk M N1 (REL_mono hrel (Nat.le_succ t))))
theorem dL_law_1595 : decode code 1595 = .ok (.aload_n 1, 1) := by decide +kernel
theorem dL_law_1596 : decode code 1596 = .ok (.aload_n 0, 1) := by decide +kernel
theorem dL_law_1597 : decode code 1597 = .ok (.iload 4, 2) := by decide +kernel
theorem dL_law_1599 : decode code 1599 = .ok (.iconst 1, 1) := by decide +kernel
theorem dL_law_1600 : decode code 1600 = .ok (.iadd, 1) := by decide +kernel
theorem dL_law_1601 : decode code 1601 = .ok (.iaload, 1) := by decide +kernel
theorem dL_law_1602 : decode code 1602 = .ok (.aload_n 3, 1) := by decide +kernel
theorem dL_law_1603 : decode code 1603 = .ok (.invokestatic 209, 3) := by decide +kernel
theorem dL_law_1606 : decode code 1606 = .ok (.istore 5, 2) := by decide +kernel
theorem dL_law_1608 : decode code 1608 = .ok (.aload_n 2, 1) := by decide +kernel
theorem dL_law_1609 : decode code 1609 = .ok (.aload_n 0, 1) := by decide +kernel
theorem dL_law_1610 : decode code 1610 = .ok (.iload 4, 2) := by decide +kernel
theorem dL_law_1612 : decode code 1612 = .ok (.iconst 1, 1) := by decide +kernel
theorem dL_law_1613 : decode code 1613 = .ok (.iadd, 1) := by decide +kernel
theorem dL_law_1614 : decode code 1614 = .ok (.iaload, 1) := by decide +kernel
theorem dL_law_1615 : decode code 1615 = .ok (.invokevirtual 211, 3) := by decide +kernel
theorem dL_law_1618 : decode code 1618 = .ok (.lstore 6, 2) := by decide +kernel
theorem dL_law_1620 : decode code 1620 = .ok (.aload_n 2, 1) := by decide +kernel
theorem dL_law_1621 : decode code 1621 = .ok (.invokevirtual 116, 3) := by decide +kernel
theorem dL_law_1624 : decode code 1624 = .ok (.iload 5, 2) := by decide +kernel
theorem dL_law_1626 : decode code 1626 = .ok (.if_icmp .eq 5, 3) := by decide +kernel
theorem dL_law_1631 : decode code 1631 = .ok (.iload 5, 2) := by decide +kernel
theorem dL_law_1633 : decode code 1633 = .ok (.ifCond .ne 14, 3) := by decide +kernel
theorem dL_law_1636 : decode code 1636 = .ok (.aload_n 3, 1) := by decide +kernel
theorem dL_law_1637 : decode code 1637 = .ok (.iconst 0, 1) := by decide +kernel
theorem dL_law_1638 : decode code 1638 = .ok (.laload, 1) := by decide +kernel
theorem dL_law_1639 : decode code 1639 = .ok (.lload 6, 2) := by decide +kernel
theorem dL_law_1641 : decode code 1641 = .ok (.lcmp, 1) := by decide +kernel
theorem dL_law_1642 : decode code 1642 = .ok (.ifCond .eq 5, 3) := by decide +kernel
theorem dL_law_1647 : decode code 1647 = .ok (.goto 636, 3) := by decide +kernel
/-- account -/
theorem lc_27 {X : gX} {V V2 : gEnv} {b L t k n : Nat} {xs : Nat → Int32} {M N : gMem} (hC : zL X V V2 b L xs) (h : REL t M N) (hi : 6 * t + 6 ≤ L) (hL : L ≤ 3072) (hR : k + 4 ≤ 601024 ∧ n + 24 ≤ 7293034) (kk : ∀ M1 N1, REL (t + 1) M1 N1 → gB X V V2 M1 N1 (k + 4) (n + 24) 2283 (zLS V V2 b (6 * t)) []) : gB X V V2 M N k n 1595 (zLS V V2 b (6 * t)) [] := by
  obtain ⟨q, M1, bb, N1, e1, e2, hq2, hth, hout, hrel⟩ := st_account h (by omega) (xs (6 * t + 1))
  refine zb_aload_n hC 2 rfl rfl dL_law_1595 ?_
  refine zb_arg hC (a := 6 * t) (j := 1) (ja := 1) (jb := 0) rfl rfl rfl (by omega) hL dL_law_1596 dL_law_1597 dL_law_1599 dL_law_1600 dL_law_1601 ?_
  refine zb_aload_n hC 4 rfl rfl dL_law_1602 ?_
  refine zb_help hC LL_209 (kL_account hC.2.2.2.2.2.2.2.2.2.2 e1) rfl rfl (Nat.le_of_ble_eq_true rfl) ⟨Nat.le_of_ble_eq_true rfl, Nat.le_of_ble_eq_true rfl⟩ (show k + 1 ≤ 601024 ∧ n + 6 ≤ 7293034 by omega) dL_law_1603 ?_
  refine zb_istore hC (by decide) rfl dL_law_1606 ?_
  refine zb_aload_n hC 4 rfl rfl dL_law_1608 ?_
  refine zb_arg hC (a := 6 * t) (j := 1) (ja := 2) (jb := 1) rfl rfl rfl (by omega) hL dL_law_1609 dL_law_1610 dL_law_1612 dL_law_1613 dL_law_1614 ?_
  refine zb_call2 hC LL_211 rfl (kX11_account e2) rfl rfl (Nat.le_of_ble_eq_true rfl) ⟨Nat.le_of_ble_eq_true rfl, Nat.le_of_ble_eq_true rfl⟩ (show k + 1 ≤ 601024 ∧ n + 6 ≤ 7293034 by omega) dL_law_1615 ?_
  refine zb_lstore hC (by decide) rfl dL_law_1618 ?_
  refine zb_aload_n hC 5 rfl rfl dL_law_1620 ?_
  refine zb_call2 hC LL_116 rfl (kX11_thrown (show fX11_thrown N1 = some (nI q) by rw [← hth]; rfl)) rfl rfl (Nat.le_of_ble_eq_true rfl) ⟨Nat.le_of_ble_eq_true rfl, Nat.le_of_ble_eq_true rfl⟩ (show k + 1 ≤ 601024 ∧ n + 6 ≤ 7293034 by omega) dL_law_1621 ?_
  refine zb_iload hC 1 rfl dL_law_1624 ?_
  refine zb_icmp_eq_t hC rfl (tgt := 1631) rfl dL_law_1626 ?_
  refine zb_iload hC 1 rfl dL_law_1631 ?_
  by_cases hq : q = 0
  · have hq0 : nI q = 0 := by rw [hq]; rfl
    refine zb_if_ne_f hC hq0 (tgt := 1647) rfl dL_law_1633 ?_
    refine zb_aload_n hC 6 rfl rfl dL_law_1636 ?_
    refine zb_iconst hC (v := 0) rfl dL_law_1637 ?_
    refine zb_out hC (hout hq) dL_law_1638 ?_
    refine zb_lload hC 0 rfl dL_law_1639 ?_
    refine zb_lcmp hC dL_law_1641 ?_
    refine zb_if_eq_t hC (zcmp _) (tgt := 1647) rfl dL_law_1642 ?_
    refine zb_goto hC (tgt := 2283) rfl dL_law_1647 ?_
    exact zb_sub [2, 3, 4, 5, 6] rfl (zb_wid (show k + 1 ≤ k + 4 ∧ n + 6 ≤ n + 24 by omega) (kk M1 N1 (REL_mono hrel (Nat.le_succ t))))
  · have hq0 : ¬ nI q = 0 := by rw [show (0 : Int32) = nI 0 from rfl, p_eq (by omega) (by omega)]; exact hq
    refine zb_if_ne_t hC hq0 (tgt := 1647) rfl dL_law_1633 ?_
    refine zb_goto hC (tgt := 2283) rfl dL_law_1647 ?_
    exact zb_sub [2, 3, 4, 5, 6] rfl (zb_wid (show k + 1 ≤ k + 4 ∧ n + 6 ≤ n + 24 by omega) (kk M1 N1 (REL_mono hrel (Nat.le_succ t))))
