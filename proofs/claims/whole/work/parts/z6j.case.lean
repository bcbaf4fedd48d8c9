/-! the law's cases, by program -/
theorem dL_law_1650 : decode code 1650 = .ok (.aload_n 1, 1) := by decide +kernel
theorem dL_law_1651 : decode code 1651 = .ok (.invokevirtual 212, 3) := by decide +kernel
theorem dL_law_1654 : decode code 1654 = .ok (.f2d, 1) := by decide +kernel
theorem dL_law_1655 : decode code 1655 = .ok (.dstore 5, 2) := by decide +kernel
theorem dL_law_1657 : decode code 1657 = .ok (.aload_n 2, 1) := by decide +kernel
theorem dL_law_1658 : decode code 1658 = .ok (.invokevirtual 216, 3) := by decide +kernel
theorem dL_law_1661 : decode code 1661 = .ok (.f2d, 1) := by decide +kernel
theorem dL_law_1662 : decode code 1662 = .ok (.dstore 7, 2) := by decide +kernel
theorem dL_law_1664 : decode code 1664 = .ok (.dload 5, 2) := by decide +kernel
theorem dL_law_1666 : decode code 1666 = .ok (.dload 7, 2) := by decide +kernel
theorem dL_law_1668 : decode code 1668 = .ok (.dcmp .l, 1) := by decide +kernel
theorem dL_law_1669 : decode code 1669 = .ok (.ifCond .eq 21, 3) := by decide +kernel
theorem dL_law_1672 : decode code 1672 = .ok (.dload 5, 2) := by decide +kernel
theorem dL_law_1674 : decode code 1674 = .ok (.dload 5, 2) := by decide +kernel
theorem dL_law_1676 : decode code 1676 = .ok (.dcmp .l, 1) := by decide +kernel
theorem dL_law_1677 : decode code 1677 = .ok (.ifCond .eq 11, 3) := by decide +kernel
theorem dL_law_1680 : decode code 1680 = .ok (.dload 7, 2) := by decide +kernel
theorem dL_law_1682 : decode code 1682 = .ok (.dload 7, 2) := by decide +kernel
theorem dL_law_1684 : decode code 1684 = .ok (.dcmp .l, 1) := by decide +kernel
theorem dL_law_1685 : decode code 1685 = .ok (.ifCond .ne 5, 3) := by decide +kernel
theorem dL_law_1690 : decode code 1690 = .ok (.goto 593, 3) := by decide +kernel
/-- innerShare -/
theorem lc_28 {X : gX} {V V2 : gEnv} {b L t k n : Nat} {xs : Nat → Int32} {M N : gMem} (hf : zHF) (hC : zL X V V2 b L xs) (h : REL t M N) (hi : 6 * t + 6 ≤ L) (hL : L ≤ 3072) (hR : k + 4 ≤ 601024 ∧ n + 24 ≤ 7293034) (kk : ∀ M1 N1, REL (t + 1) M1 N1 → gB X V V2 M1 N1 (k + 4) (n + 24) 2283 (zLS V V2 b (6 * t)) []) : gB X V V2 M N k n 1650 (zLS V V2 b (6 * t)) [] := by
  obtain ⟨v, N1, e1, e2, hrel, hne⟩ := st_innerShare2 hf h
  refine zb_aload_n hC 2 rfl rfl dL_law_1650 ?_
  refine zb_call1 hC LL_212 rfl (kX10_innerShare e1) rfl rfl (Nat.le_of_ble_eq_true rfl) ⟨Nat.le_of_ble_eq_true rfl, Nat.le_of_ble_eq_true rfl⟩ (show k + 0 ≤ 601024 ∧ n + 0 ≤ 7293034 by omega) dL_law_1651 ?_
  refine zb_f2d hC hne dL_law_1654 ?_
  refine zb_dstore hC (by decide) rfl dL_law_1655 ?_
  refine zb_aload_n hC 4 rfl rfl dL_law_1657 ?_
  refine zb_call2 hC LL_216 rfl (kX11_innerShare e2) rfl rfl (Nat.le_of_ble_eq_true rfl) ⟨Nat.le_of_ble_eq_true rfl, Nat.le_of_ble_eq_true rfl⟩ (show k + 0 ≤ 601024 ∧ n + 0 ≤ 7293034 by omega) dL_law_1658 ?_
  refine zb_f2d hC hne dL_law_1661 ?_
  refine zb_dstore hC (by decide) rfl dL_law_1662 ?_
  refine zb_dload hC 1 rfl dL_law_1664 ?_
  refine zb_dload hC 0 rfl dL_law_1666 ?_
  refine zb_dcmp hC dL_law_1668 ?_
  by_cases hc : Op.cmpValue (FP.dcmp (FP.f2d v) (FP.f2d v)) .l = 0
  · refine zb_if_eq_t hC hc (tgt := 1690) rfl dL_law_1669 ?_
    refine zb_goto hC (tgt := 2283) rfl dL_law_1690 ?_
    exact zb_sub [2, 3, 4, 5, 6] rfl (zb_wid (show k + 0 ≤ k + 4 ∧ n + 0 ≤ n + 24 by omega) (kk M N1 (REL_mono hrel (Nat.le_succ t))))
  · refine zb_if_eq_f hC hc (tgt := 1690) rfl dL_law_1669 ?_
    refine zb_dload hC 1 rfl dL_law_1672 ?_
    refine zb_dload hC 1 rfl dL_law_1674 ?_
    refine zb_dcmp hC dL_law_1676 ?_
    refine zb_if_eq_f hC hc (tgt := 1688) rfl dL_law_1677 ?_
    refine zb_dload hC 0 rfl dL_law_1680 ?_
    refine zb_dload hC 0 rfl dL_law_1682 ?_
    refine zb_dcmp hC dL_law_1684 ?_
    refine zb_if_ne_t hC hc (tgt := 1690) rfl dL_law_1685 ?_
    refine zb_goto hC (tgt := 2283) rfl dL_law_1690 ?_
    exact zb_sub [2, 3, 4, 5, 6] rfl (zb_wid (show k + 0 ≤ k + 4 ∧ n + 0 ≤ n + 24 by omega) (kk M N1 (REL_mono hrel (Nat.le_succ t))))
theorem dL_law_1693 : decode code 1693 = .ok (.aload_n 1, 1) := by decide +kernel
theorem dL_law_1694 : decode code 1694 = .ok (.invokevirtual 217, 3) := by decide +kernel
theorem dL_law_1697 : decode code 1697 = .ok (.dstore 5, 2) := by decide +kernel
theorem dL_law_1699 : decode code 1699 = .ok (.aload_n 2, 1) := by decide +kernel
theorem dL_law_1700 : decode code 1700 = .ok (.invokevirtual 221, 3) := by decide +kernel
theorem dL_law_1703 : decode code 1703 = .ok (.dstore 7, 2) := by decide +kernel
theorem dL_law_1705 : decode code 1705 = .ok (.dload 5, 2) := by decide +kernel
theorem dL_law_1707 : decode code 1707 = .ok (.dload 7, 2) := by decide +kernel
theorem dL_law_1709 : decode code 1709 = .ok (.dcmp .l, 1) := by decide +kernel
theorem dL_law_1710 : decode code 1710 = .ok (.ifCond .eq 21, 3) := by decide +kernel
theorem dL_law_1713 : decode code 1713 = .ok (.dload 5, 2) := by decide +kernel
theorem dL_law_1715 : decode code 1715 = .ok (.dload 5, 2) := by decide +kernel
theorem dL_law_1717 : decode code 1717 = .ok (.dcmp .l, 1) := by decide +kernel
theorem dL_law_1718 : decode code 1718 = .ok (.ifCond .eq 11, 3) := by decide +kernel
theorem dL_law_1721 : decode code 1721 = .ok (.dload 7, 2) := by decide +kernel
theorem dL_law_1723 : decode code 1723 = .ok (.dload 7, 2) := by decide +kernel
theorem dL_law_1725 : decode code 1725 = .ok (.dcmp .l, 1) := by decide +kernel
theorem dL_law_1726 : decode code 1726 = .ok (.ifCond .ne 5, 3) := by decide +kernel
theorem dL_law_1731 : decode code 1731 = .ok (.goto 552, 3) := by decide +kernel
/-- meanMoved -/
theorem lc_29 {X : gX} {V V2 : gEnv} {b L t k n : Nat} {xs : Nat → Int32} {M N : gMem} (hd : HD) (hl : HL) (hC : zL X V V2 b L xs) (h : REL t M N) (hi : 6 * t + 6 ≤ L) (hL : L ≤ 3072) (hR : k + 4 ≤ 601024 ∧ n + 24 ≤ 7293034) (kk : ∀ M1 N1, REL (t + 1) M1 N1 → gB X V V2 M1 N1 (k + 4) (n + 24) 2283 (zLS V V2 b (6 * t)) []) : gB X V V2 M N k n 1693 (zLS V V2 b (6 * t)) [] := by
  obtain ⟨v, N1, e1, e2, hrel⟩ := st_meanMoved hd hl h (by omega)
  refine zb_aload_n hC 2 rfl rfl dL_law_1693 ?_
  refine zb_call1 hC LL_217 rfl (kX10_meanMoved e1) rfl rfl (Nat.le_of_ble_eq_true rfl) ⟨Nat.le_of_ble_eq_true rfl, Nat.le_of_ble_eq_true rfl⟩ (show k + 0 ≤ 601024 ∧ n + 0 ≤ 7293034 by omega) dL_law_1694 ?_
  refine zb_dstore hC (by decide) rfl dL_law_1697 ?_
  refine zb_aload_n hC 4 rfl rfl dL_law_1699 ?_
  refine zb_call2 hC LL_221 rfl (kX11_meanMoved e2) rfl rfl (Nat.le_of_ble_eq_true rfl) ⟨Nat.le_of_ble_eq_true rfl, Nat.le_of_ble_eq_true rfl⟩ (show k + 0 ≤ 601024 ∧ n + 0 ≤ 7293034 by omega) dL_law_1700 ?_
  refine zb_dstore hC (by decide) rfl dL_law_1703 ?_
  refine zb_dload hC 1 rfl dL_law_1705 ?_
  refine zb_dload hC 0 rfl dL_law_1707 ?_
  refine zb_dcmp hC dL_law_1709 ?_
  by_cases hc : Op.cmpValue (FP.dcmp v v) .l = 0
  · refine zb_if_eq_t hC hc (tgt := 1731) rfl dL_law_1710 ?_
    refine zb_goto hC (tgt := 2283) rfl dL_law_1731 ?_
    exact zb_sub [2, 3, 4, 5, 6] rfl (zb_wid (show k + 0 ≤ k + 4 ∧ n + 0 ≤ n + 24 by omega) (kk M N1 (REL_mono hrel (Nat.le_succ t))))
  · refine zb_if_eq_f hC hc (tgt := 1731) rfl dL_law_1710 ?_
    refine zb_dload hC 1 rfl dL_law_1713 ?_
    refine zb_dload hC 1 rfl dL_law_1715 ?_
    refine zb_dcmp hC dL_law_1717 ?_
    refine zb_if_eq_f hC hc (tgt := 1729) rfl dL_law_1718 ?_
    refine zb_dload hC 0 rfl dL_law_1721 ?_
    refine zb_dload hC 0 rfl dL_law_1723 ?_
    refine zb_dcmp hC dL_law_1725 ?_
    refine zb_if_ne_t hC hc (tgt := 1731) rfl dL_law_1726 ?_
    refine zb_goto hC (tgt := 2283) rfl dL_law_1731 ?_
    exact zb_sub [2, 3, 4, 5, 6] rfl (zb_wid (show k + 0 ≤ k + 4 ∧ n + 0 ≤ n + 24 by omega) (kk M N1 (REL_mono hrel (Nat.le_succ t))))
theorem dL_law_1734 : decode code 1734 = .ok (.aload_n 1, 1) := by decide +kernel
theorem dL_law_1735 : decode code 1735 = .ok (.aload_n 0, 1) := by decide +kernel
theorem dL_law_1736 : decode code 1736 = .ok (.iload 4, 2) := by decide +kernel
theorem dL_law_1738 : decode code 1738 = .ok (.iconst 1, 1) := by decide +kernel
theorem dL_law_1739 : decode code 1739 = .ok (.iadd, 1) := by decide +kernel
theorem dL_law_1740 : decode code 1740 = .ok (.iaload, 1) := by decide +kernel
theorem dL_law_1741 : decode code 1741 = .ok (.aload_n 3, 1) := by decide +kernel
theorem dL_law_1742 : decode code 1742 = .ok (.invokestatic 222, 3) := by decide +kernel
theorem dL_law_1745 : decode code 1745 = .ok (.istore 5, 2) := by decide +kernel
theorem dL_law_1747 : decode code 1747 = .ok (.aload_n 2, 1) := by decide +kernel
theorem dL_law_1748 : decode code 1748 = .ok (.aload_n 0, 1) := by decide +kernel
theorem dL_law_1749 : decode code 1749 = .ok (.iload 4, 2) := by decide +kernel
theorem dL_law_1751 : decode code 1751 = .ok (.iconst 1, 1) := by decide +kernel
theorem dL_law_1752 : decode code 1752 = .ok (.iadd, 1) := by decide +kernel
theorem dL_law_1753 : decode code 1753 = .ok (.iaload, 1) := by decide +kernel
theorem dL_law_1754 : decode code 1754 = .ok (.invokevirtual 224, 3) := by decide +kernel
theorem dL_law_1757 : decode code 1757 = .ok (.istore 6, 2) := by decide +kernel
theorem dL_law_1759 : decode code 1759 = .ok (.aload_n 2, 1) := by decide +kernel
theorem dL_law_1760 : decode code 1760 = .ok (.invokevirtual 116, 3) := by decide +kernel
theorem dL_law_1763 : decode code 1763 = .ok (.iload 5, 2) := by decide +kernel
theorem dL_law_1765 : decode code 1765 = .ok (.if_icmp .eq 5, 3) := by decide +kernel
theorem dL_law_1770 : decode code 1770 = .ok (.iload 5, 2) := by decide +kernel
theorem dL_law_1772 : decode code 1772 = .ok (.ifCond .ne 15, 3) := by decide +kernel
theorem dL_law_1775 : decode code 1775 = .ok (.aload_n 3, 1) := by decide +kernel
theorem dL_law_1776 : decode code 1776 = .ok (.iconst 0, 1) := by decide +kernel
theorem dL_law_1777 : decode code 1777 = .ok (.laload, 1) := by decide +kernel
theorem dL_law_1778 : decode code 1778 = .ok (.iload 6, 2) := by decide +kernel
theorem dL_law_1780 : decode code 1780 = .ok (.i2l, 1) := by decide +kernel
theorem dL_law_1781 : decode code 1781 = .ok (.lcmp, 1) := by decide +kernel
theorem dL_law_1782 : decode code 1782 = .ok (.ifCond .eq 5, 3) := by decide +kernel
theorem dL_law_1787 : decode code 1787 = .ok (.goto 496, 3) := by decide +kernel
/-- make -/
theorem lc_30 {X : gX} {V V2 : gEnv} {b L t k n : Nat} {xs : Nat → Int32} {M N : gMem} (hC : zL X V V2 b L xs) (h : REL t M N) (hi : 6 * t + 6 ≤ L) (hL : L ≤ 3072) (hR : k + 4 ≤ 601024 ∧ n + 24 ≤ 7293034) (kk : ∀ M1 N1, REL (t + 1) M1 N1 → gB X V V2 M1 N1 (k + 4) (n + 24) 2283 (zLS V V2 b (6 * t)) []) : gB X V V2 M N k n 1734 (zLS V V2 b (6 * t)) [] := by
  obtain ⟨q, M1, bb, N1, e1, e2, hq2, hth, hout, hrel⟩ := st_make h (xs (6 * t + 1))
  refine zb_aload_n hC 2 rfl rfl dL_law_1734 ?_
  refine zb_arg hC (a := 6 * t) (j := 1) (ja := 1) (jb := 0) rfl rfl rfl (by omega) hL dL_law_1735 dL_law_1736 dL_law_1738 dL_law_1739 dL_law_1740 ?_
  refine zb_aload_n hC 4 rfl rfl dL_law_1741 ?_
  refine zb_help hC LL_222 (kL_make hC.2.2.2.2.2.2.2.2.2.2 e1) rfl rfl (Nat.le_of_ble_eq_true rfl) ⟨Nat.le_of_ble_eq_true rfl, Nat.le_of_ble_eq_true rfl⟩ (show k + 1 ≤ 601024 ∧ n + 6 ≤ 7293034 by omega) dL_law_1742 ?_
  refine zb_istore hC (by decide) rfl dL_law_1745 ?_
  refine zb_aload_n hC 4 rfl rfl dL_law_1747 ?_
  refine zb_arg hC (a := 6 * t) (j := 1) (ja := 2) (jb := 1) rfl rfl rfl (by omega) hL dL_law_1748 dL_law_1749 dL_law_1751 dL_law_1752 dL_law_1753 ?_
  refine zb_call2 hC LL_224 rfl (kX11_make e2) rfl rfl (Nat.le_of_ble_eq_true rfl) ⟨Nat.le_of_ble_eq_true rfl, Nat.le_of_ble_eq_true rfl⟩ (show k + 1 ≤ 601024 ∧ n + 6 ≤ 7293034 by omega) dL_law_1754 ?_
  refine zb_istore hC (by decide) rfl dL_law_1757 ?_
  refine zb_aload_n hC 5 rfl rfl dL_law_1759 ?_
  refine zb_call2 hC LL_116 rfl (kX11_thrown (show fX11_thrown N1 = some (nI q) by rw [← hth]; rfl)) rfl rfl (Nat.le_of_ble_eq_true rfl) ⟨Nat.le_of_ble_eq_true rfl, Nat.le_of_ble_eq_true rfl⟩ (show k + 1 ≤ 601024 ∧ n + 6 ≤ 7293034 by omega) dL_law_1760 ?_
  refine zb_iload hC 1 rfl dL_law_1763 ?_
  refine zb_icmp_eq_t hC rfl (tgt := 1770) rfl dL_law_1765 ?_
  refine zb_iload hC 1 rfl dL_law_1770 ?_
  by_cases hq : q = 0
  · have hq0 : nI q = 0 := by rw [hq]; rfl
    refine zb_if_ne_f hC hq0 (tgt := 1787) rfl dL_law_1772 ?_
    refine zb_aload_n hC 6 rfl rfl dL_law_1775 ?_
    refine zb_iconst hC (v := 0) rfl dL_law_1776 ?_
    refine zb_out hC (hout hq) dL_law_1777 ?_
    refine zb_iload hC 0 rfl dL_law_1778 ?_
    refine zb_i2l hC dL_law_1780 ?_
    refine zb_lcmp hC dL_law_1781 ?_
    refine zb_if_eq_t hC (zcmp _) (tgt := 1787) rfl dL_law_1782 ?_
    refine zb_goto hC (tgt := 2283) rfl dL_law_1787 ?_
    exact zb_sub [2, 3, 4, 5, 6] rfl (zb_wid (show k + 1 ≤ k + 4 ∧ n + 6 ≤ n + 24 by omega) (kk M1 N1 hrel))
  · have hq0 : ¬ nI q = 0 := by rw [show (0 : Int32) = nI 0 from rfl, p_eq (by omega) (by omega)]; exact hq
    refine zb_if_ne_t hC hq0 (tgt := 1787) rfl dL_law_1772 ?_
    refine zb_goto hC (tgt := 2283) rfl dL_law_1787 ?_
    exact zb_sub [2, 3, 4, 5, 6] rfl (zb_wid (show k + 1 ≤ k + 4 ∧ n + 6 ≤ n + 24 by omega) (kk M1 N1 hrel))
