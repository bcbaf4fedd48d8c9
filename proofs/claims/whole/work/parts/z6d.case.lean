/-! the law's cases, by program -/
theorem dL_law_694 : decode code 694 = .ok (.aload_n 1, 1) := by decide +kernel
theorem dL_law_695 : decode code 695 = .ok (.aload_n 0, 1) := by decide +kernel
theorem dL_law_696 : decode code 696 = .ok (.iload 4, 2) := by decide +kernel
theorem dL_law_698 : decode code 698 = .ok (.iconst 1, 1) := by decide +kernel
theorem dL_law_699 : decode code 699 = .ok (.iadd, 1) := by decide +kernel
theorem dL_law_700 : decode code 700 = .ok (.iaload, 1) := by decide +kernel
theorem dL_law_701 : decode code 701 = .ok (.aload_n 0, 1) := by decide +kernel
theorem dL_law_702 : decode code 702 = .ok (.iload 4, 2) := by decide +kernel
theorem dL_law_704 : decode code 704 = .ok (.iconst 2, 1) := by decide +kernel
theorem dL_law_705 : decode code 705 = .ok (.iadd, 1) := by decide +kernel
theorem dL_law_706 : decode code 706 = .ok (.iaload, 1) := by decide +kernel
theorem dL_law_707 : decode code 707 = .ok (.aload_n 3, 1) := by decide +kernel
theorem dL_law_708 : decode code 708 = .ok (.invokestatic 148, 3) := by decide +kernel
theorem dL_law_711 : decode code 711 = .ok (.istore 5, 2) := by decide +kernel
theorem dL_law_713 : decode code 713 = .ok (.aload_n 2, 1) := by decide +kernel
theorem dL_law_714 : decode code 714 = .ok (.aload_n 0, 1) := by decide +kernel
theorem dL_law_715 : decode code 715 = .ok (.iload 4, 2) := by decide +kernel
theorem dL_law_717 : decode code 717 = .ok (.iconst 1, 1) := by decide +kernel
theorem dL_law_718 : decode code 718 = .ok (.iadd, 1) := by decide +kernel
theorem dL_law_719 : decode code 719 = .ok (.iaload, 1) := by decide +kernel
theorem dL_law_720 : decode code 720 = .ok (.aload_n 0, 1) := by decide +kernel
theorem dL_law_721 : decode code 721 = .ok (.iload 4, 2) := by decide +kernel
theorem dL_law_723 : decode code 723 = .ok (.iconst 2, 1) := by decide +kernel
theorem dL_law_724 : decode code 724 = .ok (.iadd, 1) := by decide +kernel
theorem dL_law_725 : decode code 725 = .ok (.iaload, 1) := by decide +kernel
theorem dL_law_726 : decode code 726 = .ok (.invokevirtual 150, 3) := by decide +kernel
theorem dL_law_729 : decode code 729 = .ok (.istore 6, 2) := by decide +kernel
theorem dL_law_731 : decode code 731 = .ok (.aload_n 2, 1) := by decide +kernel
theorem dL_law_732 : decode code 732 = .ok (.invokevirtual 116, 3) := by decide +kernel
theorem dL_law_735 : decode code 735 = .ok (.iload 5, 2) := by decide +kernel
theorem dL_law_737 : decode code 737 = .ok (.if_icmp .eq 5, 3) := by decide +kernel
theorem dL_law_742 : decode code 742 = .ok (.iload 5, 2) := by decide +kernel
theorem dL_law_744 : decode code 744 = .ok (.ifCond .ne 15, 3) := by decide +kernel
theorem dL_law_747 : decode code 747 = .ok (.aload_n 3, 1) := by decide +kernel
theorem dL_law_748 : decode code 748 = .ok (.iconst 0, 1) := by decide +kernel
theorem dL_law_749 : decode code 749 = .ok (.laload, 1) := by decide +kernel
theorem dL_law_750 : decode code 750 = .ok (.iload 6, 2) := by decide +kernel
theorem dL_law_752 : decode code 752 = .ok (.i2l, 1) := by decide +kernel
theorem dL_law_753 : decode code 753 = .ok (.lcmp, 1) := by decide +kernel
theorem dL_law_754 : decode code 754 = .ok (.ifCond .eq 5, 3) := by decide +kernel
theorem dL_law_759 : decode code 759 = .ok (.goto 1524, 3) := by decide +kernel
/-- group -/
theorem lc_9 {X : gX} {V V2 : gEnv} {b L t k n : Nat} {xs : Nat → Int32} {M N : gMem} (hC : zL X V V2 b L xs) (h : REL t M N) (hi : 6 * t + 6 ≤ L) (hL : L ≤ 3072) (hR : k + 4 ≤ 601024 ∧ n + 24 ≤ 7293034) (kk : ∀ M1 N1, REL (t + 1) M1 N1 → gB X V V2 M1 N1 (k + 4) (n + 24) 2283 (zLS V V2 b (6 * t)) []) : gB X V V2 M N k n 694 (zLS V V2 b (6 * t)) [] := by
  obtain ⟨q, M1, bb, N1, e1, e2, hq2, hth, hout, hrel⟩ := st_group h (xs (6 * t + 1)) (xs (6 * t + 2))
  refine zb_aload_n hC 2 rfl rfl dL_law_694 ?_
  refine zb_arg hC (a := 6 * t) (j := 1) (ja := 1) (jb := 0) rfl rfl rfl (by omega) hL dL_law_695 dL_law_696 dL_law_698 dL_law_699 dL_law_700 ?_
  refine zb_arg hC (a := 6 * t) (j := 2) (ja := 1) (jb := 0) rfl rfl rfl (by omega) hL dL_law_701 dL_law_702 dL_law_704 dL_law_705 dL_law_706 ?_
  refine zb_aload_n hC 4 rfl rfl dL_law_707 ?_
  refine zb_help hC LL_148 (kL_group hC.2.2.2.2.2.2.2.2.2.2 e1) rfl rfl (Nat.le_of_ble_eq_true rfl) ⟨Nat.le_of_ble_eq_true rfl, Nat.le_of_ble_eq_true rfl⟩ (show k + 2 ≤ 601024 ∧ n + 12 ≤ 7293034 by omega) dL_law_708 ?_
  refine zb_istore hC (by decide) rfl dL_law_711 ?_
  refine zb_aload_n hC 4 rfl rfl dL_law_713 ?_
  refine zb_arg hC (a := 6 * t) (j := 1) (ja := 2) (jb := 1) rfl rfl rfl (by omega) hL dL_law_714 dL_law_715 dL_law_717 dL_law_718 dL_law_719 ?_
  refine zb_arg hC (a := 6 * t) (j := 2) (ja := 2) (jb := 1) rfl rfl rfl (by omega) hL dL_law_720 dL_law_721 dL_law_723 dL_law_724 dL_law_725 ?_
  refine zb_call2 hC LL_150 rfl (kX11_group e2) rfl rfl (Nat.le_of_ble_eq_true rfl) ⟨Nat.le_of_ble_eq_true rfl, Nat.le_of_ble_eq_true rfl⟩ (show k + 2 ≤ 601024 ∧ n + 12 ≤ 7293034 by omega) dL_law_726 ?_
  refine zb_istore hC (by decide) rfl dL_law_729 ?_
  refine zb_aload_n hC 5 rfl rfl dL_law_731 ?_
  refine zb_call2 hC LL_116 rfl (kX11_thrown (show fX11_thrown N1 = some (nI q) by rw [← hth]; rfl)) rfl rfl (Nat.le_of_ble_eq_true rfl) ⟨Nat.le_of_ble_eq_true rfl, Nat.le_of_ble_eq_true rfl⟩ (show k + 2 ≤ 601024 ∧ n + 12 ≤ 7293034 by omega) dL_law_732 ?_
  refine zb_iload hC 1 rfl dL_law_735 ?_
  refine zb_icmp_eq_t hC rfl (tgt := 742) rfl dL_law_737 ?_
  refine zb_iload hC 1 rfl dL_law_742 ?_
  by_cases hq : q = 0
  · have hq0 : nI q = 0 := by rw [hq]; rfl
    refine zb_if_ne_f hC hq0 (tgt := 759) rfl dL_law_744 ?_
    refine zb_aload_n hC 6 rfl rfl dL_law_747 ?_
    refine zb_iconst hC (v := 0) rfl dL_law_748 ?_
    refine zb_out hC (hout hq) dL_law_749 ?_
    refine zb_iload hC 0 rfl dL_law_750 ?_
    refine zb_i2l hC dL_law_752 ?_
    refine zb_lcmp hC dL_law_753 ?_
    refine zb_if_eq_t hC (zcmp _) (tgt := 759) rfl dL_law_754 ?_
    refine zb_goto hC (tgt := 2283) rfl dL_law_759 ?_
    exact zb_sub [2, 3, 4, 5, 6] rfl (zb_wid (show k + 2 ≤ k + 4 ∧ n + 12 ≤ n + 24 by omega) (kk M1 N1 (REL_mono hrel (Nat.le_succ t))))
  · have hq0 : ¬ nI q = 0 := by rw [show (0 : Int32) = nI 0 from rfl, p_eq (by omega) (by omega)]; exact hq
    refine zb_if_ne_t hC hq0 (tgt := 759) rfl dL_law_744 ?_
    refine zb_goto hC (tgt := 2283) rfl dL_law_759 ?_
    exact zb_sub [2, 3, 4, 5, 6] rfl (zb_wid (show k + 2 ≤ k + 4 ∧ n + 12 ≤ n + 24 by omega) (kk M1 N1 (REL_mono hrel (Nat.le_succ t))))
theorem dL_law_762 : decode code 762 = .ok (.aload_n 1, 1) := by decide +kernel
theorem dL_law_763 : decode code 763 = .ok (.aload_n 0, 1) := by decide +kernel
theorem dL_law_764 : decode code 764 = .ok (.iload 4, 2) := by decide +kernel
theorem dL_law_766 : decode code 766 = .ok (.iconst 1, 1) := by decide +kernel
theorem dL_law_767 : decode code 767 = .ok (.iadd, 1) := by decide +kernel
theorem dL_law_768 : decode code 768 = .ok (.iaload, 1) := by decide +kernel
theorem dL_law_769 : decode code 769 = .ok (.aload_n 0, 1) := by decide +kernel
theorem dL_law_770 : decode code 770 = .ok (.iload 4, 2) := by decide +kernel
theorem dL_law_772 : decode code 772 = .ok (.iconst 2, 1) := by decide +kernel
theorem dL_law_773 : decode code 773 = .ok (.iadd, 1) := by decide +kernel
theorem dL_law_774 : decode code 774 = .ok (.iaload, 1) := by decide +kernel
theorem dL_law_775 : decode code 775 = .ok (.aload_n 3, 1) := by decide +kernel
theorem dL_law_776 : decode code 776 = .ok (.invokestatic 151, 3) := by decide +kernel
theorem dL_law_779 : decode code 779 = .ok (.istore 5, 2) := by decide +kernel
theorem dL_law_781 : decode code 781 = .ok (.aload_n 2, 1) := by decide +kernel
theorem dL_law_782 : decode code 782 = .ok (.aload_n 0, 1) := by decide +kernel
theorem dL_law_783 : decode code 783 = .ok (.iload 4, 2) := by decide +kernel
theorem dL_law_785 : decode code 785 = .ok (.iconst 1, 1) := by decide +kernel
theorem dL_law_786 : decode code 786 = .ok (.iadd, 1) := by decide +kernel
theorem dL_law_787 : decode code 787 = .ok (.iaload, 1) := by decide +kernel
theorem dL_law_788 : decode code 788 = .ok (.aload_n 0, 1) := by decide +kernel
theorem dL_law_789 : decode code 789 = .ok (.iload 4, 2) := by decide +kernel
theorem dL_law_791 : decode code 791 = .ok (.iconst 2, 1) := by decide +kernel
theorem dL_law_792 : decode code 792 = .ok (.iadd, 1) := by decide +kernel
theorem dL_law_793 : decode code 793 = .ok (.iaload, 1) := by decide +kernel
theorem dL_law_794 : decode code 794 = .ok (.invokevirtual 153, 3) := by decide +kernel
theorem dL_law_797 : decode code 797 = .ok (.istore 6, 2) := by decide +kernel
theorem dL_law_799 : decode code 799 = .ok (.aload_n 2, 1) := by decide +kernel
theorem dL_law_800 : decode code 800 = .ok (.invokevirtual 116, 3) := by decide +kernel
theorem dL_law_803 : decode code 803 = .ok (.iload 5, 2) := by decide +kernel
theorem dL_law_805 : decode code 805 = .ok (.if_icmp .eq 5, 3) := by decide +kernel
theorem dL_law_810 : decode code 810 = .ok (.iload 5, 2) := by decide +kernel
theorem dL_law_812 : decode code 812 = .ok (.ifCond .ne 15, 3) := by decide +kernel
theorem dL_law_815 : decode code 815 = .ok (.aload_n 3, 1) := by decide +kernel
theorem dL_law_816 : decode code 816 = .ok (.iconst 0, 1) := by decide +kernel
theorem dL_law_817 : decode code 817 = .ok (.laload, 1) := by decide +kernel
theorem dL_law_818 : decode code 818 = .ok (.iload 6, 2) := by decide +kernel
theorem dL_law_820 : decode code 820 = .ok (.i2l, 1) := by decide +kernel
theorem dL_law_821 : decode code 821 = .ok (.lcmp, 1) := by decide +kernel
theorem dL_law_822 : decode code 822 = .ok (.ifCond .eq 5, 3) := by decide +kernel
theorem dL_law_827 : decode code 827 = .ok (.goto 1456, 3) := by decide +kernel
/-- arrow -/
theorem lc_10 {X : gX} {V V2 : gEnv} {b L t k n : Nat} {xs : Nat → Int32} {M N : gMem} (hC : zL X V V2 b L xs) (h : REL t M N) (hi : 6 * t + 6 ≤ L) (hL : L ≤ 3072) (hR : k + 4 ≤ 601024 ∧ n + 24 ≤ 7293034) (kk : ∀ M1 N1, REL (t + 1) M1 N1 → gB X V V2 M1 N1 (k + 4) (n + 24) 2283 (zLS V V2 b (6 * t)) []) : gB X V V2 M N k n 762 (zLS V V2 b (6 * t)) [] := by
  obtain ⟨q, M1, bb, N1, e1, e2, hq2, hth, hout, hrel⟩ := st_arrow h (xs (6 * t + 1)) (xs (6 * t + 2))
  refine zb_aload_n hC 2 rfl rfl dL_law_762 ?_
  refine zb_arg hC (a := 6 * t) (j := 1) (ja := 1) (jb := 0) rfl rfl rfl (by omega) hL dL_law_763 dL_law_764 dL_law_766 dL_law_767 dL_law_768 ?_
  refine zb_arg hC (a := 6 * t) (j := 2) (ja := 1) (jb := 0) rfl rfl rfl (by omega) hL dL_law_769 dL_law_770 dL_law_772 dL_law_773 dL_law_774 ?_
  refine zb_aload_n hC 4 rfl rfl dL_law_775 ?_
  refine zb_help hC LL_151 (kL_arrow hC.2.2.2.2.2.2.2.2.2.2 e1) rfl rfl (Nat.le_of_ble_eq_true rfl) ⟨Nat.le_of_ble_eq_true rfl, Nat.le_of_ble_eq_true rfl⟩ (show k + 2 ≤ 601024 ∧ n + 12 ≤ 7293034 by omega) dL_law_776 ?_
  refine zb_istore hC (by decide) rfl dL_law_779 ?_
  refine zb_aload_n hC 4 rfl rfl dL_law_781 ?_
  refine zb_arg hC (a := 6 * t) (j := 1) (ja := 2) (jb := 1) rfl rfl rfl (by omega) hL dL_law_782 dL_law_783 dL_law_785 dL_law_786 dL_law_787 ?_
  refine zb_arg hC (a := 6 * t) (j := 2) (ja := 2) (jb := 1) rfl rfl rfl (by omega) hL dL_law_788 dL_law_789 dL_law_791 dL_law_792 dL_law_793 ?_
  refine zb_call2 hC LL_153 rfl (kX11_arrow e2) rfl rfl (Nat.le_of_ble_eq_true rfl) ⟨Nat.le_of_ble_eq_true rfl, Nat.le_of_ble_eq_true rfl⟩ (show k + 2 ≤ 601024 ∧ n + 12 ≤ 7293034 by omega) dL_law_794 ?_
  refine zb_istore hC (by decide) rfl dL_law_797 ?_
  refine zb_aload_n hC 5 rfl rfl dL_law_799 ?_
  refine zb_call2 hC LL_116 rfl (kX11_thrown (show fX11_thrown N1 = some (nI q) by rw [← hth]; rfl)) rfl rfl (Nat.le_of_ble_eq_true rfl) ⟨Nat.le_of_ble_eq_true rfl, Nat.le_of_ble_eq_true rfl⟩ (show k + 2 ≤ 601024 ∧ n + 12 ≤ 7293034 by omega) dL_law_800 ?_
  refine zb_iload hC 1 rfl dL_law_803 ?_
  refine zb_icmp_eq_t hC rfl (tgt := 810) rfl dL_law_805 ?_
  refine zb_iload hC 1 rfl dL_law_810 ?_
  by_cases hq : q = 0
  · have hq0 : nI q = 0 := by rw [hq]; rfl
    refine zb_if_ne_f hC hq0 (tgt := 827) rfl dL_law_812 ?_
    refine zb_aload_n hC 6 rfl rfl dL_law_815 ?_
    refine zb_iconst hC (v := 0) rfl dL_law_816 ?_
    refine zb_out hC (hout hq) dL_law_817 ?_
    refine zb_iload hC 0 rfl dL_law_818 ?_
    refine zb_i2l hC dL_law_820 ?_
    refine zb_lcmp hC dL_law_821 ?_
    refine zb_if_eq_t hC (zcmp _) (tgt := 827) rfl dL_law_822 ?_
    refine zb_goto hC (tgt := 2283) rfl dL_law_827 ?_
    exact zb_sub [2, 3, 4, 5, 6] rfl (zb_wid (show k + 2 ≤ k + 4 ∧ n + 12 ≤ n + 24 by omega) (kk M1 N1 (REL_mono hrel (Nat.le_succ t))))
  · have hq0 : ¬ nI q = 0 := by rw [show (0 : Int32) = nI 0 from rfl, p_eq (by omega) (by omega)]; exact hq
    refine zb_if_ne_t hC hq0 (tgt := 827) rfl dL_law_812 ?_
    refine zb_goto hC (tgt := 2283) rfl dL_law_827 ?_
    exact zb_sub [2, 3, 4, 5, 6] rfl (zb_wid (show k + 2 ≤ k + 4 ∧ n + 12 ≤ n + 24 by omega) (kk M1 N1 (REL_mono hrel (Nat.le_succ t))))
