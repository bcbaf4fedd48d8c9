/-! the law's cases, by program -/
theorem dL_law_830 : decode code 830 = .ok (.aload_n 1, 1) := by decide +kernel
theorem dL_law_831 : decode code 831 = .ok (.aload_n 0, 1) := by decide +kernel
theorem dL_law_832 : decode code 832 = .ok (.iload 4, 2) := by decide +kernel
theorem dL_law_834 : decode code 834 = .ok (.iconst 1, 1) := by decide +kernel
theorem dL_law_835 : decode code 835 = .ok (.iadd, 1) := by decide +kernel
theorem dL_law_836 : decode code 836 = .ok (.iaload, 1) := by decide +kernel
theorem dL_law_837 : decode code 837 = .ok (.aload_n 0, 1) := by decide +kernel
theorem dL_law_838 : decode code 838 = .ok (.iload 4, 2) := by decide +kernel
theorem dL_law_840 : decode code 840 = .ok (.iconst 2, 1) := by decide +kernel
theorem dL_law_841 : decode code 841 = .ok (.iadd, 1) := by decide +kernel
theorem dL_law_842 : decode code 842 = .ok (.iaload, 1) := by decide +kernel
theorem dL_law_843 : decode code 843 = .ok (.aload_n 3, 1) := by decide +kernel
theorem dL_law_844 : decode code 844 = .ok (.invokestatic 154, 3) := by decide +kernel
theorem dL_law_847 : decode code 847 = .ok (.istore 5, 2) := by decide +kernel
theorem dL_law_849 : decode code 849 = .ok (.aload_n 2, 1) := by decide +kernel
theorem dL_law_850 : decode code 850 = .ok (.aload_n 0, 1) := by decide +kernel
theorem dL_law_851 : decode code 851 = .ok (.iload 4, 2) := by decide +kernel
theorem dL_law_853 : decode code 853 = .ok (.iconst 1, 1) := by decide +kernel
theorem dL_law_854 : decode code 854 = .ok (.iadd, 1) := by decide +kernel
theorem dL_law_855 : decode code 855 = .ok (.iaload, 1) := by decide +kernel
theorem dL_law_856 : decode code 856 = .ok (.aload_n 0, 1) := by decide +kernel
theorem dL_law_857 : decode code 857 = .ok (.iload 4, 2) := by decide +kernel
theorem dL_law_859 : decode code 859 = .ok (.iconst 2, 1) := by decide +kernel
theorem dL_law_860 : decode code 860 = .ok (.iadd, 1) := by decide +kernel
theorem dL_law_861 : decode code 861 = .ok (.iaload, 1) := by decide +kernel
theorem dL_law_862 : decode code 862 = .ok (.invokevirtual 156, 3) := by decide +kernel
theorem dL_law_865 : decode code 865 = .ok (.istore 6, 2) := by decide +kernel
theorem dL_law_867 : decode code 867 = .ok (.aload_n 2, 1) := by decide +kernel
theorem dL_law_868 : decode code 868 = .ok (.invokevirtual 116, 3) := by decide +kernel
theorem dL_law_871 : decode code 871 = .ok (.iload 5, 2) := by decide +kernel
theorem dL_law_873 : decode code 873 = .ok (.if_icmp .eq 5, 3) := by decide +kernel
theorem dL_law_878 : decode code 878 = .ok (.iload 5, 2) := by decide +kernel
theorem dL_law_880 : decode code 880 = .ok (.ifCond .ne 15, 3) := by decide +kernel
theorem dL_law_883 : decode code 883 = .ok (.aload_n 3, 1) := by decide +kernel
theorem dL_law_884 : decode code 884 = .ok (.iconst 0, 1) := by decide +kernel
theorem dL_law_885 : decode code 885 = .ok (.laload, 1) := by decide +kernel
theorem dL_law_886 : decode code 886 = .ok (.iload 6, 2) := by decide +kernel
theorem dL_law_888 : decode code 888 = .ok (.i2l, 1) := by decide +kernel
theorem dL_law_889 : decode code 889 = .ok (.lcmp, 1) := by decide +kernel
theorem dL_law_890 : decode code 890 = .ok (.ifCond .eq 5, 3) := by decide +kernel
theorem dL_law_895 : decode code 895 = .ok (.goto 1388, 3) := by decide +kernel
/-- arrowOf -/
theorem lc_11 {X : gX} {V V2 : gEnv} {b L t k n : Nat} {xs : Nat → Int32} {M N : gMem} (hC : zL X V V2 b L xs) (h : REL t M N) (hi : 6 * t + 6 ≤ L) (hL : L ≤ 3072) (hR : k + 4 ≤ 601024 ∧ n + 24 ≤ 7293034) (kk : ∀ M1 N1, REL (t + 1) M1 N1 → gB X V V2 M1 N1 (k + 4) (n + 24) 2283 (zLS V V2 b (6 * t)) []) : gB X V V2 M N k n 830 (zLS V V2 b (6 * t)) [] := by
  obtain ⟨q, M1, bb, N1, e1, e2, hq2, hth, hout, hrel⟩ := st_arrowOf h (xs (6 * t + 1)) (xs (6 * t + 2))
  refine zb_aload_n hC 2 rfl rfl dL_law_830 ?_
  refine zb_arg hC (a := 6 * t) (j := 1) (ja := 1) (jb := 0) rfl rfl rfl (by omega) hL dL_law_831 dL_law_832 dL_law_834 dL_law_835 dL_law_836 ?_
  refine zb_arg hC (a := 6 * t) (j := 2) (ja := 1) (jb := 0) rfl rfl rfl (by omega) hL dL_law_837 dL_law_838 dL_law_840 dL_law_841 dL_law_842 ?_
  refine zb_aload_n hC 4 rfl rfl dL_law_843 ?_
  refine zb_help hC LL_154 (kL_arrowOf hC.2.2.2.2.2.2.2.2.2.2 e1) rfl rfl (Nat.le_of_ble_eq_true rfl) ⟨Nat.le_of_ble_eq_true rfl, Nat.le_of_ble_eq_true rfl⟩ (show k + 2 ≤ 601024 ∧ n + 12 ≤ 7293034 by omega) dL_law_844 ?_
  refine zb_istore hC (by decide) rfl dL_law_847 ?_
  refine zb_aload_n hC 4 rfl rfl dL_law_849 ?_
  refine zb_arg hC (a := 6 * t) (j := 1) (ja := 2) (jb := 1) rfl rfl rfl (by omega) hL dL_law_850 dL_law_851 dL_law_853 dL_law_854 dL_law_855 ?_
  refine zb_arg hC (a := 6 * t) (j := 2) (ja := 2) (jb := 1) rfl rfl rfl (by omega) hL dL_law_856 dL_law_857 dL_law_859 dL_law_860 dL_law_861 ?_
  refine zb_call2 hC LL_156 rfl (kX11_arrowOf e2) rfl rfl (Nat.le_of_ble_eq_true rfl) ⟨Nat.le_of_ble_eq_true rfl, Nat.le_of_ble_eq_true rfl⟩ (show k + 2 ≤ 601024 ∧ n + 12 ≤ 7293034 by omega) dL_law_862 ?_
  refine zb_istore hC (by decide) rfl dL_law_865 ?_
  refine zb_aload_n hC 5 rfl rfl dL_law_867 ?_
  refine zb_call2 hC LL_116 rfl (kX11_thrown (show fX11_thrown N1 = some (nI q) by rw [← hth]; rfl)) rfl rfl (Nat.le_of_ble_eq_true rfl) ⟨Nat.le_of_ble_eq_true rfl, Nat.le_of_ble_eq_true rfl⟩ (show k + 2 ≤ 601024 ∧ n + 12 ≤ 7293034 by omega) dL_law_868 ?_
  refine zb_iload hC 1 rfl dL_law_871 ?_
  refine zb_icmp_eq_t hC rfl (tgt := 878) rfl dL_law_873 ?_
  refine zb_iload hC 1 rfl dL_law_878 ?_
  by_cases hq : q = 0
  · have hq0 : nI q = 0 := by rw [hq]; rfl
    refine zb_if_ne_f hC hq0 (tgt := 895) rfl dL_law_880 ?_
    refine zb_aload_n hC 6 rfl rfl dL_law_883 ?_
    refine zb_iconst hC (v := 0) rfl dL_law_884 ?_
    refine zb_out hC (hout hq) dL_law_885 ?_
    refine zb_iload hC 0 rfl dL_law_886 ?_
    refine zb_i2l hC dL_law_888 ?_
    refine zb_lcmp hC dL_law_889 ?_
    refine zb_if_eq_t hC (zcmp _) (tgt := 895) rfl dL_law_890 ?_
    refine zb_goto hC (tgt := 2283) rfl dL_law_895 ?_
    exact zb_sub [2, 3, 4, 5, 6] rfl (zb_wid (show k + 2 ≤ k + 4 ∧ n + 12 ≤ n + 24 by omega) (kk M1 N1 (REL_mono hrel (Nat.le_succ t))))
  · have hq0 : ¬ nI q = 0 := by rw [show (0 : Int32) = nI 0 from rfl, p_eq (by omega) (by omega)]; exact hq
    refine zb_if_ne_t hC hq0 (tgt := 895) rfl dL_law_880 ?_
    refine zb_goto hC (tgt := 2283) rfl dL_law_895 ?_
    exact zb_sub [2, 3, 4, 5, 6] rfl (zb_wid (show k + 2 ≤ k + 4 ∧ n + 12 ≤ n + 24 by omega) (kk M1 N1 (REL_mono hrel (Nat.le_succ t))))
theorem dL_law_898 : decode code 898 = .ok (.aload_n 1, 1) := by decide +kernel
theorem dL_law_899 : decode code 899 = .ok (.aload_n 0, 1) := by decide +kernel
theorem dL_law_900 : decode code 900 = .ok (.iload 4, 2) := by decide +kernel
theorem dL_law_902 : decode code 902 = .ok (.iconst 1, 1) := by decide +kernel
theorem dL_law_903 : decode code 903 = .ok (.iadd, 1) := by decide +kernel
theorem dL_law_904 : decode code 904 = .ok (.iaload, 1) := by decide +kernel
theorem dL_law_905 : decode code 905 = .ok (.aload_n 0, 1) := by decide +kernel
theorem dL_law_906 : decode code 906 = .ok (.iload 4, 2) := by decide +kernel
theorem dL_law_908 : decode code 908 = .ok (.iconst 2, 1) := by decide +kernel
theorem dL_law_909 : decode code 909 = .ok (.iadd, 1) := by decide +kernel
theorem dL_law_910 : decode code 910 = .ok (.iaload, 1) := by decide +kernel
theorem dL_law_911 : decode code 911 = .ok (.aload_n 3, 1) := by decide +kernel
theorem dL_law_912 : decode code 912 = .ok (.invokestatic 157, 3) := by decide +kernel
theorem dL_law_915 : decode code 915 = .ok (.istore 5, 2) := by decide +kernel
theorem dL_law_917 : decode code 917 = .ok (.aload_n 2, 1) := by decide +kernel
theorem dL_law_918 : decode code 918 = .ok (.aload_n 0, 1) := by decide +kernel
theorem dL_law_919 : decode code 919 = .ok (.iload 4, 2) := by decide +kernel
theorem dL_law_921 : decode code 921 = .ok (.iconst 1, 1) := by decide +kernel
theorem dL_law_922 : decode code 922 = .ok (.iadd, 1) := by decide +kernel
theorem dL_law_923 : decode code 923 = .ok (.iaload, 1) := by decide +kernel
theorem dL_law_924 : decode code 924 = .ok (.aload_n 0, 1) := by decide +kernel
theorem dL_law_925 : decode code 925 = .ok (.iload 4, 2) := by decide +kernel
theorem dL_law_927 : decode code 927 = .ok (.iconst 2, 1) := by decide +kernel
theorem dL_law_928 : decode code 928 = .ok (.iadd, 1) := by decide +kernel
theorem dL_law_929 : decode code 929 = .ok (.iaload, 1) := by decide +kernel
theorem dL_law_930 : decode code 930 = .ok (.invokevirtual 159, 3) := by decide +kernel
theorem dL_law_933 : decode code 933 = .ok (.istore 6, 2) := by decide +kernel
theorem dL_law_935 : decode code 935 = .ok (.aload_n 2, 1) := by decide +kernel
theorem dL_law_936 : decode code 936 = .ok (.invokevirtual 116, 3) := by decide +kernel
theorem dL_law_939 : decode code 939 = .ok (.iload 5, 2) := by decide +kernel
theorem dL_law_941 : decode code 941 = .ok (.if_icmp .eq 5, 3) := by decide +kernel
theorem dL_law_946 : decode code 946 = .ok (.iload 5, 2) := by decide +kernel
theorem dL_law_948 : decode code 948 = .ok (.ifCond .ne 22, 3) := by decide +kernel
theorem dL_law_951 : decode code 951 = .ok (.aload_n 3, 1) := by decide +kernel
theorem dL_law_952 : decode code 952 = .ok (.iconst 0, 1) := by decide +kernel
theorem dL_law_953 : decode code 953 = .ok (.laload, 1) := by decide +kernel
theorem dL_law_954 : decode code 954 = .ok (.iload 6, 2) := by decide +kernel
theorem dL_law_956 : decode code 956 = .ok (.ifCond .eq 7, 3) := by decide +kernel
theorem dL_law_959 : decode code 959 = .ok (.lconst 1, 1) := by decide +kernel
theorem dL_law_960 : decode code 960 = .ok (.goto 4, 3) := by decide +kernel
theorem dL_law_963 : decode code 963 = .ok (.lconst 0, 1) := by decide +kernel
theorem dL_law_964 : decode code 964 = .ok (.lcmp, 1) := by decide +kernel
theorem dL_law_965 : decode code 965 = .ok (.ifCond .eq 5, 3) := by decide +kernel
theorem dL_law_970 : decode code 970 = .ok (.goto 1313, 3) := by decide +kernel
/-- reaches -/
theorem lc_12 {X : gX} {V V2 : gEnv} {b L t k n : Nat} {xs : Nat → Int32} {M N : gMem} (hC : zL X V V2 b L xs) (h : REL t M N) (hi : 6 * t + 6 ≤ L) (hL : L ≤ 3072) (hR : k + 4 ≤ 601024 ∧ n + 24 ≤ 7293034) (kk : ∀ M1 N1, REL (t + 1) M1 N1 → gB X V V2 M1 N1 (k + 4) (n + 24) 2283 (zLS V V2 b (6 * t)) []) : gB X V V2 M N k n 898 (zLS V V2 b (6 * t)) [] := by
  obtain ⟨q, M1, bb, N1, e1, e2, hq2, hth, hout, hrel⟩ := st_reaches h (xs (6 * t + 1)) (xs (6 * t + 2))
  refine zb_aload_n hC 2 rfl rfl dL_law_898 ?_
  refine zb_arg hC (a := 6 * t) (j := 1) (ja := 1) (jb := 0) rfl rfl rfl (by omega) hL dL_law_899 dL_law_900 dL_law_902 dL_law_903 dL_law_904 ?_
  refine zb_arg hC (a := 6 * t) (j := 2) (ja := 1) (jb := 0) rfl rfl rfl (by omega) hL dL_law_905 dL_law_906 dL_law_908 dL_law_909 dL_law_910 ?_
  refine zb_aload_n hC 4 rfl rfl dL_law_911 ?_
  refine zb_help hC LL_157 (kL_reaches hC.2.2.2.2.2.2.2.2.2.2 e1) rfl rfl (Nat.le_of_ble_eq_true rfl) ⟨Nat.le_of_ble_eq_true rfl, Nat.le_of_ble_eq_true rfl⟩ (show k + 2 ≤ 601024 ∧ n + 12 ≤ 7293034 by omega) dL_law_912 ?_
  refine zb_istore hC (by decide) rfl dL_law_915 ?_
  refine zb_aload_n hC 4 rfl rfl dL_law_917 ?_
  refine zb_arg hC (a := 6 * t) (j := 1) (ja := 2) (jb := 1) rfl rfl rfl (by omega) hL dL_law_918 dL_law_919 dL_law_921 dL_law_922 dL_law_923 ?_
  refine zb_arg hC (a := 6 * t) (j := 2) (ja := 2) (jb := 1) rfl rfl rfl (by omega) hL dL_law_924 dL_law_925 dL_law_927 dL_law_928 dL_law_929 ?_
  refine zb_call2 hC LL_159 rfl (kX11_reaches e2) rfl rfl (Nat.le_of_ble_eq_true rfl) ⟨Nat.le_of_ble_eq_true rfl, Nat.le_of_ble_eq_true rfl⟩ (show k + 2 ≤ 601024 ∧ n + 12 ≤ 7293034 by omega) dL_law_930 ?_
  refine zb_istore hC (by decide) rfl dL_law_933 ?_
  refine zb_aload_n hC 5 rfl rfl dL_law_935 ?_
  refine zb_call2 hC LL_116 rfl (kX11_thrown (show fX11_thrown N1 = some (nI q) by rw [← hth]; rfl)) rfl rfl (Nat.le_of_ble_eq_true rfl) ⟨Nat.le_of_ble_eq_true rfl, Nat.le_of_ble_eq_true rfl⟩ (show k + 2 ≤ 601024 ∧ n + 12 ≤ 7293034 by omega) dL_law_936 ?_
  refine zb_iload hC 1 rfl dL_law_939 ?_
  refine zb_icmp_eq_t hC rfl (tgt := 946) rfl dL_law_941 ?_
  refine zb_iload hC 1 rfl dL_law_946 ?_
  by_cases hq : q = 0
  · have hq0 : nI q = 0 := by rw [hq]; rfl
    refine zb_if_ne_f hC hq0 (tgt := 970) rfl dL_law_948 ?_
    refine zb_aload_n hC 6 rfl rfl dL_law_951 ?_
    refine zb_iconst hC (v := 0) rfl dL_law_952 ?_
    refine zb_out hC (hout hq) dL_law_953 ?_
    refine zb_iload hC 0 rfl dL_law_954 ?_
    cases bb
    · refine zb_if_eq_t hC (show ib false = 0 from rfl) (tgt := 963) rfl dL_law_956 ?_
      refine zb_lconst hC (v := 0) rfl dL_law_963 ?_
      refine zb_lcmp hC dL_law_964 ?_
      refine zb_if_eq_t hC (zcmp 0) (tgt := 970) rfl dL_law_965 ?_
      refine zb_goto hC (tgt := 2283) rfl dL_law_970 ?_
      exact zb_sub [2, 3, 4, 5, 6] rfl (zb_wid (show k + 2 ≤ k + 4 ∧ n + 12 ≤ n + 24 by omega) (kk M1 N1 (REL_mono hrel (Nat.le_succ t))))
    · refine zb_if_eq_f hC (show ¬ ib true = 0 by decide) (tgt := 963) rfl dL_law_956 ?_
      refine zb_lconst hC (v := 1) rfl dL_law_959 ?_
      refine zb_goto hC (tgt := 964) rfl dL_law_960 ?_
      refine zb_lcmp hC dL_law_964 ?_
      refine zb_if_eq_t hC (zcmp 1) (tgt := 970) rfl dL_law_965 ?_
      refine zb_goto hC (tgt := 2283) rfl dL_law_970 ?_
      exact zb_sub [2, 3, 4, 5, 6] rfl (zb_wid (show k + 2 ≤ k + 4 ∧ n + 12 ≤ n + 24 by omega) (kk M1 N1 (REL_mono hrel (Nat.le_succ t))))
  · have hq0 : ¬ nI q = 0 := by rw [show (0 : Int32) = nI 0 from rfl, p_eq (by omega) (by omega)]; exact hq
    refine zb_if_ne_t hC hq0 (tgt := 970) rfl dL_law_948 ?_
    refine zb_goto hC (tgt := 2283) rfl dL_law_970 ?_
    exact zb_sub [2, 3, 4, 5, 6] rfl (zb_wid (show k + 2 ≤ k + 4 ∧ n + 12 ≤ n + 24 by omega) (kk M1 N1 (REL_mono hrel (Nat.le_succ t))))
