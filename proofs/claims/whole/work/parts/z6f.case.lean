/-! the law's cases, by program -/
theorem dL_law_973 : decode code 973 = .ok (.aload_n 1, 1) := by decide +kernel
theorem dL_law_974 : decode code 974 = .ok (.aload_n 0, 1) := by decide +kernel
theorem dL_law_975 : decode code 975 = .ok (.iload 4, 2) := by decide +kernel
theorem dL_law_977 : decode code 977 = .ok (.iconst 1, 1) := by decide +kernel
theorem dL_law_978 : decode code 978 = .ok (.iadd, 1) := by decide +kernel
theorem dL_law_979 : decode code 979 = .ok (.iaload, 1) := by decide +kernel
theorem dL_law_980 : decode code 980 = .ok (.aload_n 0, 1) := by decide +kernel
theorem dL_law_981 : decode code 981 = .ok (.iload 4, 2) := by decide +kernel
theorem dL_law_983 : decode code 983 = .ok (.iconst 2, 1) := by decide +kernel
theorem dL_law_984 : decode code 984 = .ok (.iadd, 1) := by decide +kernel
theorem dL_law_985 : decode code 985 = .ok (.iaload, 1) := by decide +kernel
theorem dL_law_986 : decode code 986 = .ok (.aload_n 3, 1) := by decide +kernel
theorem dL_law_987 : decode code 987 = .ok (.invokestatic 160, 3) := by decide +kernel
theorem dL_law_990 : decode code 990 = .ok (.istore 5, 2) := by decide +kernel
theorem dL_law_992 : decode code 992 = .ok (.aload_n 2, 1) := by decide +kernel
theorem dL_law_993 : decode code 993 = .ok (.aload_n 0, 1) := by decide +kernel
theorem dL_law_994 : decode code 994 = .ok (.iload 4, 2) := by decide +kernel
theorem dL_law_996 : decode code 996 = .ok (.iconst 1, 1) := by decide +kernel
theorem dL_law_997 : decode code 997 = .ok (.iadd, 1) := by decide +kernel
theorem dL_law_998 : decode code 998 = .ok (.iaload, 1) := by decide +kernel
theorem dL_law_999 : decode code 999 = .ok (.aload_n 0, 1) := by decide +kernel
theorem dL_law_1000 : decode code 1000 = .ok (.iload 4, 2) := by decide +kernel
theorem dL_law_1002 : decode code 1002 = .ok (.iconst 2, 1) := by decide +kernel
theorem dL_law_1003 : decode code 1003 = .ok (.iadd, 1) := by decide +kernel
theorem dL_law_1004 : decode code 1004 = .ok (.iaload, 1) := by decide +kernel
theorem dL_law_1005 : decode code 1005 = .ok (.invokevirtual 162, 3) := by decide +kernel
theorem dL_law_1008 : decode code 1008 = .ok (.istore 6, 2) := by decide +kernel
theorem dL_law_1010 : decode code 1010 = .ok (.aload_n 2, 1) := by decide +kernel
theorem dL_law_1011 : decode code 1011 = .ok (.invokevirtual 116, 3) := by decide +kernel
theorem dL_law_1014 : decode code 1014 = .ok (.iload 5, 2) := by decide +kernel
theorem dL_law_1016 : decode code 1016 = .ok (.if_icmp .eq 5, 3) := by decide +kernel
theorem dL_law_1021 : decode code 1021 = .ok (.iload 5, 2) := by decide +kernel
theorem dL_law_1023 : decode code 1023 = .ok (.ifCond .ne 15, 3) := by decide +kernel
theorem dL_law_1026 : decode code 1026 = .ok (.aload_n 3, 1) := by decide +kernel
theorem dL_law_1027 : decode code 1027 = .ok (.iconst 0, 1) := by decide +kernel
theorem dL_law_1028 : decode code 1028 = .ok (.laload, 1) := by decide +kernel
theorem dL_law_1029 : decode code 1029 = .ok (.iload 6, 2) := by decide +kernel
theorem dL_law_1031 : decode code 1031 = .ok (.i2l, 1) := by decide +kernel
theorem dL_law_1032 : decode code 1032 = .ok (.lcmp, 1) := by decide +kernel
theorem dL_law_1033 : decode code 1033 = .ok (.ifCond .eq 5, 3) := by decide +kernel
theorem dL_law_1038 : decode code 1038 = .ok (.goto 1245, 3) := by decide +kernel
/-- far -/
theorem lc_13 {X : gX} {V V2 : gEnv} {b L t k n : Nat} {xs : Nat → Int32} {M N : gMem} (hC : zL X V V2 b L xs) (h : REL t M N) (hi : 6 * t + 6 ≤ L) (hL : L ≤ 3072) (hR : k + 4 ≤ 601024 ∧ n + 24 ≤ 7293034) (kk : ∀ M1 N1, REL (t + 1) M1 N1 → gB X V V2 M1 N1 (k + 4) (n + 24) 2283 (zLS V V2 b (6 * t)) []) : gB X V V2 M N k n 973 (zLS V V2 b (6 * t)) [] := by
  obtain ⟨q, M1, bb, N1, e1, e2, hq2, hth, hout, hrel⟩ := st_far h (xs (6 * t + 1)) (xs (6 * t + 2))
  refine zb_aload_n hC 2 rfl rfl dL_law_973 ?_
  refine zb_arg hC (a := 6 * t) (j := 1) (ja := 1) (jb := 0) rfl rfl rfl (by omega) hL dL_law_974 dL_law_975 dL_law_977 dL_law_978 dL_law_979 ?_
  refine zb_arg hC (a := 6 * t) (j := 2) (ja := 1) (jb := 0) rfl rfl rfl (by omega) hL dL_law_980 dL_law_981 dL_law_983 dL_law_984 dL_law_985 ?_
  refine zb_aload_n hC 4 rfl rfl dL_law_986 ?_
  refine zb_help hC LL_160 (kL_far hC.2.2.2.2.2.2.2.2.2.2 e1) rfl rfl (Nat.le_of_ble_eq_true rfl) ⟨Nat.le_of_ble_eq_true rfl, Nat.le_of_ble_eq_true rfl⟩ (show k + 2 ≤ 601024 ∧ n + 12 ≤ 7293034 by omega) dL_law_987 ?_
  refine zb_istore hC (by decide) rfl dL_law_990 ?_
  refine zb_aload_n hC 4 rfl rfl dL_law_992 ?_
  refine zb_arg hC (a := 6 * t) (j := 1) (ja := 2) (jb := 1) rfl rfl rfl (by omega) hL dL_law_993 dL_law_994 dL_law_996 dL_law_997 dL_law_998 ?_
  refine zb_arg hC (a := 6 * t) (j := 2) (ja := 2) (jb := 1) rfl rfl rfl (by omega) hL dL_law_999 dL_law_1000 dL_law_1002 dL_law_1003 dL_law_1004 ?_
  refine zb_call2 hC LL_162 rfl (kX11_far e2) rfl rfl (Nat.le_of_ble_eq_true rfl) ⟨Nat.le_of_ble_eq_true rfl, Nat.le_of_ble_eq_true rfl⟩ (show k + 2 ≤ 601024 ∧ n + 12 ≤ 7293034 by omega) dL_law_1005 ?_
  refine zb_istore hC (by decide) rfl dL_law_1008 ?_
  refine zb_aload_n hC 5 rfl rfl dL_law_1010 ?_
  refine zb_call2 hC LL_116 rfl (kX11_thrown (show fX11_thrown N1 = some (nI q) by rw [← hth]; rfl)) rfl rfl (Nat.le_of_ble_eq_true rfl) ⟨Nat.le_of_ble_eq_true rfl, Nat.le_of_ble_eq_true rfl⟩ (show k + 2 ≤ 601024 ∧ n + 12 ≤ 7293034 by omega) dL_law_1011 ?_
  refine zb_iload hC 1 rfl dL_law_1014 ?_
  refine zb_icmp_eq_t hC rfl (tgt := 1021) rfl dL_law_1016 ?_
  refine zb_iload hC 1 rfl dL_law_1021 ?_
  by_cases hq : q = 0
  · have hq0 : nI q = 0 := by rw [hq]; rfl
    refine zb_if_ne_f hC hq0 (tgt := 1038) rfl dL_law_1023 ?_
    refine zb_aload_n hC 6 rfl rfl dL_law_1026 ?_
    refine zb_iconst hC (v := 0) rfl dL_law_1027 ?_
    refine zb_out hC (hout hq) dL_law_1028 ?_
    refine zb_iload hC 0 rfl dL_law_1029 ?_
    refine zb_i2l hC dL_law_1031 ?_
    refine zb_lcmp hC dL_law_1032 ?_
    refine zb_if_eq_t hC (zcmp _) (tgt := 1038) rfl dL_law_1033 ?_
    refine zb_goto hC (tgt := 2283) rfl dL_law_1038 ?_
    exact zb_sub [2, 3, 4, 5, 6] rfl (zb_wid (show k + 2 ≤ k + 4 ∧ n + 12 ≤ n + 24 by omega) (kk M1 N1 (REL_mono hrel (Nat.le_succ t))))
  · have hq0 : ¬ nI q = 0 := by rw [show (0 : Int32) = nI 0 from rfl, p_eq (by omega) (by omega)]; exact hq
    refine zb_if_ne_t hC hq0 (tgt := 1038) rfl dL_law_1023 ?_
    refine zb_goto hC (tgt := 2283) rfl dL_law_1038 ?_
    exact zb_sub [2, 3, 4, 5, 6] rfl (zb_wid (show k + 2 ≤ k + 4 ∧ n + 12 ≤ n + 24 by omega) (kk M1 N1 (REL_mono hrel (Nat.le_succ t))))
theorem dL_law_1041 : decode code 1041 = .ok (.aload_n 1, 1) := by decide +kernel
theorem dL_law_1042 : decode code 1042 = .ok (.aload_n 0, 1) := by decide +kernel
theorem dL_law_1043 : decode code 1043 = .ok (.iload 4, 2) := by decide +kernel
theorem dL_law_1045 : decode code 1045 = .ok (.iconst 1, 1) := by decide +kernel
theorem dL_law_1046 : decode code 1046 = .ok (.iadd, 1) := by decide +kernel
theorem dL_law_1047 : decode code 1047 = .ok (.iaload, 1) := by decide +kernel
theorem dL_law_1048 : decode code 1048 = .ok (.aload_n 0, 1) := by decide +kernel
theorem dL_law_1049 : decode code 1049 = .ok (.iload 4, 2) := by decide +kernel
theorem dL_law_1051 : decode code 1051 = .ok (.iconst 2, 1) := by decide +kernel
theorem dL_law_1052 : decode code 1052 = .ok (.iadd, 1) := by decide +kernel
theorem dL_law_1053 : decode code 1053 = .ok (.iaload, 1) := by decide +kernel
theorem dL_law_1054 : decode code 1054 = .ok (.aload_n 0, 1) := by decide +kernel
theorem dL_law_1055 : decode code 1055 = .ok (.iload 4, 2) := by decide +kernel
theorem dL_law_1057 : decode code 1057 = .ok (.iconst 3, 1) := by decide +kernel
theorem dL_law_1058 : decode code 1058 = .ok (.iadd, 1) := by decide +kernel
theorem dL_law_1059 : decode code 1059 = .ok (.iaload, 1) := by decide +kernel
theorem dL_law_1060 : decode code 1060 = .ok (.aload_n 3, 1) := by decide +kernel
theorem dL_law_1061 : decode code 1061 = .ok (.invokestatic 163, 3) := by decide +kernel
theorem dL_law_1064 : decode code 1064 = .ok (.istore 5, 2) := by decide +kernel
theorem dL_law_1066 : decode code 1066 = .ok (.aload_n 2, 1) := by decide +kernel
theorem dL_law_1067 : decode code 1067 = .ok (.aload_n 0, 1) := by decide +kernel
theorem dL_law_1068 : decode code 1068 = .ok (.iload 4, 2) := by decide +kernel
theorem dL_law_1070 : decode code 1070 = .ok (.iconst 1, 1) := by decide +kernel
theorem dL_law_1071 : decode code 1071 = .ok (.iadd, 1) := by decide +kernel
theorem dL_law_1072 : decode code 1072 = .ok (.iaload, 1) := by decide +kernel
theorem dL_law_1073 : decode code 1073 = .ok (.aload_n 0, 1) := by decide +kernel
theorem dL_law_1074 : decode code 1074 = .ok (.iload 4, 2) := by decide +kernel
theorem dL_law_1076 : decode code 1076 = .ok (.iconst 2, 1) := by decide +kernel
theorem dL_law_1077 : decode code 1077 = .ok (.iadd, 1) := by decide +kernel
theorem dL_law_1078 : decode code 1078 = .ok (.iaload, 1) := by decide +kernel
theorem dL_law_1079 : decode code 1079 = .ok (.aload_n 0, 1) := by decide +kernel
theorem dL_law_1080 : decode code 1080 = .ok (.iload 4, 2) := by decide +kernel
theorem dL_law_1082 : decode code 1082 = .ok (.iconst 3, 1) := by decide +kernel
theorem dL_law_1083 : decode code 1083 = .ok (.iadd, 1) := by decide +kernel
theorem dL_law_1084 : decode code 1084 = .ok (.iaload, 1) := by decide +kernel
theorem dL_law_1085 : decode code 1085 = .ok (.invokevirtual 166, 3) := by decide +kernel
theorem dL_law_1088 : decode code 1088 = .ok (.istore 6, 2) := by decide +kernel
theorem dL_law_1090 : decode code 1090 = .ok (.aload_n 2, 1) := by decide +kernel
theorem dL_law_1091 : decode code 1091 = .ok (.invokevirtual 116, 3) := by decide +kernel
theorem dL_law_1094 : decode code 1094 = .ok (.iload 5, 2) := by decide +kernel
theorem dL_law_1096 : decode code 1096 = .ok (.if_icmp .eq 5, 3) := by decide +kernel
theorem dL_law_1101 : decode code 1101 = .ok (.iload 5, 2) := by decide +kernel
theorem dL_law_1103 : decode code 1103 = .ok (.ifCond .ne 15, 3) := by decide +kernel
theorem dL_law_1106 : decode code 1106 = .ok (.aload_n 3, 1) := by decide +kernel
theorem dL_law_1107 : decode code 1107 = .ok (.iconst 0, 1) := by decide +kernel
theorem dL_law_1108 : decode code 1108 = .ok (.laload, 1) := by decide +kernel
theorem dL_law_1109 : decode code 1109 = .ok (.iload 6, 2) := by decide +kernel
theorem dL_law_1111 : decode code 1111 = .ok (.i2l, 1) := by decide +kernel
theorem dL_law_1112 : decode code 1112 = .ok (.lcmp, 1) := by decide +kernel
theorem dL_law_1113 : decode code 1113 = .ok (.ifCond .eq 5, 3) := by decide +kernel
theorem dL_law_1118 : decode code 1118 = .ok (.goto 1165, 3) := by decide +kernel
/-- on -/
theorem lc_14 {X : gX} {V V2 : gEnv} {b L t k n : Nat} {xs : Nat → Int32} {M N : gMem} (hC : zL X V V2 b L xs) (h : REL t M N) (hi : 6 * t + 6 ≤ L) (hL : L ≤ 3072) (hR : k + 4 ≤ 601024 ∧ n + 24 ≤ 7293034) (kk : ∀ M1 N1, REL (t + 1) M1 N1 → gB X V V2 M1 N1 (k + 4) (n + 24) 2283 (zLS V V2 b (6 * t)) []) : gB X V V2 M N k n 1041 (zLS V V2 b (6 * t)) [] := by
  obtain ⟨q, M1, bb, N1, e1, e2, hq2, hth, hout, hrel⟩ := st_on h (xs (6 * t + 1)) (xs (6 * t + 2)) (xs (6 * t + 3))
  refine zb_aload_n hC 2 rfl rfl dL_law_1041 ?_
  refine zb_arg hC (a := 6 * t) (j := 1) (ja := 1) (jb := 0) rfl rfl rfl (by omega) hL dL_law_1042 dL_law_1043 dL_law_1045 dL_law_1046 dL_law_1047 ?_
  refine zb_arg hC (a := 6 * t) (j := 2) (ja := 1) (jb := 0) rfl rfl rfl (by omega) hL dL_law_1048 dL_law_1049 dL_law_1051 dL_law_1052 dL_law_1053 ?_
  refine zb_arg hC (a := 6 * t) (j := 3) (ja := 1) (jb := 0) rfl rfl rfl (by omega) hL dL_law_1054 dL_law_1055 dL_law_1057 dL_law_1058 dL_law_1059 ?_
  refine zb_aload_n hC 4 rfl rfl dL_law_1060 ?_
  refine zb_help hC LL_163 (kL_on hC.2.2.2.2.2.2.2.2.2.2 e1) rfl rfl (Nat.le_of_ble_eq_true rfl) ⟨Nat.le_of_ble_eq_true rfl, Nat.le_of_ble_eq_true rfl⟩ (show k + 2 ≤ 601024 ∧ n + 12 ≤ 7293034 by omega) dL_law_1061 ?_
  refine zb_istore hC (by decide) rfl dL_law_1064 ?_
  refine zb_aload_n hC 4 rfl rfl dL_law_1066 ?_
  refine zb_arg hC (a := 6 * t) (j := 1) (ja := 2) (jb := 1) rfl rfl rfl (by omega) hL dL_law_1067 dL_law_1068 dL_law_1070 dL_law_1071 dL_law_1072 ?_
  refine zb_arg hC (a := 6 * t) (j := 2) (ja := 2) (jb := 1) rfl rfl rfl (by omega) hL dL_law_1073 dL_law_1074 dL_law_1076 dL_law_1077 dL_law_1078 ?_
  refine zb_arg hC (a := 6 * t) (j := 3) (ja := 2) (jb := 1) rfl rfl rfl (by omega) hL dL_law_1079 dL_law_1080 dL_law_1082 dL_law_1083 dL_law_1084 ?_
  refine zb_call2 hC LL_166 rfl (kX11_on e2) rfl rfl (Nat.le_of_ble_eq_true rfl) ⟨Nat.le_of_ble_eq_true rfl, Nat.le_of_ble_eq_true rfl⟩ (show k + 2 ≤ 601024 ∧ n + 12 ≤ 7293034 by omega) dL_law_1085 ?_
  refine zb_istore hC (by decide) rfl dL_law_1088 ?_
  refine zb_aload_n hC 5 rfl rfl dL_law_1090 ?_
  refine zb_call2 hC LL_116 rfl (kX11_thrown (show fX11_thrown N1 = some (nI q) by rw [← hth]; rfl)) rfl rfl (Nat.le_of_ble_eq_true rfl) ⟨Nat.le_of_ble_eq_true rfl, Nat.le_of_ble_eq_true rfl⟩ (show k + 2 ≤ 601024 ∧ n + 12 ≤ 7293034 by omega) dL_law_1091 ?_
  refine zb_iload hC 1 rfl dL_law_1094 ?_
  refine zb_icmp_eq_t hC rfl (tgt := 1101) rfl dL_law_1096 ?_
  refine zb_iload hC 1 rfl dL_law_1101 ?_
  by_cases hq : q = 0
  · have hq0 : nI q = 0 := by rw [hq]; rfl
    refine zb_if_ne_f hC hq0 (tgt := 1118) rfl dL_law_1103 ?_
    refine zb_aload_n hC 6 rfl rfl dL_law_1106 ?_
    refine zb_iconst hC (v := 0) rfl dL_law_1107 ?_
    refine zb_out hC (hout hq) dL_law_1108 ?_
    refine zb_iload hC 0 rfl dL_law_1109 ?_
    refine zb_i2l hC dL_law_1111 ?_
    refine zb_lcmp hC dL_law_1112 ?_
    refine zb_if_eq_t hC (zcmp _) (tgt := 1118) rfl dL_law_1113 ?_
    refine zb_goto hC (tgt := 2283) rfl dL_law_1118 ?_
    exact zb_sub [2, 3, 4, 5, 6] rfl (zb_wid (show k + 2 ≤ k + 4 ∧ n + 12 ≤ n + 24 by omega) (kk M1 N1 (REL_mono hrel (Nat.le_succ t))))
  · have hq0 : ¬ nI q = 0 := by rw [show (0 : Int32) = nI 0 from rfl, p_eq (by omega) (by omega)]; exact hq
    refine zb_if_ne_t hC hq0 (tgt := 1118) rfl dL_law_1103 ?_
    refine zb_goto hC (tgt := 2283) rfl dL_law_1118 ?_
    exact zb_sub [2, 3, 4, 5, 6] rfl (zb_wid (show k + 2 ≤ k + 4 ∧ n + 12 ≤ n + 24 by omega) (kk M1 N1 (REL_mono hrel (Nat.le_succ t))))
