/-! the law's cases, by program -/
theorem dL_law_1121 : decode code 1121 = .ok (.aload_n 1, 1) := by decide +kernel
theorem dL_law_1122 : decode code 1122 = .ok (.aload_n 0, 1) := by decide +kernel
theorem dL_law_1123 : decode code 1123 = .ok (.iload 4, 2) := by decide +kernel
theorem dL_law_1125 : decode code 1125 = .ok (.iconst 1, 1) := by decide +kernel
theorem dL_law_1126 : decode code 1126 = .ok (.iadd, 1) := by decide +kernel
theorem dL_law_1127 : decode code 1127 = .ok (.iaload, 1) := by decide +kernel
theorem dL_law_1128 : decode code 1128 = .ok (.aload_n 0, 1) := by decide +kernel
theorem dL_law_1129 : decode code 1129 = .ok (.iload 4, 2) := by decide +kernel
theorem dL_law_1131 : decode code 1131 = .ok (.iconst 2, 1) := by decide +kernel
theorem dL_law_1132 : decode code 1132 = .ok (.iadd, 1) := by decide +kernel
theorem dL_law_1133 : decode code 1133 = .ok (.iaload, 1) := by decide +kernel
theorem dL_law_1134 : decode code 1134 = .ok (.aload_n 0, 1) := by decide +kernel
theorem dL_law_1135 : decode code 1135 = .ok (.iload 4, 2) := by decide +kernel
theorem dL_law_1137 : decode code 1137 = .ok (.iconst 3, 1) := by decide +kernel
theorem dL_law_1138 : decode code 1138 = .ok (.iadd, 1) := by decide +kernel
theorem dL_law_1139 : decode code 1139 = .ok (.iaload, 1) := by decide +kernel
theorem dL_law_1140 : decode code 1140 = .ok (.aload_n 3, 1) := by decide +kernel
theorem dL_law_1141 : decode code 1141 = .ok (.invokestatic 167, 3) := by decide +kernel
theorem dL_law_1144 : decode code 1144 = .ok (.istore 5, 2) := by decide +kernel
theorem dL_law_1146 : decode code 1146 = .ok (.aload_n 2, 1) := by decide +kernel
theorem dL_law_1147 : decode code 1147 = .ok (.aload_n 0, 1) := by decide +kernel
theorem dL_law_1148 : decode code 1148 = .ok (.iload 4, 2) := by decide +kernel
theorem dL_law_1150 : decode code 1150 = .ok (.iconst 1, 1) := by decide +kernel
theorem dL_law_1151 : decode code 1151 = .ok (.iadd, 1) := by decide +kernel
theorem dL_law_1152 : decode code 1152 = .ok (.iaload, 1) := by decide +kernel
theorem dL_law_1153 : decode code 1153 = .ok (.aload_n 0, 1) := by decide +kernel
theorem dL_law_1154 : decode code 1154 = .ok (.iload 4, 2) := by decide +kernel
theorem dL_law_1156 : decode code 1156 = .ok (.iconst 2, 1) := by decide +kernel
theorem dL_law_1157 : decode code 1157 = .ok (.iadd, 1) := by decide +kernel
theorem dL_law_1158 : decode code 1158 = .ok (.iaload, 1) := by decide +kernel
theorem dL_law_1159 : decode code 1159 = .ok (.aload_n 0, 1) := by decide +kernel
theorem dL_law_1160 : decode code 1160 = .ok (.iload 4, 2) := by decide +kernel
theorem dL_law_1162 : decode code 1162 = .ok (.iconst 3, 1) := by decide +kernel
theorem dL_law_1163 : decode code 1163 = .ok (.iadd, 1) := by decide +kernel
theorem dL_law_1164 : decode code 1164 = .ok (.iaload, 1) := by decide +kernel
theorem dL_law_1165 : decode code 1165 = .ok (.invokevirtual 169, 3) := by decide +kernel
theorem dL_law_1168 : decode code 1168 = .ok (.istore 6, 2) := by decide +kernel
theorem dL_law_1170 : decode code 1170 = .ok (.aload_n 2, 1) := by decide +kernel
theorem dL_law_1171 : decode code 1171 = .ok (.invokevirtual 116, 3) := by decide +kernel
theorem dL_law_1174 : decode code 1174 = .ok (.iload 5, 2) := by decide +kernel
theorem dL_law_1176 : decode code 1176 = .ok (.if_icmp .eq 5, 3) := by decide +kernel
theorem dL_law_1181 : decode code 1181 = .ok (.iload 5, 2) := by decide +kernel
theorem dL_law_1183 : decode code 1183 = .ok (.ifCond .ne 15, 3) := by decide +kernel
theorem dL_law_1186 : decode code 1186 = .ok (.aload_n 3, 1) := by decide +kernel
theorem dL_law_1187 : decode code 1187 = .ok (.iconst 0, 1) := by decide +kernel
theorem dL_law_1188 : decode code 1188 = .ok (.laload, 1) := by decide +kernel
theorem dL_law_1189 : decode code 1189 = .ok (.iload 6, 2) := by decide +kernel
theorem dL_law_1191 : decode code 1191 = .ok (.i2l, 1) := by decide +kernel
theorem dL_law_1192 : decode code 1192 = .ok (.lcmp, 1) := by decide +kernel
theorem dL_law_1193 : decode code 1193 = .ok (.ifCond .eq 5, 3) := by decide +kernel
theorem dL_law_1198 : decode code 1198 = .ok (.goto 1085, 3) := by decide +kernel
/-- trial -/
theorem lc_15 {X : gX} {V V2 : gEnv} {b L t k n : Nat} {xs : Nat → Int32} {M N : gMem} (hC : zL X V V2 b L xs) (h : REL t M N) (hi : 6 * t + 6 ≤ L) (hL : L ≤ 3072) (hR : k + 4 ≤ 601024 ∧ n + 24 ≤ 7293034) (kk : ∀ M1 N1, REL (t + 1) M1 N1 → gB X V V2 M1 N1 (k + 4) (n + 24) 2283 (zLS V V2 b (6 * t)) []) : gB X V V2 M N k n 1121 (zLS V V2 b (6 * t)) [] := by
  obtain ⟨q, M1, bb, N1, e1, e2, hq2, hth, hout, hrel⟩ := st_trial h (xs (6 * t + 1)) (xs (6 * t + 2)) (xs (6 * t + 3))
  refine zb_aload_n hC 2 rfl rfl dL_law_1121 ?_
  refine zb_arg hC (a := 6 * t) (j := 1) (ja := 1) (jb := 0) rfl rfl rfl (by omega) hL dL_law_1122 dL_law_1123 dL_law_1125 dL_law_1126 dL_law_1127 ?_
  refine zb_arg hC (a := 6 * t) (j := 2) (ja := 1) (jb := 0) rfl rfl rfl (by omega) hL dL_law_1128 dL_law_1129 dL_law_1131 dL_law_1132 dL_law_1133 ?_
  refine zb_arg hC (a := 6 * t) (j := 3) (ja := 1) (jb := 0) rfl rfl rfl (by omega) hL dL_law_1134 dL_law_1135 dL_law_1137 dL_law_1138 dL_law_1139 ?_
  refine zb_aload_n hC 4 rfl rfl dL_law_1140 ?_
  refine zb_help hC LL_167 (kL_trial hC.2.2.2.2.2.2.2.2.2.2 e1) rfl rfl (Nat.le_of_ble_eq_true rfl) ⟨Nat.le_of_ble_eq_true rfl, Nat.le_of_ble_eq_true rfl⟩ (show k + 3 ≤ 601024 ∧ n + 18 ≤ 7293034 by omega) dL_law_1141 ?_
  refine zb_istore hC (by decide) rfl dL_law_1144 ?_
  refine zb_aload_n hC 4 rfl rfl dL_law_1146 ?_
  refine zb_arg hC (a := 6 * t) (j := 1) (ja := 2) (jb := 1) rfl rfl rfl (by omega) hL dL_law_1147 dL_law_1148 dL_law_1150 dL_law_1151 dL_law_1152 ?_
  refine zb_arg hC (a := 6 * t) (j := 2) (ja := 2) (jb := 1) rfl rfl rfl (by omega) hL dL_law_1153 dL_law_1154 dL_law_1156 dL_law_1157 dL_law_1158 ?_
  refine zb_arg hC (a := 6 * t) (j := 3) (ja := 2) (jb := 1) rfl rfl rfl (by omega) hL dL_law_1159 dL_law_1160 dL_law_1162 dL_law_1163 dL_law_1164 ?_
  refine zb_call2 hC LL_169 rfl (kX11_trial e2) rfl rfl (Nat.le_of_ble_eq_true rfl) ⟨Nat.le_of_ble_eq_true rfl, Nat.le_of_ble_eq_true rfl⟩ (show k + 3 ≤ 601024 ∧ n + 18 ≤ 7293034 by omega) dL_law_1165 ?_
  refine zb_istore hC (by decide) rfl dL_law_1168 ?_
  refine zb_aload_n hC 5 rfl rfl dL_law_1170 ?_
  refine zb_call2 hC LL_116 rfl (kX11_thrown (show fX11_thrown N1 = some (nI q) by rw [← hth]; rfl)) rfl rfl (Nat.le_of_ble_eq_true rfl) ⟨Nat.le_of_ble_eq_true rfl, Nat.le_of_ble_eq_true rfl⟩ (show k + 3 ≤ 601024 ∧ n + 18 ≤ 7293034 by omega) dL_law_1171 ?_
  refine zb_iload hC 1 rfl dL_law_1174 ?_
  refine zb_icmp_eq_t hC rfl (tgt := 1181) rfl dL_law_1176 ?_
  refine zb_iload hC 1 rfl dL_law_1181 ?_
  by_cases hq : q = 0
  · have hq0 : nI q = 0 := by rw [hq]; rfl
    refine zb_if_ne_f hC hq0 (tgt := 1198) rfl dL_law_1183 ?_
    refine zb_aload_n hC 6 rfl rfl dL_law_1186 ?_
    refine zb_iconst hC (v := 0) rfl dL_law_1187 ?_
    refine zb_out hC (hout hq) dL_law_1188 ?_
    refine zb_iload hC 0 rfl dL_law_1189 ?_
    refine zb_i2l hC dL_law_1191 ?_
    refine zb_lcmp hC dL_law_1192 ?_
    refine zb_if_eq_t hC (zcmp _) (tgt := 1198) rfl dL_law_1193 ?_
    refine zb_goto hC (tgt := 2283) rfl dL_law_1198 ?_
    exact zb_sub [2, 3, 4, 5, 6] rfl (zb_wid (show k + 3 ≤ k + 4 ∧ n + 18 ≤ n + 24 by omega) (kk M1 N1 (REL_mono hrel (Nat.le_succ t))))
  · have hq0 : ¬ nI q = 0 := by rw [show (0 : Int32) = nI 0 from rfl, p_eq (by omega) (by omega)]; exact hq
    refine zb_if_ne_t hC hq0 (tgt := 1198) rfl dL_law_1183 ?_
    refine zb_goto hC (tgt := 2283) rfl dL_law_1198 ?_
    exact zb_sub [2, 3, 4, 5, 6] rfl (zb_wid (show k + 3 ≤ k + 4 ∧ n + 18 ≤ n + 24 by omega) (kk M1 N1 (REL_mono hrel (Nat.le_succ t))))
theorem dL_law_1201 : decode code 1201 = .ok (.aload_n 1, 1) := by decide +kernel
theorem dL_law_1202 : decode code 1202 = .ok (.aload_n 0, 1) := by decide +kernel
theorem dL_law_1203 : decode code 1203 = .ok (.iload 4, 2) := by decide +kernel
theorem dL_law_1205 : decode code 1205 = .ok (.iconst 1, 1) := by decide +kernel
theorem dL_law_1206 : decode code 1206 = .ok (.iadd, 1) := by decide +kernel
theorem dL_law_1207 : decode code 1207 = .ok (.iaload, 1) := by decide +kernel
theorem dL_law_1208 : decode code 1208 = .ok (.aload_n 0, 1) := by decide +kernel
theorem dL_law_1209 : decode code 1209 = .ok (.iload 4, 2) := by decide +kernel
theorem dL_law_1211 : decode code 1211 = .ok (.iconst 2, 1) := by decide +kernel
theorem dL_law_1212 : decode code 1212 = .ok (.iadd, 1) := by decide +kernel
theorem dL_law_1213 : decode code 1213 = .ok (.iaload, 1) := by decide +kernel
theorem dL_law_1214 : decode code 1214 = .ok (.aload_n 0, 1) := by decide +kernel
theorem dL_law_1215 : decode code 1215 = .ok (.iload 4, 2) := by decide +kernel
theorem dL_law_1217 : decode code 1217 = .ok (.iconst 3, 1) := by decide +kernel
theorem dL_law_1218 : decode code 1218 = .ok (.iadd, 1) := by decide +kernel
theorem dL_law_1219 : decode code 1219 = .ok (.iaload, 1) := by decide +kernel
theorem dL_law_1220 : decode code 1220 = .ok (.aload_n 3, 1) := by decide +kernel
theorem dL_law_1221 : decode code 1221 = .ok (.invokestatic 170, 3) := by decide +kernel
theorem dL_law_1224 : decode code 1224 = .ok (.istore 5, 2) := by decide +kernel
theorem dL_law_1226 : decode code 1226 = .ok (.aload_n 2, 1) := by decide +kernel
theorem dL_law_1227 : decode code 1227 = .ok (.aload_n 0, 1) := by decide +kernel
theorem dL_law_1228 : decode code 1228 = .ok (.iload 4, 2) := by decide +kernel
theorem dL_law_1230 : decode code 1230 = .ok (.iconst 1, 1) := by decide +kernel
theorem dL_law_1231 : decode code 1231 = .ok (.iadd, 1) := by decide +kernel
theorem dL_law_1232 : decode code 1232 = .ok (.iaload, 1) := by decide +kernel
theorem dL_law_1233 : decode code 1233 = .ok (.aload_n 0, 1) := by decide +kernel
theorem dL_law_1234 : decode code 1234 = .ok (.iload 4, 2) := by decide +kernel
theorem dL_law_1236 : decode code 1236 = .ok (.iconst 2, 1) := by decide +kernel
theorem dL_law_1237 : decode code 1237 = .ok (.iadd, 1) := by decide +kernel
theorem dL_law_1238 : decode code 1238 = .ok (.iaload, 1) := by decide +kernel
theorem dL_law_1239 : decode code 1239 = .ok (.aload_n 0, 1) := by decide +kernel
theorem dL_law_1240 : decode code 1240 = .ok (.iload 4, 2) := by decide +kernel
theorem dL_law_1242 : decode code 1242 = .ok (.iconst 3, 1) := by decide +kernel
theorem dL_law_1243 : decode code 1243 = .ok (.iadd, 1) := by decide +kernel
theorem dL_law_1244 : decode code 1244 = .ok (.iaload, 1) := by decide +kernel
theorem dL_law_1245 : decode code 1245 = .ok (.invokevirtual 172, 3) := by decide +kernel
theorem dL_law_1248 : decode code 1248 = .ok (.istore 6, 2) := by decide +kernel
theorem dL_law_1250 : decode code 1250 = .ok (.aload_n 2, 1) := by decide +kernel
theorem dL_law_1251 : decode code 1251 = .ok (.invokevirtual 116, 3) := by decide +kernel
theorem dL_law_1254 : decode code 1254 = .ok (.iload 5, 2) := by decide +kernel
theorem dL_law_1256 : decode code 1256 = .ok (.if_icmp .eq 5, 3) := by decide +kernel
theorem dL_law_1261 : decode code 1261 = .ok (.iload 5, 2) := by decide +kernel
theorem dL_law_1263 : decode code 1263 = .ok (.ifCond .ne 15, 3) := by decide +kernel
theorem dL_law_1266 : decode code 1266 = .ok (.aload_n 3, 1) := by decide +kernel
theorem dL_law_1267 : decode code 1267 = .ok (.iconst 0, 1) := by decide +kernel
theorem dL_law_1268 : decode code 1268 = .ok (.laload, 1) := by decide +kernel
theorem dL_law_1269 : decode code 1269 = .ok (.iload 6, 2) := by decide +kernel
theorem dL_law_1271 : decode code 1271 = .ok (.i2l, 1) := by decide +kernel
theorem dL_law_1272 : decode code 1272 = .ok (.lcmp, 1) := by decide +kernel
theorem dL_law_1273 : decode code 1273 = .ok (.ifCond .eq 5, 3) := by decide +kernel
theorem dL_law_1278 : decode code 1278 = .ok (.goto 1005, 3) := by decide +kernel
/-- why -/
theorem lc_16 {X : gX} {V V2 : gEnv} {b L t k n : Nat} {xs : Nat → Int32} {M N : gMem} (hC : zL X V V2 b L xs) (h : REL t M N) (hi : 6 * t + 6 ≤ L) (hL : L ≤ 3072) (hR : k + 4 ≤ 601024 ∧ n + 24 ≤ 7293034) (kk : ∀ M1 N1, REL (t + 1) M1 N1 → gB X V V2 M1 N1 (k + 4) (n + 24) 2283 (zLS V V2 b (6 * t)) []) : gB X V V2 M N k n 1201 (zLS V V2 b (6 * t)) [] := by
  obtain ⟨q, M1, bb, N1, e1, e2, hq2, hth, hout, hrel⟩ := st_why h (xs (6 * t + 1)) (xs (6 * t + 2)) (xs (6 * t + 3))
  refine zb_aload_n hC 2 rfl rfl dL_law_1201 ?_
  refine zb_arg hC (a := 6 * t) (j := 1) (ja := 1) (jb := 0) rfl rfl rfl (by omega) hL dL_law_1202 dL_law_1203 dL_law_1205 dL_law_1206 dL_law_1207 ?_
  refine zb_arg hC (a := 6 * t) (j := 2) (ja := 1) (jb := 0) rfl rfl rfl (by omega) hL dL_law_1208 dL_law_1209 dL_law_1211 dL_law_1212 dL_law_1213 ?_
  refine zb_arg hC (a := 6 * t) (j := 3) (ja := 1) (jb := 0) rfl rfl rfl (by omega) hL dL_law_1214 dL_law_1215 dL_law_1217 dL_law_1218 dL_law_1219 ?_
  refine zb_aload_n hC 4 rfl rfl dL_law_1220 ?_
  refine zb_help hC LL_170 (kL_why hC.2.2.2.2.2.2.2.2.2.2 e1) rfl rfl (Nat.le_of_ble_eq_true rfl) ⟨Nat.le_of_ble_eq_true rfl, Nat.le_of_ble_eq_true rfl⟩ (show k + 3 ≤ 601024 ∧ n + 18 ≤ 7293034 by omega) dL_law_1221 ?_
  refine zb_istore hC (by decide) rfl dL_law_1224 ?_
  refine zb_aload_n hC 4 rfl rfl dL_law_1226 ?_
  refine zb_arg hC (a := 6 * t) (j := 1) (ja := 2) (jb := 1) rfl rfl rfl (by omega) hL dL_law_1227 dL_law_1228 dL_law_1230 dL_law_1231 dL_law_1232 ?_
  refine zb_arg hC (a := 6 * t) (j := 2) (ja := 2) (jb := 1) rfl rfl rfl (by omega) hL dL_law_1233 dL_law_1234 dL_law_1236 dL_law_1237 dL_law_1238 ?_
  refine zb_arg hC (a := 6 * t) (j := 3) (ja := 2) (jb := 1) rfl rfl rfl (by omega) hL dL_law_1239 dL_law_1240 dL_law_1242 dL_law_1243 dL_law_1244 ?_
  refine zb_call2 hC LL_172 rfl (kX11_why e2) rfl rfl (Nat.le_of_ble_eq_true rfl) ⟨Nat.le_of_ble_eq_true rfl, Nat.le_of_ble_eq_true rfl⟩ (show k + 3 ≤ 601024 ∧ n + 18 ≤ 7293034 by omega) dL_law_1245 ?_
  refine zb_istore hC (by decide) rfl dL_law_1248 ?_
  refine zb_aload_n hC 5 rfl rfl dL_law_1250 ?_
  refine zb_call2 hC LL_116 rfl (kX11_thrown (show fX11_thrown N1 = some (nI q) by rw [← hth]; rfl)) rfl rfl (Nat.le_of_ble_eq_true rfl) ⟨Nat.le_of_ble_eq_true rfl, Nat.le_of_ble_eq_true rfl⟩ (show k + 3 ≤ 601024 ∧ n + 18 ≤ 7293034 by omega) dL_law_1251 ?_
  refine zb_iload hC 1 rfl dL_law_1254 ?_
  refine zb_icmp_eq_t hC rfl (tgt := 1261) rfl dL_law_1256 ?_
  refine zb_iload hC 1 rfl dL_law_1261 ?_
  by_cases hq : q = 0
  · have hq0 : nI q = 0 := by rw [hq]; rfl
    refine zb_if_ne_f hC hq0 (tgt := 1278) rfl dL_law_1263 ?_
    refine zb_aload_n hC 6 rfl rfl dL_law_1266 ?_
    refine zb_iconst hC (v := 0) rfl dL_law_1267 ?_
    refine zb_out hC (hout hq) dL_law_1268 ?_
    refine zb_iload hC 0 rfl dL_law_1269 ?_
    refine zb_i2l hC dL_law_1271 ?_
    refine zb_lcmp hC dL_law_1272 ?_
    refine zb_if_eq_t hC (zcmp _) (tgt := 1278) rfl dL_law_1273 ?_
    refine zb_goto hC (tgt := 2283) rfl dL_law_1278 ?_
    exact zb_sub [2, 3, 4, 5, 6] rfl (zb_wid (show k + 3 ≤ k + 4 ∧ n + 18 ≤ n + 24 by omega) (kk M1 N1 (REL_mono hrel (Nat.le_succ t))))
  · have hq0 : ¬ nI q = 0 := by rw [show (0 : Int32) = nI 0 from rfl, p_eq (by omega) (by omega)]; exact hq
    refine zb_if_ne_t hC hq0 (tgt := 1278) rfl dL_law_1263 ?_
    refine zb_goto hC (tgt := 2283) rfl dL_law_1278 ?_
    exact zb_sub [2, 3, 4, 5, 6] rfl (zb_wid (show k + 3 ≤ k + 4 ∧ n + 18 ≤ n + 24 by omega) (kk M1 N1 (REL_mono hrel (Nat.le_succ t))))
