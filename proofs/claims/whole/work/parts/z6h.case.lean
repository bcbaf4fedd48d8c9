/-! the law's cases, by program -/
theorem dL_law_1281 : decode code 1281 = .ok (.aload_n 1, 1) := by decide +kernel
theorem dL_law_1282 : decode code 1282 = .ok (.aload_n 0, 1) := by decide +kernel
theorem dL_law_1283 : decode code 1283 = .ok (.iload 4, 2) := by decide +kernel
theorem dL_law_1285 : decode code 1285 = .ok (.iconst 1, 1) := by decide +kernel
theorem dL_law_1286 : decode code 1286 = .ok (.iadd, 1) := by decide +kernel
theorem dL_law_1287 : decode code 1287 = .ok (.iaload, 1) := by decide +kernel
theorem dL_law_1288 : decode code 1288 = .ok (.aload_n 0, 1) := by decide +kernel
theorem dL_law_1289 : decode code 1289 = .ok (.iload 4, 2) := by decide +kernel
theorem dL_law_1291 : decode code 1291 = .ok (.iconst 2, 1) := by decide +kernel
theorem dL_law_1292 : decode code 1292 = .ok (.iadd, 1) := by decide +kernel
theorem dL_law_1293 : decode code 1293 = .ok (.iaload, 1) := by decide +kernel
theorem dL_law_1294 : decode code 1294 = .ok (.aload_n 3, 1) := by decide +kernel
theorem dL_law_1295 : decode code 1295 = .ok (.invokestatic 173, 3) := by decide +kernel
theorem dL_law_1298 : decode code 1298 = .ok (.istore 5, 2) := by decide +kernel
theorem dL_law_1300 : decode code 1300 = .ok (.aload_n 2, 1) := by decide +kernel
theorem dL_law_1301 : decode code 1301 = .ok (.aload_n 0, 1) := by decide +kernel
theorem dL_law_1302 : decode code 1302 = .ok (.iload 4, 2) := by decide +kernel
theorem dL_law_1304 : decode code 1304 = .ok (.iconst 1, 1) := by decide +kernel
theorem dL_law_1305 : decode code 1305 = .ok (.iadd, 1) := by decide +kernel
theorem dL_law_1306 : decode code 1306 = .ok (.iaload, 1) := by decide +kernel
theorem dL_law_1307 : decode code 1307 = .ok (.aload_n 0, 1) := by decide +kernel
theorem dL_law_1308 : decode code 1308 = .ok (.iload 4, 2) := by decide +kernel
theorem dL_law_1310 : decode code 1310 = .ok (.iconst 2, 1) := by decide +kernel
theorem dL_law_1311 : decode code 1311 = .ok (.iadd, 1) := by decide +kernel
theorem dL_law_1312 : decode code 1312 = .ok (.iaload, 1) := by decide +kernel
theorem dL_law_1313 : decode code 1313 = .ok (.invokevirtual 175, 3) := by decide +kernel
theorem dL_law_1316 : decode code 1316 = .ok (.istore 6, 2) := by decide +kernel
theorem dL_law_1318 : decode code 1318 = .ok (.aload_n 2, 1) := by decide +kernel
theorem dL_law_1319 : decode code 1319 = .ok (.invokevirtual 116, 3) := by decide +kernel
theorem dL_law_1322 : decode code 1322 = .ok (.iload 5, 2) := by decide +kernel
theorem dL_law_1324 : decode code 1324 = .ok (.if_icmp .eq 5, 3) := by decide +kernel
theorem dL_law_1329 : decode code 1329 = .ok (.iload 5, 2) := by decide +kernel
theorem dL_law_1331 : decode code 1331 = .ok (.ifCond .ne 15, 3) := by decide +kernel
theorem dL_law_1334 : decode code 1334 = .ok (.aload_n 3, 1) := by decide +kernel
theorem dL_law_1335 : decode code 1335 = .ok (.iconst 0, 1) := by decide +kernel
theorem dL_law_1336 : decode code 1336 = .ok (.laload, 1) := by decide +kernel
theorem dL_law_1337 : decode code 1337 = .ok (.iload 6, 2) := by decide +kernel
theorem dL_law_1339 : decode code 1339 = .ok (.i2l, 1) := by decide +kernel
theorem dL_law_1340 : decode code 1340 = .ok (.lcmp, 1) := by decide +kernel
theorem dL_law_1341 : decode code 1341 = .ok (.ifCond .eq 5, 3) := by decide +kernel
theorem dL_law_1346 : decode code 1346 = .ok (.goto 937, 3) := by decide +kernel
/-- bestMode -/
theorem lc_17 {X : gX} {V V2 : gEnv} {b L t k n : Nat} {xs : Nat → Int32} {M N : gMem} (hC : zL X V V2 b L xs) (h : REL t M N) (hi : 6 * t + 6 ≤ L) (hL : L ≤ 3072) (hR : k + 4 ≤ 601024 ∧ n + 24 ≤ 7293034) (kk : ∀ M1 N1, REL (t + 1) M1 N1 → gB X V V2 M1 N1 (k + 4) (n + 24) 2283 (zLS V V2 b (6 * t)) []) : gB X V V2 M N k n 1281 (zLS V V2 b (6 * t)) [] := by
  obtain ⟨q, M1, bb, N1, e1, e2, hq2, hth, hout, hrel⟩ := st_bestMode h (xs (6 * t + 1)) (xs (6 * t + 2))
  refine zb_aload_n hC 2 rfl rfl dL_law_1281 ?_
  refine zb_arg hC (a := 6 * t) (j := 1) (ja := 1) (jb := 0) rfl rfl rfl (by omega) hL dL_law_1282 dL_law_1283 dL_law_1285 dL_law_1286 dL_law_1287 ?_
  refine zb_arg hC (a := 6 * t) (j := 2) (ja := 1) (jb := 0) rfl rfl rfl (by omega) hL dL_law_1288 dL_law_1289 dL_law_1291 dL_law_1292 dL_law_1293 ?_
  refine zb_aload_n hC 4 rfl rfl dL_law_1294 ?_
  refine zb_help hC LL_173 (kL_bestMode hC.2.2.2.2.2.2.2.2.2.2 e1) rfl rfl (Nat.le_of_ble_eq_true rfl) ⟨Nat.le_of_ble_eq_true rfl, Nat.le_of_ble_eq_true rfl⟩ (show k + 2 ≤ 601024 ∧ n + 12 ≤ 7293034 by omega) dL_law_1295 ?_
  refine zb_istore hC (by decide) rfl dL_law_1298 ?_
  refine zb_aload_n hC 4 rfl rfl dL_law_1300 ?_
  refine zb_arg hC (a := 6 * t) (j := 1) (ja := 2) (jb := 1) rfl rfl rfl (by omega) hL dL_law_1301 dL_law_1302 dL_law_1304 dL_law_1305 dL_law_1306 ?_
  refine zb_arg hC (a := 6 * t) (j := 2) (ja := 2) (jb := 1) rfl rfl rfl (by omega) hL dL_law_1307 dL_law_1308 dL_law_1310 dL_law_1311 dL_law_1312 ?_
  refine zb_call2 hC LL_175 rfl (kX11_bestMode e2) rfl rfl (Nat.le_of_ble_eq_true rfl) ⟨Nat.le_of_ble_eq_true rfl, Nat.le_of_ble_eq_true rfl⟩ (show k + 2 ≤ 601024 ∧ n + 12 ≤ 7293034 by omega) dL_law_1313 ?_
  refine zb_istore hC (by decide) rfl dL_law_1316 ?_
  refine zb_aload_n hC 5 rfl rfl dL_law_1318 ?_
  refine zb_call2 hC LL_116 rfl (kX11_thrown (show fX11_thrown N1 = some (nI q) by rw [← hth]; rfl)) rfl rfl (Nat.le_of_ble_eq_true rfl) ⟨Nat.le_of_ble_eq_true rfl, Nat.le_of_ble_eq_true rfl⟩ (show k + 2 ≤ 601024 ∧ n + 12 ≤ 7293034 by omega) dL_law_1319 ?_
  refine zb_iload hC 1 rfl dL_law_1322 ?_
  refine zb_icmp_eq_t hC rfl (tgt := 1329) rfl dL_law_1324 ?_
  refine zb_iload hC 1 rfl dL_law_1329 ?_
  by_cases hq : q = 0
  · have hq0 : nI q = 0 := by rw [hq]; rfl
    refine zb_if_ne_f hC hq0 (tgt := 1346) rfl dL_law_1331 ?_
    refine zb_aload_n hC 6 rfl rfl dL_law_1334 ?_
    refine zb_iconst hC (v := 0) rfl dL_law_1335 ?_
    refine zb_out hC (hout hq) dL_law_1336 ?_
    refine zb_iload hC 0 rfl dL_law_1337 ?_
    refine zb_i2l hC dL_law_1339 ?_
    refine zb_lcmp hC dL_law_1340 ?_
    refine zb_if_eq_t hC (zcmp _) (tgt := 1346) rfl dL_law_1341 ?_
    refine zb_goto hC (tgt := 2283) rfl dL_law_1346 ?_
    exact zb_sub [2, 3, 4, 5, 6] rfl (zb_wid (show k + 2 ≤ k + 4 ∧ n + 12 ≤ n + 24 by omega) (kk M1 N1 (REL_mono hrel (Nat.le_succ t))))
  · have hq0 : ¬ nI q = 0 := by rw [show (0 : Int32) = nI 0 from rfl, p_eq (by omega) (by omega)]; exact hq
    refine zb_if_ne_t hC hq0 (tgt := 1346) rfl dL_law_1331 ?_
    refine zb_goto hC (tgt := 2283) rfl dL_law_1346 ?_
    exact zb_sub [2, 3, 4, 5, 6] rfl (zb_wid (show k + 2 ≤ k + 4 ∧ n + 12 ≤ n + 24 by omega) (kk M1 N1 (REL_mono hrel (Nat.le_succ t))))
theorem dL_law_1349 : decode code 1349 = .ok (.aload_n 1, 1) := by decide +kernel
theorem dL_law_1350 : decode code 1350 = .ok (.aload_n 0, 1) := by decide +kernel
theorem dL_law_1351 : decode code 1351 = .ok (.iload 4, 2) := by decide +kernel
theorem dL_law_1353 : decode code 1353 = .ok (.iconst 1, 1) := by decide +kernel
theorem dL_law_1354 : decode code 1354 = .ok (.iadd, 1) := by decide +kernel
theorem dL_law_1355 : decode code 1355 = .ok (.iaload, 1) := by decide +kernel
theorem dL_law_1356 : decode code 1356 = .ok (.aload_n 3, 1) := by decide +kernel
theorem dL_law_1357 : decode code 1357 = .ok (.invokestatic 176, 3) := by decide +kernel
theorem dL_law_1360 : decode code 1360 = .ok (.istore 5, 2) := by decide +kernel
theorem dL_law_1362 : decode code 1362 = .ok (.aload_n 2, 1) := by decide +kernel
theorem dL_law_1363 : decode code 1363 = .ok (.aload_n 0, 1) := by decide +kernel
theorem dL_law_1364 : decode code 1364 = .ok (.iload 4, 2) := by decide +kernel
theorem dL_law_1366 : decode code 1366 = .ok (.iconst 1, 1) := by decide +kernel
theorem dL_law_1367 : decode code 1367 = .ok (.iadd, 1) := by decide +kernel
theorem dL_law_1368 : decode code 1368 = .ok (.iaload, 1) := by decide +kernel
theorem dL_law_1369 : decode code 1369 = .ok (.invokevirtual 178, 3) := by decide +kernel
theorem dL_law_1372 : decode code 1372 = .ok (.istore 6, 2) := by decide +kernel
theorem dL_law_1374 : decode code 1374 = .ok (.aload_n 2, 1) := by decide +kernel
theorem dL_law_1375 : decode code 1375 = .ok (.invokevirtual 116, 3) := by decide +kernel
theorem dL_law_1378 : decode code 1378 = .ok (.iload 5, 2) := by decide +kernel
theorem dL_law_1380 : decode code 1380 = .ok (.if_icmp .eq 5, 3) := by decide +kernel
theorem dL_law_1385 : decode code 1385 = .ok (.iload 5, 2) := by decide +kernel
theorem dL_law_1387 : decode code 1387 = .ok (.ifCond .ne 15, 3) := by decide +kernel
theorem dL_law_1390 : decode code 1390 = .ok (.aload_n 3, 1) := by decide +kernel
theorem dL_law_1391 : decode code 1391 = .ok (.iconst 0, 1) := by decide +kernel
theorem dL_law_1392 : decode code 1392 = .ok (.laload, 1) := by decide +kernel
theorem dL_law_1393 : decode code 1393 = .ok (.iload 6, 2) := by decide +kernel
theorem dL_law_1395 : decode code 1395 = .ok (.i2l, 1) := by decide +kernel
theorem dL_law_1396 : decode code 1396 = .ok (.lcmp, 1) := by decide +kernel
theorem dL_law_1397 : decode code 1397 = .ok (.ifCond .eq 5, 3) := by decide +kernel
theorem dL_law_1402 : decode code 1402 = .ok (.goto 881, 3) := by decide +kernel
/-- leastPlace -/
theorem lc_18 {X : gX} {V V2 : gEnv} {b L t k n : Nat} {xs : Nat → Int32} {M N : gMem} (hC : zL X V V2 b L xs) (h : REL t M N) (hi : 6 * t + 6 ≤ L) (hL : L ≤ 3072) (hR : k + 4 ≤ 601024 ∧ n + 24 ≤ 7293034) (kk : ∀ M1 N1, REL (t + 1) M1 N1 → gB X V V2 M1 N1 (k + 4) (n + 24) 2283 (zLS V V2 b (6 * t)) []) : gB X V V2 M N k n 1349 (zLS V V2 b (6 * t)) [] := by
  obtain ⟨q, M1, bb, N1, e1, e2, hq2, hth, hout, hrel⟩ := st_leastPlace h (xs (6 * t + 1))
  refine zb_aload_n hC 2 rfl rfl dL_law_1349 ?_
  refine zb_arg hC (a := 6 * t) (j := 1) (ja := 1) (jb := 0) rfl rfl rfl (by omega) hL dL_law_1350 dL_law_1351 dL_law_1353 dL_law_1354 dL_law_1355 ?_
  refine zb_aload_n hC 4 rfl rfl dL_law_1356 ?_
  refine zb_help hC LL_176 (kL_leastPlace hC.2.2.2.2.2.2.2.2.2.2 e1) rfl rfl (Nat.le_of_ble_eq_true rfl) ⟨Nat.le_of_ble_eq_true rfl, Nat.le_of_ble_eq_true rfl⟩ (show k + 1 ≤ 601024 ∧ n + 6 ≤ 7293034 by omega) dL_law_1357 ?_
  refine zb_istore hC (by decide) rfl dL_law_1360 ?_
  refine zb_aload_n hC 4 rfl rfl dL_law_1362 ?_
  refine zb_arg hC (a := 6 * t) (j := 1) (ja := 2) (jb := 1) rfl rfl rfl (by omega) hL dL_law_1363 dL_law_1364 dL_law_1366 dL_law_1367 dL_law_1368 ?_
  refine zb_call2 hC LL_178 rfl (kX11_leastPlace e2) rfl rfl (Nat.le_of_ble_eq_true rfl) ⟨Nat.le_of_ble_eq_true rfl, Nat.le_of_ble_eq_true rfl⟩ (show k + 1 ≤ 601024 ∧ n + 6 ≤ 7293034 by omega) dL_law_1369 ?_
  refine zb_istore hC (by decide) rfl dL_law_1372 ?_
  refine zb_aload_n hC 5 rfl rfl dL_law_1374 ?_
  refine zb_call2 hC LL_116 rfl (kX11_thrown (show fX11_thrown N1 = some (nI q) by rw [← hth]; rfl)) rfl rfl (Nat.le_of_ble_eq_true rfl) ⟨Nat.le_of_ble_eq_true rfl, Nat.le_of_ble_eq_true rfl⟩ (show k + 1 ≤ 601024 ∧ n + 6 ≤ 7293034 by omega) dL_law_1375 ?_
  refine zb_iload hC 1 rfl dL_law_1378 ?_
  refine zb_icmp_eq_t hC rfl (tgt := 1385) rfl dL_law_1380 ?_
  refine zb_iload hC 1 rfl dL_law_1385 ?_
  by_cases hq : q = 0
  · have hq0 : nI q = 0 := by rw [hq]; rfl
    refine zb_if_ne_f hC hq0 (tgt := 1402) rfl dL_law_1387 ?_
    refine zb_aload_n hC 6 rfl rfl dL_law_1390 ?_
    refine zb_iconst hC (v := 0) rfl dL_law_1391 ?_
    refine zb_out hC (hout hq) dL_law_1392 ?_
    refine zb_iload hC 0 rfl dL_law_1393 ?_
    refine zb_i2l hC dL_law_1395 ?_
    refine zb_lcmp hC dL_law_1396 ?_
    refine zb_if_eq_t hC (zcmp _) (tgt := 1402) rfl dL_law_1397 ?_
    refine zb_goto hC (tgt := 2283) rfl dL_law_1402 ?_
    exact zb_sub [2, 3, 4, 5, 6] rfl (zb_wid (show k + 1 ≤ k + 4 ∧ n + 6 ≤ n + 24 by omega) (kk M1 N1 (REL_mono hrel (Nat.le_succ t))))
  · have hq0 : ¬ nI q = 0 := by rw [show (0 : Int32) = nI 0 from rfl, p_eq (by omega) (by omega)]; exact hq
    refine zb_if_ne_t hC hq0 (tgt := 1402) rfl dL_law_1387 ?_
    refine zb_goto hC (tgt := 2283) rfl dL_law_1402 ?_
    exact zb_sub [2, 3, 4, 5, 6] rfl (zb_wid (show k + 1 ≤ k + 4 ∧ n + 6 ≤ n + 24 by omega) (kk M1 N1 (REL_mono hrel (Nat.le_succ t))))
theorem dL_law_1405 : decode code 1405 = .ok (.aload_n 1, 1) := by decide +kernel
theorem dL_law_1406 : decode code 1406 = .ok (.aload_n 0, 1) := by decide +kernel
theorem dL_law_1407 : decode code 1407 = .ok (.iload 4, 2) := by decide +kernel
theorem dL_law_1409 : decode code 1409 = .ok (.iconst 1, 1) := by decide +kernel
theorem dL_law_1410 : decode code 1410 = .ok (.iadd, 1) := by decide +kernel
theorem dL_law_1411 : decode code 1411 = .ok (.iaload, 1) := by decide +kernel
theorem dL_law_1412 : decode code 1412 = .ok (.aload_n 3, 1) := by decide +kernel
theorem dL_law_1413 : decode code 1413 = .ok (.invokestatic 179, 3) := by decide +kernel
theorem dL_law_1416 : decode code 1416 = .ok (.istore 5, 2) := by decide +kernel
theorem dL_law_1418 : decode code 1418 = .ok (.aload_n 2, 1) := by decide +kernel
theorem dL_law_1419 : decode code 1419 = .ok (.aload_n 0, 1) := by decide +kernel
theorem dL_law_1420 : decode code 1420 = .ok (.iload 4, 2) := by decide +kernel
theorem dL_law_1422 : decode code 1422 = .ok (.iconst 1, 1) := by decide +kernel
theorem dL_law_1423 : decode code 1423 = .ok (.iadd, 1) := by decide +kernel
theorem dL_law_1424 : decode code 1424 = .ok (.iaload, 1) := by decide +kernel
theorem dL_law_1425 : decode code 1425 = .ok (.invokevirtual 181, 3) := by decide +kernel
theorem dL_law_1428 : decode code 1428 = .ok (.istore 6, 2) := by decide +kernel
theorem dL_law_1430 : decode code 1430 = .ok (.aload_n 2, 1) := by decide +kernel
theorem dL_law_1431 : decode code 1431 = .ok (.invokevirtual 116, 3) := by decide +kernel
theorem dL_law_1434 : decode code 1434 = .ok (.iload 5, 2) := by decide +kernel
theorem dL_law_1436 : decode code 1436 = .ok (.if_icmp .eq 5, 3) := by decide +kernel
theorem dL_law_1441 : decode code 1441 = .ok (.iload 5, 2) := by decide +kernel
theorem dL_law_1443 : decode code 1443 = .ok (.ifCond .ne 15, 3) := by decide +kernel
theorem dL_law_1446 : decode code 1446 = .ok (.aload_n 3, 1) := by decide +kernel
theorem dL_law_1447 : decode code 1447 = .ok (.iconst 0, 1) := by decide +kernel
theorem dL_law_1448 : decode code 1448 = .ok (.laload, 1) := by decide +kernel
theorem dL_law_1449 : decode code 1449 = .ok (.iload 6, 2) := by decide +kernel
theorem dL_law_1451 : decode code 1451 = .ok (.i2l, 1) := by decide +kernel
theorem dL_law_1452 : decode code 1452 = .ok (.lcmp, 1) := by decide +kernel
theorem dL_law_1453 : decode code 1453 = .ok (.ifCond .eq 5, 3) := by decide +kernel
theorem dL_law_1458 : decode code 1458 = .ok (.goto 825, 3) := by decide +kernel
/-- mostPlace -/
theorem lc_19 {X : gX} {V V2 : gEnv} {b L t k n : Nat} {xs : Nat → Int32} {M N : gMem} (hC : zL X V V2 b L xs) (h : REL t M N) (hi : 6 * t + 6 ≤ L) (hL : L ≤ 3072) (hR : k + 4 ≤ 601024 ∧ n + 24 ≤ 7293034) (kk : ∀ M1 N1, REL (t + 1) M1 N1 → gB X V V2 M1 N1 (k + 4) (n + 24) 2283 (zLS V V2 b (6 * t)) []) : gB X V V2 M N k n 1405 (zLS V V2 b (6 * t)) [] := by
  obtain ⟨q, M1, bb, N1, e1, e2, hq2, hth, hout, hrel⟩ := st_mostPlace h (xs (6 * t + 1))
  refine zb_aload_n hC 2 rfl rfl dL_law_1405 ?_
  refine zb_arg hC (a := 6 * t) (j := 1) (ja := 1) (jb := 0) rfl rfl rfl (by omega) hL dL_law_1406 dL_law_1407 dL_law_1409 dL_law_1410 dL_law_1411 ?_
  refine zb_aload_n hC 4 rfl rfl dL_law_1412 ?_
  refine zb_help hC LL_179 (kL_mostPlace hC.2.2.2.2.2.2.2.2.2.2 e1) rfl rfl (Nat.le_of_ble_eq_true rfl) ⟨Nat.le_of_ble_eq_true rfl, Nat.le_of_ble_eq_true rfl⟩ (show k + 1 ≤ 601024 ∧ n + 6 ≤ 7293034 by omega) dL_law_1413 ?_
  refine zb_istore hC (by decide) rfl dL_law_1416 ?_
  refine zb_aload_n hC 4 rfl rfl dL_law_1418 ?_
  refine zb_arg hC (a := 6 * t) (j := 1) (ja := 2) (jb := 1) rfl rfl rfl (by omega) hL dL_law_1419 dL_law_1420 dL_law_1422 dL_law_1423 dL_law_1424 ?_
  refine zb_call2 hC LL_181 rfl (kX11_mostPlace e2) rfl rfl (Nat.le_of_ble_eq_true rfl) ⟨Nat.le_of_ble_eq_true rfl, Nat.le_of_ble_eq_true rfl⟩ (show k + 1 ≤ 601024 ∧ n + 6 ≤ 7293034 by omega) dL_law_1425 ?_
  refine zb_istore hC (by decide) rfl dL_law_1428 ?_
  refine zb_aload_n hC 5 rfl rfl dL_law_1430 ?_
  refine zb_call2 hC LL_116 rfl (kX11_thrown (show fX11_thrown N1 = some (nI q) by rw [← hth]; rfl)) rfl rfl (Nat.le_of_ble_eq_true rfl) ⟨Nat.le_of_ble_eq_true rfl, Nat.le_of_ble_eq_true rfl⟩ (show k + 1 ≤ 601024 ∧ n + 6 ≤ 7293034 by omega) dL_law_1431 ?_
  refine zb_iload hC 1 rfl dL_law_1434 ?_
  refine zb_icmp_eq_t hC rfl (tgt := 1441) rfl dL_law_1436 ?_
  refine zb_iload hC 1 rfl dL_law_1441 ?_
  by_cases hq : q = 0
  · have hq0 : nI q = 0 := by rw [hq]; rfl
    refine zb_if_ne_f hC hq0 (tgt := 1458) rfl dL_law_1443 ?_
    refine zb_aload_n hC 6 rfl rfl dL_law_1446 ?_
    refine zb_iconst hC (v := 0) rfl dL_law_1447 ?_
    refine zb_out hC (hout hq) dL_law_1448 ?_
    refine zb_iload hC 0 rfl dL_law_1449 ?_
    refine zb_i2l hC dL_law_1451 ?_
    refine zb_lcmp hC dL_law_1452 ?_
    refine zb_if_eq_t hC (zcmp _) (tgt := 1458) rfl dL_law_1453 ?_
    refine zb_goto hC (tgt := 2283) rfl dL_law_1458 ?_
    exact zb_sub [2, 3, 4, 5, 6] rfl (zb_wid (show k + 1 ≤ k + 4 ∧ n + 6 ≤ n + 24 by omega) (kk M1 N1 (REL_mono hrel (Nat.le_succ t))))
  · have hq0 : ¬ nI q = 0 := by rw [show (0 : Int32) = nI 0 from rfl, p_eq (by omega) (by omega)]; exact hq
    refine zb_if_ne_t hC hq0 (tgt := 1458) rfl dL_law_1443 ?_
    refine zb_goto hC (tgt := 2283) rfl dL_law_1458 ?_
    exact zb_sub [2, 3, 4, 5, 6] rfl (zb_wid (show k + 1 ≤ k + 4 ∧ n + 6 ≤ n + 24 by omega) (kk M1 N1 (REL_mono hrel (Nat.le_succ t))))
