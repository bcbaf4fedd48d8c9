/-! SIMPLE NUMBERS: both sides -/
theorem ct_mkS {f : Nat → Bool} {n : Nat} (hn : n ≤ 32) (hz : ∀ v, v < 32 → f v = true → v < n) : fb_ct (bt (mkS f)) 32 = fb_ct f n := by
  have e1 : fb_ct (bt (mkS f)) 32 = fb_ct f 32 := fb_ct_cong fun k hk => mkS_bt hk
  rw [e1, show 32 = n + (32 - n) by omega, fb_ct_split]
  have e2 : fb_ct (fun k => f (n + k)) (32 - n) = 0 := fb_ct_zero.mpr fun k hk => by
    cases hb : f (n + k)
    · rfl
    · have := hz _ (by omega) hb; omega
  rw [e2, Nat.add_zero]
/-- what a one-to-one map hits is as many as what it is hit by -/
theorem ct_img {q : Nat → Bool} {g : Nat → Nat} {N : Nat} : ∀ {m : Nat}, (∀ i, i < m → q i = true → g i < N) → (∀ i j, i < m → j < m → q i = true → q j = true → g i = g j → i = j) → fb_ct (fun v => cB (∃ i, i < m ∧ q i = true ∧ g i = v)) N = fb_ct q m
  | 0, _, _ => fb_ct_zero.mpr fun k _ => by rw [cB_no]; rintro ⟨i, hi, -⟩; omega
  | m + 1, h1, h2 => by
    have ih := ct_img (q := q) (g := g) (N := N) (m := m) (fun i hi => h1 i (by omega)) (fun i j hi hj => h2 i j (by omega) (by omega))
    rw [fb_ct_succ, ← ih]
    cases hb : q m
    · rw [if_neg (by decide), Nat.add_zero]
      refine fb_ct_cong fun k _ => cB_cg ⟨?_, ?_⟩
      · rintro ⟨i, i1, i2, i3⟩
        by_cases c : i = m
        · rw [c, hb] at i2; cases i2
        · exact ⟨i, by omega, i2, i3⟩
      · rintro ⟨i, i1, i2⟩; exact ⟨i, by omega, i2⟩
    · rw [if_pos rfl]
      have gm := h1 m (by omega) hb
      have e : fb_ct (fun v => cB (∃ i, i < m + 1 ∧ q i = true ∧ g i = v)) N = fb_ct (fun v => cB (∃ i, i < m ∧ q i = true ∧ g i = v) || decide (v = g m)) N := fb_ct_cong fun k _ => by
        rw [Bool.eq_iff_iff, Bool.or_eq_true, cB_iff, cB_iff, decide_eq_true_eq]
        constructor
        · rintro ⟨i, i1, i2, i3⟩
          by_cases c : i = m
          · rw [c] at i3; exact Or.inr i3.symm
          · exact Or.inl ⟨i, by omega, i2, i3⟩
        · rintro (⟨i, i1, i2⟩ | c)
          · exact ⟨i, by omega, i2⟩
          · exact ⟨m, by omega, hb, c.symm⟩
      rw [e, fb_ct_or]
      · congr 1
        have e3 : fb_ct (fun v => decide (v = g m)) N = fb_ct (fun v => decide (v = g m)) (g m) + fb_ct (fun k => decide (g m + k = g m)) (N - g m) := by rw [← fb_ct_split, Nat.add_sub_cancel' (by omega)]
        have e4 : fb_ct (fun v => decide (v = g m)) (g m) = 0 := fb_ct_zero.mpr fun k hk => decide_eq_false (by omega)
        have e5 : fb_ct (fun k => decide (g m + k = g m)) (N - g m) = 1 := by
          rw [show N - g m = 1 + (N - g m - 1) by omega, fb_ct_split]
          have e6 : fb_ct (fun k => decide (g m + (1 + k) = g m)) (N - g m - 1) = 0 := fb_ct_zero.mpr fun k hk => decide_eq_false (by omega)
          rw [e6]
          show 0 + (if decide (g m + 0 = g m) = true then 1 else 0) + 0 = 1
          rw [if_pos (by simp)]
        rw [e3, e4, e5]
      · rintro k _ ⟨z1, z2⟩
        obtain ⟨i, i1, i2, i3⟩ := cB_iff.mp z1
        have z2 := of_decide_eq_true z2
        have := h2 i m (by omega) (by omega) i2 hb (by rw [i3, z2])
        omega
section SN
variable {M : gMem} {S : gS} {t : Nat}
theorem c_ext {x y : Int32} {P : Nat → Prop} (h1 : ∀ v, v < 32 → (bt x v = true ↔ P v)) (h2 : ∀ v, v < 32 → (bt y v = true ↔ P v)) : x = y := b_ext fun v hv => by
  rw [Bool.eq_iff_iff, h1 v hv, h2 v hv]
theorem mx_ifI {a b : Nat} (ha : a < 2147483648) (hb : b < 2147483648) : (if nI a < nI b then nI b else nI a) = nI (mx2 a b) := by
  simp only [p_lt ha hb]; exact mx_if a b
/-- tasks of a group -/
def gCt (S : gS) (p : Nat) : Nat := fb_ct (bt (sMb S p)) 32
theorem gCt_le (S : gS) (p : Nat) : gCt S p ≤ 32 := fb_ct_le _ _
theorem cs_largest (h : CS M t S) : fX2_largestGroup t M = some (nI (gMx (gCt S) (sG S))) := by
  have hg := (sW_24 h.2).2.2
  have g1 := cs_g h
  have e := gLoop_f (body := fun z9 => fX2_largestGroup_l4 t M z9.1 z9.2) (fun k => (nI (gMx (gCt S) k), nI k)) (r := nI (gMx (gCt S) (sG S))) (sG S) gFu (by show sG S < 4096; omega) (fun k hk => by
    have m1 := cs_mb h hk
    have u1 := gCt_le S k
    have u2 : gMx (gCt S) k ≤ 32 := gMx_ub fun j _ => gCt_le S j
    have b1 : fJ6_bitCount_0f7a4 (sMb S k) = some (nI (gCt S k)) := by unfold gCt; exact p_bitCount _
    generalize sMb S k = w9 at m1 b1
    show fX2_largestGroup_l4 t M (nI (gMx (gCt S) k)) (nI k) = some (.inl (nI (mx2 (gMx (gCt S) k) (gCt S k)), nI (k + 1)))
    generalize gMx (gCt S) k = y at u2
    generalize gCt S k = x at u1 b1
    unfold fX2_largestGroup_l4
    rw [g1, if_neg (by rw [p_le (by omega) (by omega)]; omega), p_rI (by omega) (by omega), p_bnd, m1, b1, p_bnd, p_nm, p_bnd, mx_ifI (by omega) (by omega), show (1 : Int32) = nI 1 from rfl, nI_add]) (by simp (disch := omega) only [p_bnd, p_nm, p_gSEl, p_gSEr, p_l0, p_l1, p_l2, p_l3, p_l4, p_l5, p_l6, p_l7, p_l8, p_l9, p_l10, p_l14, p_l16, p_l20, p_l22, p_l24, p_l30, p_l31, p_l32, p_l38, p_l40, p_l41, p_l43, p_l48, p_l57, p_l59, p_l60, p_l61, p_l62, p_l63, p_l97, p_l98, p_l101, p_l122, p_l158, p_l201, p_l255, p_l256, p_l374, p_l880, p_l900, p_l1000, p_l2618, p_neg, nI_add, p_mul, p_sub, p_addm, p_addm0, p_subm, p_le, p_lt, p_eq, p_mO_eq, p_eq_mO, p_mO_lt, p_nlt_mO, p_mO_le, p_le_mO, p_rI, p_rL, p_wI, p_wL, p_wF, p_has10, p_has11, p_ib0, p_ib1, p_shl1, p_zv0, p_zv1, p_zvib, p_ibd, p_ibn, if_pos, if_neg, if_true, if_false, ne_eq, not_true, not_false_iff, Decidable.not_not, Nat.not_lt, Nat.not_le, Bool.true_eq_false, Bool.false_eq_true, eq_self, reduceIte, Nat.reduceAdd, Nat.reduceMul, Nat.reduceSub, Nat.reduceEqDiff, Nat.reduceLT, Nat.reduceLeDiff, reduceCtorEq, fX2_largestGroup_l4, g1])
  unfold fX2_largestGroup
  rw [show gLoop (fun z9 => fX2_largestGroup_l4 t M z9.1 z9.2) gFu ((0 : Int32), (0 : Int32)) = some (nI (gMx (gCt S) (sG S))) from e, p_bnd]
theorem rs_largest (h : RS M S) : fX11_largest M = some (nI (gMx (gCt S) (sG S))) := by
  have hg := (sW_24 h.2).2.2
  have g1 : M.1 1 2 = nI (sG S) := h.1.1.2.2.1
  have e := gLoop_f (body := fun z9 => fX11_largest_l4 M z9.1 z9.2) (fun k => (nI (gMx (gCt S) k), nI k)) (r := nI (gMx (gCt S) (sG S))) (sG S) gFu (by show sG S < 4096; omega) (fun k hk => by
    have m1 := rs_membersAt h hk
    have u1 := gCt_le S k
    have u2 : gMx (gCt S) k ≤ 32 := gMx_ub fun j _ => gCt_le S j
    have b1 : fX11_many (sMb S k) = some (nI (gCt S k)) := by unfold gCt; exact p_many _
    rw [gMx_s]
    generalize gMx (gCt S) k = y at u2
    simp (disch := omega) only [p_bnd, p_nm, p_gSEl, p_gSEr, p_l0, p_l1, p_l2, p_l3, p_l4, p_l5, p_l6, p_l7, p_l8, p_l9, p_l10, p_l14, p_l16, p_l20, p_l22, p_l24, p_l30, p_l31, p_l32, p_l38, p_l40, p_l41, p_l43, p_l48, p_l57, p_l59, p_l60, p_l61, p_l62, p_l63, p_l97, p_l98, p_l101, p_l122, p_l158, p_l201, p_l255, p_l256, p_l374, p_l880, p_l900, p_l1000, p_l2618, p_neg, nI_add, p_mul, p_sub, p_addm, p_addm0, p_subm, p_le, p_lt, p_eq, p_mO_eq, p_eq_mO, p_mO_lt, p_nlt_mO, p_mO_le, p_le_mO, p_rI, p_rL, p_wI, p_wL, p_wF, p_has10, p_has11, p_ib0, p_ib1, p_shl1, p_zv0, p_zv1, p_zvib, p_ibd, p_ibn, if_pos, if_neg, if_true, if_false, ne_eq, not_true, not_false_iff, Decidable.not_not, Nat.not_lt, Nat.not_le, Bool.true_eq_false, Bool.false_eq_true, eq_self, reduceIte, Nat.reduceAdd, Nat.reduceMul, Nat.reduceSub, Nat.reduceEqDiff, Nat.reduceLT, Nat.reduceLeDiff, reduceCtorEq, fX11_largest_l4, g1, m1, b1, mx_if]) (by simp (disch := omega) only [p_bnd, p_nm, p_gSEl, p_gSEr, p_l0, p_l1, p_l2, p_l3, p_l4, p_l5, p_l6, p_l7, p_l8, p_l9, p_l10, p_l14, p_l16, p_l20, p_l22, p_l24, p_l30, p_l31, p_l32, p_l38, p_l40, p_l41, p_l43, p_l48, p_l57, p_l59, p_l60, p_l61, p_l62, p_l63, p_l97, p_l98, p_l101, p_l122, p_l158, p_l201, p_l255, p_l256, p_l374, p_l880, p_l900, p_l1000, p_l2618, p_neg, nI_add, p_mul, p_sub, p_addm, p_addm0, p_subm, p_le, p_lt, p_eq, p_mO_eq, p_eq_mO, p_mO_lt, p_nlt_mO, p_mO_le, p_le_mO, p_rI, p_rL, p_wI, p_wL, p_wF, p_has10, p_has11, p_ib0, p_ib1, p_shl1, p_zv0, p_zv1, p_zvib, p_ibd, p_ibn, if_pos, if_neg, if_true, if_false, ne_eq, not_true, not_false_iff, Decidable.not_not, Nat.not_lt, Nat.not_le, Bool.true_eq_false, Bool.false_eq_true, eq_self, reduceIte, Nat.reduceAdd, Nat.reduceMul, Nat.reduceSub, Nat.reduceEqDiff, Nat.reduceLT, Nat.reduceLeDiff, reduceCtorEq, fX11_largest_l4, g1])
  unfold fX11_largest
  rw [show gLoop (fun z9 => fX11_largest_l4 M z9.1 z9.2) gFu ((0 : Int32), (0 : Int32)) = some (nI (gMx (gCt S) (sG S))) from e, p_bnd]
def gTr (S : gS) (p : Nat) : Bool := decide (1 < gCt S p)
theorem cs_trueGroups (h : CS M t S) : fX2_trueGroups t M = some (nI (fb_ct (gTr S) (sG S))) := by
  have hg := (sW_24 h.2).2.2
  have g1 := cs_g h
  have e := gLoop_f (body := fun z9 => fX2_trueGroups_l4 t M z9.1 z9.2) (fun k => (nI (fb_ct (gTr S) k), nI k)) (r := nI (fb_ct (gTr S) (sG S))) (sG S) gFu (by show sG S < 4096; omega) (fun k hk => by
    have m1 := cs_mb h hk
    have u1 := gCt_le S k
    have b1 : fJ6_bitCount_0f7a4 (sMb S k) = some (nI (gCt S k)) := by unfold gCt; exact p_bitCount _
    generalize sMb S k = w9 at m1 b1
    have e2 : gTr S k = decide (1 < gCt S k) := rfl
    show fX2_trueGroups_l4 t M (nI (fb_ct (gTr S) k)) (nI k) = some (.inl (nI (fb_ct (gTr S) k + (if gTr S k = true then 1 else 0)), nI (k + 1)))
    rw [e2]
    generalize gCt S k = x at u1 b1
    generalize fb_ct (gTr S) k = y
    unfold fX2_trueGroups_l4 fX2_trueGroups_b28
    rw [g1, if_neg (by rw [p_le (by omega) (by omega)]; omega), p_rI (by omega) (by omega), p_bnd, m1, b1, p_bnd, show (1 : Int32) = nI 1 from rfl, nI_add, nI_add]
    by_cases c : 1 < x
    · rw [if_neg (by rw [p_le (by omega) (by omega)]; omega), decide_eq_true c, if_pos rfl]
    · rw [if_pos (by rw [p_le (by omega) (by omega)]; omega), decide_eq_false c, if_neg (by decide)]; rfl) (by simp (disch := omega) only [p_bnd, p_nm, p_gSEl, p_gSEr, p_l0, p_l1, p_l2, p_l3, p_l4, p_l5, p_l6, p_l7, p_l8, p_l9, p_l10, p_l14, p_l16, p_l20, p_l22, p_l24, p_l30, p_l31, p_l32, p_l38, p_l40, p_l41, p_l43, p_l48, p_l57, p_l59, p_l60, p_l61, p_l62, p_l63, p_l97, p_l98, p_l101, p_l122, p_l158, p_l201, p_l255, p_l256, p_l374, p_l880, p_l900, p_l1000, p_l2618, p_neg, nI_add, p_mul, p_sub, p_addm, p_addm0, p_subm, p_le, p_lt, p_eq, p_mO_eq, p_eq_mO, p_mO_lt, p_nlt_mO, p_mO_le, p_le_mO, p_rI, p_rL, p_wI, p_wL, p_wF, p_has10, p_has11, p_ib0, p_ib1, p_shl1, p_zv0, p_zv1, p_zvib, p_ibd, p_ibn, if_pos, if_neg, if_true, if_false, ne_eq, not_true, not_false_iff, Decidable.not_not, Nat.not_lt, Nat.not_le, Bool.true_eq_false, Bool.false_eq_true, eq_self, reduceIte, Nat.reduceAdd, Nat.reduceMul, Nat.reduceSub, Nat.reduceEqDiff, Nat.reduceLT, Nat.reduceLeDiff, reduceCtorEq, fX2_trueGroups_l4, g1])
  unfold fX2_trueGroups
  rw [show gLoop (fun z9 => fX2_trueGroups_l4 t M z9.1 z9.2) gFu ((0 : Int32), (0 : Int32)) = some (nI (fb_ct (gTr S) (sG S))) from e, p_bnd]
theorem rs_groupsOfMore (h : RS M S) : fX11_groupsOfMore M = some (nI (fb_ct (gTr S) (sG S))) := by
  have hg := (sW_24 h.2).2.2
  have g1 : M.1 1 2 = nI (sG S) := h.1.1.2.2.1
  have e := gLoop_f (body := fun z9 => fX11_groupsOfMore_l4 M z9.1 z9.2) (fun k => (nI (fb_ct (gTr S) k), nI k)) (r := nI (fb_ct (gTr S) (sG S))) (sG S) gFu (by show sG S < 4096; omega) (fun k hk => by
    have m1 := rs_membersAt h hk
    have u1 := gCt_le S k
    have b1 : fX11_many (sMb S k) = some (nI (gCt S k)) := by unfold gCt; exact p_many _
    rw [fb_ct_succ]
    have e2 : gTr S k = decide (1 < gCt S k) := rfl
    rw [e2]
    by_cases c : 1 < gCt S k
    · have c2 : decide (gCt S k ≤ 1) = false := decide_eq_false (by omega)
      simp (disch := omega) only [p_bnd, p_nm, p_gSEl, p_gSEr, p_l0, p_l1, p_l2, p_l3, p_l4, p_l5, p_l6, p_l7, p_l8, p_l9, p_l10, p_l14, p_l16, p_l20, p_l22, p_l24, p_l30, p_l31, p_l32, p_l38, p_l40, p_l41, p_l43, p_l48, p_l57, p_l59, p_l60, p_l61, p_l62, p_l63, p_l97, p_l98, p_l101, p_l122, p_l158, p_l201, p_l255, p_l256, p_l374, p_l880, p_l900, p_l1000, p_l2618, p_neg, nI_add, p_mul, p_sub, p_addm, p_addm0, p_subm, p_le, p_lt, p_eq, p_mO_eq, p_eq_mO, p_mO_lt, p_nlt_mO, p_mO_le, p_le_mO, p_rI, p_rL, p_wI, p_wL, p_wF, p_has10, p_has11, p_ib0, p_ib1, p_shl1, p_zv0, p_zv1, p_zvib, p_ibd, p_ibn, if_pos, if_neg, if_true, if_false, ne_eq, not_true, not_false_iff, Decidable.not_not, Nat.not_lt, Nat.not_le, Bool.true_eq_false, Bool.false_eq_true, eq_self, reduceIte, Nat.reduceAdd, Nat.reduceMul, Nat.reduceSub, Nat.reduceEqDiff, Nat.reduceLT, Nat.reduceLeDiff, reduceCtorEq, fX11_groupsOfMore_l4, g1, m1, b1, decide_eq_true c, c2, ibT, Bool.not_false]
    · have c2 : decide (gCt S k ≤ 1) = true := decide_eq_true (by omega)
      simp (disch := omega) only [p_bnd, p_nm, p_gSEl, p_gSEr, p_l0, p_l1, p_l2, p_l3, p_l4, p_l5, p_l6, p_l7, p_l8, p_l9, p_l10, p_l14, p_l16, p_l20, p_l22, p_l24, p_l30, p_l31, p_l32, p_l38, p_l40, p_l41, p_l43, p_l48, p_l57, p_l59, p_l60, p_l61, p_l62, p_l63, p_l97, p_l98, p_l101, p_l122, p_l158, p_l201, p_l255, p_l256, p_l374, p_l880, p_l900, p_l1000, p_l2618, p_neg, nI_add, p_mul, p_sub, p_addm, p_addm0, p_subm, p_le, p_lt, p_eq, p_mO_eq, p_eq_mO, p_mO_lt, p_nlt_mO, p_mO_le, p_le_mO, p_rI, p_rL, p_wI, p_wL, p_wF, p_has10, p_has11, p_ib0, p_ib1, p_shl1, p_zv0, p_zv1, p_zvib, p_ibd, p_ibn, if_pos, if_neg, if_true, if_false, ne_eq, not_true, not_false_iff, Decidable.not_not, Nat.not_lt, Nat.not_le, Bool.true_eq_false, Bool.false_eq_true, eq_self, reduceIte, Nat.reduceAdd, Nat.reduceMul, Nat.reduceSub, Nat.reduceEqDiff, Nat.reduceLT, Nat.reduceLeDiff, reduceCtorEq, fX11_groupsOfMore_l4, g1, m1, b1, decide_eq_false c, c2, ibF, Bool.not_true, Nat.add_zero]) (by simp (disch := omega) only [p_bnd, p_nm, p_gSEl, p_gSEr, p_l0, p_l1, p_l2, p_l3, p_l4, p_l5, p_l6, p_l7, p_l8, p_l9, p_l10, p_l14, p_l16, p_l20, p_l22, p_l24, p_l30, p_l31, p_l32, p_l38, p_l40, p_l41, p_l43, p_l48, p_l57, p_l59, p_l60, p_l61, p_l62, p_l63, p_l97, p_l98, p_l101, p_l122, p_l158, p_l201, p_l255, p_l256, p_l374, p_l880, p_l900, p_l1000, p_l2618, p_neg, nI_add, p_mul, p_sub, p_addm, p_addm0, p_subm, p_le, p_lt, p_eq, p_mO_eq, p_eq_mO, p_mO_lt, p_nlt_mO, p_mO_le, p_le_mO, p_rI, p_rL, p_wI, p_wL, p_wF, p_has10, p_has11, p_ib0, p_ib1, p_shl1, p_zv0, p_zv1, p_zvib, p_ibd, p_ibn, if_pos, if_neg, if_true, if_false, ne_eq, not_true, not_false_iff, Decidable.not_not, Nat.not_lt, Nat.not_le, Bool.true_eq_false, Bool.false_eq_true, eq_self, reduceIte, Nat.reduceAdd, Nat.reduceMul, Nat.reduceSub, Nat.reduceEqDiff, Nat.reduceLT, Nat.reduceLeDiff, reduceCtorEq, fX11_groupsOfMore_l4, g1])
  unfold fX11_groupsOfMore
  rw [show gLoop (fun z9 => fX11_groupsOfMore_l4 M z9.1 z9.2) gFu ((0 : Int32), (0 : Int32)) = some (nI (fb_ct (gTr S) (sG S))) from e, p_bnd]
/-- arrows from a task, to a task -/
def aFr (S : gS) (u : Nat) : Nat := fb_ct (fun i => decide (sFr S i = u)) (sM S)
def aTo (S : gS) (u : Nat) : Nat := fb_ct (fun i => decide (sTo S i = u)) (sM S)
theorem cs_aFr (h : CS M t S) {u : Nat} (hu : u < sN S) : fJ6_bitCount_0f7a4 (M.1 (t + 5) u) = some (nI (aFr S u)) := by
  rw [p_bitCount]
  congr 2
  have e := ct_img (q := fun i => decide (sFr S i = u)) (g := sTo S) (N := 32) (m := sM S) (fun i hi _ => by have := (h.2.2.1.1 i hi).2.1; have := h.2.1.1; omega) (fun i j hi hj z1 z2 z3 => h.2.2.1.2 i j hi hj (by rw [of_decide_eq_true z1, of_decide_eq_true z2]) z3)
  unfold aFr
  rw [← e]
  refine fb_ct_cong fun k hk => cB_of ((cs_nx h hu hk).trans ⟨?_, ?_⟩)
  · rintro ⟨i, i1, i2, i3⟩; exact ⟨i, i1, decide_eq_true i2, i3⟩
  · rintro ⟨i, i1, i2, i3⟩; exact ⟨i, i1, of_decide_eq_true i2, i3⟩
theorem cs_arrowsTo (h : CS M t S) {u : Nat} (hu : u < sN S) : fX2_arrowsTo t (nI u) M = some (nI (aTo S u)) := by
  have hn := h.2.1.1
  have n1 := cs_n h
  have e0 := ct_img (q := fun i => decide (sTo S i = u)) (g := sFr S) (N := sN S) (m := sM S) (fun i hi _ => (h.2.2.1.1 i hi).1) (fun i j hi hj z1 z2 z3 => h.2.2.1.2 i j hi hj z3 (by rw [of_decide_eq_true z1, of_decide_eq_true z2]))
  unfold aTo
  rw [← e0]
  generalize hf : (fun v => cB (∃ i, i < sM S ∧ (fun i => decide (sTo S i = u)) i = true ∧ sFr S i = v)) = f
  have e := gLoop_f (body := fun z9 => fX2_arrowsTo_l4 t (nI u) M z9.1 z9.2) (fun k => (nI (fb_ct f k), nI k)) (r := nI (fb_ct f (sN S))) (sN S) gFu (by show sN S < 4096; omega) (fun k hk => by
    have b1 : bt (M.1 (t + 5) k) u = f k := by
      rw [← hf]
      refine cB_of ((cs_nx h hk (by omega)).trans ⟨?_, ?_⟩)
      · rintro ⟨i, i1, i2, i3⟩; exact ⟨i, i1, decide_eq_true i3, i2⟩
      · rintro ⟨i, i1, i2, i3⟩; exact ⟨i, i1, i3, of_decide_eq_true i2⟩
    rw [fb_ct_succ]
    cases hb : f k
    · rw [hb] at b1
      simp (disch := omega) only [p_bnd, p_nm, p_gSEl, p_gSEr, p_l0, p_l1, p_l2, p_l3, p_l4, p_l5, p_l6, p_l7, p_l8, p_l9, p_l10, p_l14, p_l16, p_l20, p_l22, p_l24, p_l30, p_l31, p_l32, p_l38, p_l40, p_l41, p_l43, p_l48, p_l57, p_l59, p_l60, p_l61, p_l62, p_l63, p_l97, p_l98, p_l101, p_l122, p_l158, p_l201, p_l255, p_l256, p_l374, p_l880, p_l900, p_l1000, p_l2618, p_neg, nI_add, p_mul, p_sub, p_addm, p_addm0, p_subm, p_le, p_lt, p_eq, p_mO_eq, p_eq_mO, p_mO_lt, p_nlt_mO, p_mO_le, p_le_mO, p_rI, p_rL, p_wI, p_wL, p_wF, p_has10, p_has11, p_ib0, p_ib1, p_shl1, p_zv0, p_zv1, p_zvib, p_ibd, p_ibn, if_pos, if_neg, if_true, if_false, ne_eq, not_true, not_false_iff, Decidable.not_not, Nat.not_lt, Nat.not_le, Bool.true_eq_false, Bool.false_eq_true, eq_self, reduceIte, Nat.reduceAdd, Nat.reduceMul, Nat.reduceSub, Nat.reduceEqDiff, Nat.reduceLT, Nat.reduceLeDiff, reduceCtorEq, fX2_arrowsTo_l4, fX2_arrowsTo_b28, n1, b1, Nat.add_zero]
    · rw [hb] at b1
      simp (disch := omega) only [p_bnd, p_nm, p_gSEl, p_gSEr, p_l0, p_l1, p_l2, p_l3, p_l4, p_l5, p_l6, p_l7, p_l8, p_l9, p_l10, p_l14, p_l16, p_l20, p_l22, p_l24, p_l30, p_l31, p_l32, p_l38, p_l40, p_l41, p_l43, p_l48, p_l57, p_l59, p_l60, p_l61, p_l62, p_l63, p_l97, p_l98, p_l101, p_l122, p_l158, p_l201, p_l255, p_l256, p_l374, p_l880, p_l900, p_l1000, p_l2618, p_neg, nI_add, p_mul, p_sub, p_addm, p_addm0, p_subm, p_le, p_lt, p_eq, p_mO_eq, p_eq_mO, p_mO_lt, p_nlt_mO, p_mO_le, p_le_mO, p_rI, p_rL, p_wI, p_wL, p_wF, p_has10, p_has11, p_ib0, p_ib1, p_shl1, p_zv0, p_zv1, p_zvib, p_ibd, p_ibn, if_pos, if_neg, if_true, if_false, ne_eq, not_true, not_false_iff, Decidable.not_not, Nat.not_lt, Nat.not_le, Bool.true_eq_false, Bool.false_eq_true, eq_self, reduceIte, Nat.reduceAdd, Nat.reduceMul, Nat.reduceSub, Nat.reduceEqDiff, Nat.reduceLT, Nat.reduceLeDiff, reduceCtorEq, fX2_arrowsTo_l4, fX2_arrowsTo_b28, n1, b1]) (by simp (disch := omega) only [p_bnd, p_nm, p_gSEl, p_gSEr, p_l0, p_l1, p_l2, p_l3, p_l4, p_l5, p_l6, p_l7, p_l8, p_l9, p_l10, p_l14, p_l16, p_l20, p_l22, p_l24, p_l30, p_l31, p_l32, p_l38, p_l40, p_l41, p_l43, p_l48, p_l57, p_l59, p_l60, p_l61, p_l62, p_l63, p_l97, p_l98, p_l101, p_l122, p_l158, p_l201, p_l255, p_l256, p_l374, p_l880, p_l900, p_l1000, p_l2618, p_neg, nI_add, p_mul, p_sub, p_addm, p_addm0, p_subm, p_le, p_lt, p_eq, p_mO_eq, p_eq_mO, p_mO_lt, p_nlt_mO, p_mO_le, p_le_mO, p_rI, p_rL, p_wI, p_wL, p_wF, p_has10, p_has11, p_ib0, p_ib1, p_shl1, p_zv0, p_zv1, p_zvib, p_ibd, p_ibn, if_pos, if_neg, if_true, if_false, ne_eq, not_true, not_false_iff, Decidable.not_not, Nat.not_lt, Nat.not_le, Bool.true_eq_false, Bool.false_eq_true, eq_self, reduceIte, Nat.reduceAdd, Nat.reduceMul, Nat.reduceSub, Nat.reduceEqDiff, Nat.reduceLT, Nat.reduceLeDiff, reduceCtorEq, fX2_arrowsTo_l4, n1])
  unfold fX2_arrowsTo
  rw [show gLoop (fun z9 => fX2_arrowsTo_l4 t (nI u) M z9.1 z9.2) gFu ((0 : Int32), (0 : Int32)) = some (nI (fb_ct f (sN S))) from e, p_bnd]
theorem rs_arrowsOf (h : RS M S) {u : Nat} (hu : u < sN S) (b : Bool) : fX11_arrowsOf (nI u) (ib b) M = some (nI (if b = true then aFr S u else aTo S u)) := by
  have hn := h.2.1.1
  have hm := h.2.1.2.1
  have m1 : M.1 1 1 = nI (sM S) := h.1.1.2.1
  generalize hf : (fun i => decide ((if b = true then sFr S i else sTo S i) = u)) = f
  have e := gLoop_f (body := fun z9 => fX11_arrowsOf_l5 (nI u) (ib b) M z9.1 z9.2) (fun k => (nI (fb_ct f k), nI k)) (r := nI (fb_ct f (sM S))) (sM S) gFu (by show sM S < 4096; omega) (fun k hk => by
    obtain ⟨b1, b2, -⟩ := h.2.2.1.1 k hk
    obtain ⟨f1, f2⟩ := h.1.2.2.2.1 k hk
    have fk : f k = decide ((if b = true then sFr S k else sTo S k) = u) := by rw [← hf]
    rw [fb_ct_succ, fk]
    cases b
    · rw [if_neg (show ¬ false = true by decide)]
      by_cases c : sTo S k = u
      · simp (disch := omega) only [p_bnd, p_nm, p_gSEl, p_gSEr, p_l0, p_l1, p_l2, p_l3, p_l4, p_l5, p_l6, p_l7, p_l8, p_l9, p_l10, p_l14, p_l16, p_l20, p_l22, p_l24, p_l30, p_l31, p_l32, p_l38, p_l40, p_l41, p_l43, p_l48, p_l57, p_l59, p_l60, p_l61, p_l62, p_l63, p_l97, p_l98, p_l101, p_l122, p_l158, p_l201, p_l255, p_l256, p_l374, p_l880, p_l900, p_l1000, p_l2618, p_neg, nI_add, p_mul, p_sub, p_addm, p_addm0, p_subm, p_le, p_lt, p_eq, p_mO_eq, p_eq_mO, p_mO_lt, p_nlt_mO, p_mO_le, p_le_mO, p_rI, p_rL, p_wI, p_wL, p_wF, p_has10, p_has11, p_ib0, p_ib1, p_shl1, p_zv0, p_zv1, p_zvib, p_ibd, p_ibn, if_pos, if_neg, if_true, if_false, ne_eq, not_true, not_false_iff, Decidable.not_not, Nat.not_lt, Nat.not_le, Bool.true_eq_false, Bool.false_eq_true, eq_self, reduceIte, Nat.reduceAdd, Nat.reduceMul, Nat.reduceSub, Nat.reduceEqDiff, Nat.reduceLT, Nat.reduceLeDiff, reduceCtorEq, fX11_arrowsOf_l5, fX11_arrowsOf_b44, m1, f1, f2, c, decide_true, ibF, ibT]
      · simp (disch := omega) only [p_bnd, p_nm, p_gSEl, p_gSEr, p_l0, p_l1, p_l2, p_l3, p_l4, p_l5, p_l6, p_l7, p_l8, p_l9, p_l10, p_l14, p_l16, p_l20, p_l22, p_l24, p_l30, p_l31, p_l32, p_l38, p_l40, p_l41, p_l43, p_l48, p_l57, p_l59, p_l60, p_l61, p_l62, p_l63, p_l97, p_l98, p_l101, p_l122, p_l158, p_l201, p_l255, p_l256, p_l374, p_l880, p_l900, p_l1000, p_l2618, p_neg, nI_add, p_mul, p_sub, p_addm, p_addm0, p_subm, p_le, p_lt, p_eq, p_mO_eq, p_eq_mO, p_mO_lt, p_nlt_mO, p_mO_le, p_le_mO, p_rI, p_rL, p_wI, p_wL, p_wF, p_has10, p_has11, p_ib0, p_ib1, p_shl1, p_zv0, p_zv1, p_zvib, p_ibd, p_ibn, if_pos, if_neg, if_true, if_false, ne_eq, not_true, not_false_iff, Decidable.not_not, Nat.not_lt, Nat.not_le, Bool.true_eq_false, Bool.false_eq_true, eq_self, reduceIte, Nat.reduceAdd, Nat.reduceMul, Nat.reduceSub, Nat.reduceEqDiff, Nat.reduceLT, Nat.reduceLeDiff, reduceCtorEq, fX11_arrowsOf_l5, fX11_arrowsOf_b44, m1, f1, f2, decide_eq_false c, ibF, ibT, Nat.add_zero]
    · rw [if_pos rfl]
      by_cases c : sFr S k = u
      · simp (disch := omega) only [p_bnd, p_nm, p_gSEl, p_gSEr, p_l0, p_l1, p_l2, p_l3, p_l4, p_l5, p_l6, p_l7, p_l8, p_l9, p_l10, p_l14, p_l16, p_l20, p_l22, p_l24, p_l30, p_l31, p_l32, p_l38, p_l40, p_l41, p_l43, p_l48, p_l57, p_l59, p_l60, p_l61, p_l62, p_l63, p_l97, p_l98, p_l101, p_l122, p_l158, p_l201, p_l255, p_l256, p_l374, p_l880, p_l900, p_l1000, p_l2618, p_neg, nI_add, p_mul, p_sub, p_addm, p_addm0, p_subm, p_le, p_lt, p_eq, p_mO_eq, p_eq_mO, p_mO_lt, p_nlt_mO, p_mO_le, p_le_mO, p_rI, p_rL, p_wI, p_wL, p_wF, p_has10, p_has11, p_ib0, p_ib1, p_shl1, p_zv0, p_zv1, p_zvib, p_ibd, p_ibn, if_pos, if_neg, if_true, if_false, ne_eq, not_true, not_false_iff, Decidable.not_not, Nat.not_lt, Nat.not_le, Bool.true_eq_false, Bool.false_eq_true, eq_self, reduceIte, Nat.reduceAdd, Nat.reduceMul, Nat.reduceSub, Nat.reduceEqDiff, Nat.reduceLT, Nat.reduceLeDiff, reduceCtorEq, fX11_arrowsOf_l5, fX11_arrowsOf_b44, m1, f1, f2, c, decide_true, ibF, ibT]
      · simp (disch := omega) only [p_bnd, p_nm, p_gSEl, p_gSEr, p_l0, p_l1, p_l2, p_l3, p_l4, p_l5, p_l6, p_l7, p_l8, p_l9, p_l10, p_l14, p_l16, p_l20, p_l22, p_l24, p_l30, p_l31, p_l32, p_l38, p_l40, p_l41, p_l43, p_l48, p_l57, p_l59, p_l60, p_l61, p_l62, p_l63, p_l97, p_l98, p_l101, p_l122, p_l158, p_l201, p_l255, p_l256, p_l374, p_l880, p_l900, p_l1000, p_l2618, p_neg, nI_add, p_mul, p_sub, p_addm, p_addm0, p_subm, p_le, p_lt, p_eq, p_mO_eq, p_eq_mO, p_mO_lt, p_nlt_mO, p_mO_le, p_le_mO, p_rI, p_rL, p_wI, p_wL, p_wF, p_has10, p_has11, p_ib0, p_ib1, p_shl1, p_zv0, p_zv1, p_zvib, p_ibd, p_ibn, if_pos, if_neg, if_true, if_false, ne_eq, not_true, not_false_iff, Decidable.not_not, Nat.not_lt, Nat.not_le, Bool.true_eq_false, Bool.false_eq_true, eq_self, reduceIte, Nat.reduceAdd, Nat.reduceMul, Nat.reduceSub, Nat.reduceEqDiff, Nat.reduceLT, Nat.reduceLeDiff, reduceCtorEq, fX11_arrowsOf_l5, fX11_arrowsOf_b44, m1, f1, f2, decide_eq_false c, ibF, ibT, Nat.add_zero]) (by simp (disch := omega) only [p_bnd, p_nm, p_gSEl, p_gSEr, p_l0, p_l1, p_l2, p_l3, p_l4, p_l5, p_l6, p_l7, p_l8, p_l9, p_l10, p_l14, p_l16, p_l20, p_l22, p_l24, p_l30, p_l31, p_l32, p_l38, p_l40, p_l41, p_l43, p_l48, p_l57, p_l59, p_l60, p_l61, p_l62, p_l63, p_l97, p_l98, p_l101, p_l122, p_l158, p_l201, p_l255, p_l256, p_l374, p_l880, p_l900, p_l1000, p_l2618, p_neg, nI_add, p_mul, p_sub, p_addm, p_addm0, p_subm, p_le, p_lt, p_eq, p_mO_eq, p_eq_mO, p_mO_lt, p_nlt_mO, p_mO_le, p_le_mO, p_rI, p_rL, p_wI, p_wL, p_wF, p_has10, p_has11, p_ib0, p_ib1, p_shl1, p_zv0, p_zv1, p_zvib, p_ibd, p_ibn, if_pos, if_neg, if_true, if_false, ne_eq, not_true, not_false_iff, Decidable.not_not, Nat.not_lt, Nat.not_le, Bool.true_eq_false, Bool.false_eq_true, eq_self, reduceIte, Nat.reduceAdd, Nat.reduceMul, Nat.reduceSub, Nat.reduceEqDiff, Nat.reduceLT, Nat.reduceLeDiff, reduceCtorEq, fX11_arrowsOf_l5, m1])
  have e2 : fb_ct f (sM S) = if b = true then aFr S u else aTo S u := by
    rw [← hf]
    cases b <;> rfl
  unfold fX11_arrowsOf
  rw [show gLoop (fun z9 => fX11_arrowsOf_l5 (nI u) (ib b) M z9.1 z9.2) gFu ((0 : Int32), (0 : Int32)) = some (nI (fb_ct f (sM S))) from e, p_bnd, e2]
theorem rs_reaching (hn0 : M.1 1 0 = nI (sN S)) (hn : sN S ≤ 24) {u : Nat} (hu : u < sN S) {f : Nat → Bool} (hf : ∀ o, o < sN S → bt (M.1 6 o) u = f o) : fX11_reaching (nI u) M = some (nI (fb_ct f (sN S)) - nI 1) := by
  have e := gLoop_f (body := fun z9 => fX11_reaching_l4 (nI u) M z9.1 z9.2) (fun k => (nI (fb_ct f k), nI k)) (r := nI (fb_ct f (sN S))) (sN S) gFu (by show sN S < 4096; omega) (fun k hk => by
    have b1 := hf k hk
    rw [fb_ct_succ]
    cases hb : f k
    · rw [hb] at b1
      simp (disch := omega) only [p_bnd, p_nm, p_gSEl, p_gSEr, p_l0, p_l1, p_l2, p_l3, p_l4, p_l5, p_l6, p_l7, p_l8, p_l9, p_l10, p_l14, p_l16, p_l20, p_l22, p_l24, p_l30, p_l31, p_l32, p_l38, p_l40, p_l41, p_l43, p_l48, p_l57, p_l59, p_l60, p_l61, p_l62, p_l63, p_l97, p_l98, p_l101, p_l122, p_l158, p_l201, p_l255, p_l256, p_l374, p_l880, p_l900, p_l1000, p_l2618, p_neg, nI_add, p_mul, p_sub, p_addm, p_addm0, p_subm, p_le, p_lt, p_eq, p_mO_eq, p_eq_mO, p_mO_lt, p_nlt_mO, p_mO_le, p_le_mO, p_rI, p_rL, p_wI, p_wL, p_wF, p_has10, p_has11, p_ib0, p_ib1, p_shl1, p_zv0, p_zv1, p_zvib, p_ibd, p_ibn, if_pos, if_neg, if_true, if_false, ne_eq, not_true, not_false_iff, Decidable.not_not, Nat.not_lt, Nat.not_le, Bool.true_eq_false, Bool.false_eq_true, eq_self, reduceIte, Nat.reduceAdd, Nat.reduceMul, Nat.reduceSub, Nat.reduceEqDiff, Nat.reduceLT, Nat.reduceLeDiff, reduceCtorEq, fX11_reaching_l4, hn0, b1, decide_true, Bool.not_true, ibF, Nat.add_zero]
    · rw [hb] at b1
      simp (disch := omega) only [p_bnd, p_nm, p_gSEl, p_gSEr, p_l0, p_l1, p_l2, p_l3, p_l4, p_l5, p_l6, p_l7, p_l8, p_l9, p_l10, p_l14, p_l16, p_l20, p_l22, p_l24, p_l30, p_l31, p_l32, p_l38, p_l40, p_l41, p_l43, p_l48, p_l57, p_l59, p_l60, p_l61, p_l62, p_l63, p_l97, p_l98, p_l101, p_l122, p_l158, p_l201, p_l255, p_l256, p_l374, p_l880, p_l900, p_l1000, p_l2618, p_neg, nI_add, p_mul, p_sub, p_addm, p_addm0, p_subm, p_le, p_lt, p_eq, p_mO_eq, p_eq_mO, p_mO_lt, p_nlt_mO, p_mO_le, p_le_mO, p_rI, p_rL, p_wI, p_wL, p_wF, p_has10, p_has11, p_ib0, p_ib1, p_shl1, p_zv0, p_zv1, p_zvib, p_ibd, p_ibn, if_pos, if_neg, if_true, if_false, ne_eq, not_true, not_false_iff, Decidable.not_not, Nat.not_lt, Nat.not_le, Bool.true_eq_false, Bool.false_eq_true, eq_self, reduceIte, Nat.reduceAdd, Nat.reduceMul, Nat.reduceSub, Nat.reduceEqDiff, Nat.reduceLT, Nat.reduceLeDiff, reduceCtorEq, fX11_reaching_l4, hn0, b1, decide_false, Bool.not_false, ibT]) (by simp (disch := omega) only [p_bnd, p_nm, p_gSEl, p_gSEr, p_l0, p_l1, p_l2, p_l3, p_l4, p_l5, p_l6, p_l7, p_l8, p_l9, p_l10, p_l14, p_l16, p_l20, p_l22, p_l24, p_l30, p_l31, p_l32, p_l38, p_l40, p_l41, p_l43, p_l48, p_l57, p_l59, p_l60, p_l61, p_l62, p_l63, p_l97, p_l98, p_l101, p_l122, p_l158, p_l201, p_l255, p_l256, p_l374, p_l880, p_l900, p_l1000, p_l2618, p_neg, nI_add, p_mul, p_sub, p_addm, p_addm0, p_subm, p_le, p_lt, p_eq, p_mO_eq, p_eq_mO, p_mO_lt, p_nlt_mO, p_mO_le, p_le_mO, p_rI, p_rL, p_wI, p_wL, p_wF, p_has10, p_has11, p_ib0, p_ib1, p_shl1, p_zv0, p_zv1, p_zvib, p_ibd, p_ibn, if_pos, if_neg, if_true, if_false, ne_eq, not_true, not_false_iff, Decidable.not_not, Nat.not_lt, Nat.not_le, Bool.true_eq_false, Bool.false_eq_true, eq_self, reduceIte, Nat.reduceAdd, Nat.reduceMul, Nat.reduceSub, Nat.reduceEqDiff, Nat.reduceLT, Nat.reduceLeDiff, reduceCtorEq, fX11_reaching_l4, hn0])
  unfold fX11_reaching
  rw [show gLoop (fun z9 => fX11_reaching_l4 (nI u) M z9.1 z9.2) gFu ((0 : Int32), (0 : Int32)) = some (nI (fb_ct f (sN S))) from e, p_bnd]; rfl
/-- inner arrows of a group -/
def gIn9 (S : gS) (p : Nat) : Nat := fb_ct (fun i => sIn S i && decide (sPl S (sFr S i) = p)) (sM S)
theorem cs_innerAt (h : CS M t S) {p : Nat} (hp : p < sG S) : fX2_innerArrowsAt t (nI p) M = some (nI (gIn9 S p)) := by
  have hm := h.2.1.2.1
  have hg := (sW_24 h.2).2.2
  have m1 := cs_m h
  have e := gLoop_f (body := fun z9 => fX2_innerArrowsAt_l4 t (nI p) M z9.1 z9.2) (fun k => (nI (fb_ct (fun i => sIn S i && decide (sPl S (sFr S i) = p)) k), nI k)) (r := nI (gIn9 S p)) (sM S) gFu (by show sM S < 4096; omega) (fun k hk => by
    obtain ⟨b1, b2, b3, b4, b5, -⟩ := sW_ar h.2 hk
    have i1 := cs_isInner h hk
    have f1 := cs_fr h hk
    have p1 := cs_pl h b1
    rw [fb_ct_succ]
    cases hb : sIn S k
    · simp (disch := omega) only [p_bnd, p_nm, p_gSEl, p_gSEr, p_l0, p_l1, p_l2, p_l3, p_l4, p_l5, p_l6, p_l7, p_l8, p_l9, p_l10, p_l14, p_l16, p_l20, p_l22, p_l24, p_l30, p_l31, p_l32, p_l38, p_l40, p_l41, p_l43, p_l48, p_l57, p_l59, p_l60, p_l61, p_l62, p_l63, p_l97, p_l98, p_l101, p_l122, p_l158, p_l201, p_l255, p_l256, p_l374, p_l880, p_l900, p_l1000, p_l2618, p_neg, nI_add, p_mul, p_sub, p_addm, p_addm0, p_subm, p_le, p_lt, p_eq, p_mO_eq, p_eq_mO, p_mO_lt, p_nlt_mO, p_mO_le, p_le_mO, p_rI, p_rL, p_wI, p_wL, p_wF, p_has10, p_has11, p_ib0, p_ib1, p_shl1, p_zv0, p_zv1, p_zvib, p_ibd, p_ibn, if_pos, if_neg, if_true, if_false, ne_eq, not_true, not_false_iff, Decidable.not_not, Nat.not_lt, Nat.not_le, Bool.true_eq_false, Bool.false_eq_true, eq_self, reduceIte, Nat.reduceAdd, Nat.reduceMul, Nat.reduceSub, Nat.reduceEqDiff, Nat.reduceLT, Nat.reduceLeDiff, reduceCtorEq, fX2_innerArrowsAt_l4, fX2_innerArrowsAt_b38, m1, i1, hb, ibF, Bool.false_and, Nat.add_zero]
    · by_cases c : sPl S (sFr S k) = p
      · simp (disch := omega) only [p_bnd, p_nm, p_gSEl, p_gSEr, p_l0, p_l1, p_l2, p_l3, p_l4, p_l5, p_l6, p_l7, p_l8, p_l9, p_l10, p_l14, p_l16, p_l20, p_l22, p_l24, p_l30, p_l31, p_l32, p_l38, p_l40, p_l41, p_l43, p_l48, p_l57, p_l59, p_l60, p_l61, p_l62, p_l63, p_l97, p_l98, p_l101, p_l122, p_l158, p_l201, p_l255, p_l256, p_l374, p_l880, p_l900, p_l1000, p_l2618, p_neg, nI_add, p_mul, p_sub, p_addm, p_addm0, p_subm, p_le, p_lt, p_eq, p_mO_eq, p_eq_mO, p_mO_lt, p_nlt_mO, p_mO_le, p_le_mO, p_rI, p_rL, p_wI, p_wL, p_wF, p_has10, p_has11, p_ib0, p_ib1, p_shl1, p_zv0, p_zv1, p_zvib, p_ibd, p_ibn, if_pos, if_neg, if_true, if_false, ne_eq, not_true, not_false_iff, Decidable.not_not, Nat.not_lt, Nat.not_le, Bool.true_eq_false, Bool.false_eq_true, eq_self, reduceIte, Nat.reduceAdd, Nat.reduceMul, Nat.reduceSub, Nat.reduceEqDiff, Nat.reduceLT, Nat.reduceLeDiff, reduceCtorEq, fX2_innerArrowsAt_l4, fX2_innerArrowsAt_b38, m1, i1, hb, ibT, f1, p1, c, decide_true, Bool.true_and]
      · simp (disch := omega) only [p_bnd, p_nm, p_gSEl, p_gSEr, p_l0, p_l1, p_l2, p_l3, p_l4, p_l5, p_l6, p_l7, p_l8, p_l9, p_l10, p_l14, p_l16, p_l20, p_l22, p_l24, p_l30, p_l31, p_l32, p_l38, p_l40, p_l41, p_l43, p_l48, p_l57, p_l59, p_l60, p_l61, p_l62, p_l63, p_l97, p_l98, p_l101, p_l122, p_l158, p_l201, p_l255, p_l256, p_l374, p_l880, p_l900, p_l1000, p_l2618, p_neg, nI_add, p_mul, p_sub, p_addm, p_addm0, p_subm, p_le, p_lt, p_eq, p_mO_eq, p_eq_mO, p_mO_lt, p_nlt_mO, p_mO_le, p_le_mO, p_rI, p_rL, p_wI, p_wL, p_wF, p_has10, p_has11, p_ib0, p_ib1, p_shl1, p_zv0, p_zv1, p_zvib, p_ibd, p_ibn, if_pos, if_neg, if_true, if_false, ne_eq, not_true, not_false_iff, Decidable.not_not, Nat.not_lt, Nat.not_le, Bool.true_eq_false, Bool.false_eq_true, eq_self, reduceIte, Nat.reduceAdd, Nat.reduceMul, Nat.reduceSub, Nat.reduceEqDiff, Nat.reduceLT, Nat.reduceLeDiff, reduceCtorEq, fX2_innerArrowsAt_l4, fX2_innerArrowsAt_b38, m1, i1, hb, ibT, f1, p1, decide_eq_false c, Bool.true_and, Nat.add_zero]) (by simp (disch := omega) only [p_bnd, p_nm, p_gSEl, p_gSEr, p_l0, p_l1, p_l2, p_l3, p_l4, p_l5, p_l6, p_l7, p_l8, p_l9, p_l10, p_l14, p_l16, p_l20, p_l22, p_l24, p_l30, p_l31, p_l32, p_l38, p_l40, p_l41, p_l43, p_l48, p_l57, p_l59, p_l60, p_l61, p_l62, p_l63, p_l97, p_l98, p_l101, p_l122, p_l158, p_l201, p_l255, p_l256, p_l374, p_l880, p_l900, p_l1000, p_l2618, p_neg, nI_add, p_mul, p_sub, p_addm, p_addm0, p_subm, p_le, p_lt, p_eq, p_mO_eq, p_eq_mO, p_mO_lt, p_nlt_mO, p_mO_le, p_le_mO, p_rI, p_rL, p_wI, p_wL, p_wF, p_has10, p_has11, p_ib0, p_ib1, p_shl1, p_zv0, p_zv1, p_zvib, p_ibd, p_ibn, if_pos, if_neg, if_true, if_false, ne_eq, not_true, not_false_iff, Decidable.not_not, Nat.not_lt, Nat.not_le, Bool.true_eq_false, Bool.false_eq_true, eq_self, reduceIte, Nat.reduceAdd, Nat.reduceMul, Nat.reduceSub, Nat.reduceEqDiff, Nat.reduceLT, Nat.reduceLeDiff, reduceCtorEq, fX2_innerArrowsAt_l4, m1, gIn9])
  unfold fX2_innerArrowsAt
  rw [show gLoop (fun z9 => fX2_innerArrowsAt_l4 t (nI p) M z9.1 z9.2) gFu ((0 : Int32), (0 : Int32)) = some (nI (gIn9 S p)) from e, p_bnd]
theorem rs_innersOf (h : RS M S) {p : Nat} (hp : p < sG S) : fX11_innersOf (nI (sHd S p)) M = some (nI (gIn9 S p)) := by
  have hm := h.2.1.2.1
  have hn := h.2.1.1
  have m1 : M.1 1 1 = nI (sM S) := h.1.1.2.1
  have hl := (sHd_ok h.2.2.2.1 hp).1
  have e := gLoop_f (body := fun z9 => fX11_innersOf_l4 (nI (sHd S p)) M z9.1 z9.2) (fun k => (nI (fb_ct (fun i => sIn S i && decide (sPl S (sFr S i) = p)) k), nI k)) (r := nI (gIn9 S p)) (sM S) gFu (by show sM S < 4096; omega) (fun k hk => by
    obtain ⟨b1, b2, b3, b4, -⟩ := sW_ar h.2 hk
    have i1 := rs_isInner h hk
    have f1 := (h.1.2.2.2.1 k hk).1
    have d1 := rs_hd h b1
    have l1 := sHd_lt h.2 b1
    have he : (sHd S (sPl S (sFr S k)) = sHd S p) = (sPl S (sFr S k) = p) := propext ⟨fun z => sHd_inj h.2.2.2.1 b3 hp z, fun z => by rw [z]⟩
    rw [fb_ct_succ]
    cases hb : sIn S k
    · simp (disch := omega) only [p_bnd, p_nm, p_gSEl, p_gSEr, p_l0, p_l1, p_l2, p_l3, p_l4, p_l5, p_l6, p_l7, p_l8, p_l9, p_l10, p_l14, p_l16, p_l20, p_l22, p_l24, p_l30, p_l31, p_l32, p_l38, p_l40, p_l41, p_l43, p_l48, p_l57, p_l59, p_l60, p_l61, p_l62, p_l63, p_l97, p_l98, p_l101, p_l122, p_l158, p_l201, p_l255, p_l256, p_l374, p_l880, p_l900, p_l1000, p_l2618, p_neg, nI_add, p_mul, p_sub, p_addm, p_addm0, p_subm, p_le, p_lt, p_eq, p_mO_eq, p_eq_mO, p_mO_lt, p_nlt_mO, p_mO_le, p_le_mO, p_rI, p_rL, p_wI, p_wL, p_wF, p_has10, p_has11, p_ib0, p_ib1, p_shl1, p_zv0, p_zv1, p_zvib, p_ibd, p_ibn, if_pos, if_neg, if_true, if_false, ne_eq, not_true, not_false_iff, Decidable.not_not, Nat.not_lt, Nat.not_le, Bool.true_eq_false, Bool.false_eq_true, eq_self, reduceIte, Nat.reduceAdd, Nat.reduceMul, Nat.reduceSub, Nat.reduceEqDiff, Nat.reduceLT, Nat.reduceLeDiff, reduceCtorEq, fX11_innersOf_l4, fX11_innersOf_b45, fX11_innersOf_b46, m1, i1, hb, ibF, Bool.false_and, Nat.add_zero]
    · by_cases c : sPl S (sFr S k) = p
      · simp (disch := omega) only [p_bnd, p_nm, p_gSEl, p_gSEr, p_l0, p_l1, p_l2, p_l3, p_l4, p_l5, p_l6, p_l7, p_l8, p_l9, p_l10, p_l14, p_l16, p_l20, p_l22, p_l24, p_l30, p_l31, p_l32, p_l38, p_l40, p_l41, p_l43, p_l48, p_l57, p_l59, p_l60, p_l61, p_l62, p_l63, p_l97, p_l98, p_l101, p_l122, p_l158, p_l201, p_l255, p_l256, p_l374, p_l880, p_l900, p_l1000, p_l2618, p_neg, nI_add, p_mul, p_sub, p_addm, p_addm0, p_subm, p_le, p_lt, p_eq, p_mO_eq, p_eq_mO, p_mO_lt, p_nlt_mO, p_mO_le, p_le_mO, p_rI, p_rL, p_wI, p_wL, p_wF, p_has10, p_has11, p_ib0, p_ib1, p_shl1, p_zv0, p_zv1, p_zvib, p_ibd, p_ibn, if_pos, if_neg, if_true, if_false, ne_eq, not_true, not_false_iff, Decidable.not_not, Nat.not_lt, Nat.not_le, Bool.true_eq_false, Bool.false_eq_true, eq_self, reduceIte, Nat.reduceAdd, Nat.reduceMul, Nat.reduceSub, Nat.reduceEqDiff, Nat.reduceLT, Nat.reduceLeDiff, reduceCtorEq, fX11_innersOf_l4, fX11_innersOf_b45, fX11_innersOf_b46, m1, i1, hb, ibT, f1, d1, he, c, decide_true, Bool.true_and]
      · simp (disch := omega) only [p_bnd, p_nm, p_gSEl, p_gSEr, p_l0, p_l1, p_l2, p_l3, p_l4, p_l5, p_l6, p_l7, p_l8, p_l9, p_l10, p_l14, p_l16, p_l20, p_l22, p_l24, p_l30, p_l31, p_l32, p_l38, p_l40, p_l41, p_l43, p_l48, p_l57, p_l59, p_l60, p_l61, p_l62, p_l63, p_l97, p_l98, p_l101, p_l122, p_l158, p_l201, p_l255, p_l256, p_l374, p_l880, p_l900, p_l1000, p_l2618, p_neg, nI_add, p_mul, p_sub, p_addm, p_addm0, p_subm, p_le, p_lt, p_eq, p_mO_eq, p_eq_mO, p_mO_lt, p_nlt_mO, p_mO_le, p_le_mO, p_rI, p_rL, p_wI, p_wL, p_wF, p_has10, p_has11, p_ib0, p_ib1, p_shl1, p_zv0, p_zv1, p_zvib, p_ibd, p_ibn, if_pos, if_neg, if_true, if_false, ne_eq, not_true, not_false_iff, Decidable.not_not, Nat.not_lt, Nat.not_le, Bool.true_eq_false, Bool.false_eq_true, eq_self, reduceIte, Nat.reduceAdd, Nat.reduceMul, Nat.reduceSub, Nat.reduceEqDiff, Nat.reduceLT, Nat.reduceLeDiff, reduceCtorEq, fX11_innersOf_l4, fX11_innersOf_b45, fX11_innersOf_b46, m1, i1, hb, ibT, f1, d1, he, decide_eq_false c, Bool.true_and, Nat.add_zero]) (by simp (disch := omega) only [p_bnd, p_nm, p_gSEl, p_gSEr, p_l0, p_l1, p_l2, p_l3, p_l4, p_l5, p_l6, p_l7, p_l8, p_l9, p_l10, p_l14, p_l16, p_l20, p_l22, p_l24, p_l30, p_l31, p_l32, p_l38, p_l40, p_l41, p_l43, p_l48, p_l57, p_l59, p_l60, p_l61, p_l62, p_l63, p_l97, p_l98, p_l101, p_l122, p_l158, p_l201, p_l255, p_l256, p_l374, p_l880, p_l900, p_l1000, p_l2618, p_neg, nI_add, p_mul, p_sub, p_addm, p_addm0, p_subm, p_le, p_lt, p_eq, p_mO_eq, p_eq_mO, p_mO_lt, p_nlt_mO, p_mO_le, p_le_mO, p_rI, p_rL, p_wI, p_wL, p_wF, p_has10, p_has11, p_ib0, p_ib1, p_shl1, p_zv0, p_zv1, p_zvib, p_ibd, p_ibn, if_pos, if_neg, if_true, if_false, ne_eq, not_true, not_false_iff, Decidable.not_not, Nat.not_lt, Nat.not_le, Bool.true_eq_false, Bool.false_eq_true, eq_self, reduceIte, Nat.reduceAdd, Nat.reduceMul, Nat.reduceSub, Nat.reduceEqDiff, Nat.reduceLT, Nat.reduceLeDiff, reduceCtorEq, fX11_innersOf_l4, m1, gIn9])
  unfold fX11_innersOf
  rw [show gLoop (fun z9 => fX11_innersOf_l4 (nI (sHd S p)) M z9.1 z9.2) gFu ((0 : Int32), (0 : Int32)) = some (nI (gIn9 S p)) from e, p_bnd]
end SN
