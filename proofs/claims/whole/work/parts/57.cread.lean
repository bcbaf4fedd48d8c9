/-! THE CLASS reads a net that holds the state -/
section CD
variable {M : gMem} {t : Nat} {S : gS}
def CS (M : gMem) (t : Nat) (S : gS) : Prop := CR M t S ∧ sW S
theorem cs_n (h : CS M t S) : M.1 t 9 = nI (sN S) := h.1.1.1
theorem cs_m (h : CS M t S) : M.1 t 10 = nI (sM S) := h.1.1.2.1
theorem cs_g (h : CS M t S) : M.1 t 11 = nI (sG S) := h.1.1.2.2.1
theorem cs_mo (h : CS M t S) : M.1 t 12 = nI (sMo S) := h.1.1.2.2.2.1
theorem cs_jo (h : CS M t S) : M.1 t 13 = nI (sJo S) := h.1.1.2.2.2.2
theorem cs_ac (h : CS M t S) {a : Nat} (ha : a < 9) : M.2.1 (t + 9) a = lN (sAc S a) := h.1.2.1 a ha
theorem cs_mb (h : CS M t S) {p : Nat} (hp : p < sG S) : M.1 (t + 7) p = sMb S p := mkS_of fun v hv => by
  have := h.1.2.2.1 p hp v hv
  cases hb : bt (M.1 (t + 7) p) v
  · symm; rw [decide_eq_false_iff_not]; intro z; rw [this.mpr z] at hb; cases hb
  · symm; rw [decide_eq_true_eq]; exact this.mp hb
theorem cs_fr (h : CS M t S) {i : Nat} (hi : i < sM S) : M.1 (t + 3) i = nI (sFr S i) := (h.1.2.2.2.1 i hi).1
theorem cs_to (h : CS M t S) {i : Nat} (hi : i < sM S) : M.1 (t + 4) i = nI (sTo S i) := (h.1.2.2.2.1 i hi).2
theorem cs_hr (h : CS M t S) {u : Nat} (hu : u < sN S) : M.1 (t + 2) u = nI (sHr S u) := (h.1.2.2.2.2 u hu).1
theorem cs_pl (h : CS M t S) {u : Nat} (hu : u < sN S) : M.1 (t + 8) u = nI (sPl S u) := (h.1.2.2.2.2 u hu).2.1
theorem cs_nm (h : CS M t S) {u : Nat} (hu : u < sN S) : M.2.1 (t + 1) u = lN (gPk (sNm S u)) := (h.1.2.2.2.2 u hu).2.2.1
theorem cs_nx (h : CS M t S) {u : Nat} (hu : u < sN S) {v : Nat} (hv : v < 32) : bt (M.1 (t + 5) u) v = true ↔ sE S u v := (h.1.2.2.2.2 u hu).2.2.2.1 v hv
theorem cs_rc (h : CS M t S) {u : Nat} (hu : u < sN S) {v : Nat} (hv : v < 32) : bt (M.1 (t + 6) u) v = true ↔ sR S u v := (h.1.2.2.2.2 u hu).2.2.2.2 v hv
/-- an arrow's ends and their places -/
theorem sW_ar (h : sW S) {i : Nat} (hi : i < sM S) : sFr S i < sN S ∧ sTo S i < sN S ∧ sPl S (sFr S i) < sG S ∧ sPl S (sTo S i) < sG S ∧ sN S ≤ 24 ∧ sM S ≤ 60 ∧ sG S ≤ 24 := by
  obtain ⟨b1, b2, -⟩ := h.2.1.1 i hi
  have := h.1.1
  have := h.1.2.2.1
  exact ⟨b1, b2, h.p b1, h.p b2, h.1.1, h.1.2.1, by omega⟩
theorem cs_isInner (h : CS M t S) {i : Nat} (hi : i < sM S) : fX2_isInner t (nI i) M = some (ib (sIn S i)) := by
  obtain ⟨b1, b2, b3, b4, b5, b6, b7⟩ := sW_ar h.2 hi
  simp (disch := omega) only [p_bnd, p_nm, p_gSEl, p_gSEr, p_l0, p_l1, p_l2, p_l3, p_l4, p_l5, p_l6, p_l7, p_l8, p_l9, p_l10, p_l14, p_l16, p_l20, p_l22, p_l24, p_l30, p_l31, p_l32, p_l38, p_l40, p_l41, p_l43, p_l48, p_l57, p_l59, p_l60, p_l61, p_l62, p_l63, p_l97, p_l98, p_l101, p_l122, p_l158, p_l201, p_l255, p_l256, p_l374, p_l880, p_l900, p_l1000, p_l2618, p_neg, nI_add, p_mul, p_sub, p_addm, p_addm0, p_subm, p_le, p_lt, p_eq, p_mO_eq, p_eq_mO, p_mO_lt, p_nlt_mO, p_mO_le, p_le_mO, p_rI, p_rL, p_wI, p_wL, p_wF, p_has10, p_has11, p_ib0, p_ib1, p_shl1, p_zv0, p_zv1, p_zvib, p_ibd, p_ibn, if_pos, if_neg, if_true, if_false, ne_eq, not_true, not_false_iff, Decidable.not_not, Nat.not_lt, Nat.not_le, Bool.true_eq_false, Bool.false_eq_true, eq_self, reduceIte, Nat.reduceAdd, Nat.reduceMul, Nat.reduceSub, Nat.reduceEqDiff, Nat.reduceLT, Nat.reduceLeDiff, reduceCtorEq, fX2_isInner, cs_fr h hi, cs_to h hi, cs_pl h b1, cs_pl h b2, sIn]
theorem cs_innerArrows (h : CS M t S) : fX2_innerArrows t M = some (nI (fb_ct (sIn S) (sM S))) := by
  have h2 := h.2.1.2.1
  have h3 := cs_m h
  have e := gLoop_f (body := fun z9 => fX2_innerArrows_l4 t M z9.1 z9.2) (fun k => (nI (fb_ct (sIn S) k), nI k)) (r := nI (fb_ct (sIn S) (sM S))) (sM S) gFu (by show sM S < 4096; omega) (fun k hk => by
    cases hb : sIn S k
    · simp (disch := omega) only [p_bnd, p_nm, p_gSEl, p_gSEr, p_l0, p_l1, p_l2, p_l3, p_l4, p_l5, p_l6, p_l7, p_l8, p_l9, p_l10, p_l14, p_l16, p_l20, p_l22, p_l24, p_l30, p_l31, p_l32, p_l38, p_l40, p_l41, p_l43, p_l48, p_l57, p_l59, p_l60, p_l61, p_l62, p_l63, p_l97, p_l98, p_l101, p_l122, p_l158, p_l201, p_l255, p_l256, p_l374, p_l880, p_l900, p_l1000, p_l2618, p_neg, nI_add, p_mul, p_sub, p_addm, p_addm0, p_subm, p_le, p_lt, p_eq, p_mO_eq, p_eq_mO, p_mO_lt, p_nlt_mO, p_mO_le, p_le_mO, p_rI, p_rL, p_wI, p_wL, p_wF, p_has10, p_has11, p_ib0, p_ib1, p_shl1, p_zv0, p_zv1, p_zvib, p_ibd, p_ibn, if_pos, if_neg, if_true, if_false, ne_eq, not_true, not_false_iff, Decidable.not_not, Nat.not_lt, Nat.not_le, Bool.true_eq_false, Bool.false_eq_true, eq_self, reduceIte, Nat.reduceAdd, Nat.reduceMul, Nat.reduceSub, Nat.reduceEqDiff, Nat.reduceLT, Nat.reduceLeDiff, reduceCtorEq, fX2_innerArrows_l4, fX2_innerArrows_b23, h3, cs_isInner h hk, hb, fb_ct_succ, Nat.add_zero]
    · simp (disch := omega) only [p_bnd, p_nm, p_gSEl, p_gSEr, p_l0, p_l1, p_l2, p_l3, p_l4, p_l5, p_l6, p_l7, p_l8, p_l9, p_l10, p_l14, p_l16, p_l20, p_l22, p_l24, p_l30, p_l31, p_l32, p_l38, p_l40, p_l41, p_l43, p_l48, p_l57, p_l59, p_l60, p_l61, p_l62, p_l63, p_l97, p_l98, p_l101, p_l122, p_l158, p_l201, p_l255, p_l256, p_l374, p_l880, p_l900, p_l1000, p_l2618, p_neg, nI_add, p_mul, p_sub, p_addm, p_addm0, p_subm, p_le, p_lt, p_eq, p_mO_eq, p_eq_mO, p_mO_lt, p_nlt_mO, p_mO_le, p_le_mO, p_rI, p_rL, p_wI, p_wL, p_wF, p_has10, p_has11, p_ib0, p_ib1, p_shl1, p_zv0, p_zv1, p_zvib, p_ibd, p_ibn, if_pos, if_neg, if_true, if_false, ne_eq, not_true, not_false_iff, Decidable.not_not, Nat.not_lt, Nat.not_le, Bool.true_eq_false, Bool.false_eq_true, eq_self, reduceIte, Nat.reduceAdd, Nat.reduceMul, Nat.reduceSub, Nat.reduceEqDiff, Nat.reduceLT, Nat.reduceLeDiff, reduceCtorEq, fX2_innerArrows_l4, fX2_innerArrows_b23, h3, cs_isInner h hk, hb, fb_ct_succ]) (by simp (disch := omega) only [p_bnd, p_nm, p_gSEl, p_gSEr, p_l0, p_l1, p_l2, p_l3, p_l4, p_l5, p_l6, p_l7, p_l8, p_l9, p_l10, p_l14, p_l16, p_l20, p_l22, p_l24, p_l30, p_l31, p_l32, p_l38, p_l40, p_l41, p_l43, p_l48, p_l57, p_l59, p_l60, p_l61, p_l62, p_l63, p_l97, p_l98, p_l101, p_l122, p_l158, p_l201, p_l255, p_l256, p_l374, p_l880, p_l900, p_l1000, p_l2618, p_neg, nI_add, p_mul, p_sub, p_addm, p_addm0, p_subm, p_le, p_lt, p_eq, p_mO_eq, p_eq_mO, p_mO_lt, p_nlt_mO, p_mO_le, p_le_mO, p_rI, p_rL, p_wI, p_wL, p_wF, p_has10, p_has11, p_ib0, p_ib1, p_shl1, p_zv0, p_zv1, p_zvib, p_ibd, p_ibn, if_pos, if_neg, if_true, if_false, ne_eq, not_true, not_false_iff, Decidable.not_not, Nat.not_lt, Nat.not_le, Bool.true_eq_false, Bool.false_eq_true, eq_self, reduceIte, Nat.reduceAdd, Nat.reduceMul, Nat.reduceSub, Nat.reduceEqDiff, Nat.reduceLT, Nat.reduceLeDiff, reduceCtorEq, fX2_innerArrows_l4, h3])
  show (gLoop (fun z9 => fX2_innerArrows_l4 t M z9.1 z9.2) gFu ((fun k => (nI (fb_ct (sIn S) k), nI k)) 0)).bind _ = _
  rw [e]; rfl
theorem cs_numberOf (h : CS M t S) {u v : Nat} (hu : u < 24) (hv : v < 24) : fX2_numberOf t (nI u) (nI v) M = some (gNo (sAr S u v) (sM S)) := by
  have h1 := cs_m h
  have hm := h.2.1.2.1
  generalize hp : sAr S u v = p
  have hle : p ≤ sM S := hp ▸ fa_first_le _ _
  have hno : ∀ k, k < p → ¬ (sFr S k = u ∧ sTo S k = v) := fun k hk => of_decide_eq_false (fa_first_no (fun i => decide (sFr S i = u ∧ sTo S i = v)) (sM S) k (by rw [show fa_first (fun i => decide (sFr S i = u ∧ sTo S i = v)) (sM S) = p from hp]; exact hk))
  have hstep : ∀ k, k < p → fX2_numberOf_l2 t (nI u) (nI v) M (nI k) = some (.inl (nI (k + 1))) := by
    intro k hk
    have hk2 : k < sM S := by omega
    obtain ⟨b1, b2, b3, b4, b5, b6, b7⟩ := sW_ar h.2 hk2
    by_cases hb : sFr S k = u
    · have hb2 : ¬ sTo S k = v := fun z => hno k hk ⟨hb, z⟩
      simp (disch := omega) only [p_bnd, p_nm, p_gSEl, p_gSEr, p_l0, p_l1, p_l2, p_l3, p_l4, p_l5, p_l6, p_l7, p_l8, p_l9, p_l10, p_l14, p_l16, p_l20, p_l22, p_l24, p_l30, p_l31, p_l32, p_l38, p_l40, p_l41, p_l43, p_l48, p_l57, p_l59, p_l60, p_l61, p_l62, p_l63, p_l97, p_l98, p_l101, p_l122, p_l158, p_l201, p_l255, p_l256, p_l374, p_l880, p_l900, p_l1000, p_l2618, p_neg, nI_add, p_mul, p_sub, p_addm, p_addm0, p_subm, p_le, p_lt, p_eq, p_mO_eq, p_eq_mO, p_mO_lt, p_nlt_mO, p_mO_le, p_le_mO, p_rI, p_rL, p_wI, p_wL, p_wF, p_has10, p_has11, p_ib0, p_ib1, p_shl1, p_zv0, p_zv1, p_zvib, p_ibd, p_ibn, if_pos, if_neg, if_true, if_false, ne_eq, not_true, not_false_iff, Decidable.not_not, Nat.not_lt, Nat.not_le, Bool.true_eq_false, Bool.false_eq_true, eq_self, reduceIte, Nat.reduceAdd, Nat.reduceMul, Nat.reduceSub, Nat.reduceEqDiff, Nat.reduceLT, Nat.reduceLeDiff, reduceCtorEq, fX2_numberOf_l2, fX2_numberOf_b32, h1, cs_fr h hk2, cs_to h hk2]
    · simp (disch := omega) only [p_bnd, p_nm, p_gSEl, p_gSEr, p_l0, p_l1, p_l2, p_l3, p_l4, p_l5, p_l6, p_l7, p_l8, p_l9, p_l10, p_l14, p_l16, p_l20, p_l22, p_l24, p_l30, p_l31, p_l32, p_l38, p_l40, p_l41, p_l43, p_l48, p_l57, p_l59, p_l60, p_l61, p_l62, p_l63, p_l97, p_l98, p_l101, p_l122, p_l158, p_l201, p_l255, p_l256, p_l374, p_l880, p_l900, p_l1000, p_l2618, p_neg, nI_add, p_mul, p_sub, p_addm, p_addm0, p_subm, p_le, p_lt, p_eq, p_mO_eq, p_eq_mO, p_mO_lt, p_nlt_mO, p_mO_le, p_le_mO, p_rI, p_rL, p_wI, p_wL, p_wF, p_has10, p_has11, p_ib0, p_ib1, p_shl1, p_zv0, p_zv1, p_zvib, p_ibd, p_ibn, if_pos, if_neg, if_true, if_false, ne_eq, not_true, not_false_iff, Decidable.not_not, Nat.not_lt, Nat.not_le, Bool.true_eq_false, Bool.false_eq_true, eq_self, reduceIte, Nat.reduceAdd, Nat.reduceMul, Nat.reduceSub, Nat.reduceEqDiff, Nat.reduceLT, Nat.reduceLeDiff, reduceCtorEq, fX2_numberOf_l2, fX2_numberOf_b32, h1, cs_fr h hk2, cs_to h hk2]
  unfold gNo
  rcases Nat.lt_or_ge p (sM S) with q | q
  · have hy := of_decide_eq_true (fa_first_yes (fun i => decide (sFr S i = u ∧ sTo S i = v)) (sM S) (by rw [show fa_first (fun i => decide (sFr S i = u ∧ sTo S i = v)) (sM S) = p from hp]; exact q))
    rw [show fa_first (fun i => decide (sFr S i = u ∧ sTo S i = v)) (sM S) = p from hp] at hy
    have e := gLoop_f (body := fun z9 => fX2_numberOf_l2 t (nI u) (nI v) M z9) (fun k => nI k) (r := .inr (nI p)) p gFu (by show p < 4096; omega) hstep (by simp (disch := omega) only [p_bnd, p_nm, p_gSEl, p_gSEr, p_l0, p_l1, p_l2, p_l3, p_l4, p_l5, p_l6, p_l7, p_l8, p_l9, p_l10, p_l14, p_l16, p_l20, p_l22, p_l24, p_l30, p_l31, p_l32, p_l38, p_l40, p_l41, p_l43, p_l48, p_l57, p_l59, p_l60, p_l61, p_l62, p_l63, p_l97, p_l98, p_l101, p_l122, p_l158, p_l201, p_l255, p_l256, p_l374, p_l880, p_l900, p_l1000, p_l2618, p_neg, nI_add, p_mul, p_sub, p_addm, p_addm0, p_subm, p_le, p_lt, p_eq, p_mO_eq, p_eq_mO, p_mO_lt, p_nlt_mO, p_mO_le, p_le_mO, p_rI, p_rL, p_wI, p_wL, p_wF, p_has10, p_has11, p_ib0, p_ib1, p_shl1, p_zv0, p_zv1, p_zvib, p_ibd, p_ibn, if_pos, if_neg, if_true, if_false, ne_eq, not_true, not_false_iff, Decidable.not_not, Nat.not_lt, Nat.not_le, Bool.true_eq_false, Bool.false_eq_true, eq_self, reduceIte, Nat.reduceAdd, Nat.reduceMul, Nat.reduceSub, Nat.reduceEqDiff, Nat.reduceLT, Nat.reduceLeDiff, reduceCtorEq, fX2_numberOf_l2, h1, cs_fr h q, cs_to h q, hy.1, hy.2])
    show (gLoop (fun z9 => fX2_numberOf_l2 t (nI u) (nI v) M z9) gFu ((fun k => nI k) 0)).bind _ = _
    rw [e, if_pos q]; rfl
  · have e := gLoop_f (body := fun z9 => fX2_numberOf_l2 t (nI u) (nI v) M z9) (fun k => nI k) (r := .inl ()) p gFu (by show p < 4096; omega) hstep (by simp (disch := omega) only [p_bnd, p_nm, p_gSEl, p_gSEr, p_l0, p_l1, p_l2, p_l3, p_l4, p_l5, p_l6, p_l7, p_l8, p_l9, p_l10, p_l14, p_l16, p_l20, p_l22, p_l24, p_l30, p_l31, p_l32, p_l38, p_l40, p_l41, p_l43, p_l48, p_l57, p_l59, p_l60, p_l61, p_l62, p_l63, p_l97, p_l98, p_l101, p_l122, p_l158, p_l201, p_l255, p_l256, p_l374, p_l880, p_l900, p_l1000, p_l2618, p_neg, nI_add, p_mul, p_sub, p_addm, p_addm0, p_subm, p_le, p_lt, p_eq, p_mO_eq, p_eq_mO, p_mO_lt, p_nlt_mO, p_mO_le, p_le_mO, p_rI, p_rL, p_wI, p_wL, p_wF, p_has10, p_has11, p_ib0, p_ib1, p_shl1, p_zv0, p_zv1, p_zvib, p_ibd, p_ibn, if_pos, if_neg, if_true, if_false, ne_eq, not_true, not_false_iff, Decidable.not_not, Nat.not_lt, Nat.not_le, Bool.true_eq_false, Bool.false_eq_true, eq_self, reduceIte, Nat.reduceAdd, Nat.reduceMul, Nat.reduceSub, Nat.reduceEqDiff, Nat.reduceLT, Nat.reduceLeDiff, reduceCtorEq, fX2_numberOf_l2, h1])
    show (gLoop (fun z9 => fX2_numberOf_l2 t (nI u) (nI v) M z9) gFu ((fun k => nI k) 0)).bind _ = _
    rw [e, if_neg (by omega)]; rfl
theorem cs_leadsOn (h : CS M t S) {p : Nat} (hp : p < 24) : fX2_leadsOn t (nI p) M = some (ib (sLd S p (p + 1))) := by
  have h1 := cs_m h
  have hm := h.2.1.2.1
  unfold sLd
  generalize hq : fa_first (fun i => decide (sPl S (sFr S i) = p ∧ sPl S (sTo S i) = p + 1)) (sM S) = q
  have hle : q ≤ sM S := hq ▸ fa_first_le _ _
  have hno : ∀ k, k < q → ¬ (sPl S (sFr S k) = p ∧ sPl S (sTo S k) = p + 1) := fun k hk => of_decide_eq_false (fa_first_no (fun i => decide (sPl S (sFr S i) = p ∧ sPl S (sTo S i) = p + 1)) (sM S) k (by rw [hq]; exact hk))
  have hstep : ∀ k, k < q → fX2_leadsOn_l2 t (nI p) M (nI k) = some (.inl (nI (k + 1))) := by
    intro k hk
    have hk2 : k < sM S := by omega
    obtain ⟨b1, b2, b3, b4, b5, b6, b7⟩ := sW_ar h.2 hk2
    by_cases hb : sPl S (sFr S k) = p
    · have hb2 : ¬ sPl S (sTo S k) = p + 1 := fun z => hno k hk ⟨hb, z⟩
      simp (disch := omega) only [p_bnd, p_nm, p_gSEl, p_gSEr, p_l0, p_l1, p_l2, p_l3, p_l4, p_l5, p_l6, p_l7, p_l8, p_l9, p_l10, p_l14, p_l16, p_l20, p_l22, p_l24, p_l30, p_l31, p_l32, p_l38, p_l40, p_l41, p_l43, p_l48, p_l57, p_l59, p_l60, p_l61, p_l62, p_l63, p_l97, p_l98, p_l101, p_l122, p_l158, p_l201, p_l255, p_l256, p_l374, p_l880, p_l900, p_l1000, p_l2618, p_neg, nI_add, p_mul, p_sub, p_addm, p_addm0, p_subm, p_le, p_lt, p_eq, p_mO_eq, p_eq_mO, p_mO_lt, p_nlt_mO, p_mO_le, p_le_mO, p_rI, p_rL, p_wI, p_wL, p_wF, p_has10, p_has11, p_ib0, p_ib1, p_shl1, p_zv0, p_zv1, p_zvib, p_ibd, p_ibn, if_pos, if_neg, if_true, if_false, ne_eq, not_true, not_false_iff, Decidable.not_not, Nat.not_lt, Nat.not_le, Bool.true_eq_false, Bool.false_eq_true, eq_self, reduceIte, Nat.reduceAdd, Nat.reduceMul, Nat.reduceSub, Nat.reduceEqDiff, Nat.reduceLT, Nat.reduceLeDiff, reduceCtorEq, fX2_leadsOn_l2, fX2_leadsOn_b44, h1, cs_fr h hk2, cs_to h hk2, cs_pl h b1, cs_pl h b2]
    · simp (disch := omega) only [p_bnd, p_nm, p_gSEl, p_gSEr, p_l0, p_l1, p_l2, p_l3, p_l4, p_l5, p_l6, p_l7, p_l8, p_l9, p_l10, p_l14, p_l16, p_l20, p_l22, p_l24, p_l30, p_l31, p_l32, p_l38, p_l40, p_l41, p_l43, p_l48, p_l57, p_l59, p_l60, p_l61, p_l62, p_l63, p_l97, p_l98, p_l101, p_l122, p_l158, p_l201, p_l255, p_l256, p_l374, p_l880, p_l900, p_l1000, p_l2618, p_neg, nI_add, p_mul, p_sub, p_addm, p_addm0, p_subm, p_le, p_lt, p_eq, p_mO_eq, p_eq_mO, p_mO_lt, p_nlt_mO, p_mO_le, p_le_mO, p_rI, p_rL, p_wI, p_wL, p_wF, p_has10, p_has11, p_ib0, p_ib1, p_shl1, p_zv0, p_zv1, p_zvib, p_ibd, p_ibn, if_pos, if_neg, if_true, if_false, ne_eq, not_true, not_false_iff, Decidable.not_not, Nat.not_lt, Nat.not_le, Bool.true_eq_false, Bool.false_eq_true, eq_self, reduceIte, Nat.reduceAdd, Nat.reduceMul, Nat.reduceSub, Nat.reduceEqDiff, Nat.reduceLT, Nat.reduceLeDiff, reduceCtorEq, fX2_leadsOn_l2, fX2_leadsOn_b44, h1, cs_fr h hk2, cs_to h hk2, cs_pl h b1, cs_pl h b2]
  rcases Nat.lt_or_ge q (sM S) with z | z
  · have hy := of_decide_eq_true (fa_first_yes (fun i => decide (sPl S (sFr S i) = p ∧ sPl S (sTo S i) = p + 1)) (sM S) (by rw [hq]; exact z))
    rw [hq] at hy
    obtain ⟨b1, b2, b3, b4, b5, b6, b7⟩ := sW_ar h.2 z
    have e := gLoop_f (body := fun z9 => fX2_leadsOn_l2 t (nI p) M z9) (fun k => nI k) (r := .inr (nI 1)) q gFu (by show q < 4096; omega) hstep (by simp (disch := omega) only [p_bnd, p_nm, p_gSEl, p_gSEr, p_l0, p_l1, p_l2, p_l3, p_l4, p_l5, p_l6, p_l7, p_l8, p_l9, p_l10, p_l14, p_l16, p_l20, p_l22, p_l24, p_l30, p_l31, p_l32, p_l38, p_l40, p_l41, p_l43, p_l48, p_l57, p_l59, p_l60, p_l61, p_l62, p_l63, p_l97, p_l98, p_l101, p_l122, p_l158, p_l201, p_l255, p_l256, p_l374, p_l880, p_l900, p_l1000, p_l2618, p_neg, nI_add, p_mul, p_sub, p_addm, p_addm0, p_subm, p_le, p_lt, p_eq, p_mO_eq, p_eq_mO, p_mO_lt, p_nlt_mO, p_mO_le, p_le_mO, p_rI, p_rL, p_wI, p_wL, p_wF, p_has10, p_has11, p_ib0, p_ib1, p_shl1, p_zv0, p_zv1, p_zvib, p_ibd, p_ibn, if_pos, if_neg, if_true, if_false, ne_eq, not_true, not_false_iff, Decidable.not_not, Nat.not_lt, Nat.not_le, Bool.true_eq_false, Bool.false_eq_true, eq_self, reduceIte, Nat.reduceAdd, Nat.reduceMul, Nat.reduceSub, Nat.reduceEqDiff, Nat.reduceLT, Nat.reduceLeDiff, reduceCtorEq, fX2_leadsOn_l2, h1, cs_fr h z, cs_to h z, cs_pl h b1, cs_pl h b2, hy.1, hy.2])
    show (gLoop (fun z9 => fX2_leadsOn_l2 t (nI p) M z9) gFu ((fun k => nI k) 0)).bind _ = _
    rw [e, decide_eq_true z]; rfl
  · have e := gLoop_f (body := fun z9 => fX2_leadsOn_l2 t (nI p) M z9) (fun k => nI k) (r := .inl ()) q gFu (by show q < 4096; omega) hstep (by simp (disch := omega) only [p_bnd, p_nm, p_gSEl, p_gSEr, p_l0, p_l1, p_l2, p_l3, p_l4, p_l5, p_l6, p_l7, p_l8, p_l9, p_l10, p_l14, p_l16, p_l20, p_l22, p_l24, p_l30, p_l31, p_l32, p_l38, p_l40, p_l41, p_l43, p_l48, p_l57, p_l59, p_l60, p_l61, p_l62, p_l63, p_l97, p_l98, p_l101, p_l122, p_l158, p_l201, p_l255, p_l256, p_l374, p_l880, p_l900, p_l1000, p_l2618, p_neg, nI_add, p_mul, p_sub, p_addm, p_addm0, p_subm, p_le, p_lt, p_eq, p_mO_eq, p_eq_mO, p_mO_lt, p_nlt_mO, p_mO_le, p_le_mO, p_rI, p_rL, p_wI, p_wL, p_wF, p_has10, p_has11, p_ib0, p_ib1, p_shl1, p_zv0, p_zv1, p_zvib, p_ibd, p_ibn, if_pos, if_neg, if_true, if_false, ne_eq, not_true, not_false_iff, Decidable.not_not, Nat.not_lt, Nat.not_le, Bool.true_eq_false, Bool.false_eq_true, eq_self, reduceIte, Nat.reduceAdd, Nat.reduceMul, Nat.reduceSub, Nat.reduceEqDiff, Nat.reduceLT, Nat.reduceLeDiff, reduceCtorEq, fX2_leadsOn_l2, h1])
    show (gLoop (fun z9 => fX2_leadsOn_l2 t (nI p) M z9) gFu ((fun k => nI k) 0)).bind _ = _
    rw [e, decide_eq_false (by omega)]; rfl
end CD
