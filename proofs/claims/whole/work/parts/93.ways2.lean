/-! SHORTEST WAYS: the reference's steps; the next task on the way, both sides -/
section RW2
variable {M : gMem} {S : gS} {t e : Nat}
noncomputable def wU (S : gS) (e k u : Nat) : Int32 := if wD S e u < k then nI (wD S e u) else nI 1000
/-- within a round, behind i arrows -/
noncomputable def wQ (S : gS) (e a i u : Nat) : Int32 := if wD S e u < a then nI (wD S e u) else if cB (∃ j, j < i ∧ sFr S j = u ∧ wD S e (sTo S j) = a - 1) = true then nI a else nI 1000
theorem ws_0 (hn : M.1 1 0 = nI (sN S)) (hn24 : sN S ≤ 24) (he : e < 24) : ∃ r, gLoop (fun z9 => fX11_laysSteps_l2 (nI e) z9.1 z9.2) gFu ((0 : Int32), M) = some r ∧ gFr (fun c _ => c = 7) M r ∧ ∀ u, u < 24 → r.1 7 u = if u = e then nI 0 else nI 1000 := by
  refine gLoop_i (fun k s => ∃ M', s = (nI k, M') ∧ gFr (fun c _ => c = 7) M M' ∧ ∀ u, u < k → M'.1 7 u = if u = e then nI 0 else nI 1000) _ 24 ⟨M, rfl, gFr_rf, fun u z => absurd z (Nat.not_lt_zero _)⟩ (by decide) ?_
  rintro k s hk ⟨M', rfl, hF, hI⟩
  rcases Nat.lt_or_ge k 24 with q | q
  · refine Or.inl ⟨(nI (k + 1), gI M' 7 k (if k = e then nI 0 else nI 1000)), ?_, q, gI M' 7 k (if k = e then nI 0 else nI 1000), rfl, gFr_trI hF rfl, fun u hu => ?_⟩
    · by_cases c : k = e
      · simp (disch := omega) only [p_bnd, p_nm, p_gSEl, p_gSEr, p_l0, p_l1, p_l2, p_l3, p_l4, p_l5, p_l6, p_l7, p_l8, p_l9, p_l10, p_l14, p_l16, p_l20, p_l22, p_l24, p_l30, p_l31, p_l32, p_l38, p_l40, p_l41, p_l43, p_l48, p_l57, p_l59, p_l60, p_l61, p_l62, p_l63, p_l97, p_l98, p_l101, p_l122, p_l158, p_l201, p_l255, p_l256, p_l374, p_l880, p_l900, p_l1000, p_l2618, p_neg, nI_add, p_mul, p_sub, p_addm, p_addm0, p_subm, p_le, p_lt, p_eq, p_mO_eq, p_eq_mO, p_mO_lt, p_nlt_mO, p_mO_le, p_le_mO, p_rI, p_rL, p_wI, p_wL, p_wF, p_has10, p_has11, p_ib0, p_ib1, p_shl1, p_zv0, p_zv1, p_zvib, p_ibd, p_ibn, if_pos, if_neg, if_true, if_false, ne_eq, not_true, not_false_iff, Decidable.not_not, Nat.not_lt, Nat.not_le, Bool.true_eq_false, Bool.false_eq_true, eq_self, reduceIte, Nat.reduceAdd, Nat.reduceMul, Nat.reduceSub, Nat.reduceEqDiff, Nat.reduceLT, Nat.reduceLeDiff, reduceCtorEq, fX11_laysSteps_l2, fX11_laysSteps_b25, c]
      · simp (disch := omega) only [p_bnd, p_nm, p_gSEl, p_gSEr, p_l0, p_l1, p_l2, p_l3, p_l4, p_l5, p_l6, p_l7, p_l8, p_l9, p_l10, p_l14, p_l16, p_l20, p_l22, p_l24, p_l30, p_l31, p_l32, p_l38, p_l40, p_l41, p_l43, p_l48, p_l57, p_l59, p_l60, p_l61, p_l62, p_l63, p_l97, p_l98, p_l101, p_l122, p_l158, p_l201, p_l255, p_l256, p_l374, p_l880, p_l900, p_l1000, p_l2618, p_neg, nI_add, p_mul, p_sub, p_addm, p_addm0, p_subm, p_le, p_lt, p_eq, p_mO_eq, p_eq_mO, p_mO_lt, p_nlt_mO, p_mO_le, p_le_mO, p_rI, p_rL, p_wI, p_wL, p_wF, p_has10, p_has11, p_ib0, p_ib1, p_shl1, p_zv0, p_zv1, p_zvib, p_ibd, p_ibn, if_pos, if_neg, if_true, if_false, ne_eq, not_true, not_false_iff, Decidable.not_not, Nat.not_lt, Nat.not_le, Bool.true_eq_false, Bool.false_eq_true, eq_self, reduceIte, Nat.reduceAdd, Nat.reduceMul, Nat.reduceSub, Nat.reduceEqDiff, Nat.reduceLT, Nat.reduceLeDiff, reduceCtorEq, fX11_laysSteps_l2, fX11_laysSteps_b25, c]
    · rw [p_gI]
      by_cases c : u = k
      · rw [if_pos ⟨rfl, c⟩, c]
      · rw [if_neg (fun z => c z.2)]; exact hI u (by omega)
  · exact Or.inr ⟨M', by simp (disch := omega) only [p_bnd, p_nm, p_gSEl, p_gSEr, p_l0, p_l1, p_l2, p_l3, p_l4, p_l5, p_l6, p_l7, p_l8, p_l9, p_l10, p_l14, p_l16, p_l20, p_l22, p_l24, p_l30, p_l31, p_l32, p_l38, p_l40, p_l41, p_l43, p_l48, p_l57, p_l59, p_l60, p_l61, p_l62, p_l63, p_l97, p_l98, p_l101, p_l122, p_l158, p_l201, p_l255, p_l256, p_l374, p_l880, p_l900, p_l1000, p_l2618, p_neg, nI_add, p_mul, p_sub, p_addm, p_addm0, p_subm, p_le, p_lt, p_eq, p_mO_eq, p_eq_mO, p_mO_lt, p_nlt_mO, p_mO_le, p_le_mO, p_rI, p_rL, p_wI, p_wL, p_wF, p_has10, p_has11, p_ib0, p_ib1, p_shl1, p_zv0, p_zv1, p_zvib, p_ibd, p_ibn, if_pos, if_neg, if_true, if_false, ne_eq, not_true, not_false_iff, Decidable.not_not, Nat.not_lt, Nat.not_le, Bool.true_eq_false, Bool.false_eq_true, eq_self, reduceIte, Nat.reduceAdd, Nat.reduceMul, Nat.reduceSub, Nat.reduceEqDiff, Nat.reduceLT, Nat.reduceLeDiff, reduceCtorEq, fX11_laysSteps_l2], hF, fun u hu => hI u (by omega)⟩
theorem ws_1 (h : RS M S) {a : Nat} (ha1 : 0 < a) (ha : a < sN S) (hI : ∀ u, u < sN S → M.1 7 u = wU S e a u) :
    ∃ r, gLoop (fun z9 => fX11_laysSteps_l46 (nI a) z9.1 z9.2) gFu ((0 : Int32), M) = some r ∧ gFr (fun c _ => c = 7) M r ∧ ∀ u, u < sN S → r.1 7 u = wU S e (a + 1) u := by
  have hn := h.2.1.1
  have hm := h.2.1.2.1
  obtain ⟨r, e1, F, I⟩ : ∃ r, gLoop (fun z9 => fX11_laysSteps_l46 (nI a) z9.1 z9.2) gFu ((0 : Int32), M) = some r ∧ gFr (fun c _ => c = 7) M r ∧ ∀ u, u < sN S → r.1 7 u = wQ S e a (sM S) u := by
    refine gLoop_i (fun i s => ∃ M', s = (nI i, M') ∧ gFr (fun c _ => c = 7) M M' ∧ ∀ u, u < sN S → M'.1 7 u = wQ S e a i u) _ (sM S) ⟨M, rfl, gFr_rf, fun u hu => by
      rw [hI u hu]
      unfold wU wQ
      have : ¬ cB (∃ j, j < 0 ∧ sFr S j = u ∧ wD S e (sTo S j) = a - 1) = true := by rw [cB_iff]; rintro ⟨j, hj, -⟩; omega
      rw [if_neg this]⟩ (by show sM S < 4096; omega) ?_
    rintro i s hi ⟨M', rfl, hF, hJ⟩
    have h' : RS M' S := RS_of h (gFr_c1 hF (fun _ => by omega))
    have m2 : M'.1 1 1 = nI (sM S) := h'.1.1.2.1
    rcases Nat.lt_or_ge i (sM S) with q | q
    · obtain ⟨b1, b2, -⟩ := h.2.2.1.1 i q
      obtain ⟨f1, f2⟩ := h'.1.2.2.2.1 i q
      have v1 := hJ _ b1
      have v2 := hJ _ b2
      have no : ∀ {u : Nat}, ¬ (sFr S i = u ∧ wD S e (sTo S i) = a - 1) → wQ S e a (i + 1) u = wQ S e a i u := fun {u} z => by
        unfold wQ
        rw [show cB (∃ j, j < i + 1 ∧ sFr S j = u ∧ wD S e (sTo S j) = a - 1) = cB (∃ j, j < i ∧ sFr S j = u ∧ wD S e (sTo S j) = a - 1) from cB_cg ⟨fun ⟨j, h1, h2⟩ => by
          by_cases c : j = i
          · rw [c] at h2; exact absurd h2 z
          · exact ⟨j, by omega, h2⟩, fun ⟨j, h1, h2⟩ => ⟨j, by omega, h2⟩⟩]
      have yes : wD S e (sTo S i) = a - 1 → ¬ wD S e (sFr S i) < a → wQ S e a (i + 1) (sFr S i) = nI a := fun z1 z2 => by
        unfold wQ
        rw [if_neg z2, if_pos (cB_iff.mpr ⟨i, by omega, rfl, z1⟩)]
      have hv2 : (M'.1 7 (sTo S i) = nI (a - 1)) = (wD S e (sTo S i) = a - 1) := by
        rw [v2]
        unfold wQ
        have := wD_n (S := S) (e := e) (t := sTo S i)
        by_cases c : wD S e (sTo S i) < a
        · rw [if_pos c, p_eq (by omega) (by omega)]
        · rw [if_neg c]
          split
          · rw [p_eq (by omega) (by omega)]; exact propext ⟨fun z => by omega, fun z => by omega⟩
          · rw [p_eq (by omega) (by omega)]; exact propext ⟨fun z => by omega, fun z => by omega⟩
      by_cases c : wD S e (sTo S i) = a - 1
      · have v3 : M'.1 7 (sTo S i) = nI (a - 1) := hv2.mpr c
        by_cases d : M'.1 7 (sFr S i) = nI 1000
        · have d2 : ¬ wD S e (sFr S i) < a := fun z => by
            rw [v1] at d
            unfold wQ at d
            rw [if_pos z, p_eq (by omega) (by omega)] at d
            omega
          refine Or.inl ⟨(nI (i + 1), gI M' 7 (sFr S i) (nI a)), ?_, q, gI M' 7 (sFr S i) (nI a), rfl, gFr_trI hF rfl, fun u hu => ?_⟩
          · simp (disch := omega) only [p_bnd, p_nm, p_gSEl, p_gSEr, p_l0, p_l1, p_l2, p_l3, p_l4, p_l5, p_l6, p_l7, p_l8, p_l9, p_l10, p_l14, p_l16, p_l20, p_l22, p_l24, p_l30, p_l31, p_l32, p_l38, p_l40, p_l41, p_l43, p_l48, p_l57, p_l59, p_l60, p_l61, p_l62, p_l63, p_l97, p_l98, p_l101, p_l122, p_l158, p_l201, p_l255, p_l256, p_l374, p_l880, p_l900, p_l1000, p_l2618, p_neg, nI_add, p_mul, p_sub, p_addm, p_addm0, p_subm, p_le, p_lt, p_eq, p_mO_eq, p_eq_mO, p_mO_lt, p_nlt_mO, p_mO_le, p_le_mO, p_rI, p_rL, p_wI, p_wL, p_wF, p_has10, p_has11, p_ib0, p_ib1, p_shl1, p_zv0, p_zv1, p_zvib, p_ibd, p_ibn, if_pos, if_neg, if_true, if_false, ne_eq, not_true, not_false_iff, Decidable.not_not, Nat.not_lt, Nat.not_le, Bool.true_eq_false, Bool.false_eq_true, eq_self, reduceIte, Nat.reduceAdd, Nat.reduceMul, Nat.reduceSub, Nat.reduceEqDiff, Nat.reduceLT, Nat.reduceLeDiff, reduceCtorEq, fX11_laysSteps_l46, fX11_laysSteps_b109, m2, f1, f2, v3, d]
          · rw [p_gI]
            by_cases e9 : u = sFr S i
            · rw [if_pos ⟨rfl, e9⟩, e9, yes c d2]
            · rw [if_neg (fun z => e9 z.2), no (fun z => e9 z.1.symm)]; exact hJ u hu
        · have d1 : ∃ x, x ≤ a ∧ M'.1 7 (sFr S i) = nI x ∧ wQ S e a (i + 1) (sFr S i) = nI x := by
            by_cases z : wD S e (sFr S i) < a
            · refine ⟨wD S e (sFr S i), by omega, ?_, ?_⟩
              · rw [v1]; unfold wQ; rw [if_pos z]
              · unfold wQ; rw [if_pos z]
            · refine ⟨a, by omega, ?_, yes c z⟩
              rw [v1] at d ⊢
              unfold wQ at d ⊢
              rw [if_neg z] at d ⊢
              split at d
              · rename_i z3; rw [if_pos z3]
              · exact absurd rfl d
          obtain ⟨x, x1, x2, x3⟩ := d1
          refine Or.inl ⟨(nI (i + 1), M'), ?_, q, M', rfl, hF, fun u hu => ?_⟩
          · simp (disch := omega) only [p_bnd, p_nm, p_gSEl, p_gSEr, p_l0, p_l1, p_l2, p_l3, p_l4, p_l5, p_l6, p_l7, p_l8, p_l9, p_l10, p_l14, p_l16, p_l20, p_l22, p_l24, p_l30, p_l31, p_l32, p_l38, p_l40, p_l41, p_l43, p_l48, p_l57, p_l59, p_l60, p_l61, p_l62, p_l63, p_l97, p_l98, p_l101, p_l122, p_l158, p_l201, p_l255, p_l256, p_l374, p_l880, p_l900, p_l1000, p_l2618, p_neg, nI_add, p_mul, p_sub, p_addm, p_addm0, p_subm, p_le, p_lt, p_eq, p_mO_eq, p_eq_mO, p_mO_lt, p_nlt_mO, p_mO_le, p_le_mO, p_rI, p_rL, p_wI, p_wL, p_wF, p_has10, p_has11, p_ib0, p_ib1, p_shl1, p_zv0, p_zv1, p_zvib, p_ibd, p_ibn, if_pos, if_neg, if_true, if_false, ne_eq, not_true, not_false_iff, Decidable.not_not, Nat.not_lt, Nat.not_le, Bool.true_eq_false, Bool.false_eq_true, eq_self, reduceIte, Nat.reduceAdd, Nat.reduceMul, Nat.reduceSub, Nat.reduceEqDiff, Nat.reduceLT, Nat.reduceLeDiff, reduceCtorEq, fX11_laysSteps_l46, fX11_laysSteps_b109, m2, f1, f2, v3, x2]
          · by_cases e9 : u = sFr S i
            · rw [e9, x2, x3]
            · rw [no (fun z => e9 z.1.symm)]; exact hJ u hu
      · have v3 : ¬ M'.1 7 (sTo S i) = nI (a - 1) := fun z => c (hv2.mp z)
        refine Or.inl ⟨(nI (i + 1), M'), ?_, q, M', rfl, hF, fun u hu => ?_⟩
        · simp (disch := omega) only [p_bnd, p_nm, p_gSEl, p_gSEr, p_l0, p_l1, p_l2, p_l3, p_l4, p_l5, p_l6, p_l7, p_l8, p_l9, p_l10, p_l14, p_l16, p_l20, p_l22, p_l24, p_l30, p_l31, p_l32, p_l38, p_l40, p_l41, p_l43, p_l48, p_l57, p_l59, p_l60, p_l61, p_l62, p_l63, p_l97, p_l98, p_l101, p_l122, p_l158, p_l201, p_l255, p_l256, p_l374, p_l880, p_l900, p_l1000, p_l2618, p_neg, nI_add, p_mul, p_sub, p_addm, p_addm0, p_subm, p_le, p_lt, p_eq, p_mO_eq, p_eq_mO, p_mO_lt, p_nlt_mO, p_mO_le, p_le_mO, p_rI, p_rL, p_wI, p_wL, p_wF, p_has10, p_has11, p_ib0, p_ib1, p_shl1, p_zv0, p_zv1, p_zvib, p_ibd, p_ibn, if_pos, if_neg, if_true, if_false, ne_eq, not_true, not_false_iff, Decidable.not_not, Nat.not_lt, Nat.not_le, Bool.true_eq_false, Bool.false_eq_true, eq_self, reduceIte, Nat.reduceAdd, Nat.reduceMul, Nat.reduceSub, Nat.reduceEqDiff, Nat.reduceLT, Nat.reduceLeDiff, reduceCtorEq, fX11_laysSteps_l46, fX11_laysSteps_b109, m2, f1, f2, if_neg v3]
        · rw [no (fun z => c z.2)]; exact hJ u hu
    · exact Or.inr ⟨M', by simp (disch := omega) only [p_bnd, p_nm, p_gSEl, p_gSEr, p_l0, p_l1, p_l2, p_l3, p_l4, p_l5, p_l6, p_l7, p_l8, p_l9, p_l10, p_l14, p_l16, p_l20, p_l22, p_l24, p_l30, p_l31, p_l32, p_l38, p_l40, p_l41, p_l43, p_l48, p_l57, p_l59, p_l60, p_l61, p_l62, p_l63, p_l97, p_l98, p_l101, p_l122, p_l158, p_l201, p_l255, p_l256, p_l374, p_l880, p_l900, p_l1000, p_l2618, p_neg, nI_add, p_mul, p_sub, p_addm, p_addm0, p_subm, p_le, p_lt, p_eq, p_mO_eq, p_eq_mO, p_mO_lt, p_nlt_mO, p_mO_le, p_le_mO, p_rI, p_rL, p_wI, p_wL, p_wF, p_has10, p_has11, p_ib0, p_ib1, p_shl1, p_zv0, p_zv1, p_zvib, p_ibd, p_ibn, if_pos, if_neg, if_true, if_false, ne_eq, not_true, not_false_iff, Decidable.not_not, Nat.not_lt, Nat.not_le, Bool.true_eq_false, Bool.false_eq_true, eq_self, reduceIte, Nat.reduceAdd, Nat.reduceMul, Nat.reduceSub, Nat.reduceEqDiff, Nat.reduceLT, Nat.reduceLeDiff, reduceCtorEq, fX11_laysSteps_l46, m2], hF, by rw [show sM S = i by omega]; exact hJ⟩
  refine ⟨r, e1, F, fun u hu => ?_⟩
  rw [I u hu]
  unfold wQ wU
  by_cases c : wD S e u < a
  · rw [if_pos c, if_pos (by omega)]
  · rw [if_neg c]
    by_cases d : wD S e u = a
    · rw [if_pos (show wD S e u < a + 1 by omega), if_pos, d]
      rw [cB_iff]
      obtain ⟨v, ⟨j, j1, j2, j3⟩, v2⟩ := wD_pred (S := S) (e := e) (t := u) (d := a - 1) (by omega) (by omega)
      exact ⟨j, j1, j2, by rw [j3]; exact v2⟩
    · rw [if_neg (show ¬ wD S e u < a + 1 by omega), if_neg]
      rw [cB_iff]
      rintro ⟨j, j1, j2, j3⟩
      have := wD_step (e := e) (show sE S u (sTo S j) from ⟨j, j1, j2, rfl⟩) (by omega)
      omega
theorem rs_laysSteps (h : RS M S) (he : e < sN S) : ∃ M', fX11_laysSteps (nI e) M = some M' ∧ gFr (fun c _ => c = 7) M M' ∧ ∀ u, u < sN S → M'.1 7 u = wU S e (sN S) u := by
  have hn := h.2.1.1
  obtain ⟨M1, e1, F1, I1⟩ := ws_0 (M := M) h.1.1.1 hn (show e < 24 by omega)
  obtain ⟨r, e2, F2, I2⟩ : ∃ r, gLoop (fun z9 => fX11_laysSteps_l34 z9.1 z9.2) gFu (nI 1, M1) = some r ∧ gFr (fun c _ => c = 7) M r ∧ ∀ u, u < sN S → r.1 7 u = wU S e (sN S) u := by
    refine gLoop_i (fun k s => k < sN S ∧ ∃ M', s = (nI (k + 1), M') ∧ gFr (fun c _ => c = 7) M M' ∧ ∀ u, u < sN S → M'.1 7 u = wU S e (k + 1) u) _ (sN S) ⟨by omega, M1, rfl, F1, fun u hu => ?_⟩ (by show sN S < 4096; omega) ?_
    · rw [I1 u (by omega)]
      unfold wU
      by_cases c : u = e
      · rw [if_pos c, c, wD_e, if_pos (by omega)]
      · rw [if_neg c, if_neg (fun (z : wD S e u < 1) => c (wD_0 (by omega) (Nat.lt_one_iff.mp z)))]
    rintro k s hk ⟨hkn, M', rfl, hF, hI⟩
    have h' : RS M' S := RS_of h (gFr_c1 hF (fun _ => by omega))
    have n2 : M'.1 1 0 = nI (sN S) := h'.1.1.1
    rcases Nat.lt_or_ge (k + 1) (sN S) with q | q
    · obtain ⟨r, e4, F5, I5⟩ := ws_1 h' (a := k + 1) (by omega) q hI
      have e4' : gLoop (fun z9 => fX11_laysSteps_l46 (nI (k + 1)) z9.1 z9.2) gFu (nI 0, M') = some r := e4
      refine Or.inl ⟨(nI (k + 1 + 1), r), ?_, by omega, by omega, r, rfl, gFr_tr hF F5, I5⟩
      simp (disch := omega) only [p_bnd, p_nm, p_gSEl, p_gSEr, p_l0, p_l1, p_l2, p_l3, p_l4, p_l5, p_l6, p_l7, p_l8, p_l9, p_l10, p_l14, p_l16, p_l20, p_l22, p_l24, p_l30, p_l31, p_l32, p_l38, p_l40, p_l41, p_l43, p_l48, p_l57, p_l59, p_l60, p_l61, p_l62, p_l63, p_l97, p_l98, p_l101, p_l122, p_l158, p_l201, p_l255, p_l256, p_l374, p_l880, p_l900, p_l1000, p_l2618, p_neg, nI_add, p_mul, p_sub, p_addm, p_addm0, p_subm, p_le, p_lt, p_eq, p_mO_eq, p_eq_mO, p_mO_lt, p_nlt_mO, p_mO_le, p_le_mO, p_rI, p_rL, p_wI, p_wL, p_wF, p_has10, p_has11, p_ib0, p_ib1, p_shl1, p_zv0, p_zv1, p_zvib, p_ibd, p_ibn, if_pos, if_neg, if_true, if_false, ne_eq, not_true, not_false_iff, Decidable.not_not, Nat.not_lt, Nat.not_le, Bool.true_eq_false, Bool.false_eq_true, eq_self, reduceIte, Nat.reduceAdd, Nat.reduceMul, Nat.reduceSub, Nat.reduceEqDiff, Nat.reduceLT, Nat.reduceLeDiff, reduceCtorEq, fX11_laysSteps_l34, n2, e4']
    · have e9 : k + 1 = sN S := by omega
      refine Or.inr ⟨M', by simp (disch := omega) only [p_bnd, p_nm, p_gSEl, p_gSEr, p_l0, p_l1, p_l2, p_l3, p_l4, p_l5, p_l6, p_l7, p_l8, p_l9, p_l10, p_l14, p_l16, p_l20, p_l22, p_l24, p_l30, p_l31, p_l32, p_l38, p_l40, p_l41, p_l43, p_l48, p_l57, p_l59, p_l60, p_l61, p_l62, p_l63, p_l97, p_l98, p_l101, p_l122, p_l158, p_l201, p_l255, p_l256, p_l374, p_l880, p_l900, p_l1000, p_l2618, p_neg, nI_add, p_mul, p_sub, p_addm, p_addm0, p_subm, p_le, p_lt, p_eq, p_mO_eq, p_eq_mO, p_mO_lt, p_nlt_mO, p_mO_le, p_le_mO, p_rI, p_rL, p_wI, p_wL, p_wF, p_has10, p_has11, p_ib0, p_ib1, p_shl1, p_zv0, p_zv1, p_zvib, p_ibd, p_ibn, if_pos, if_neg, if_true, if_false, ne_eq, not_true, not_false_iff, Decidable.not_not, Nat.not_lt, Nat.not_le, Bool.true_eq_false, Bool.false_eq_true, eq_self, reduceIte, Nat.reduceAdd, Nat.reduceMul, Nat.reduceSub, Nat.reduceEqDiff, Nat.reduceLT, Nat.reduceLeDiff, reduceCtorEq, fX11_laysSteps_l34, n2], hF, fun u hu => ?_⟩
      rw [hI u hu, e9]
  refine ⟨r, ?_, F2, I2⟩
  unfold fX11_laysSteps
  rw [e1, p_bnd]
  rw [show gLoop (fun z9 => fX11_laysSteps_l34 z9.1 z9.2) gFu ((1 : Int32), M1) = some r from e2, p_bnd]
/-- the next task -/
noncomputable def wNx (S : gS) (e t : Nat) : Nat := fa_first (fun v => cB (sE S t v ∧ wD S e v + 1 = wD S e t)) (sN S)
theorem wNx_ok (h : sW1 S) {d : Nat} (hd : wD S e t = d + 1) (hl : d + 1 < sN S) : wNx S e t < sN S ∧ sE S t (wNx S e t) ∧ wD S e (wNx S e t) = d := by
  obtain ⟨v, v1, v2⟩ := wD_pred hd hl
  have h1 : wNx S e t ≤ v := ff_le (p := fun v => cB (sE S t v ∧ wD S e v + 1 = wD S e t)) (cB_iff.mpr ⟨v1, by omega⟩)
  have h2 := (sE.lt h v1).2
  have h3 := cB_iff.mp (fa_first_yes (fun v => cB (sE S t v ∧ wD S e v + 1 = wD S e t)) (sN S) (show wNx S e t < sN S by omega))
  have h4 : wD S e (wNx S e t) + 1 = wD S e t := h3.2
  exact ⟨by omega, h3.1, by omega⟩
theorem cs_stepFrom {w : Nat} (h : CS M w S) (hw : w ≤ 21) (ht : t < sN S) {d : Nat} (hd : wD S e t = d + 1) (hl : d + 1 < sN S) (hI : ∀ u, u < sN S → M.1 56 u = wX S e u) : fX9_stepFrom w (nI t) M = some (nI (wNx S e t)) := by
  have hn := h.2.1.1
  obtain ⟨n1, n2, n3⟩ := wNx_ok h.2.2.1 hd hl
  have hn' := cs_n h
  have xt : M.1 56 t = nI (d + 1) := by rw [hI t ht]; unfold wX wV; rw [if_pos (by omega), hd]
  have e1 := gLoop_f (body := fun z9 => fX9_stepFrom_l2 w (nI t) M z9) (fun k => nI k) (r := .inr (nI (wNx S e t))) (wNx S e t) gFu (by show wNx S e t < 4096; omega) (fun k hk => by
    have hkn : k < sN S := by omega
    have hno := cB_no.mp (fa_first_no (fun v => cB (sE S t v ∧ wD S e v + 1 = wD S e t)) (sN S) k hk)
    have b1 := cs_nx h ht (v := k) (by omega)
    cases hb : bt (M.1 (w + 5) t) k
    · simp (disch := omega) only [p_bnd, p_nm, p_gSEl, p_gSEr, p_l0, p_l1, p_l2, p_l3, p_l4, p_l5, p_l6, p_l7, p_l8, p_l9, p_l10, p_l14, p_l16, p_l20, p_l22, p_l24, p_l30, p_l31, p_l32, p_l38, p_l40, p_l41, p_l43, p_l48, p_l57, p_l59, p_l60, p_l61, p_l62, p_l63, p_l97, p_l98, p_l101, p_l122, p_l158, p_l201, p_l255, p_l256, p_l374, p_l880, p_l900, p_l1000, p_l2618, p_neg, nI_add, p_mul, p_sub, p_addm, p_addm0, p_subm, p_le, p_lt, p_eq, p_mO_eq, p_eq_mO, p_mO_lt, p_nlt_mO, p_mO_le, p_le_mO, p_rI, p_rL, p_wI, p_wL, p_wF, p_has10, p_has11, p_ib0, p_ib1, p_shl1, p_zv0, p_zv1, p_zvib, p_ibd, p_ibn, if_pos, if_neg, if_true, if_false, ne_eq, not_true, not_false_iff, Decidable.not_not, Nat.not_lt, Nat.not_le, Bool.true_eq_false, Bool.false_eq_true, eq_self, reduceIte, Nat.reduceAdd, Nat.reduceMul, Nat.reduceSub, Nat.reduceEqDiff, Nat.reduceLT, Nat.reduceLeDiff, reduceCtorEq, fX9_stepFrom_l2, fX9_stepFrom_b52, hn', hb]
    · have e2 := b1.mp hb
      have xk := hI k hkn
      unfold wX wV at xk
      by_cases c : wD S e k < sN S
      · rw [if_pos c] at xk
        have c2 : ¬ wD S e k = d := fun z => hno ⟨e2, by omega⟩
        simp (disch := omega) only [p_bnd, p_nm, p_gSEl, p_gSEr, p_l0, p_l1, p_l2, p_l3, p_l4, p_l5, p_l6, p_l7, p_l8, p_l9, p_l10, p_l14, p_l16, p_l20, p_l22, p_l24, p_l30, p_l31, p_l32, p_l38, p_l40, p_l41, p_l43, p_l48, p_l57, p_l59, p_l60, p_l61, p_l62, p_l63, p_l97, p_l98, p_l101, p_l122, p_l158, p_l201, p_l255, p_l256, p_l374, p_l880, p_l900, p_l1000, p_l2618, p_neg, nI_add, p_mul, p_sub, p_addm, p_addm0, p_subm, p_le, p_lt, p_eq, p_mO_eq, p_eq_mO, p_mO_lt, p_nlt_mO, p_mO_le, p_le_mO, p_rI, p_rL, p_wI, p_wL, p_wF, p_has10, p_has11, p_ib0, p_ib1, p_shl1, p_zv0, p_zv1, p_zvib, p_ibd, p_ibn, if_pos, if_neg, if_true, if_false, ne_eq, not_true, not_false_iff, Decidable.not_not, Nat.not_lt, Nat.not_le, Bool.true_eq_false, Bool.false_eq_true, eq_self, reduceIte, Nat.reduceAdd, Nat.reduceMul, Nat.reduceSub, Nat.reduceEqDiff, Nat.reduceLT, Nat.reduceLeDiff, reduceCtorEq, fX9_stepFrom_l2, fX9_stepFrom_b52, hn', hb, xk, xt, Nat.add_sub_cancel]
      · rw [if_neg c] at xk
        simp (disch := omega) only [p_bnd, p_nm, p_gSEl, p_gSEr, p_l0, p_l1, p_l2, p_l3, p_l4, p_l5, p_l6, p_l7, p_l8, p_l9, p_l10, p_l14, p_l16, p_l20, p_l22, p_l24, p_l30, p_l31, p_l32, p_l38, p_l40, p_l41, p_l43, p_l48, p_l57, p_l59, p_l60, p_l61, p_l62, p_l63, p_l97, p_l98, p_l101, p_l122, p_l158, p_l201, p_l255, p_l256, p_l374, p_l880, p_l900, p_l1000, p_l2618, p_neg, nI_add, p_mul, p_sub, p_addm, p_addm0, p_subm, p_le, p_lt, p_eq, p_mO_eq, p_eq_mO, p_mO_lt, p_nlt_mO, p_mO_le, p_le_mO, p_rI, p_rL, p_wI, p_wL, p_wF, p_has10, p_has11, p_ib0, p_ib1, p_shl1, p_zv0, p_zv1, p_zvib, p_ibd, p_ibn, if_pos, if_neg, if_true, if_false, ne_eq, not_true, not_false_iff, Decidable.not_not, Nat.not_lt, Nat.not_le, Bool.true_eq_false, Bool.false_eq_true, eq_self, reduceIte, Nat.reduceAdd, Nat.reduceMul, Nat.reduceSub, Nat.reduceEqDiff, Nat.reduceLT, Nat.reduceLeDiff, reduceCtorEq, fX9_stepFrom_l2, fX9_stepFrom_b52, hn', hb, xk, xt]) (by
    have b1 := (cs_nx h ht (v := wNx S e t) (by omega)).mpr n2
    have xk := hI _ n1
    unfold wX wV at xk
    rw [if_pos (by omega), n3] at xk
    generalize wNx S e t = y at n1 b1 xk
    simp (disch := omega) only [p_bnd, p_nm, p_gSEl, p_gSEr, p_l0, p_l1, p_l2, p_l3, p_l4, p_l5, p_l6, p_l7, p_l8, p_l9, p_l10, p_l14, p_l16, p_l20, p_l22, p_l24, p_l30, p_l31, p_l32, p_l38, p_l40, p_l41, p_l43, p_l48, p_l57, p_l59, p_l60, p_l61, p_l62, p_l63, p_l97, p_l98, p_l101, p_l122, p_l158, p_l201, p_l255, p_l256, p_l374, p_l880, p_l900, p_l1000, p_l2618, p_neg, nI_add, p_mul, p_sub, p_addm, p_addm0, p_subm, p_le, p_lt, p_eq, p_mO_eq, p_eq_mO, p_mO_lt, p_nlt_mO, p_mO_le, p_le_mO, p_rI, p_rL, p_wI, p_wL, p_wF, p_has10, p_has11, p_ib0, p_ib1, p_shl1, p_zv0, p_zv1, p_zvib, p_ibd, p_ibn, if_pos, if_neg, if_true, if_false, ne_eq, not_true, not_false_iff, Decidable.not_not, Nat.not_lt, Nat.not_le, Bool.true_eq_false, Bool.false_eq_true, eq_self, reduceIte, Nat.reduceAdd, Nat.reduceMul, Nat.reduceSub, Nat.reduceEqDiff, Nat.reduceLT, Nat.reduceLeDiff, reduceCtorEq, fX9_stepFrom_l2, hn', b1, xk, xt, Nat.add_sub_cancel])
  unfold fX9_stepFrom
  show (gLoop (fun z9 => fX9_stepFrom_l2 w (nI t) M z9) gFu ((fun k => nI k) 0)).bind _ = _
  rw [e1]; rfl
noncomputable def wB (S : gS) (e t i : Nat) : Nat := fa_first (fun v => cB (∃ j, j < i ∧ sFr S j = t ∧ sTo S j = v ∧ wD S e v + 1 = wD S e t)) (sN S)
theorem wB_no {i : Nat} (h : ¬ (sFr S i = t ∧ wD S e (sTo S i) + 1 = wD S e t)) : wB S e t (i + 1) = wB S e t i := by
  unfold wB
  refine fa_first_cg fun v _ => cB_cg ⟨?_, ?_⟩
  · rintro ⟨j, j1, j2, j3, j4⟩
    by_cases c : j = i
    · rw [c] at j2 j3; exact absurd ⟨j2, by rw [j3]; exact j4⟩ h
    · exact ⟨j, by omega, j2, j3, j4⟩
  · rintro ⟨j, j1, j2⟩; exact ⟨j, by omega, j2⟩
theorem wB_yes {i : Nat} (hv : sTo S i < sN S) (h1 : sFr S i = t) (h2 : wD S e (sTo S i) + 1 = wD S e t) : wB S e t (i + 1) = if sTo S i < wB S e t i then sTo S i else wB S e t i := by
  refine ff_add (p := fun v => cB (∃ j, j < i ∧ sFr S j = t ∧ sTo S j = v ∧ wD S e v + 1 = wD S e t)) hv fun w => ?_
  rw [Bool.eq_iff_iff, Bool.or_eq_true, cB_iff, cB_iff, decide_eq_true_eq]
  constructor
  · rintro ⟨j, j1, j2, j3, j4⟩
    by_cases c : j = i
    · rw [c] at j3; exact Or.inr j3.symm
    · exact Or.inl ⟨j, by omega, j2, j3, j4⟩
  · rintro (⟨j, j1, j2⟩ | c)
    · exact ⟨j, by omega, j2⟩
    · exact ⟨i, by omega, h1, c.symm, by rw [c]; exact h2⟩
theorem rs_nextOn (h : RS M S) (ht : t < sN S) {d : Nat} (hd : wD S e t = d + 1) (hl : d + 1 < sN S) (hI : ∀ u, u < sN S → M.1 7 u = wU S e (sN S) u) : fX11_nextOn (nI t) M = some (nI (wNx S e t)) := by
  have hn := h.2.1.1
  have hm := h.2.1.2.1
  obtain ⟨n1, n2, n3⟩ := wNx_ok h.2.2.1 hd hl
  have m2 : M.1 1 1 = nI (sM S) := h.1.1.2.1
  have xt : M.1 7 t = nI (d + 1) := by rw [hI t ht]; unfold wU; rw [if_pos (by omega), hd]
  have e1 := gLoop_f (body := fun z9 => fX11_nextOn_l4 (nI t) M z9.1 z9.2) (fun i => (gNo (wB S e t i) (sN S), nI i)) (r := gNo (wB S e t (sM S)) (sN S)) (sM S) gFu (by show sM S < 4096; omega) (fun i hi => by
    obtain ⟨b1, b2, -⟩ := h.2.2.1.1 i hi
    obtain ⟨f1, f2⟩ := h.1.2.2.2.1 i hi
    have xv := hI _ b2
    have hx : (M.1 7 (sTo S i) = nI d) = (wD S e (sTo S i) = d) := by
      rw [xv]
      unfold wU
      have := wD_n (S := S) (e := e) (t := sTo S i)
      by_cases c : wD S e (sTo S i) < sN S
      · rw [if_pos c, p_eq (by omega) (by omega)]
      · rw [if_neg c, p_eq (by omega) (by omega)]; exact propext ⟨fun z => by omega, fun z => by omega⟩
    by_cases c : sFr S i = t
    · by_cases g : wD S e (sTo S i) = d
      · have hx2 : M.1 7 (sTo S i) = nI d := hx.mpr g
        rw [wB_yes b2 c (by omega)]
        have wl : wB S e t i ≤ sN S := fa_first_le _ _
        generalize wB S e t i = y at wl
        unfold gNo
        by_cases k1 : y < sN S
        · by_cases k2 : sTo S i < y
          · simp (disch := omega) only [p_bnd, p_nm, p_gSEl, p_gSEr, p_l0, p_l1, p_l2, p_l3, p_l4, p_l5, p_l6, p_l7, p_l8, p_l9, p_l10, p_l14, p_l16, p_l20, p_l22, p_l24, p_l30, p_l31, p_l32, p_l38, p_l40, p_l41, p_l43, p_l48, p_l57, p_l59, p_l60, p_l61, p_l62, p_l63, p_l97, p_l98, p_l101, p_l122, p_l158, p_l201, p_l255, p_l256, p_l374, p_l880, p_l900, p_l1000, p_l2618, p_neg, nI_add, p_mul, p_sub, p_addm, p_addm0, p_subm, p_le, p_lt, p_eq, p_mO_eq, p_eq_mO, p_mO_lt, p_nlt_mO, p_mO_le, p_le_mO, p_rI, p_rL, p_wI, p_wL, p_wF, p_has10, p_has11, p_ib0, p_ib1, p_shl1, p_zv0, p_zv1, p_zvib, p_ibd, p_ibn, if_pos, if_neg, if_true, if_false, ne_eq, not_true, not_false_iff, Decidable.not_not, Nat.not_lt, Nat.not_le, Bool.true_eq_false, Bool.false_eq_true, eq_self, reduceIte, Nat.reduceAdd, Nat.reduceMul, Nat.reduceSub, Nat.reduceEqDiff, Nat.reduceLT, Nat.reduceLeDiff, reduceCtorEq, fX11_nextOn_l4, fX11_nextOn_b61, fX11_nextOn_b79, fX11_nextOn_b85, m2, f1, f2, c, xt, hx2, Nat.add_sub_cancel, k1, k2]
          · simp (disch := omega) only [p_bnd, p_nm, p_gSEl, p_gSEr, p_l0, p_l1, p_l2, p_l3, p_l4, p_l5, p_l6, p_l7, p_l8, p_l9, p_l10, p_l14, p_l16, p_l20, p_l22, p_l24, p_l30, p_l31, p_l32, p_l38, p_l40, p_l41, p_l43, p_l48, p_l57, p_l59, p_l60, p_l61, p_l62, p_l63, p_l97, p_l98, p_l101, p_l122, p_l158, p_l201, p_l255, p_l256, p_l374, p_l880, p_l900, p_l1000, p_l2618, p_neg, nI_add, p_mul, p_sub, p_addm, p_addm0, p_subm, p_le, p_lt, p_eq, p_mO_eq, p_eq_mO, p_mO_lt, p_nlt_mO, p_mO_le, p_le_mO, p_rI, p_rL, p_wI, p_wL, p_wF, p_has10, p_has11, p_ib0, p_ib1, p_shl1, p_zv0, p_zv1, p_zvib, p_ibd, p_ibn, if_pos, if_neg, if_true, if_false, ne_eq, not_true, not_false_iff, Decidable.not_not, Nat.not_lt, Nat.not_le, Bool.true_eq_false, Bool.false_eq_true, eq_self, reduceIte, Nat.reduceAdd, Nat.reduceMul, Nat.reduceSub, Nat.reduceEqDiff, Nat.reduceLT, Nat.reduceLeDiff, reduceCtorEq, fX11_nextOn_l4, fX11_nextOn_b61, fX11_nextOn_b84, fX11_nextOn_b85, m2, f1, f2, c, xt, hx2, Nat.add_sub_cancel, k1, k2]
        · have k2 : sTo S i < y := by omega
          simp (disch := omega) only [p_bnd, p_nm, p_gSEl, p_gSEr, p_l0, p_l1, p_l2, p_l3, p_l4, p_l5, p_l6, p_l7, p_l8, p_l9, p_l10, p_l14, p_l16, p_l20, p_l22, p_l24, p_l30, p_l31, p_l32, p_l38, p_l40, p_l41, p_l43, p_l48, p_l57, p_l59, p_l60, p_l61, p_l62, p_l63, p_l97, p_l98, p_l101, p_l122, p_l158, p_l201, p_l255, p_l256, p_l374, p_l880, p_l900, p_l1000, p_l2618, p_neg, nI_add, p_mul, p_sub, p_addm, p_addm0, p_subm, p_le, p_lt, p_eq, p_mO_eq, p_eq_mO, p_mO_lt, p_nlt_mO, p_mO_le, p_le_mO, p_rI, p_rL, p_wI, p_wL, p_wF, p_has10, p_has11, p_ib0, p_ib1, p_shl1, p_zv0, p_zv1, p_zvib, p_ibd, p_ibn, if_pos, if_neg, if_true, if_false, ne_eq, not_true, not_false_iff, Decidable.not_not, Nat.not_lt, Nat.not_le, Bool.true_eq_false, Bool.false_eq_true, eq_self, reduceIte, Nat.reduceAdd, Nat.reduceMul, Nat.reduceSub, Nat.reduceEqDiff, Nat.reduceLT, Nat.reduceLeDiff, reduceCtorEq, fX11_nextOn_l4, fX11_nextOn_b61, fX11_nextOn_b79, fX11_nextOn_b85, m2, f1, f2, c, xt, hx2, Nat.add_sub_cancel, k1, k2]
      · have hx2 : ¬ M.1 7 (sTo S i) = nI d := fun z => g (hx.mp z)
        rw [wB_no (fun z => g (by omega))]
        simp (disch := omega) only [p_bnd, p_nm, p_gSEl, p_gSEr, p_l0, p_l1, p_l2, p_l3, p_l4, p_l5, p_l6, p_l7, p_l8, p_l9, p_l10, p_l14, p_l16, p_l20, p_l22, p_l24, p_l30, p_l31, p_l32, p_l38, p_l40, p_l41, p_l43, p_l48, p_l57, p_l59, p_l60, p_l61, p_l62, p_l63, p_l97, p_l98, p_l101, p_l122, p_l158, p_l201, p_l255, p_l256, p_l374, p_l880, p_l900, p_l1000, p_l2618, p_neg, nI_add, p_mul, p_sub, p_addm, p_addm0, p_subm, p_le, p_lt, p_eq, p_mO_eq, p_eq_mO, p_mO_lt, p_nlt_mO, p_mO_le, p_le_mO, p_rI, p_rL, p_wI, p_wL, p_wF, p_has10, p_has11, p_ib0, p_ib1, p_shl1, p_zv0, p_zv1, p_zvib, p_ibd, p_ibn, if_pos, if_neg, if_true, if_false, ne_eq, not_true, not_false_iff, Decidable.not_not, Nat.not_lt, Nat.not_le, Bool.true_eq_false, Bool.false_eq_true, eq_self, reduceIte, Nat.reduceAdd, Nat.reduceMul, Nat.reduceSub, Nat.reduceEqDiff, Nat.reduceLT, Nat.reduceLeDiff, reduceCtorEq, fX11_nextOn_l4, fX11_nextOn_b60, fX11_nextOn_b61, fX11_nextOn_b84, fX11_nextOn_b85, m2, f1, f2, c, xt, if_neg hx2, Nat.add_sub_cancel]
    · rw [wB_no (fun z => c z.1)]
      simp (disch := omega) only [p_bnd, p_nm, p_gSEl, p_gSEr, p_l0, p_l1, p_l2, p_l3, p_l4, p_l5, p_l6, p_l7, p_l8, p_l9, p_l10, p_l14, p_l16, p_l20, p_l22, p_l24, p_l30, p_l31, p_l32, p_l38, p_l40, p_l41, p_l43, p_l48, p_l57, p_l59, p_l60, p_l61, p_l62, p_l63, p_l97, p_l98, p_l101, p_l122, p_l158, p_l201, p_l255, p_l256, p_l374, p_l880, p_l900, p_l1000, p_l2618, p_neg, nI_add, p_mul, p_sub, p_addm, p_addm0, p_subm, p_le, p_lt, p_eq, p_mO_eq, p_eq_mO, p_mO_lt, p_nlt_mO, p_mO_le, p_le_mO, p_rI, p_rL, p_wI, p_wL, p_wF, p_has10, p_has11, p_ib0, p_ib1, p_shl1, p_zv0, p_zv1, p_zvib, p_ibd, p_ibn, if_pos, if_neg, if_true, if_false, ne_eq, not_true, not_false_iff, Decidable.not_not, Nat.not_lt, Nat.not_le, Bool.true_eq_false, Bool.false_eq_true, eq_self, reduceIte, Nat.reduceAdd, Nat.reduceMul, Nat.reduceSub, Nat.reduceEqDiff, Nat.reduceLT, Nat.reduceLeDiff, reduceCtorEq, fX11_nextOn_l4, fX11_nextOn_b60, fX11_nextOn_b61, fX11_nextOn_b84, fX11_nextOn_b85, m2, f1, f2, c]) (by simp (disch := omega) only [p_bnd, p_nm, p_gSEl, p_gSEr, p_l0, p_l1, p_l2, p_l3, p_l4, p_l5, p_l6, p_l7, p_l8, p_l9, p_l10, p_l14, p_l16, p_l20, p_l22, p_l24, p_l30, p_l31, p_l32, p_l38, p_l40, p_l41, p_l43, p_l48, p_l57, p_l59, p_l60, p_l61, p_l62, p_l63, p_l97, p_l98, p_l101, p_l122, p_l158, p_l201, p_l255, p_l256, p_l374, p_l880, p_l900, p_l1000, p_l2618, p_neg, nI_add, p_mul, p_sub, p_addm, p_addm0, p_subm, p_le, p_lt, p_eq, p_mO_eq, p_eq_mO, p_mO_lt, p_nlt_mO, p_mO_le, p_le_mO, p_rI, p_rL, p_wI, p_wL, p_wF, p_has10, p_has11, p_ib0, p_ib1, p_shl1, p_zv0, p_zv1, p_zvib, p_ibd, p_ibn, if_pos, if_neg, if_true, if_false, ne_eq, not_true, not_false_iff, Decidable.not_not, Nat.not_lt, Nat.not_le, Bool.true_eq_false, Bool.false_eq_true, eq_self, reduceIte, Nat.reduceAdd, Nat.reduceMul, Nat.reduceSub, Nat.reduceEqDiff, Nat.reduceLT, Nat.reduceLeDiff, reduceCtorEq, fX11_nextOn_l4, m2])
  have e2 : wB S e t (sM S) = wNx S e t := by
    unfold wB wNx
    refine fa_first_cg fun v _ => cB_cg ⟨?_, ?_⟩
    · rintro ⟨j, j1, j2, j3, j4⟩; exact ⟨⟨j, j1, j2, j3⟩, j4⟩
    · rintro ⟨⟨j, j1, j2, j3⟩, j4⟩; exact ⟨j, j1, j2, j3, j4⟩
  have e0 : wB S e t 0 = sN S := ff_no fun v _ => by rw [cB_no]; rintro ⟨j, j1, -⟩; omega
  unfold fX11_nextOn
  have e1 : gLoop (fun z9 => fX11_nextOn_l4 (nI t) M z9.1 z9.2) gFu (gNo (wB S e t 0) (sN S), nI 0) = some (gNo (wB S e t (sM S)) (sN S)) := e1
  rw [e0, e2] at e1
  unfold gNo at e1
  rw [if_neg (by omega), if_pos n1] at e1
  rw [show gLoop (fun z9 => fX11_nextOn_l4 (nI t) M z9.1 z9.2) gFu ((-1 : Int32), (0 : Int32)) = some (nI (wNx S e t)) from e1, p_bnd]
/-- the task behind k steps -/
noncomputable def wIt (S : gS) (e x : Nat) : Nat → Nat
  | 0 => x
  | k + 1 => wNx S e (wIt S e x k)
theorem wIt_ok (h : sW1 S) {x : Nat} (hx : x < sN S) (hd : wD S e x < sN S) : ∀ k, k ≤ wD S e x → wIt S e x k < sN S ∧ wD S e (wIt S e x k) = wD S e x - k
  | 0, _ => ⟨hx, rfl⟩
  | k + 1, hk => by
    obtain ⟨a, b⟩ := wIt_ok h hx hd k (by omega)
    obtain ⟨n1, -, n3⟩ := wNx_ok (S := S) (e := e) (t := wIt S e x k) h (d := wD S e x - (k + 1)) (by omega) (by omega)
    exact ⟨n1, n3⟩
end RW2
