/-! AN ARROW COMES: the reference repairs, whole -/
section RR2
variable {M : gMem} {S : gS} {a b mode : Nat}
/-- part of the row of new heads, ahead of place p -/
noncomputable def oL (S : gS) (a b mode p : Nat) : List (Option Nat) := if p ≤ sPl S a then (List.range (min p (sPl S b))).map some else (List.range (sPl S b)).map some ++ (pIt S a b mode).map (Option.map (fun k => sPl S b + k)) ++ (List.range' (sPl S a + 1) (p - (sPl S a + 1))).map some
theorem oL_end (hpa : sPl S a < sG S) : oL S a b mode (sG S) = pL S a b mode := by
  unfold oL pL; rw [if_neg (by omega)]
theorem oL_len (h : sW S) (ha : a < sN S) (hb : b < sN S) (hlt : sPl S b < sPl S a) {p : Nat} : (oL S a b mode p).length ≤ p := by
  have h1 := pIt_len h ha hb (mode := mode)
  unfold pLn at h1
  unfold oL
  split
  · rw [List.length_map, List.length_range]; omega
  · simp; omega
/-- the orderThen loop -/
theorem rp_order (h : RS M S) (ha : a < sN S) (hb : b < sN S) (hlt : sPl S b < sPl S a) (hp : RQ M (sPl S b) (sPl S a) (wBh S a b) (wAh S a b)) {w1 hw : Int32} (hhw : none ∈ pIt S a b mode → hw = nI (jHd S a b)) (hP : PW M ((pIt S a b mode).map (rfI (sPl S b)))) :
    ∃ M', gLoop (fun z9 => fX11_repairs_l66 w1 hw z9.1 z9.2.1 z9.2.2) gFu ((0 : Int32), (0 : Int32), M) = some (nI (pL S a b mode).length, M') ∧ gFr (fun c _ => c = 9) M M' ∧ OW M' ((pL S a b mode).map (hdW S a b)) := by
  have hn := h.2.1.1
  have hg := h.2.1.2.2.1
  have pa := h.2.p ha
  have pb := h.2.p hb
  obtain ⟨r, e, M', er, F, O⟩ : ∃ r, gLoop (fun z9 => fX11_repairs_l66 w1 hw z9.1 z9.2.1 z9.2.2) gFu ((0 : Int32), (0 : Int32), M) = some r ∧ ∃ M', r = (nI (pL S a b mode).length, M') ∧ gFr (fun c _ => c = 9) M M' ∧ OW M' ((pL S a b mode).map (hdW S a b)) := by
    refine gLoop_i (fun p s => ∃ M', s = (nI (oL S a b mode p).length, nI p, M') ∧ gFr (fun c _ => c = 9) M M' ∧ OW M' ((oL S a b mode p).map (hdW S a b))) _ (sG S) ⟨M, ?_, gFr_rf, ?_⟩ (by show sG S < 4096; omega) ?_
    · unfold oL; rw [if_pos (Nat.zero_le _), Nat.zero_min]; rfl
    · unfold oL; rw [if_pos (Nat.zero_le _), Nat.zero_min]; intro k v hk; simp at hk
    rintro p s hk ⟨M', rfl, hF, hI⟩
    have hRS : RS M' S := RS_of h (gFr_c1 hF (fun k z => by omega))
    have eg : M'.1 1 2 = nI (sG S) := hRS.1.1.2.2.1
    have e10 : M'.1 0 10 = nI (sPl S b) := by rw [(hF 0 10 (by omega)).1]; exact hp.1
    have e11 : M'.1 0 11 = nI (sPl S a) := by rw [(hF 0 11 (by omega)).1]; exact hp.2.1
    have e16 : M'.1 0 16 = nI (pIt S a b mode).length := by rw [(hF 0 16 (by omega)).1, hP.1, List.length_map]
    have hP' : PW M' ((pIt S a b mode).map (rfI (sPl S b))) := by
      unfold PW
      rw [(hF 0 16 (by omega)).1, gFr_c1 hF (c := 8) (fun k z => by omega)]; exact hP
    have hol := oL_len (mode := mode) h.2 ha hb hlt (p := p)
    have hil := pIt_len h.2 ha hb (mode := mode)
    unfold pLn at hil
    rcases Nat.lt_or_ge p (sG S) with q | q
    · have hin := rp_in (x := p) (lo := sPl S b) (hi := sPl S a) (by omega) (by omega) (by omega)
      have hor := rs_or hRS (p := p) q
      have hb112 : ∀ (n : Int32) (M2 : gMem), ¬ p = sPl S a → M2.1 0 16 = nI (pIt S a b mode).length → M2.1 0 11 = nI (sPl S a) → fX11_repairs_b112 w1 hw n (nI p) M2 = some (.inl (n, nI (p + 1), M2)) := fun n M2 hne m16 m11 => by
        unfold fX11_repairs_b112
        have : gLoop (fun z9 => fX11_repairs_l115 w1 hw (nI p) z9.1 z9.2.1 z9.2.2) gFu (n, (0 : Int32), M2) = some (n, M2) := by
          refine gLoop_f (body := fun z9 => fX11_repairs_l115 w1 hw (nI p) z9.1 z9.2.1 z9.2.2) (fun _ => (n, (0 : Int32), M2)) (r := (n, M2)) 0 gFu (by decide) (fun k hk => absurd hk (Nat.not_lt_zero k)) ?_
          by_cases c : (pIt S a b mode).length = 0
          · simp (disch := omega) only [p_bnd, p_nm, p_gSEl, p_gSEr, p_l0, p_l1, p_l2, p_l3, p_l4, p_l5, p_l6, p_l7, p_l8, p_l9, p_l10, p_l14, p_l16, p_l20, p_l22, p_l24, p_l30, p_l31, p_l32, p_l38, p_l40, p_l41, p_l43, p_l48, p_l57, p_l59, p_l60, p_l61, p_l62, p_l63, p_l97, p_l98, p_l101, p_l122, p_l158, p_l201, p_l255, p_l256, p_l374, p_l880, p_l900, p_l1000, p_l2618, p_neg, nI_add, p_mul, p_sub, p_addm, p_addm0, p_subm, p_le, p_lt, p_eq, p_mO_eq, p_eq_mO, p_mO_lt, p_nlt_mO, p_mO_le, p_le_mO, p_rI, p_rL, p_wI, p_wL, p_wF, p_has10, p_has11, p_ib0, p_ib1, p_shl1, p_zv0, p_zv1, p_zvib, p_ibd, p_ibn, if_pos, if_neg, if_true, if_false, ne_eq, not_true, not_false_iff, Decidable.not_not, Nat.not_lt, Nat.not_le, Bool.true_eq_false, Bool.false_eq_true, eq_self, reduceIte, Nat.reduceAdd, Nat.reduceMul, Nat.reduceSub, Nat.reduceEqDiff, Nat.reduceLT, Nat.reduceLeDiff, reduceCtorEq, fX11_repairs_l115, m16, m11]
          · simp (disch := omega) only [p_bnd, p_nm, p_gSEl, p_gSEr, p_l0, p_l1, p_l2, p_l3, p_l4, p_l5, p_l6, p_l7, p_l8, p_l9, p_l10, p_l14, p_l16, p_l20, p_l22, p_l24, p_l30, p_l31, p_l32, p_l38, p_l40, p_l41, p_l43, p_l48, p_l57, p_l59, p_l60, p_l61, p_l62, p_l63, p_l97, p_l98, p_l101, p_l122, p_l158, p_l201, p_l255, p_l256, p_l374, p_l880, p_l900, p_l1000, p_l2618, p_neg, nI_add, p_mul, p_sub, p_addm, p_addm0, p_subm, p_le, p_lt, p_eq, p_mO_eq, p_eq_mO, p_mO_lt, p_nlt_mO, p_mO_le, p_le_mO, p_rI, p_rL, p_wI, p_wL, p_wF, p_has10, p_has11, p_ib0, p_ib1, p_shl1, p_zv0, p_zv1, p_zvib, p_ibd, p_ibn, if_pos, if_neg, if_true, if_false, ne_eq, not_true, not_false_iff, Decidable.not_not, Nat.not_lt, Nat.not_le, Bool.true_eq_false, Bool.false_eq_true, eq_self, reduceIte, Nat.reduceAdd, Nat.reduceMul, Nat.reduceSub, Nat.reduceEqDiff, Nat.reduceLT, Nat.reduceLeDiff, reduceCtorEq, fX11_repairs_l115, m16, m11]
        rw [this, p_bnd]; unfold fX11_repairs_b179
        rw [show nI p + (1 : Int32) = nI (p + 1) from nI_1 p]
      by_cases c1 : sPl S b ≤ p ∧ p ≤ sPl S a
      · rw [decide_eq_true c1] at hin
        have ol : oL S a b mode p = (List.range (sPl S b)).map some := by
          unfold oL; rw [if_pos c1.2, Nat.min_eq_right c1.1]
        by_cases c2 : p = sPl S a
        · -- the part itself
          rw [ol] at hI
          obtain ⟨M2, e2, F2, O2⟩ := rp_inner (w1 := w1) hRS hlt pa e11 hhw hP' hI (by simp; omega)
          have ol2 : oL S a b mode (p + 1) = (List.range (sPl S b)).map some ++ (pIt S a b mode).map (Option.map (fun k => sPl S b + k)) := by
            unfold oL; rw [if_neg (by omega), c2]; simp
          refine Or.inl ⟨(nI (oL S a b mode (p + 1)).length, nI (p + 1), M2), ?_, q, M2, rfl, gFr_tr hF F2, ?_⟩
          · rw [ol, ol2]
            have : fX11_repairs_b112 w1 hw (nI ((List.range (sPl S b)).map some).length) (nI p) M' = some (.inl (nI ((List.range (sPl S b)).map some ++ (pIt S a b mode).map (Option.map (fun k => sPl S b + k))).length, nI (p + 1), M2)) := by
              unfold fX11_repairs_b112
              rw [c2]
              simp only [List.length_map] at e2
              rw [List.length_map, e2, p_bnd]
              unfold fX11_repairs_b179
              rw [show nI (sPl S a) + (1 : Int32) = nI (sPl S a + 1) from nI_1 _]
              simp
            simp (disch := omega) only [p_bnd, p_nm, p_gSEl, p_gSEr, p_l0, p_l1, p_l2, p_l3, p_l4, p_l5, p_l6, p_l7, p_l8, p_l9, p_l10, p_l14, p_l16, p_l20, p_l22, p_l24, p_l30, p_l31, p_l32, p_l38, p_l40, p_l41, p_l43, p_l48, p_l57, p_l59, p_l60, p_l61, p_l62, p_l63, p_l97, p_l98, p_l101, p_l122, p_l158, p_l201, p_l255, p_l256, p_l374, p_l880, p_l900, p_l1000, p_l2618, p_neg, nI_add, p_mul, p_sub, p_addm, p_addm0, p_subm, p_le, p_lt, p_eq, p_mO_eq, p_eq_mO, p_mO_lt, p_nlt_mO, p_mO_le, p_le_mO, p_rI, p_rL, p_wI, p_wL, p_wF, p_has10, p_has11, p_ib0, p_ib1, p_shl1, p_zv0, p_zv1, p_zvib, p_ibd, p_ibn, if_pos, if_neg, if_true, if_false, ne_eq, not_true, not_false_iff, Decidable.not_not, Nat.not_lt, Nat.not_le, Bool.true_eq_false, Bool.false_eq_true, eq_self, reduceIte, Nat.reduceAdd, Nat.reduceMul, Nat.reduceSub, Nat.reduceEqDiff, Nat.reduceLT, Nat.reduceLeDiff, reduceCtorEq, fX11_repairs_l66, eg, e10, e11, hin]
            exact this
          · rw [ol2, List.map_append, List.map_map (l := pIt S a b mode)]; exact O2
        · have ol2 : oL S a b mode (p + 1) = (List.range (sPl S b)).map some := by
            unfold oL; rw [if_pos (by omega), Nat.min_eq_right (by omega)]
          refine Or.inl ⟨(nI (oL S a b mode (p + 1)).length, nI (p + 1), M'), ?_, q, M', rfl, hF, by rw [ol2, ← ol]; exact hI⟩
          rw [ol, ol2]
          simp (disch := omega) only [p_bnd, p_nm, p_gSEl, p_gSEr, p_l0, p_l1, p_l2, p_l3, p_l4, p_l5, p_l6, p_l7, p_l8, p_l9, p_l10, p_l14, p_l16, p_l20, p_l22, p_l24, p_l30, p_l31, p_l32, p_l38, p_l40, p_l41, p_l43, p_l48, p_l57, p_l59, p_l60, p_l61, p_l62, p_l63, p_l97, p_l98, p_l101, p_l122, p_l158, p_l201, p_l255, p_l256, p_l374, p_l880, p_l900, p_l1000, p_l2618, p_neg, nI_add, p_mul, p_sub, p_addm, p_addm0, p_subm, p_le, p_lt, p_eq, p_mO_eq, p_eq_mO, p_mO_lt, p_nlt_mO, p_mO_le, p_le_mO, p_rI, p_rL, p_wI, p_wL, p_wF, p_has10, p_has11, p_ib0, p_ib1, p_shl1, p_zv0, p_zv1, p_zvib, p_ibd, p_ibn, if_pos, if_neg, if_true, if_false, ne_eq, not_true, not_false_iff, Decidable.not_not, Nat.not_lt, Nat.not_le, Bool.true_eq_false, Bool.false_eq_true, eq_self, reduceIte, Nat.reduceAdd, Nat.reduceMul, Nat.reduceSub, Nat.reduceEqDiff, Nat.reduceLT, Nat.reduceLeDiff, reduceCtorEq, fX11_repairs_l66, eg, e10, e11, hin]
          exact hb112 _ M' c2 e16 e11
      · rw [decide_eq_false c1] at hin
        have ol2 : oL S a b mode (p + 1) = oL S a b mode p ++ [some p] := by
          unfold oL
          by_cases c3 : p < sPl S b
          · rw [if_pos (by omega), if_pos (by omega), Nat.min_eq_left (by omega), Nat.min_eq_left (by omega), List.range_succ, List.map_append]; rfl
          · have hr : (List.range' (sPl S a + 1) (p + 1 - (sPl S a + 1))).map some = (List.range' (sPl S a + 1) (p - (sPl S a + 1))).map some ++ [some p] := by
              rw [show p + 1 - (sPl S a + 1) = p - (sPl S a + 1) + 1 by omega, List.range'_concat, List.map_append]
              show _ ++ [some (sPl S a + 1 + 1 * (p - (sPl S a + 1)))] = _
              rw [show sPl S a + 1 + 1 * (p - (sPl S a + 1)) = p by omega]
            rw [if_neg (by omega), if_neg (by omega), hr, List.append_assoc, List.append_assoc, List.append_assoc]
        have hput := OW_put hI (hdW S a b (some p))
        rw [List.length_map] at hput
        refine Or.inl ⟨(nI (oL S a b mode (p + 1)).length, nI (p + 1), gI M' 9 (oL S a b mode p).length (hdW S a b (some p))), ?_, q, _, rfl, gFr_trI hF rfl, by rw [ol2, List.map_append]; exact hput⟩
        rw [ol2, List.length_append]
        simp (disch := omega) only [p_bnd, p_nm, p_gSEl, p_gSEr, p_l0, p_l1, p_l2, p_l3, p_l4, p_l5, p_l6, p_l7, p_l8, p_l9, p_l10, p_l14, p_l16, p_l20, p_l22, p_l24, p_l30, p_l31, p_l32, p_l38, p_l40, p_l41, p_l43, p_l48, p_l57, p_l59, p_l60, p_l61, p_l62, p_l63, p_l97, p_l98, p_l101, p_l122, p_l158, p_l201, p_l255, p_l256, p_l374, p_l880, p_l900, p_l1000, p_l2618, p_neg, nI_add, p_mul, p_sub, p_addm, p_addm0, p_subm, p_le, p_lt, p_eq, p_mO_eq, p_eq_mO, p_mO_lt, p_nlt_mO, p_mO_le, p_le_mO, p_rI, p_rL, p_wI, p_wL, p_wF, p_has10, p_has11, p_ib0, p_ib1, p_shl1, p_zv0, p_zv1, p_zvib, p_ibd, p_ibn, if_pos, if_neg, if_true, if_false, ne_eq, not_true, not_false_iff, Decidable.not_not, Nat.not_lt, Nat.not_le, Bool.true_eq_false, Bool.false_eq_true, eq_self, reduceIte, Nat.reduceAdd, Nat.reduceMul, Nat.reduceSub, Nat.reduceEqDiff, Nat.reduceLT, Nat.reduceLeDiff, reduceCtorEq, fX11_repairs_l66, eg, e10, e11, hin, hor]
        exact hb112 _ _ (by omega) (by rw [p_gI_n (Or.inl (by decide))]; exact e16) (by rw [p_gI_n (Or.inl (by decide))]; exact e11)
    · have e9 : p = sG S := by omega
      rw [e9, oL_end pa] at hI
      refine Or.inr ⟨(nI (oL S a b mode p).length, M'), by simp (disch := omega) only [p_bnd, p_nm, p_gSEl, p_gSEr, p_l0, p_l1, p_l2, p_l3, p_l4, p_l5, p_l6, p_l7, p_l8, p_l9, p_l10, p_l14, p_l16, p_l20, p_l22, p_l24, p_l30, p_l31, p_l32, p_l38, p_l40, p_l41, p_l43, p_l48, p_l57, p_l59, p_l60, p_l61, p_l62, p_l63, p_l97, p_l98, p_l101, p_l122, p_l158, p_l201, p_l255, p_l256, p_l374, p_l880, p_l900, p_l1000, p_l2618, p_neg, nI_add, p_mul, p_sub, p_addm, p_addm0, p_subm, p_le, p_lt, p_eq, p_mO_eq, p_eq_mO, p_mO_lt, p_nlt_mO, p_mO_le, p_le_mO, p_rI, p_rL, p_wI, p_wL, p_wF, p_has10, p_has11, p_ib0, p_ib1, p_shl1, p_zv0, p_zv1, p_zvib, p_ibd, p_ibn, if_pos, if_neg, if_true, if_false, ne_eq, not_true, not_false_iff, Decidable.not_not, Nat.not_lt, Nat.not_le, Bool.true_eq_false, Bool.false_eq_true, eq_self, reduceIte, Nat.reduceAdd, Nat.reduceMul, Nat.reduceSub, Nat.reduceEqDiff, Nat.reduceLT, Nat.reduceLeDiff, reduceCtorEq, fX11_repairs_l66, eg], M', by rw [e9, oL_end pa], hF, hI⟩
  exact ⟨M', by rw [e, er], F, O⟩
/-- placeThen -/
theorem rp_placeThen (h : RS M S) (x1 s0 z : Int32) : ∃ M', gLoop (fun z9 => fX11_repairs_l33 x1 s0 z z9.1 z9.2) gFu ((0 : Int32), M) = some M' ∧ gFr (fun c _ => c = 10) M M' ∧ ∀ t, t < sN S → M'.1 10 t = nI (sPl S t) := by
  have hn := h.2.1.1
  refine gLoop_i (fun k s => ∃ M', s = (nI k, M') ∧ gFr (fun c _ => c = 10) M M' ∧ ∀ t, t < k → M'.1 10 t = nI (sPl S t)) _ (sN S) ⟨M, rfl, gFr_rf, fun t ht => absurd ht (Nat.not_lt_zero _)⟩ (by show sN S < 4096; omega) ?_
  rintro k s hk ⟨M', rfl, hF, hI⟩
  have hRS : RS M' S := RS_of h (gFr_c1 hF (fun k z => by omega))
  have en : M'.1 1 0 = nI (sN S) := hRS.1.1.1
  rcases Nat.lt_or_ge k (sN S) with q | q
  · refine Or.inl ⟨(nI (k + 1), gI M' 10 k (nI (sPl S k))), ?_, q, _, rfl, gFr_trI hF rfl, fun t ht => ?_⟩
    · simp (disch := omega) only [p_bnd, p_nm, p_gSEl, p_gSEr, p_l0, p_l1, p_l2, p_l3, p_l4, p_l5, p_l6, p_l7, p_l8, p_l9, p_l10, p_l14, p_l16, p_l20, p_l22, p_l24, p_l30, p_l31, p_l32, p_l38, p_l40, p_l41, p_l43, p_l48, p_l57, p_l59, p_l60, p_l61, p_l62, p_l63, p_l97, p_l98, p_l101, p_l122, p_l158, p_l201, p_l255, p_l256, p_l374, p_l880, p_l900, p_l1000, p_l2618, p_neg, nI_add, p_mul, p_sub, p_addm, p_addm0, p_subm, p_le, p_lt, p_eq, p_mO_eq, p_eq_mO, p_mO_lt, p_nlt_mO, p_mO_le, p_le_mO, p_rI, p_rL, p_wI, p_wL, p_wF, p_has10, p_has11, p_ib0, p_ib1, p_shl1, p_zv0, p_zv1, p_zvib, p_ibd, p_ibn, if_pos, if_neg, if_true, if_false, ne_eq, not_true, not_false_iff, Decidable.not_not, Nat.not_lt, Nat.not_le, Bool.true_eq_false, Bool.false_eq_true, eq_self, reduceIte, Nat.reduceAdd, Nat.reduceMul, Nat.reduceSub, Nat.reduceEqDiff, Nat.reduceLT, Nat.reduceLeDiff, reduceCtorEq, fX11_repairs_l33, en, rs_placeOf hRS q]
    · rw [p_gI]
      by_cases e : t = k
      · rw [if_pos ⟨rfl, e⟩, e]
      · rw [if_neg (fun z => e z.2)]; exact hI t (by omega)
  · exact Or.inr ⟨M', by simp (disch := omega) only [p_bnd, p_nm, p_gSEl, p_gSEr, p_l0, p_l1, p_l2, p_l3, p_l4, p_l5, p_l6, p_l7, p_l8, p_l9, p_l10, p_l14, p_l16, p_l20, p_l22, p_l24, p_l30, p_l31, p_l32, p_l38, p_l40, p_l41, p_l43, p_l48, p_l57, p_l59, p_l60, p_l61, p_l62, p_l63, p_l97, p_l98, p_l101, p_l122, p_l158, p_l201, p_l255, p_l256, p_l374, p_l880, p_l900, p_l1000, p_l2618, p_neg, nI_add, p_mul, p_sub, p_addm, p_addm0, p_subm, p_le, p_lt, p_eq, p_mO_eq, p_eq_mO, p_mO_lt, p_nlt_mO, p_mO_le, p_le_mO, p_rI, p_rL, p_wI, p_wL, p_wF, p_has10, p_has11, p_ib0, p_ib1, p_shl1, p_zv0, p_zv1, p_zvib, p_ibd, p_ibn, if_pos, if_neg, if_true, if_false, ne_eq, not_true, not_false_iff, Decidable.not_not, Nat.not_lt, Nat.not_le, Bool.true_eq_false, Bool.false_eq_true, eq_self, reduceIte, Nat.reduceAdd, Nat.reduceMul, Nat.reduceSub, Nat.reduceEqDiff, Nat.reduceLT, Nat.reduceLeDiff, reduceCtorEq, fX11_repairs_l33, en], hF, fun t ht => hI t (by omega)⟩
/-- the new heads of the joined tasks -/
theorem rp_heads (hn : M.1 1 0 = nI (sN S)) (hn24 : sN S ≤ 24) (hpl : ∀ t, t < sN S → M.1 10 t = nI (sPl S t) ∧ sPl S t < 24) {hw x3 : Int32} : ∃ M', gLoop (fun z9 => fX11_repairs_l188 (wBh S a b &&& wAh S a b) hw x3 z9.1 z9.2) gFu ((0 : Int32), M) = some M' ∧ gFr (fun c k => c = 1 ∧ ∃ t, t < sN S ∧ k = 158 + 9 * t + 1) M M' ∧ ∀ t, t < sN S → M'.1 1 (158 + 9 * t + 1) = if pKey S a b t = none then hw else M.1 1 (158 + 9 * t + 1) := by
  refine gLoop_i (fun k s => ∃ M', s = (nI k, M') ∧ gFr (fun c k => c = 1 ∧ ∃ t, t < sN S ∧ k = 158 + 9 * t + 1) M M' ∧ ∀ t, t < sN S → M'.1 1 (158 + 9 * t + 1) = if t < k ∧ pKey S a b t = none then hw else M.1 1 (158 + 9 * t + 1)) _ (sN S) ⟨M, rfl, gFr_rf, fun t ht => by rw [if_neg (fun z => absurd z.1 (Nat.not_lt_zero _))]⟩ (by show sN S < 4096; omega) ?_
  rintro k s hk ⟨M', rfl, hF, hI⟩
  have en : M'.1 1 0 = nI (sN S) := by rw [(hF 1 0 (by rintro ⟨-, t, -, z⟩; omega)).1]; exact hn
  rcases Nat.lt_or_ge k (sN S) with q | q
  · obtain ⟨hp1, hp2⟩ := hpl k q
    have e10 : M'.1 10 k = nI (sPl S k) := by rw [(hF 10 k (by rintro ⟨z, -⟩; omega)).1]; exact hp1
    by_cases c : pKey S a b k = none
    · obtain ⟨c1, c2⟩ := pKey_none.mp c
      have hbt : bt (wBh S a b &&& wAh S a b) (sPl S k) = true := by rw [b_and, c1, c2]; rfl
      have hnz : ¬ (wBh S a b &&& wAh S a b = nI 0) := p_nz.mpr ⟨_, by omega, hbt⟩
      have hbt' := hbt
      rw [b_and] at hbt'
      refine Or.inl ⟨(nI (k + 1), gI M' 1 (158 + 9 * k + 1) hw), ?_, q, _, rfl, gFr_trI hF ⟨rfl, k, q, rfl⟩, fun t ht => ?_⟩
      · unfold fX11_repairs_l188
        simp (disch := omega) only [p_bnd, p_nm, p_gSEl, p_gSEr, p_l0, p_l1, p_l2, p_l3, p_l4, p_l5, p_l6, p_l7, p_l8, p_l9, p_l10, p_l14, p_l16, p_l20, p_l22, p_l24, p_l30, p_l31, p_l32, p_l38, p_l40, p_l41, p_l43, p_l48, p_l57, p_l59, p_l60, p_l61, p_l62, p_l63, p_l97, p_l98, p_l101, p_l122, p_l158, p_l201, p_l255, p_l256, p_l374, p_l880, p_l900, p_l1000, p_l2618, p_neg, nI_add, p_mul, p_sub, p_addm, p_addm0, p_subm, p_le, p_lt, p_eq, p_mO_eq, p_eq_mO, p_mO_lt, p_nlt_mO, p_mO_le, p_le_mO, p_rI, p_rL, p_wI, p_wL, p_wF, p_has10, p_has11, p_ib0, p_ib1, p_shl1, p_zv0, p_zv1, p_zvib, p_ibd, p_ibn, if_pos, if_neg, if_true, if_false, ne_eq, not_true, not_false_iff, Decidable.not_not, Nat.not_lt, Nat.not_le, Bool.true_eq_false, Bool.false_eq_true, eq_self, reduceIte, Nat.reduceAdd, Nat.reduceMul, Nat.reduceSub, Nat.reduceEqDiff, Nat.reduceLT, Nat.reduceLeDiff, reduceCtorEq, en, e10, hbt, fX11_puts, fX11_repairs_b225]
      · rw [p_gI]
        by_cases e : t = k
        · rw [e, if_pos ⟨rfl, rfl⟩, if_pos ⟨by omega, c⟩]
        · rw [if_neg (fun z => by omega), hI t ht]
          by_cases e2 : t < k ∧ pKey S a b t = none
          · rw [if_pos e2, if_pos ⟨by omega, e2.2⟩]
          · rw [if_neg e2, if_neg (fun z => e2 ⟨by omega, z.2⟩)]
    · have hb2 : bt (wBh S a b &&& wAh S a b) (sPl S k) = false := by
        rw [b_and, ← Bool.not_eq_true, Bool.and_eq_true]; exact fun z => c (pKey_none.mpr z)
      refine Or.inl ⟨(nI (k + 1), M'), ?_, q, _, rfl, hF, fun t ht => ?_⟩
      · unfold fX11_repairs_l188
        simp (disch := omega) only [p_bnd, p_nm, p_gSEl, p_gSEr, p_l0, p_l1, p_l2, p_l3, p_l4, p_l5, p_l6, p_l7, p_l8, p_l9, p_l10, p_l14, p_l16, p_l20, p_l22, p_l24, p_l30, p_l31, p_l32, p_l38, p_l40, p_l41, p_l43, p_l48, p_l57, p_l59, p_l60, p_l61, p_l62, p_l63, p_l97, p_l98, p_l101, p_l122, p_l158, p_l201, p_l255, p_l256, p_l374, p_l880, p_l900, p_l1000, p_l2618, p_neg, nI_add, p_mul, p_sub, p_addm, p_addm0, p_subm, p_le, p_lt, p_eq, p_mO_eq, p_eq_mO, p_mO_lt, p_nlt_mO, p_mO_le, p_le_mO, p_rI, p_rL, p_wI, p_wL, p_wF, p_has10, p_has11, p_ib0, p_ib1, p_shl1, p_zv0, p_zv1, p_zvib, p_ibd, p_ibn, if_pos, if_neg, if_true, if_false, ne_eq, not_true, not_false_iff, Decidable.not_not, Nat.not_lt, Nat.not_le, Bool.true_eq_false, Bool.false_eq_true, eq_self, reduceIte, Nat.reduceAdd, Nat.reduceMul, Nat.reduceSub, Nat.reduceEqDiff, Nat.reduceLT, Nat.reduceLeDiff, reduceCtorEq, en]
        by_cases hz : wBh S a b &&& wAh S a b = nI 0
        · refine (if_pos hz).trans ?_
          simp (disch := omega) only [p_bnd, p_nm, p_gSEl, p_gSEr, p_l0, p_l1, p_l2, p_l3, p_l4, p_l5, p_l6, p_l7, p_l8, p_l9, p_l10, p_l14, p_l16, p_l20, p_l22, p_l24, p_l30, p_l31, p_l32, p_l38, p_l40, p_l41, p_l43, p_l48, p_l57, p_l59, p_l60, p_l61, p_l62, p_l63, p_l97, p_l98, p_l101, p_l122, p_l158, p_l201, p_l255, p_l256, p_l374, p_l880, p_l900, p_l1000, p_l2618, p_neg, nI_add, p_mul, p_sub, p_addm, p_addm0, p_subm, p_le, p_lt, p_eq, p_mO_eq, p_eq_mO, p_mO_lt, p_nlt_mO, p_mO_le, p_le_mO, p_rI, p_rL, p_wI, p_wL, p_wF, p_has10, p_has11, p_ib0, p_ib1, p_shl1, p_zv0, p_zv1, p_zvib, p_ibd, p_ibn, if_pos, if_neg, if_true, if_false, ne_eq, not_true, not_false_iff, Decidable.not_not, Nat.not_lt, Nat.not_le, Bool.true_eq_false, Bool.false_eq_true, eq_self, reduceIte, Nat.reduceAdd, Nat.reduceMul, Nat.reduceSub, Nat.reduceEqDiff, Nat.reduceLT, Nat.reduceLeDiff, reduceCtorEq, fX11_repairs_b225]
        · refine (if_neg hz).trans ?_
          simp (disch := omega) only [p_bnd, p_nm, p_gSEl, p_gSEr, p_l0, p_l1, p_l2, p_l3, p_l4, p_l5, p_l6, p_l7, p_l8, p_l9, p_l10, p_l14, p_l16, p_l20, p_l22, p_l24, p_l30, p_l31, p_l32, p_l38, p_l40, p_l41, p_l43, p_l48, p_l57, p_l59, p_l60, p_l61, p_l62, p_l63, p_l97, p_l98, p_l101, p_l122, p_l158, p_l201, p_l255, p_l256, p_l374, p_l880, p_l900, p_l1000, p_l2618, p_neg, nI_add, p_mul, p_sub, p_addm, p_addm0, p_subm, p_le, p_lt, p_eq, p_mO_eq, p_eq_mO, p_mO_lt, p_nlt_mO, p_mO_le, p_le_mO, p_rI, p_rL, p_wI, p_wL, p_wF, p_has10, p_has11, p_ib0, p_ib1, p_shl1, p_zv0, p_zv1, p_zvib, p_ibd, p_ibn, if_pos, if_neg, if_true, if_false, ne_eq, not_true, not_false_iff, Decidable.not_not, Nat.not_lt, Nat.not_le, Bool.true_eq_false, Bool.false_eq_true, eq_self, reduceIte, Nat.reduceAdd, Nat.reduceMul, Nat.reduceSub, Nat.reduceEqDiff, Nat.reduceLT, Nat.reduceLeDiff, reduceCtorEq, e10, hb2, fX11_repairs_b225]
      · rw [hI t ht]
        by_cases e2 : t < k ∧ pKey S a b t = none
        · rw [if_pos e2, if_pos ⟨by omega, e2.2⟩]
        · rw [if_neg e2, if_neg (fun z => ?_)]
          by_cases e : t = k
          · rw [e] at z; exact c z.2
          · exact e2 ⟨by omega, z.2⟩
  · refine Or.inr ⟨M', by unfold fX11_repairs_l188; simp (disch := omega) only [p_bnd, p_nm, p_gSEl, p_gSEr, p_l0, p_l1, p_l2, p_l3, p_l4, p_l5, p_l6, p_l7, p_l8, p_l9, p_l10, p_l14, p_l16, p_l20, p_l22, p_l24, p_l30, p_l31, p_l32, p_l38, p_l40, p_l41, p_l43, p_l48, p_l57, p_l59, p_l60, p_l61, p_l62, p_l63, p_l97, p_l98, p_l101, p_l122, p_l158, p_l201, p_l255, p_l256, p_l374, p_l880, p_l900, p_l1000, p_l2618, p_neg, nI_add, p_mul, p_sub, p_addm, p_addm0, p_subm, p_le, p_lt, p_eq, p_mO_eq, p_eq_mO, p_mO_lt, p_nlt_mO, p_mO_le, p_le_mO, p_rI, p_rL, p_wI, p_wL, p_wF, p_has10, p_has11, p_ib0, p_ib1, p_shl1, p_zv0, p_zv1, p_zvib, p_ibd, p_ibn, if_pos, if_neg, if_true, if_false, ne_eq, not_true, not_false_iff, Decidable.not_not, Nat.not_lt, Nat.not_le, Bool.true_eq_false, Bool.false_eq_true, eq_self, reduceIte, Nat.reduceAdd, Nat.reduceMul, Nat.reduceSub, Nat.reduceEqDiff, Nat.reduceLT, Nat.reduceLeDiff, reduceCtorEq, en], hF, fun t ht => ?_⟩
    rw [hI t ht]
    by_cases e2 : pKey S a b t = none
    · rw [if_pos e2, if_pos ⟨by omega, e2⟩]
    · rw [if_neg e2, if_neg (fun z => e2 z.2)]
theorem rp_orders {l : List Int32} (hO : OW M l) (hl : l.length ≤ 24) : ∃ M', gLoop (fun z9 => fX11_repairs_l234 (nI l.length) z9.1 z9.2) gFu ((0 : Int32), M) = some M' ∧ gFr (fun c k => c = 1 ∧ 14 ≤ k ∧ k < 14 + l.length) M M' ∧ ∀ p v, l[p]? = some v → M'.1 1 (14 + p) = v := by
  refine gLoop_i (fun k s => ∃ M', s = (nI k, M') ∧ gFr (fun c k => c = 1 ∧ 14 ≤ k ∧ k < 14 + l.length) M M' ∧ ∀ p v, p < k → l[p]? = some v → M'.1 1 (14 + p) = v) _ l.length ⟨M, rfl, gFr_rf, fun p v hp => absurd hp (Nat.not_lt_zero _)⟩ (by show l.length < 4096; omega) ?_
  rintro k s hk ⟨M', rfl, hF, hI⟩
  rcases Nat.lt_or_ge k l.length with q | q
  · obtain ⟨v, hv⟩ : ∃ v, l[k]? = some v := ⟨_, List.getElem?_eq_getElem q⟩
    have e9 : M'.1 9 k = v := by rw [(hF 9 k (by omega)).1]; exact hO k v hv
    refine Or.inl ⟨(nI (k + 1), gI M' 1 (14 + k) v), ?_, q, _, rfl, gFr_trI hF ⟨rfl, by omega, by omega⟩, fun p w h1 h2 => ?_⟩
    · simp (disch := omega) only [p_bnd, p_nm, p_gSEl, p_gSEr, p_l0, p_l1, p_l2, p_l3, p_l4, p_l5, p_l6, p_l7, p_l8, p_l9, p_l10, p_l14, p_l16, p_l20, p_l22, p_l24, p_l30, p_l31, p_l32, p_l38, p_l40, p_l41, p_l43, p_l48, p_l57, p_l59, p_l60, p_l61, p_l62, p_l63, p_l97, p_l98, p_l101, p_l122, p_l158, p_l201, p_l255, p_l256, p_l374, p_l880, p_l900, p_l1000, p_l2618, p_neg, nI_add, p_mul, p_sub, p_addm, p_addm0, p_subm, p_le, p_lt, p_eq, p_mO_eq, p_eq_mO, p_mO_lt, p_nlt_mO, p_mO_le, p_le_mO, p_rI, p_rL, p_wI, p_wL, p_wF, p_has10, p_has11, p_ib0, p_ib1, p_shl1, p_zv0, p_zv1, p_zvib, p_ibd, p_ibn, if_pos, if_neg, if_true, if_false, ne_eq, not_true, not_false_iff, Decidable.not_not, Nat.not_lt, Nat.not_le, Bool.true_eq_false, Bool.false_eq_true, eq_self, reduceIte, Nat.reduceAdd, Nat.reduceMul, Nat.reduceSub, Nat.reduceEqDiff, Nat.reduceLT, Nat.reduceLeDiff, reduceCtorEq, fX11_repairs_l234, e9]
    · rw [p_gI]
      by_cases e : p = k
      · rw [e, if_pos ⟨rfl, rfl⟩]; rw [e, hv] at h2; exact Option.some.inj h2
      · rw [if_neg (fun z => by omega)]; exact hI p w (by omega) h2
  · exact Or.inr ⟨M', by simp (disch := omega) only [p_bnd, p_nm, p_gSEl, p_gSEr, p_l0, p_l1, p_l2, p_l3, p_l4, p_l5, p_l6, p_l7, p_l8, p_l9, p_l10, p_l14, p_l16, p_l20, p_l22, p_l24, p_l30, p_l31, p_l32, p_l38, p_l40, p_l41, p_l43, p_l48, p_l57, p_l59, p_l60, p_l61, p_l62, p_l63, p_l97, p_l98, p_l101, p_l122, p_l158, p_l201, p_l255, p_l256, p_l374, p_l880, p_l900, p_l1000, p_l2618, p_neg, nI_add, p_mul, p_sub, p_addm, p_addm0, p_subm, p_le, p_lt, p_eq, p_mO_eq, p_eq_mO, p_mO_lt, p_nlt_mO, p_mO_le, p_le_mO, p_rI, p_rL, p_wI, p_wL, p_wF, p_has10, p_has11, p_ib0, p_ib1, p_shl1, p_zv0, p_zv1, p_zvib, p_ibd, p_ibn, if_pos, if_neg, if_true, if_false, ne_eq, not_true, not_false_iff, Decidable.not_not, Nat.not_lt, Nat.not_le, Bool.true_eq_false, Bool.false_eq_true, eq_self, reduceIte, Nat.reduceAdd, Nat.reduceMul, Nat.reduceSub, Nat.reduceEqDiff, Nat.reduceLT, Nat.reduceLeDiff, reduceCtorEq, fX11_repairs_l234], hF, fun p v h => hI p v (by have := (List.getElem?_eq_some_iff.mp h).1; omega) h⟩
end RR2
