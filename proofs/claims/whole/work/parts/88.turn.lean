/-! THE FRESH ORDER: turned pairs, both sides -/
section TP
variable {M : gMem} {S : gS} {t : Nat}
/-- pairs j < k with f k < f j, counted by the later one and by the earlier one -/
def tpL (f : Nat → Nat) (n : Nat) : Nat := fb_sm (fun k => fb_ct (fun j => decide (f k < f j)) k) n
def tpE (f : Nat → Nat) (n : Nat) : Nat := fb_sm (fun j => fb_ct (fun i => decide (f (j + 1 + i) < f j)) (n - (j + 1))) n
theorem sm_ct (p : Nat → Bool) : ∀ n, fb_sm (fun k => if p k then 1 else 0) n = fb_ct p n
  | 0 => rfl
  | n + 1 => by rw [fb_sm_succ, fb_ct_succ, sm_ct p n]
theorem tp_eq (f : Nat → Nat) : ∀ n, tpL f n = tpE f n
  | 0 => rfl
  | n + 1 => by
    have h1 : tpL f (n + 1) = tpL f n + fb_ct (fun j => decide (f n < f j)) n := rfl
    have h2 : tpE f (n + 1) = fb_sm (fun j => fb_ct (fun i => decide (f (j + 1 + i) < f j)) (n + 1 - (j + 1))) n + 0 := by
      unfold tpE
      rw [fb_sm_succ]
      congr 1
      rw [Nat.sub_self]; rfl
    have h3 : fb_sm (fun j => fb_ct (fun i => decide (f (j + 1 + i) < f j)) (n + 1 - (j + 1))) n = fb_sm (fun j => fb_ct (fun i => decide (f (j + 1 + i) < f j)) (n - (j + 1)) + (if decide (f n < f j) = true then 1 else 0)) n := fb_sm_cong fun j hj => by
      rw [show n + 1 - (j + 1) = n - (j + 1) + 1 by omega, fb_ct_succ, show j + 1 + (n - (j + 1)) = n by omega]
    rw [h1, h2, h3, fb_sm_add, Nat.add_zero, tp_eq f n, sm_ct (fun j => decide (f n < f j)) n]
    rfl
def fF (S : gS) (k : Nat) : Nat := sPl S ((fO S).getD k 0)
theorem fF_lt (h : sW S) {k : Nat} (hk : k < sG S) : fF S k < sG S := h.p (fO_at h hk).2.1
theorem tpL_le (f : Nat → Nat) (n : Nat) (hn : n ≤ 24) : tpL f n ≤ 24 * 24 := Nat.le_trans (fb_sm_bound (c := 24) (fun k hk => Nat.le_trans (fb_ct_le _ _) (by omega))) (Nat.mul_le_mul_right 24 hn)
theorem cs_turnedPairs (hg : M.1 t 11 = nI (sG S)) (h : sW S) (hC : ∀ k, k < sG S → M.1 47 k = nI (fF S k)) : fX8_turnedPairs t M = some (nI (tpL (fF S) (sG S))) := by
  have hn := h.1.1
  have hgl := h.1.2.2.1
  have inn : ∀ {k : Nat}, k < sG S → ∀ a : Nat, gLoop (fun z9 => fX8_turnedPairs_l15 t (nI k) M z9.1 z9.2) gFu (nI a, (0 : Int32)) = some (nI (a + fb_ct (fun j => decide (fF S k < fF S j)) k)) := fun {k} hk a => by
    have ck := hC k hk
    have lk := fF_lt h hk
    exact gLoop_f (body := fun z9 => fX8_turnedPairs_l15 t (nI k) M z9.1 z9.2) (fun j => (nI (a + fb_ct (fun j => decide (fF S k < fF S j)) j), nI j)) k gFu (by show k < 4096; omega) (fun j hj => by
      have cj := hC j (by omega)
      have lj := fF_lt h (show j < sG S by omega)
      by_cases c : fF S k < fF S j
      · simp (disch := omega) only [p_bnd, p_nm, p_gSEl, p_gSEr, p_l0, p_l1, p_l2, p_l3, p_l4, p_l5, p_l6, p_l7, p_l8, p_l9, p_l10, p_l14, p_l16, p_l20, p_l22, p_l24, p_l30, p_l31, p_l32, p_l38, p_l40, p_l41, p_l43, p_l48, p_l57, p_l59, p_l60, p_l61, p_l62, p_l63, p_l97, p_l98, p_l101, p_l122, p_l158, p_l201, p_l255, p_l256, p_l374, p_l880, p_l900, p_l1000, p_l2618, p_neg, nI_add, p_mul, p_sub, p_addm, p_addm0, p_subm, p_le, p_lt, p_eq, p_mO_eq, p_eq_mO, p_mO_lt, p_nlt_mO, p_mO_le, p_le_mO, p_rI, p_rL, p_wI, p_wL, p_wF, p_has10, p_has11, p_ib0, p_ib1, p_shl1, p_zv0, p_zv1, p_zvib, p_ibd, p_ibn, if_pos, if_neg, if_true, if_false, ne_eq, not_true, not_false_iff, Decidable.not_not, Nat.not_lt, Nat.not_le, Bool.true_eq_false, Bool.false_eq_true, eq_self, reduceIte, Nat.reduceAdd, Nat.reduceMul, Nat.reduceSub, Nat.reduceEqDiff, Nat.reduceLT, Nat.reduceLeDiff, reduceCtorEq, fX8_turnedPairs_l15, fX8_turnedPairs_b40, ck, cj, c, fb_ct_succ, decide_true, Nat.add_assoc]
      · simp (disch := omega) only [p_bnd, p_nm, p_gSEl, p_gSEr, p_l0, p_l1, p_l2, p_l3, p_l4, p_l5, p_l6, p_l7, p_l8, p_l9, p_l10, p_l14, p_l16, p_l20, p_l22, p_l24, p_l30, p_l31, p_l32, p_l38, p_l40, p_l41, p_l43, p_l48, p_l57, p_l59, p_l60, p_l61, p_l62, p_l63, p_l97, p_l98, p_l101, p_l122, p_l158, p_l201, p_l255, p_l256, p_l374, p_l880, p_l900, p_l1000, p_l2618, p_neg, nI_add, p_mul, p_sub, p_addm, p_addm0, p_subm, p_le, p_lt, p_eq, p_mO_eq, p_eq_mO, p_mO_lt, p_nlt_mO, p_mO_le, p_le_mO, p_rI, p_rL, p_wI, p_wL, p_wF, p_has10, p_has11, p_ib0, p_ib1, p_shl1, p_zv0, p_zv1, p_zvib, p_ibd, p_ibn, if_pos, if_neg, if_true, if_false, ne_eq, not_true, not_false_iff, Decidable.not_not, Nat.not_lt, Nat.not_le, Bool.true_eq_false, Bool.false_eq_true, eq_self, reduceIte, Nat.reduceAdd, Nat.reduceMul, Nat.reduceSub, Nat.reduceEqDiff, Nat.reduceLT, Nat.reduceLeDiff, reduceCtorEq, fX8_turnedPairs_l15, fX8_turnedPairs_b40, ck, cj, c, fb_ct_succ, decide_false, Nat.add_zero]) (by simp (disch := omega) only [p_bnd, p_nm, p_gSEl, p_gSEr, p_l0, p_l1, p_l2, p_l3, p_l4, p_l5, p_l6, p_l7, p_l8, p_l9, p_l10, p_l14, p_l16, p_l20, p_l22, p_l24, p_l30, p_l31, p_l32, p_l38, p_l40, p_l41, p_l43, p_l48, p_l57, p_l59, p_l60, p_l61, p_l62, p_l63, p_l97, p_l98, p_l101, p_l122, p_l158, p_l201, p_l255, p_l256, p_l374, p_l880, p_l900, p_l1000, p_l2618, p_neg, nI_add, p_mul, p_sub, p_addm, p_addm0, p_subm, p_le, p_lt, p_eq, p_mO_eq, p_eq_mO, p_mO_lt, p_nlt_mO, p_mO_le, p_le_mO, p_rI, p_rL, p_wI, p_wL, p_wF, p_has10, p_has11, p_ib0, p_ib1, p_shl1, p_zv0, p_zv1, p_zvib, p_ibd, p_ibn, if_pos, if_neg, if_true, if_false, ne_eq, not_true, not_false_iff, Decidable.not_not, Nat.not_lt, Nat.not_le, Bool.true_eq_false, Bool.false_eq_true, eq_self, reduceIte, Nat.reduceAdd, Nat.reduceMul, Nat.reduceSub, Nat.reduceEqDiff, Nat.reduceLT, Nat.reduceLeDiff, reduceCtorEq, fX8_turnedPairs_l15])
  have e := gLoop_f (body := fun z9 => fX8_turnedPairs_l4 t M z9.1 z9.2) (fun k => (nI (tpL (fF S) k), nI k)) (r := nI (tpL (fF S) (sG S))) (sG S) gFu (by show sG S < 4096; omega) (fun k hk => by
    have i := inn hk (tpL (fF S) k)
    rw [show (0 : Int32) = nI 0 from rfl] at i
    have s : tpL (fF S) (k + 1) = tpL (fF S) k + fb_ct (fun j => decide (fF S k < fF S j)) k := rfl
    simp (disch := omega) only [p_bnd, p_nm, p_gSEl, p_gSEr, p_l0, p_l1, p_l2, p_l3, p_l4, p_l5, p_l6, p_l7, p_l8, p_l9, p_l10, p_l14, p_l16, p_l20, p_l22, p_l24, p_l30, p_l31, p_l32, p_l38, p_l40, p_l41, p_l43, p_l48, p_l57, p_l59, p_l60, p_l61, p_l62, p_l63, p_l97, p_l98, p_l101, p_l122, p_l158, p_l201, p_l255, p_l256, p_l374, p_l880, p_l900, p_l1000, p_l2618, p_neg, nI_add, p_mul, p_sub, p_addm, p_addm0, p_subm, p_le, p_lt, p_eq, p_mO_eq, p_eq_mO, p_mO_lt, p_nlt_mO, p_mO_le, p_le_mO, p_rI, p_rL, p_wI, p_wL, p_wF, p_has10, p_has11, p_ib0, p_ib1, p_shl1, p_zv0, p_zv1, p_zvib, p_ibd, p_ibn, if_pos, if_neg, if_true, if_false, ne_eq, not_true, not_false_iff, Decidable.not_not, Nat.not_lt, Nat.not_le, Bool.true_eq_false, Bool.false_eq_true, eq_self, reduceIte, Nat.reduceAdd, Nat.reduceMul, Nat.reduceSub, Nat.reduceEqDiff, Nat.reduceLT, Nat.reduceLeDiff, reduceCtorEq, fX8_turnedPairs_l4, hg, i, s]) (by simp (disch := omega) only [p_bnd, p_nm, p_gSEl, p_gSEr, p_l0, p_l1, p_l2, p_l3, p_l4, p_l5, p_l6, p_l7, p_l8, p_l9, p_l10, p_l14, p_l16, p_l20, p_l22, p_l24, p_l30, p_l31, p_l32, p_l38, p_l40, p_l41, p_l43, p_l48, p_l57, p_l59, p_l60, p_l61, p_l62, p_l63, p_l97, p_l98, p_l101, p_l122, p_l158, p_l201, p_l255, p_l256, p_l374, p_l880, p_l900, p_l1000, p_l2618, p_neg, nI_add, p_mul, p_sub, p_addm, p_addm0, p_subm, p_le, p_lt, p_eq, p_mO_eq, p_eq_mO, p_mO_lt, p_nlt_mO, p_mO_le, p_le_mO, p_rI, p_rL, p_wI, p_wL, p_wF, p_has10, p_has11, p_ib0, p_ib1, p_shl1, p_zv0, p_zv1, p_zvib, p_ibd, p_ibn, if_pos, if_neg, if_true, if_false, ne_eq, not_true, not_false_iff, Decidable.not_not, Nat.not_lt, Nat.not_le, Bool.true_eq_false, Bool.false_eq_true, eq_self, reduceIte, Nat.reduceAdd, Nat.reduceMul, Nat.reduceSub, Nat.reduceEqDiff, Nat.reduceLT, Nat.reduceLeDiff, reduceCtorEq, fX8_turnedPairs_l4, hg])
  unfold fX8_turnedPairs
  exact (congrArg (fun o => o.bind fun w => some w) e).trans rfl
theorem rs_turned (h : RS M S) : ∃ M', fX11_turned M = some (nI (tpE (fF S) (sG S)), M') ∧ gFr (fun c k => c = 11 ∨ (c = 0 ∧ k = 0)) M M' ∧ M'.1 0 0 = nI 0 := by
  have hn := h.2.1.1
  have hgl := h.2.1.2.2.1
  obtain ⟨M1, e1, F1, H1⟩ := rs_laysFresh (M := gI M 0 0 (nI 0)) (RS_of h (p_gI_o (by decide)))
  have h1 : RS M1 S := RS_of h ((gFr_c1 F1 (fun _ => by omega)).trans (p_gI_o (by decide)))
  have g2 : M1.1 1 2 = nI (sG S) := h1.1.1.2.2.1
  have pl : ∀ {k : Nat}, k < sG S → ∃ x, M1.1 11 k = nI x ∧ fX11_placeOfHead (nI x) M1 = some (nI (fF S k)) := fun {k} hk => by
    obtain ⟨e, a, b⟩ := fO_at h.2 hk
    have := H1 k _ e
    rw [Nat.zero_add] at this
    refine ⟨_, this, ?_⟩
    have e2 := rs_placeOfHead h1 (fF_lt h.2 hk)
    unfold fF at e2
    rw [b] at e2; exact e2
  have inn : ∀ {k : Nat}, k < sG S → ∀ a : Nat, gLoop (fun z9 => fX11_turned_l27 (nI k) M1 z9.1 z9.2) gFu (nI a, nI (k + 1)) = some (nI (a + fb_ct (fun i => decide (fF S (k + 1 + i) < fF S k)) (sG S - (k + 1)))) := fun {k} hk a => by
    obtain ⟨x, hx, px⟩ := pl hk
    have lk := fF_lt h.2 hk
    exact gLoop_f (body := fun z9 => fX11_turned_l27 (nI k) M1 z9.1 z9.2) (fun i => (nI (a + fb_ct (fun i => decide (fF S (k + 1 + i) < fF S k)) i), nI (k + 1 + i))) (sG S - (k + 1)) gFu (by show sG S - (k + 1) < 4096; omega) (fun i hi => by
      obtain ⟨y, hy, py⟩ := pl (show k + (1 + i) < sG S by omega)
      have lj := fF_lt h.2 (show k + (1 + i) < sG S by omega)
      by_cases c : fF S (k + (1 + i)) < fF S k
      · have c2 : decide (fF S k ≤ fF S (k + (1 + i))) = false := decide_eq_false (by omega)
        simp (disch := omega) only [p_bnd, p_nm, p_gSEl, p_gSEr, p_l0, p_l1, p_l2, p_l3, p_l4, p_l5, p_l6, p_l7, p_l8, p_l9, p_l10, p_l14, p_l16, p_l20, p_l22, p_l24, p_l30, p_l31, p_l32, p_l38, p_l40, p_l41, p_l43, p_l48, p_l57, p_l59, p_l60, p_l61, p_l62, p_l63, p_l97, p_l98, p_l101, p_l122, p_l158, p_l201, p_l255, p_l256, p_l374, p_l880, p_l900, p_l1000, p_l2618, p_neg, nI_add, p_mul, p_sub, p_addm, p_addm0, p_subm, p_le, p_lt, p_eq, p_mO_eq, p_eq_mO, p_mO_lt, p_nlt_mO, p_mO_le, p_le_mO, p_rI, p_rL, p_wI, p_wL, p_wF, p_has10, p_has11, p_ib0, p_ib1, p_shl1, p_zv0, p_zv1, p_zvib, p_ibd, p_ibn, if_pos, if_neg, if_true, if_false, ne_eq, not_true, not_false_iff, Decidable.not_not, Nat.not_lt, Nat.not_le, Bool.true_eq_false, Bool.false_eq_true, eq_self, reduceIte, Nat.reduceAdd, Nat.reduceMul, Nat.reduceSub, Nat.reduceEqDiff, Nat.reduceLT, Nat.reduceLeDiff, reduceCtorEq, fX11_turned_l27, g2, hx, px, hy, py, c, c2, ibT, Bool.not_false, fb_ct_succ, decide_true, Nat.add_assoc]
      · have c2 : decide (fF S k ≤ fF S (k + (1 + i))) = true := decide_eq_true (by omega)
        simp (disch := omega) only [p_bnd, p_nm, p_gSEl, p_gSEr, p_l0, p_l1, p_l2, p_l3, p_l4, p_l5, p_l6, p_l7, p_l8, p_l9, p_l10, p_l14, p_l16, p_l20, p_l22, p_l24, p_l30, p_l31, p_l32, p_l38, p_l40, p_l41, p_l43, p_l48, p_l57, p_l59, p_l60, p_l61, p_l62, p_l63, p_l97, p_l98, p_l101, p_l122, p_l158, p_l201, p_l255, p_l256, p_l374, p_l880, p_l900, p_l1000, p_l2618, p_neg, nI_add, p_mul, p_sub, p_addm, p_addm0, p_subm, p_le, p_lt, p_eq, p_mO_eq, p_eq_mO, p_mO_lt, p_nlt_mO, p_mO_le, p_le_mO, p_rI, p_rL, p_wI, p_wL, p_wF, p_has10, p_has11, p_ib0, p_ib1, p_shl1, p_zv0, p_zv1, p_zvib, p_ibd, p_ibn, if_pos, if_neg, if_true, if_false, ne_eq, not_true, not_false_iff, Decidable.not_not, Nat.not_lt, Nat.not_le, Bool.true_eq_false, Bool.false_eq_true, eq_self, reduceIte, Nat.reduceAdd, Nat.reduceMul, Nat.reduceSub, Nat.reduceEqDiff, Nat.reduceLT, Nat.reduceLeDiff, reduceCtorEq, fX11_turned_l27, g2, hx, px, hy, py, c, c2, ibF, Bool.not_true, fb_ct_succ, decide_false, Nat.add_zero, Nat.add_assoc]) (by
      rw [show k + 1 + (sG S - (k + 1)) = sG S by omega]
      simp (disch := omega) only [p_bnd, p_nm, p_gSEl, p_gSEr, p_l0, p_l1, p_l2, p_l3, p_l4, p_l5, p_l6, p_l7, p_l8, p_l9, p_l10, p_l14, p_l16, p_l20, p_l22, p_l24, p_l30, p_l31, p_l32, p_l38, p_l40, p_l41, p_l43, p_l48, p_l57, p_l59, p_l60, p_l61, p_l62, p_l63, p_l97, p_l98, p_l101, p_l122, p_l158, p_l201, p_l255, p_l256, p_l374, p_l880, p_l900, p_l1000, p_l2618, p_neg, nI_add, p_mul, p_sub, p_addm, p_addm0, p_subm, p_le, p_lt, p_eq, p_mO_eq, p_eq_mO, p_mO_lt, p_nlt_mO, p_mO_le, p_le_mO, p_rI, p_rL, p_wI, p_wL, p_wF, p_has10, p_has11, p_ib0, p_ib1, p_shl1, p_zv0, p_zv1, p_zvib, p_ibd, p_ibn, if_pos, if_neg, if_true, if_false, ne_eq, not_true, not_false_iff, Decidable.not_not, Nat.not_lt, Nat.not_le, Bool.true_eq_false, Bool.false_eq_true, eq_self, reduceIte, Nat.reduceAdd, Nat.reduceMul, Nat.reduceSub, Nat.reduceEqDiff, Nat.reduceLT, Nat.reduceLeDiff, reduceCtorEq, fX11_turned_l27, g2])
  have e := gLoop_f (body := fun z9 => fX11_turned_l13 M1 z9.1 z9.2) (fun k => (nI (fb_sm (fun j => fb_ct (fun i => decide (fF S (j + 1 + i) < fF S j)) (sG S - (j + 1))) k), nI k)) (r := nI (tpE (fF S) (sG S))) (sG S) gFu (by show sG S < 4096; omega) (fun k hk => by
    have i := inn hk (fb_sm (fun j => fb_ct (fun i => decide (fF S (j + 1 + i) < fF S j)) (sG S - (j + 1))) k)
    simp (disch := omega) only [p_bnd, p_nm, p_gSEl, p_gSEr, p_l0, p_l1, p_l2, p_l3, p_l4, p_l5, p_l6, p_l7, p_l8, p_l9, p_l10, p_l14, p_l16, p_l20, p_l22, p_l24, p_l30, p_l31, p_l32, p_l38, p_l40, p_l41, p_l43, p_l48, p_l57, p_l59, p_l60, p_l61, p_l62, p_l63, p_l97, p_l98, p_l101, p_l122, p_l158, p_l201, p_l255, p_l256, p_l374, p_l880, p_l900, p_l1000, p_l2618, p_neg, nI_add, p_mul, p_sub, p_addm, p_addm0, p_subm, p_le, p_lt, p_eq, p_mO_eq, p_eq_mO, p_mO_lt, p_nlt_mO, p_mO_le, p_le_mO, p_rI, p_rL, p_wI, p_wL, p_wF, p_has10, p_has11, p_ib0, p_ib1, p_shl1, p_zv0, p_zv1, p_zvib, p_ibd, p_ibn, if_pos, if_neg, if_true, if_false, ne_eq, not_true, not_false_iff, Decidable.not_not, Nat.not_lt, Nat.not_le, Bool.true_eq_false, Bool.false_eq_true, eq_self, reduceIte, Nat.reduceAdd, Nat.reduceMul, Nat.reduceSub, Nat.reduceEqDiff, Nat.reduceLT, Nat.reduceLeDiff, reduceCtorEq, fX11_turned_l13, g2, i, fb_sm_succ]) (by simp (disch := omega) only [p_bnd, p_nm, p_gSEl, p_gSEr, p_l0, p_l1, p_l2, p_l3, p_l4, p_l5, p_l6, p_l7, p_l8, p_l9, p_l10, p_l14, p_l16, p_l20, p_l22, p_l24, p_l30, p_l31, p_l32, p_l38, p_l40, p_l41, p_l43, p_l48, p_l57, p_l59, p_l60, p_l61, p_l62, p_l63, p_l97, p_l98, p_l101, p_l122, p_l158, p_l201, p_l255, p_l256, p_l374, p_l880, p_l900, p_l1000, p_l2618, p_neg, nI_add, p_mul, p_sub, p_addm, p_addm0, p_subm, p_le, p_lt, p_eq, p_mO_eq, p_eq_mO, p_mO_lt, p_nlt_mO, p_mO_le, p_le_mO, p_rI, p_rL, p_wI, p_wL, p_wF, p_has10, p_has11, p_ib0, p_ib1, p_shl1, p_zv0, p_zv1, p_zvib, p_ibd, p_ibn, if_pos, if_neg, if_true, if_false, ne_eq, not_true, not_false_iff, Decidable.not_not, Nat.not_lt, Nat.not_le, Bool.true_eq_false, Bool.false_eq_true, eq_self, reduceIte, Nat.reduceAdd, Nat.reduceMul, Nat.reduceSub, Nat.reduceEqDiff, Nat.reduceLT, Nat.reduceLeDiff, reduceCtorEq, fX11_turned_l13, g2, tpE])
  refine ⟨M1, ?_, gFr_tr (gFr_I (Or.inr ⟨rfl, rfl⟩)) (gFr_mo F1 (fun c k z => Or.inl z)), by rw [(F1 0 0 (by omega)).1, p_gI_s]⟩
  unfold fX11_turned
  rw [show (0 : Int32) = nI 0 from rfl, p_wF, p_bnd, e1, p_bnd]
  rw [show gLoop (fun z9 => fX11_turned_l13 M1 z9.1 z9.2) gFu (nI 0, nI 0) = some (nI (tpE (fF S) (sG S))) from e, p_bnd]
end TP
