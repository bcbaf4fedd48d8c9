/-! COPIES: a row is copied; nets are copied; what can be taken back -/
section CY
variable {M : gMem} {S : gS}
theorem cpy {body : Int32 × gMem → Option ((Int32 × gMem) ⊕ gMem)} {a b c1 c2 N : Nat} (hN : N < 4096) (hc : c1 ≠ c2 ∨ b < a)
    (hb : ∀ k M', k < N → gFr (fun c j => c = c2 ∧ b ≤ j ∧ j < b + N) M M' → body (nI k, M') = some (.inl (nI (k + 1), gI M' c2 (b + k) (M'.1 c1 (a + k)))))
    (he : ∀ M', gFr (fun c j => c = c2 ∧ b ≤ j ∧ j < b + N) M M' → body (nI N, M') = some (.inr M')) :
    ∃ r, gLoop body gFu ((0 : Int32), M) = some r ∧ gFr (fun c j => c = c2 ∧ b ≤ j ∧ j < b + N) M r ∧ ∀ k, k < N → r.1 c2 (b + k) = M.1 c1 (a + k) := by
  refine gLoop_i (fun k s => ∃ M', s = (nI k, M') ∧ gFr (fun c j => c = c2 ∧ b ≤ j ∧ j < b + N) M M' ∧ gFr (fun c j => c = c2 ∧ b ≤ j ∧ j < b + k) M M' ∧ ∀ j, j < k → M'.1 c2 (b + j) = M.1 c1 (a + j)) _ N ⟨M, rfl, gFr_rf, gFr_rf, fun j z => absurd z (Nat.not_lt_zero _)⟩ hN ?_
  rintro k s hk ⟨M', rfl, hF, hF2, hI⟩
  rcases Nat.lt_or_ge k N with q | q
  · refine Or.inl ⟨_, hb k M' q hF, q, _, rfl, gFr_trI hF ⟨rfl, by omega, by omega⟩, gFr_trI (gFr_mo hF2 (fun c j z => ⟨z.1, z.2.1, by omega⟩)) ⟨rfl, by omega, by omega⟩, fun j hj => ?_⟩
    rw [p_gI]
    by_cases c : j = k
    · rw [if_pos ⟨rfl, by omega⟩, c, (hF2 c1 (a + k) (by omega)).1]
    · rw [if_neg (by omega)]; exact hI j (by omega)
  · have e : k = N := by omega
    rw [e]
    exact Or.inr ⟨M', he M' hF, hF, fun j hj => hI j (by omega)⟩
theorem RR_ext {w w' : Nat → Int32} (h : RR w S) (hn : sN S ≤ 24) (hm : sM S ≤ 60) (hg : sG S ≤ 24) (e : ∀ k, k < 374 → w' k = w k) : RR w' S := by
  obtain ⟨⟨q0, q1, q2, q3, q4⟩, qa, qo, qf, qt⟩ := h
  refine ⟨⟨by rw [e 0 (by omega)]; exact q0, by rw [e 1 (by omega)]; exact q1, by rw [e 2 (by omega)]; exact q2, by rw [e 3 (by omega)]; exact q3, by rw [e 4 (by omega)]; exact q4⟩, fun k hk => by rw [e _ (by omega)]; exact qa k hk, fun p hp => by rw [e _ (by omega)]; exact qo p hp, fun i hi => by rw [e _ (by omega), e _ (by omega)]; exact qf i hi, fun t ht => ?_⟩
  obtain ⟨t1, t2, t3, t4⟩ := qt t ht
  exact ⟨by rw [e _ (by omega)]; exact t1, by rw [e _ (by omega)]; exact t2, by rw [e _ (by omega)]; exact t3, fun k hk => by rw [e _ (by omega)]; exact t4 k hk⟩
theorem sW_24 (h : sW S) : sN S ≤ 24 ∧ sM S ≤ 60 ∧ sG S ≤ 24 := ⟨h.1.1, h.1.2.1, Nat.le_trans h.1.2.2.1 h.1.1⟩
theorem RR_ew {w w' : Nat → Int32} (h : RR w S) (hW : sW S) (e : ∀ k, k < 374 → w' k = w k) : RR w' S := RR_ext h (sW_24 hW).1 (sW_24 hW).2.1 (sW_24 hW).2.2 e
theorem r_goesAside (M : gMem) : ∃ r, fX11_goesAside M = some r ∧ gFr (fun c _ => c = 2) M r ∧ ∀ k, k < 374 → r.1 2 k = M.1 1 k := by
  obtain ⟨r, e, F, I⟩ := cpy (M := M) (body := fun z9 => fX11_goesAside_l2 z9.1 z9.2) (a := 0) (b := 0) (c1 := 1) (c2 := 2) (N := 374) (by decide) (Or.inl (by decide)) (fun k M' hk _ => by simp (disch := omega) only [p_bnd, p_nm, p_gSEl, p_gSEr, p_l0, p_l1, p_l2, p_l3, p_l4, p_l5, p_l6, p_l7, p_l8, p_l9, p_l10, p_l14, p_l16, p_l20, p_l22, p_l24, p_l30, p_l31, p_l32, p_l38, p_l40, p_l41, p_l43, p_l48, p_l57, p_l59, p_l60, p_l61, p_l62, p_l63, p_l97, p_l98, p_l101, p_l122, p_l158, p_l201, p_l255, p_l256, p_l374, p_l880, p_l900, p_l1000, p_l2618, p_neg, nI_add, p_mul, p_sub, p_addm, p_addm0, p_subm, p_le, p_lt, p_eq, p_mO_eq, p_eq_mO, p_mO_lt, p_nlt_mO, p_mO_le, p_le_mO, p_rI, p_rL, p_wI, p_wL, p_wF, p_has10, p_has11, p_ib0, p_ib1, p_shl1, p_zv0, p_zv1, p_zvib, p_ibd, p_ibn, if_pos, if_neg, if_true, if_false, ne_eq, not_true, not_false_iff, Decidable.not_not, Nat.not_lt, Nat.not_le, Bool.true_eq_false, Bool.false_eq_true, eq_self, reduceIte, Nat.reduceAdd, Nat.reduceMul, Nat.reduceSub, Nat.reduceEqDiff, Nat.reduceLT, Nat.reduceLeDiff, reduceCtorEq, fX11_goesAside_l2, Nat.zero_add]) (fun M' _ => by simp (disch := omega) only [p_bnd, p_nm, p_gSEl, p_gSEr, p_l0, p_l1, p_l2, p_l3, p_l4, p_l5, p_l6, p_l7, p_l8, p_l9, p_l10, p_l14, p_l16, p_l20, p_l22, p_l24, p_l30, p_l31, p_l32, p_l38, p_l40, p_l41, p_l43, p_l48, p_l57, p_l59, p_l60, p_l61, p_l62, p_l63, p_l97, p_l98, p_l101, p_l122, p_l158, p_l201, p_l255, p_l256, p_l374, p_l880, p_l900, p_l1000, p_l2618, p_neg, nI_add, p_mul, p_sub, p_addm, p_addm0, p_subm, p_le, p_lt, p_eq, p_mO_eq, p_eq_mO, p_mO_lt, p_nlt_mO, p_mO_le, p_le_mO, p_rI, p_rL, p_wI, p_wL, p_wF, p_has10, p_has11, p_ib0, p_ib1, p_shl1, p_zv0, p_zv1, p_zvib, p_ibd, p_ibn, if_pos, if_neg, if_true, if_false, ne_eq, not_true, not_false_iff, Decidable.not_not, Nat.not_lt, Nat.not_le, Bool.true_eq_false, Bool.false_eq_true, eq_self, reduceIte, Nat.reduceAdd, Nat.reduceMul, Nat.reduceSub, Nat.reduceEqDiff, Nat.reduceLT, Nat.reduceLeDiff, reduceCtorEq, fX11_goesAside_l2])
  refine ⟨r, ?_, gFr_mo F (fun c j z => z.1), fun k hk => by have := I k hk; rw [Nat.zero_add] at this; exact this⟩
  unfold fX11_goesAside
  rw [e, p_bnd]
theorem r_comesBack (M : gMem) (x : Int32) : ∃ r, fX11_comesBack x M = some (x, r) ∧ gFr (fun c _ => c = 1) M r ∧ ∀ k, k < 374 → r.1 1 k = M.1 2 k := by
  obtain ⟨r, e, F, I⟩ := cpy (M := M) (body := fun z9 => fX11_comesBack_l2 x z9.1 z9.2) (a := 0) (b := 0) (c1 := 2) (c2 := 1) (N := 374) (by decide) (Or.inl (by decide)) (fun k M' hk _ => by simp (disch := omega) only [p_bnd, p_nm, p_gSEl, p_gSEr, p_l0, p_l1, p_l2, p_l3, p_l4, p_l5, p_l6, p_l7, p_l8, p_l9, p_l10, p_l14, p_l16, p_l20, p_l22, p_l24, p_l30, p_l31, p_l32, p_l38, p_l40, p_l41, p_l43, p_l48, p_l57, p_l59, p_l60, p_l61, p_l62, p_l63, p_l97, p_l98, p_l101, p_l122, p_l158, p_l201, p_l255, p_l256, p_l374, p_l880, p_l900, p_l1000, p_l2618, p_neg, nI_add, p_mul, p_sub, p_addm, p_addm0, p_subm, p_le, p_lt, p_eq, p_mO_eq, p_eq_mO, p_mO_lt, p_nlt_mO, p_mO_le, p_le_mO, p_rI, p_rL, p_wI, p_wL, p_wF, p_has10, p_has11, p_ib0, p_ib1, p_shl1, p_zv0, p_zv1, p_zvib, p_ibd, p_ibn, if_pos, if_neg, if_true, if_false, ne_eq, not_true, not_false_iff, Decidable.not_not, Nat.not_lt, Nat.not_le, Bool.true_eq_false, Bool.false_eq_true, eq_self, reduceIte, Nat.reduceAdd, Nat.reduceMul, Nat.reduceSub, Nat.reduceEqDiff, Nat.reduceLT, Nat.reduceLeDiff, reduceCtorEq, fX11_comesBack_l2, Nat.zero_add]) (fun M' _ => by simp (disch := omega) only [p_bnd, p_nm, p_gSEl, p_gSEr, p_l0, p_l1, p_l2, p_l3, p_l4, p_l5, p_l6, p_l7, p_l8, p_l9, p_l10, p_l14, p_l16, p_l20, p_l22, p_l24, p_l30, p_l31, p_l32, p_l38, p_l40, p_l41, p_l43, p_l48, p_l57, p_l59, p_l60, p_l61, p_l62, p_l63, p_l97, p_l98, p_l101, p_l122, p_l158, p_l201, p_l255, p_l256, p_l374, p_l880, p_l900, p_l1000, p_l2618, p_neg, nI_add, p_mul, p_sub, p_addm, p_addm0, p_subm, p_le, p_lt, p_eq, p_mO_eq, p_eq_mO, p_mO_lt, p_nlt_mO, p_mO_le, p_le_mO, p_rI, p_rL, p_wI, p_wL, p_wF, p_has10, p_has11, p_ib0, p_ib1, p_shl1, p_zv0, p_zv1, p_zvib, p_ibd, p_ibn, if_pos, if_neg, if_true, if_false, ne_eq, not_true, not_false_iff, Decidable.not_not, Nat.not_lt, Nat.not_le, Bool.true_eq_false, Bool.false_eq_true, eq_self, reduceIte, Nat.reduceAdd, Nat.reduceMul, Nat.reduceSub, Nat.reduceEqDiff, Nat.reduceLT, Nat.reduceLeDiff, reduceCtorEq, fX11_comesBack_l2])
  refine ⟨r, ?_, gFr_mo F (fun c j z => z.1), fun k hk => by have := I k hk; rw [Nat.zero_add] at this; exact this⟩
  unfold fX11_comesBack
  rw [e, p_bnd]
theorem r_laysBefore (M : gMem) : ∃ r, fX11_laysBefore M = some r ∧ gFr (fun c _ => c = 1) M r ∧ ∀ k, k < 374 → r.1 1 k = M.1 3 k := by
  obtain ⟨r, e, F, I⟩ := cpy (M := M) (body := fun z9 => fX11_laysBefore_l2 z9.1 z9.2) (a := 0) (b := 0) (c1 := 3) (c2 := 1) (N := 374) (by decide) (Or.inl (by decide)) (fun k M' hk _ => by simp (disch := omega) only [p_bnd, p_nm, p_gSEl, p_gSEr, p_l0, p_l1, p_l2, p_l3, p_l4, p_l5, p_l6, p_l7, p_l8, p_l9, p_l10, p_l14, p_l16, p_l20, p_l22, p_l24, p_l30, p_l31, p_l32, p_l38, p_l40, p_l41, p_l43, p_l48, p_l57, p_l59, p_l60, p_l61, p_l62, p_l63, p_l97, p_l98, p_l101, p_l122, p_l158, p_l201, p_l255, p_l256, p_l374, p_l880, p_l900, p_l1000, p_l2618, p_neg, nI_add, p_mul, p_sub, p_addm, p_addm0, p_subm, p_le, p_lt, p_eq, p_mO_eq, p_eq_mO, p_mO_lt, p_nlt_mO, p_mO_le, p_le_mO, p_rI, p_rL, p_wI, p_wL, p_wF, p_has10, p_has11, p_ib0, p_ib1, p_shl1, p_zv0, p_zv1, p_zvib, p_ibd, p_ibn, if_pos, if_neg, if_true, if_false, ne_eq, not_true, not_false_iff, Decidable.not_not, Nat.not_lt, Nat.not_le, Bool.true_eq_false, Bool.false_eq_true, eq_self, reduceIte, Nat.reduceAdd, Nat.reduceMul, Nat.reduceSub, Nat.reduceEqDiff, Nat.reduceLT, Nat.reduceLeDiff, reduceCtorEq, fX11_laysBefore_l2, Nat.zero_add]) (fun M' _ => by simp (disch := omega) only [p_bnd, p_nm, p_gSEl, p_gSEr, p_l0, p_l1, p_l2, p_l3, p_l4, p_l5, p_l6, p_l7, p_l8, p_l9, p_l10, p_l14, p_l16, p_l20, p_l22, p_l24, p_l30, p_l31, p_l32, p_l38, p_l40, p_l41, p_l43, p_l48, p_l57, p_l59, p_l60, p_l61, p_l62, p_l63, p_l97, p_l98, p_l101, p_l122, p_l158, p_l201, p_l255, p_l256, p_l374, p_l880, p_l900, p_l1000, p_l2618, p_neg, nI_add, p_mul, p_sub, p_addm, p_addm0, p_subm, p_le, p_lt, p_eq, p_mO_eq, p_eq_mO, p_mO_lt, p_nlt_mO, p_mO_le, p_le_mO, p_rI, p_rL, p_wI, p_wL, p_wF, p_has10, p_has11, p_ib0, p_ib1, p_shl1, p_zv0, p_zv1, p_zvib, p_ibd, p_ibn, if_pos, if_neg, if_true, if_false, ne_eq, not_true, not_false_iff, Decidable.not_not, Nat.not_lt, Nat.not_le, Bool.true_eq_false, Bool.false_eq_true, eq_self, reduceIte, Nat.reduceAdd, Nat.reduceMul, Nat.reduceSub, Nat.reduceEqDiff, Nat.reduceLT, Nat.reduceLeDiff, reduceCtorEq, fX11_laysBefore_l2])
  refine ⟨r, ?_, gFr_mo F (fun c j z => z.1), fun k hk => by have := I k hk; rw [Nat.zero_add] at this; exact this⟩
  unfold fX11_laysBefore
  rw [e, p_bnd]
theorem r_keepsBefore (M : gMem) : ∃ r, fX11_keepsBefore M = some r ∧ gFr (fun c _ => c = 1 ∨ c = 3) M r ∧ (∀ k, k < 374 → r.1 3 k = M.1 1 k) ∧ ∀ k, k < 374 → r.1 1 k = nI 0 := by
  obtain ⟨r, e, F, I, J⟩ : ∃ r, gLoop (fun z9 => fX11_keepsBefore_l2 z9.1 z9.2) gFu ((0 : Int32), M) = some r ∧ gFr (fun c _ => c = 1 ∨ c = 3) M r ∧ (∀ k, k < 374 → r.1 3 k = M.1 1 k) ∧ ∀ k, k < 374 → r.1 1 k = nI 0 := by
    refine gLoop_i (fun k s => ∃ M', s = (nI k, M') ∧ gFr (fun c _ => c = 1 ∨ c = 3) M M' ∧ (∀ j, k ≤ j → M'.1 1 j = M.1 1 j) ∧ (∀ j, j < k → M'.1 3 j = M.1 1 j) ∧ ∀ j, j < k → M'.1 1 j = nI 0) _ 374 ⟨M, rfl, gFr_rf, fun _ _ => rfl, fun j z => absurd z (Nat.not_lt_zero _), fun j z => absurd z (Nat.not_lt_zero _)⟩ (by decide) ?_
    rintro k s hk ⟨M', rfl, hF, h1, h2, h3⟩
    rcases Nat.lt_or_ge k 374 with q | q
    · refine Or.inl ⟨(nI (k + 1), gI (gI M' 3 k (M'.1 1 k)) 1 k (nI 0)), by simp (disch := omega) only [p_bnd, p_nm, p_gSEl, p_gSEr, p_l0, p_l1, p_l2, p_l3, p_l4, p_l5, p_l6, p_l7, p_l8, p_l9, p_l10, p_l14, p_l16, p_l20, p_l22, p_l24, p_l30, p_l31, p_l32, p_l38, p_l40, p_l41, p_l43, p_l48, p_l57, p_l59, p_l60, p_l61, p_l62, p_l63, p_l97, p_l98, p_l101, p_l122, p_l158, p_l201, p_l255, p_l256, p_l374, p_l880, p_l900, p_l1000, p_l2618, p_neg, nI_add, p_mul, p_sub, p_addm, p_addm0, p_subm, p_le, p_lt, p_eq, p_mO_eq, p_eq_mO, p_mO_lt, p_nlt_mO, p_mO_le, p_le_mO, p_rI, p_rL, p_wI, p_wL, p_wF, p_has10, p_has11, p_ib0, p_ib1, p_shl1, p_zv0, p_zv1, p_zvib, p_ibd, p_ibn, if_pos, if_neg, if_true, if_false, ne_eq, not_true, not_false_iff, Decidable.not_not, Nat.not_lt, Nat.not_le, Bool.true_eq_false, Bool.false_eq_true, eq_self, reduceIte, Nat.reduceAdd, Nat.reduceMul, Nat.reduceSub, Nat.reduceEqDiff, Nat.reduceLT, Nat.reduceLeDiff, reduceCtorEq, fX11_keepsBefore_l2], q, _, rfl, gFr_trI (gFr_trI hF (Or.inr rfl)) (Or.inl rfl), fun j hj => ?_, fun j hj => ?_, fun j hj => ?_⟩
      · rw [p_gI_n (Or.inr (by omega)), p_gI_n (Or.inl (by decide))]; exact h1 j (by omega)
      · rw [p_gI_n (Or.inl (by decide)), p_gI]
        by_cases c : j = k
        · rw [if_pos ⟨rfl, c⟩, c]; exact h1 k (Nat.le_refl k)
        · rw [if_neg (fun z => c z.2)]; exact h2 j (by omega)
      · rw [p_gI]
        by_cases c : j = k
        · rw [if_pos ⟨rfl, c⟩]
        · rw [if_neg (fun z => c z.2), p_gI_n (Or.inl (by decide))]; exact h3 j (by omega)
    · have e : k = 374 := by omega
      rw [e]
      exact Or.inr ⟨M', by simp (disch := omega) only [p_bnd, p_nm, p_gSEl, p_gSEr, p_l0, p_l1, p_l2, p_l3, p_l4, p_l5, p_l6, p_l7, p_l8, p_l9, p_l10, p_l14, p_l16, p_l20, p_l22, p_l24, p_l30, p_l31, p_l32, p_l38, p_l40, p_l41, p_l43, p_l48, p_l57, p_l59, p_l60, p_l61, p_l62, p_l63, p_l97, p_l98, p_l101, p_l122, p_l158, p_l201, p_l255, p_l256, p_l374, p_l880, p_l900, p_l1000, p_l2618, p_neg, nI_add, p_mul, p_sub, p_addm, p_addm0, p_subm, p_le, p_lt, p_eq, p_mO_eq, p_eq_mO, p_mO_lt, p_nlt_mO, p_mO_le, p_le_mO, p_rI, p_rL, p_wI, p_wL, p_wF, p_has10, p_has11, p_ib0, p_ib1, p_shl1, p_zv0, p_zv1, p_zvib, p_ibd, p_ibn, if_pos, if_neg, if_true, if_false, ne_eq, not_true, not_false_iff, Decidable.not_not, Nat.not_lt, Nat.not_le, Bool.true_eq_false, Bool.false_eq_true, eq_self, reduceIte, Nat.reduceAdd, Nat.reduceMul, Nat.reduceSub, Nat.reduceEqDiff, Nat.reduceLT, Nat.reduceLeDiff, reduceCtorEq, fX11_keepsBefore_l2], hF, fun j hj => h2 j (by omega), fun j hj => h3 j (by omega)⟩
  refine ⟨r, ?_, F, I, J⟩
  unfold fX11_keepsBefore
  rw [e, p_bnd]
/-- what can be taken back -/
def PR (M : gMem) (P : List gS) : Prop := P.length ≤ 8 ∧ M.1 0 6 = nI P.length ∧ ∀ j T, P[j]? = some T → RR (fun k => M.1 5 (374 * j + k)) T ∧ sW T
def pPs (P : List gS) (S : gS) : List gS := (if P.length = 8 then P.drop 1 else P) ++ [S]
theorem PR_of {M' : gMem} {P : List gS} (h : PR M P) (e1 : M'.1 0 6 = M.1 0 6) (e2 : M'.1 5 = M.1 5) : PR M' P := by unfold PR; rw [e1, e2]; exact h
theorem r_keep1 {P : List gS} (h : PR M P) (hS : RR (M.1 2) S) (hW : sW S) (hl : P.length < 8) : ∃ r, fX11_keeps_b50 M = some r ∧ gFr (fun c k => c = 5 ∨ (c = 0 ∧ k = 6)) M r ∧ PR r (P ++ [S]) := by
  obtain ⟨h0, h1, h2⟩ := h
  obtain ⟨r, e, F, I⟩ := cpy (M := M) (body := fun z9 => fX11_keeps_l52 z9.1 z9.2) (a := 0) (b := 374 * P.length) (c1 := 2) (c2 := 5) (N := 374) (by decide) (Or.inl (by decide)) (fun k M' hk F => by
    have e0 : M'.1 0 6 = nI P.length := by rw [(F 0 6 (by omega)).1]; exact h1
    rw [Nat.mul_comm 374 P.length]
    simp (disch := omega) only [p_bnd, p_nm, p_gSEl, p_gSEr, p_l0, p_l1, p_l2, p_l3, p_l4, p_l5, p_l6, p_l7, p_l8, p_l9, p_l10, p_l14, p_l16, p_l20, p_l22, p_l24, p_l30, p_l31, p_l32, p_l38, p_l40, p_l41, p_l43, p_l48, p_l57, p_l59, p_l60, p_l61, p_l62, p_l63, p_l97, p_l98, p_l101, p_l122, p_l158, p_l201, p_l255, p_l256, p_l374, p_l880, p_l900, p_l1000, p_l2618, p_neg, nI_add, p_mul, p_sub, p_addm, p_addm0, p_subm, p_le, p_lt, p_eq, p_mO_eq, p_eq_mO, p_mO_lt, p_nlt_mO, p_mO_le, p_le_mO, p_rI, p_rL, p_wI, p_wL, p_wF, p_has10, p_has11, p_ib0, p_ib1, p_shl1, p_zv0, p_zv1, p_zvib, p_ibd, p_ibn, if_pos, if_neg, if_true, if_false, ne_eq, not_true, not_false_iff, Decidable.not_not, Nat.not_lt, Nat.not_le, Bool.true_eq_false, Bool.false_eq_true, eq_self, reduceIte, Nat.reduceAdd, Nat.reduceMul, Nat.reduceSub, Nat.reduceEqDiff, Nat.reduceLT, Nat.reduceLeDiff, reduceCtorEq, fX11_keeps_l52, e0, Nat.zero_add]) (fun M' _ => by simp (disch := omega) only [p_bnd, p_nm, p_gSEl, p_gSEr, p_l0, p_l1, p_l2, p_l3, p_l4, p_l5, p_l6, p_l7, p_l8, p_l9, p_l10, p_l14, p_l16, p_l20, p_l22, p_l24, p_l30, p_l31, p_l32, p_l38, p_l40, p_l41, p_l43, p_l48, p_l57, p_l59, p_l60, p_l61, p_l62, p_l63, p_l97, p_l98, p_l101, p_l122, p_l158, p_l201, p_l255, p_l256, p_l374, p_l880, p_l900, p_l1000, p_l2618, p_neg, nI_add, p_mul, p_sub, p_addm, p_addm0, p_subm, p_le, p_lt, p_eq, p_mO_eq, p_eq_mO, p_mO_lt, p_nlt_mO, p_mO_le, p_le_mO, p_rI, p_rL, p_wI, p_wL, p_wF, p_has10, p_has11, p_ib0, p_ib1, p_shl1, p_zv0, p_zv1, p_zvib, p_ibd, p_ibn, if_pos, if_neg, if_true, if_false, ne_eq, not_true, not_false_iff, Decidable.not_not, Nat.not_lt, Nat.not_le, Bool.true_eq_false, Bool.false_eq_true, eq_self, reduceIte, Nat.reduceAdd, Nat.reduceMul, Nat.reduceSub, Nat.reduceEqDiff, Nat.reduceLT, Nat.reduceLeDiff, reduceCtorEq, fX11_keeps_l52])
  have r6 : r.1 0 6 = nI P.length := by rw [(F 0 6 (by omega)).1]; exact h1
  refine ⟨gI r 0 6 (nI (P.length + 1)), ?_, gFr_trI (gFr_mo F (fun c j z => Or.inl z.1)) (Or.inr ⟨rfl, rfl⟩), by rw [List.length_append]; show P.length + 1 ≤ 8; omega, by rw [p_gI_s, List.length_append]; rfl, fun j T hj => ?_⟩
  · unfold fX11_keeps_b50
    rw [e, p_bnd, r6, show nI P.length + (1 : Int32) = nI (P.length + 1) from nI_add _ _, p_wF, p_bnd]
  · rcases Nat.lt_or_ge j P.length with q | q
    · rw [List.getElem?_append_left q] at hj
      obtain ⟨a, b⟩ := h2 j T hj
      refine ⟨RR_ew a b fun k hk => ?_, b⟩
      show (gI r 0 6 _).1 5 _ = M.1 5 _
      rw [p_gI_n (Or.inl (by decide)), (F 5 _ (by omega)).1]
    · rw [List.getElem?_append_right q] at hj
      have hj3 := (List.getElem?_eq_some_iff.mp hj).1
      have e5 : j = P.length := by simp at hj3; omega
      rw [e5, Nat.sub_self] at hj
      have hj4 : S = T := Option.some.inj hj
      rw [← hj4]
      refine ⟨RR_ew hS hW fun k hk => ?_, hW⟩
      show (gI r 0 6 _).1 5 _ = _
      rw [p_gI_n (Or.inl (by decide)), e5, I k hk, Nat.zero_add]
theorem r_keeps {P : List gS} (h : PR M P) (hS : RR (M.1 2) S) (hW : sW S) : ∃ r, fX11_keeps M = some r ∧ gFr (fun c k => c = 5 ∨ (c = 0 ∧ k = 6)) M r ∧ PR r (pPs P S) := by
  obtain ⟨h0, h1, h2⟩ := id h
  unfold pPs
  by_cases c : P.length = 8
  · rw [if_pos c]
    obtain ⟨r, e, F, I⟩ := cpy (M := M) (body := fun z9 => fX11_keeps_l11 z9.1 z9.2) (a := 374) (b := 0) (c1 := 5) (c2 := 5) (N := 2618) (by decide) (Or.inr (by decide)) (fun k M' hk F => by
      rw [Nat.add_comm 374 k]
      simp (disch := omega) only [p_bnd, p_nm, p_gSEl, p_gSEr, p_l0, p_l1, p_l2, p_l3, p_l4, p_l5, p_l6, p_l7, p_l8, p_l9, p_l10, p_l14, p_l16, p_l20, p_l22, p_l24, p_l30, p_l31, p_l32, p_l38, p_l40, p_l41, p_l43, p_l48, p_l57, p_l59, p_l60, p_l61, p_l62, p_l63, p_l97, p_l98, p_l101, p_l122, p_l158, p_l201, p_l255, p_l256, p_l374, p_l880, p_l900, p_l1000, p_l2618, p_neg, nI_add, p_mul, p_sub, p_addm, p_addm0, p_subm, p_le, p_lt, p_eq, p_mO_eq, p_eq_mO, p_mO_lt, p_nlt_mO, p_mO_le, p_le_mO, p_rI, p_rL, p_wI, p_wL, p_wF, p_has10, p_has11, p_ib0, p_ib1, p_shl1, p_zv0, p_zv1, p_zvib, p_ibd, p_ibn, if_pos, if_neg, if_true, if_false, ne_eq, not_true, not_false_iff, Decidable.not_not, Nat.not_lt, Nat.not_le, Bool.true_eq_false, Bool.false_eq_true, eq_self, reduceIte, Nat.reduceAdd, Nat.reduceMul, Nat.reduceSub, Nat.reduceEqDiff, Nat.reduceLT, Nat.reduceLeDiff, reduceCtorEq, fX11_keeps_l11, Nat.zero_add]) (fun M' _ => by simp (disch := omega) only [p_bnd, p_nm, p_gSEl, p_gSEr, p_l0, p_l1, p_l2, p_l3, p_l4, p_l5, p_l6, p_l7, p_l8, p_l9, p_l10, p_l14, p_l16, p_l20, p_l22, p_l24, p_l30, p_l31, p_l32, p_l38, p_l40, p_l41, p_l43, p_l48, p_l57, p_l59, p_l60, p_l61, p_l62, p_l63, p_l97, p_l98, p_l101, p_l122, p_l158, p_l201, p_l255, p_l256, p_l374, p_l880, p_l900, p_l1000, p_l2618, p_neg, nI_add, p_mul, p_sub, p_addm, p_addm0, p_subm, p_le, p_lt, p_eq, p_mO_eq, p_eq_mO, p_mO_lt, p_nlt_mO, p_mO_le, p_le_mO, p_rI, p_rL, p_wI, p_wL, p_wF, p_has10, p_has11, p_ib0, p_ib1, p_shl1, p_zv0, p_zv1, p_zvib, p_ibd, p_ibn, if_pos, if_neg, if_true, if_false, ne_eq, not_true, not_false_iff, Decidable.not_not, Nat.not_lt, Nat.not_le, Bool.true_eq_false, Bool.false_eq_true, eq_self, reduceIte, Nat.reduceAdd, Nat.reduceMul, Nat.reduceSub, Nat.reduceEqDiff, Nat.reduceLT, Nat.reduceLeDiff, reduceCtorEq, fX11_keeps_l11])
    have r6 : r.1 0 6 = nI 8 := by rw [(F 0 6 (by omega)).1, ← c]; exact h1
    have hp : PR (gI r 0 6 (nI 7)) (P.drop 1) := by
      refine ⟨by rw [List.length_drop]; omega, by rw [p_gI_s, List.length_drop, c], fun j T hj => ?_⟩
      rw [List.getElem?_drop] at hj
      have hl := (List.getElem?_eq_some_iff.mp hj).1
      obtain ⟨a, b⟩ := h2 _ T hj
      refine ⟨RR_ew a b fun k hk => ?_, b⟩
      show (gI r 0 6 _).1 5 (374 * j + k) = M.1 5 (374 * (1 + j) + k)
      have := I (374 * j + k) (by omega)
      rw [Nat.zero_add] at this
      rw [p_gI_n (Or.inl (by decide)), this, show 374 + (374 * j + k) = 374 * (1 + j) + k by omega]
    obtain ⟨r2, e2, F2, P2⟩ := r_keep1 hp (S := S) (by rw [p_gI_o (by decide), gFr_c1 F (fun _ => by omega)]; exact hS) hW (by rw [List.length_drop]; omega)
    refine ⟨r2, ?_, gFr_tr (gFr_trI (gFr_mo F (fun c j z => Or.inl z.1)) (Or.inr ⟨rfl, rfl⟩)) F2, P2⟩
    unfold fX11_keeps
    rw [h1, c, if_pos (show nI 8 = (8 : Int32) from rfl), e, p_bnd, r6, show nI 8 - (1 : Int32) = nI 7 by decide, p_wF, p_bnd, e2]
  · rw [if_neg c]
    obtain ⟨r2, e2, F2, P2⟩ := r_keep1 h hS hW (by omega)
    refine ⟨r2, ?_, F2, P2⟩
    unfold fX11_keeps
    rw [h1, if_neg (show ¬ nI P.length = (8 : Int32) by rw [show (8 : Int32) = nI 8 from rfl, p_eq (by omega) (by omega)]; exact c), e2]
theorem r_undo {Q : List gS} (h : PR M (Q ++ [S])) : ∃ r, fX11_undo M = some (nI Q.length, r) ∧ gFr (fun c k => c = 1 ∨ (c = 0 ∧ (k = 6 ∨ k = 0))) M r ∧ PR r Q ∧ RS r S ∧ r.1 0 0 = nI 0 := by
  obtain ⟨h0, h1, h2⟩ := id h
  rw [List.length_append] at h0 h1
  have h0 : Q.length + 1 ≤ 8 := h0
  have h1 : M.1 0 6 = nI (Q.length + 1) := h1
  obtain ⟨r, e, F, I⟩ := cpy (M := gI (gI M 0 0 (nI 0)) 0 6 (nI Q.length)) (body := fun z9 => fX11_undo_l26 z9.1 z9.2) (a := 374 * Q.length) (b := 0) (c1 := 5) (c2 := 1) (N := 374) (by decide) (Or.inl (by decide)) (fun k M' hk F => by
    have e0 : M'.1 0 6 = nI Q.length := by rw [(F 0 6 (by omega)).1, p_gI_s]
    rw [Nat.mul_comm 374 Q.length]
    simp (disch := omega) only [p_bnd, p_nm, p_gSEl, p_gSEr, p_l0, p_l1, p_l2, p_l3, p_l4, p_l5, p_l6, p_l7, p_l8, p_l9, p_l10, p_l14, p_l16, p_l20, p_l22, p_l24, p_l30, p_l31, p_l32, p_l38, p_l40, p_l41, p_l43, p_l48, p_l57, p_l59, p_l60, p_l61, p_l62, p_l63, p_l97, p_l98, p_l101, p_l122, p_l158, p_l201, p_l255, p_l256, p_l374, p_l880, p_l900, p_l1000, p_l2618, p_neg, nI_add, p_mul, p_sub, p_addm, p_addm0, p_subm, p_le, p_lt, p_eq, p_mO_eq, p_eq_mO, p_mO_lt, p_nlt_mO, p_mO_le, p_le_mO, p_rI, p_rL, p_wI, p_wL, p_wF, p_has10, p_has11, p_ib0, p_ib1, p_shl1, p_zv0, p_zv1, p_zvib, p_ibd, p_ibn, if_pos, if_neg, if_true, if_false, ne_eq, not_true, not_false_iff, Decidable.not_not, Nat.not_lt, Nat.not_le, Bool.true_eq_false, Bool.false_eq_true, eq_self, reduceIte, Nat.reduceAdd, Nat.reduceMul, Nat.reduceSub, Nat.reduceEqDiff, Nat.reduceLT, Nat.reduceLeDiff, reduceCtorEq, fX11_undo_l26, e0, Nat.zero_add]) (fun M' _ => by simp (disch := omega) only [p_bnd, p_nm, p_gSEl, p_gSEr, p_l0, p_l1, p_l2, p_l3, p_l4, p_l5, p_l6, p_l7, p_l8, p_l9, p_l10, p_l14, p_l16, p_l20, p_l22, p_l24, p_l30, p_l31, p_l32, p_l38, p_l40, p_l41, p_l43, p_l48, p_l57, p_l59, p_l60, p_l61, p_l62, p_l63, p_l97, p_l98, p_l101, p_l122, p_l158, p_l201, p_l255, p_l256, p_l374, p_l880, p_l900, p_l1000, p_l2618, p_neg, nI_add, p_mul, p_sub, p_addm, p_addm0, p_subm, p_le, p_lt, p_eq, p_mO_eq, p_eq_mO, p_mO_lt, p_nlt_mO, p_mO_le, p_le_mO, p_rI, p_rL, p_wI, p_wL, p_wF, p_has10, p_has11, p_ib0, p_ib1, p_shl1, p_zv0, p_zv1, p_zvib, p_ibd, p_ibn, if_pos, if_neg, if_true, if_false, ne_eq, not_true, not_false_iff, Decidable.not_not, Nat.not_lt, Nat.not_le, Bool.true_eq_false, Bool.false_eq_true, eq_self, reduceIte, Nat.reduceAdd, Nat.reduceMul, Nat.reduceSub, Nat.reduceEqDiff, Nat.reduceLT, Nat.reduceLeDiff, reduceCtorEq, fX11_undo_l26])
  have r6 : r.1 0 6 = nI Q.length := by rw [(F 0 6 (by omega)).1, p_gI_s]
  have r0 : r.1 0 0 = nI 0 := by rw [(F 0 0 (by omega)).1, p_gI_n (Or.inr (by decide)), p_gI_s]
  have F' : gFr (fun c k => c = 1 ∨ (c = 0 ∧ (k = 6 ∨ k = 0))) M r := gFr_tr (gFr_trI (gFr_I (Or.inr ⟨rfl, Or.inr rfl⟩)) (Or.inr ⟨rfl, Or.inl rfl⟩)) (gFr_mo F (fun c j z => Or.inl z.1))
  obtain ⟨a, b⟩ := h2 Q.length S (by rw [List.getElem?_append_right (Nat.le_refl _), Nat.sub_self]; rfl)
  refine ⟨r, ?_, F', ⟨by omega, r6, fun j T hj => ?_⟩, ⟨RR_ew a b fun k hk => ?_, b⟩, r0⟩
  · unfold fX11_undo
    rw [show (0 : Int32) = nI 0 from rfl, p_wF, p_bnd, p_gI_n (Or.inr (by decide)), h1, if_neg (show ¬ nI (Q.length + 1) = nI 0 by rw [p_eq (by omega) (by omega)]; omega), show nI (Q.length + 1) - (1 : Int32) = nI Q.length from (p_sub (a := Q.length + 1) (b := 1) (by omega)).trans (by rw [Nat.add_sub_cancel]), p_wF, p_bnd]
    rw [show gLoop (fun z9 => fX11_undo_l26 z9.1 z9.2) gFu (nI 0, gI (gI M 0 0 (nI 0)) 0 6 (nI Q.length)) = some r from e, p_bnd, r6]
  · have hl := (List.getElem?_eq_some_iff.mp hj).1
    have := h2 j T (by rw [List.getElem?_append_left hl]; exact hj)
    rw [gFr_c1 F' (c := 5) (fun _ => by omega)]; exact this
  · have := I k hk
    rw [Nat.zero_add, p_gI_o (by decide), p_gI_o (by decide)] at this; exact this
theorem r_undo0 (h : PR M []) : fX11_undo M = some (mO 1, gI M 0 0 (nI 0)) := by
  have h1 : M.1 0 6 = nI 0 := h.2.1
  unfold fX11_undo
  rw [show (0 : Int32) = nI 0 from rfl, p_wF, p_bnd, p_gI_n (Or.inr (by decide)), h1, if_pos rfl]; rfl
end CY
