/-! SIMPLE NUMBERS: how far a group could be brought, what is wrong, the tight ones; swaps; both sides -/
section LP
variable {M : gMem} {S : gS} {t p : Nat}
/-- the least place: behind the last group that leads to it -/
def lPl (S : gS) (p : Nat) : Nat := gMx (fun o => if sLd S o p = true then o + 1 else 0) p
theorem lPl_of (h : sW S) {y : Nat} (hy : y ≤ p) (h1 : ∀ i, i < sM S → sPl S (sTo S i) = p → sPl S (sFr S i) ≠ p → sPl S (sFr S i) + 1 ≤ y) (h2 : y = 0 ∨ ∃ i, i < sM S ∧ sPl S (sTo S i) = p ∧ sPl S (sFr S i) ≠ p ∧ y = sPl S (sFr S i) + 1) : y = lPl S p := by
  refine Nat.le_antisymm ?_ (gMx_ub fun o ho => ?_)
  · rcases h2 with z | ⟨i, i1, i2, i3, i4⟩
    · omega
    · have := h.2.2.2.1.1 i i1
      have l : sLd S (sPl S (sFr S i)) p = true := sLd_iff.mpr ⟨i, i1, rfl, i2⟩
      have g := gMx_ge (f := fun o => if sLd S o p = true then o + 1 else 0) (n := p) (k := sPl S (sFr S i)) (by omega)
      have g : (if sLd S (sPl S (sFr S i)) p = true then sPl S (sFr S i) + 1 else 0) ≤ lPl S p := g
      rw [if_pos l] at g
      omega
  · show (if sLd S o p = true then o + 1 else 0) ≤ y
    by_cases c : sLd S o p = true
    · rw [if_pos c]
      obtain ⟨i, i1, i2, i3⟩ := sLd_iff.mp c
      have := h1 i i1 i3 (by omega)
      omega
    · rw [if_neg c]; omega
theorem lPl_le : lPl S p ≤ p := gMx_ub fun o ho => by
  show (if sLd S o p = true then o + 1 else 0) ≤ p
  split <;> omega
theorem cs_leastLoop (h : CS M 1 S) (hp : p < sG S) : gLoop (fun z9 => fX10_leastPlace_l20 (nI p) M z9.1 z9.2) gFu (nI 0, nI 0) = some (nI (lPl S p)) := by
  have hm := h.2.1.2.1
  have hg := (sW_24 h.2).2.2
  have m1 : M.1 1 10 = nI (sM S) := cs_m h
  obtain ⟨r, e, R⟩ : ∃ r, gLoop (fun z9 => fX10_leastPlace_l20 (nI p) M z9.1 z9.2) gFu (nI 0, nI 0) = some r ∧ r = nI (lPl S p) := by
    refine gLoop_i (fun k s => ∃ y, s = (nI y, nI k) ∧ y ≤ p ∧ (∀ i, i < k → sPl S (sTo S i) = p → sPl S (sFr S i) ≠ p → sPl S (sFr S i) + 1 ≤ y) ∧ (y = 0 ∨ ∃ i, i < sM S ∧ sPl S (sTo S i) = p ∧ sPl S (sFr S i) ≠ p ∧ y = sPl S (sFr S i) + 1)) _ (sM S) ⟨0, rfl, Nat.zero_le _, fun i z => absurd z (Nat.not_lt_zero _), Or.inl rfl⟩ (by show sM S < 4096; omega) ?_
    rintro k s hk ⟨y, rfl, y1, y2, y3⟩
    rcases Nat.lt_or_ge k (sM S) with q | q
    · obtain ⟨b1, b2, b3, b4, b5, -⟩ := sW_ar h.2 q
      have i1 := cs_isInner h q
      have f1 : M.1 4 k = nI (sFr S k) := cs_fr h q
      have f2 : M.1 5 k = nI (sTo S k) := cs_to h q
      have p1 : M.1 9 (sFr S k) = nI (sPl S (sFr S k)) := cs_pl h b1
      have p2 : M.1 9 (sTo S k) = nI (sPl S (sTo S k)) := cs_pl h b2
      have ol := h.2.2.2.2.1.1 k q
      by_cases c : sPl S (sTo S k) = p
      · by_cases d : sPl S (sFr S k) = p
        · have hb : sIn S k = true := decide_eq_true (by omega)
          refine Or.inl ⟨(nI y, nI (k + 1)), ?_, q, y, rfl, y1, fun i hi z1 z2 => ?_, y3⟩
          · simp (disch := omega) only [p_bnd, p_nm, p_gSEl, p_gSEr, p_l0, p_l1, p_l2, p_l3, p_l4, p_l5, p_l6, p_l7, p_l8, p_l9, p_l10, p_l14, p_l16, p_l20, p_l22, p_l24, p_l30, p_l31, p_l32, p_l38, p_l40, p_l41, p_l43, p_l48, p_l57, p_l59, p_l60, p_l61, p_l62, p_l63, p_l97, p_l98, p_l101, p_l122, p_l158, p_l201, p_l255, p_l256, p_l374, p_l880, p_l900, p_l1000, p_l2618, p_neg, nI_add, p_mul, p_sub, p_addm, p_addm0, p_subm, p_le, p_lt, p_eq, p_mO_eq, p_eq_mO, p_mO_lt, p_nlt_mO, p_mO_le, p_le_mO, p_rI, p_rL, p_wI, p_wL, p_wF, p_has10, p_has11, p_ib0, p_ib1, p_shl1, p_zv0, p_zv1, p_zvib, p_ibd, p_ibn, if_pos, if_neg, if_true, if_false, ne_eq, not_true, not_false_iff, Decidable.not_not, Nat.not_lt, Nat.not_le, Bool.true_eq_false, Bool.false_eq_true, eq_self, reduceIte, Nat.reduceAdd, Nat.reduceMul, Nat.reduceSub, Nat.reduceEqDiff, Nat.reduceLT, Nat.reduceLeDiff, reduceCtorEq, fX10_leastPlace_l20, fX10_leastPlace_b91, m1, f1, f2, p1, p2, c, i1, hb, ibT]
          · by_cases e : i = k
            · rw [e] at z2; exact absurd d z2
            · exact y2 i (by omega) z1 z2
        · have hb : sIn S k = false := decide_eq_false (by omega)
          refine Or.inl ⟨(nI (mx2 y (sPl S (sFr S k) + 1)), nI (k + 1)), ?_, q, _, rfl, mx_ub y1 (by omega), fun i hi z1 z2 => ?_, ?_⟩
          · simp (disch := omega) only [p_bnd, p_nm, p_gSEl, p_gSEr, p_l0, p_l1, p_l2, p_l3, p_l4, p_l5, p_l6, p_l7, p_l8, p_l9, p_l10, p_l14, p_l16, p_l20, p_l22, p_l24, p_l30, p_l31, p_l32, p_l38, p_l40, p_l41, p_l43, p_l48, p_l57, p_l59, p_l60, p_l61, p_l62, p_l63, p_l97, p_l98, p_l101, p_l122, p_l158, p_l201, p_l255, p_l256, p_l374, p_l880, p_l900, p_l1000, p_l2618, p_neg, nI_add, p_mul, p_sub, p_addm, p_addm0, p_subm, p_le, p_lt, p_eq, p_mO_eq, p_eq_mO, p_mO_lt, p_nlt_mO, p_mO_le, p_le_mO, p_rI, p_rL, p_wI, p_wL, p_wF, p_has10, p_has11, p_ib0, p_ib1, p_shl1, p_zv0, p_zv1, p_zvib, p_ibd, p_ibn, if_pos, if_neg, if_true, if_false, ne_eq, not_true, not_false_iff, Decidable.not_not, Nat.not_lt, Nat.not_le, Bool.true_eq_false, Bool.false_eq_true, eq_self, reduceIte, Nat.reduceAdd, Nat.reduceMul, Nat.reduceSub, Nat.reduceEqDiff, Nat.reduceLT, Nat.reduceLeDiff, reduceCtorEq, fX10_leastPlace_l20, fX10_leastPlace_b91, m1, f1, f2, p1, p2, c, i1, hb, ibF, mx_if]
          · by_cases e : i = k
            · rw [e]; exact mx_r _ _
            · exact Nat.le_trans (y2 i (by omega) z1 z2) (mx_l _ _)
          · rcases mx_or y (sPl S (sFr S k) + 1) with e | e
            · rw [e]; exact y3
            · rw [e]; exact Or.inr ⟨k, q, c, d, rfl⟩
      · refine Or.inl ⟨(nI y, nI (k + 1)), ?_, q, y, rfl, y1, fun i hi z1 z2 => ?_, y3⟩
        · simp (disch := omega) only [p_bnd, p_nm, p_gSEl, p_gSEr, p_l0, p_l1, p_l2, p_l3, p_l4, p_l5, p_l6, p_l7, p_l8, p_l9, p_l10, p_l14, p_l16, p_l20, p_l22, p_l24, p_l30, p_l31, p_l32, p_l38, p_l40, p_l41, p_l43, p_l48, p_l57, p_l59, p_l60, p_l61, p_l62, p_l63, p_l97, p_l98, p_l101, p_l122, p_l158, p_l201, p_l255, p_l256, p_l374, p_l880, p_l900, p_l1000, p_l2618, p_neg, nI_add, p_mul, p_sub, p_addm, p_addm0, p_subm, p_le, p_lt, p_eq, p_mO_eq, p_eq_mO, p_mO_lt, p_nlt_mO, p_mO_le, p_le_mO, p_rI, p_rL, p_wI, p_wL, p_wF, p_has10, p_has11, p_ib0, p_ib1, p_shl1, p_zv0, p_zv1, p_zvib, p_ibd, p_ibn, if_pos, if_neg, if_true, if_false, ne_eq, not_true, not_false_iff, Decidable.not_not, Nat.not_lt, Nat.not_le, Bool.true_eq_false, Bool.false_eq_true, eq_self, reduceIte, Nat.reduceAdd, Nat.reduceMul, Nat.reduceSub, Nat.reduceEqDiff, Nat.reduceLT, Nat.reduceLeDiff, reduceCtorEq, fX10_leastPlace_l20, fX10_leastPlace_b91, m1, f1, f2, p1, p2, c]
        · by_cases e : i = k
          · rw [e] at z1; exact absurd z1 c
          · exact y2 i (by omega) z1 z2
    · have e9 : k = sM S := by omega
      refine Or.inr ⟨nI y, by simp (disch := omega) only [p_bnd, p_nm, p_gSEl, p_gSEr, p_l0, p_l1, p_l2, p_l3, p_l4, p_l5, p_l6, p_l7, p_l8, p_l9, p_l10, p_l14, p_l16, p_l20, p_l22, p_l24, p_l30, p_l31, p_l32, p_l38, p_l40, p_l41, p_l43, p_l48, p_l57, p_l59, p_l60, p_l61, p_l62, p_l63, p_l97, p_l98, p_l101, p_l122, p_l158, p_l201, p_l255, p_l256, p_l374, p_l880, p_l900, p_l1000, p_l2618, p_neg, nI_add, p_mul, p_sub, p_addm, p_addm0, p_subm, p_le, p_lt, p_eq, p_mO_eq, p_eq_mO, p_mO_lt, p_nlt_mO, p_mO_le, p_le_mO, p_rI, p_rL, p_wI, p_wL, p_wF, p_has10, p_has11, p_ib0, p_ib1, p_shl1, p_zv0, p_zv1, p_zvib, p_ibd, p_ibn, if_pos, if_neg, if_true, if_false, ne_eq, not_true, not_false_iff, Decidable.not_not, Nat.not_lt, Nat.not_le, Bool.true_eq_false, Bool.false_eq_true, eq_self, reduceIte, Nat.reduceAdd, Nat.reduceMul, Nat.reduceSub, Nat.reduceEqDiff, Nat.reduceLT, Nat.reduceLeDiff, reduceCtorEq, fX10_leastPlace_l20, m1], ?_⟩
      rw [lPl_of h.2 y1 (fun i hi => y2 i (by omega)) y3]
  rw [e, R]
theorem rs_leastLoop (h : RS M S) (hp : p < sG S) : gLoop (fun z9 => fX11_leastPlace_l22 (sMb S p) M z9) gFu (nI p) = some (nI (lPl S p)) := by
  have hg := (sW_24 h.2).2.2
  have hl := lPl_le (S := S) (p := p)
  have e := gLoop_f (body := fun z9 => fX11_leastPlace_l22 (sMb S p) M z9) (fun k => nI (p - k)) (r := nI (lPl S p)) (p - lPl S p) gFu (by show p - lPl S p < 4096; omega) (fun k hk => by
    have m1 := rs_membersAt h (show p - k - 1 < sG S by omega)
    have l1 := rs_leads h (p := p - k - 1) (q := p)
    have hb : sLd S (p - k - 1) p = false := by
      rw [← Bool.not_eq_true]
      intro z
      have g := gMx_ge (f := fun o => if sLd S o p = true then o + 1 else 0) (n := p) (k := p - k - 1) (by omega)
      have g : (if sLd S (p - k - 1) p = true then p - k - 1 + 1 else 0) ≤ lPl S p := g
      rw [if_pos z] at g
      omega
    rw [show p - (k + 1) = p - k - 1 by omega]
    obtain ⟨y, hy⟩ : ∃ y, y = p - k := ⟨_, rfl⟩
    rw [← hy] at m1 l1 hb ⊢
    simp (disch := omega) only [p_bnd, p_nm, p_gSEl, p_gSEr, p_l0, p_l1, p_l2, p_l3, p_l4, p_l5, p_l6, p_l7, p_l8, p_l9, p_l10, p_l14, p_l16, p_l20, p_l22, p_l24, p_l30, p_l31, p_l32, p_l38, p_l40, p_l41, p_l43, p_l48, p_l57, p_l59, p_l60, p_l61, p_l62, p_l63, p_l97, p_l98, p_l101, p_l122, p_l158, p_l201, p_l255, p_l256, p_l374, p_l880, p_l900, p_l1000, p_l2618, p_neg, nI_add, p_mul, p_sub, p_addm, p_addm0, p_subm, p_le, p_lt, p_eq, p_mO_eq, p_eq_mO, p_mO_lt, p_nlt_mO, p_mO_le, p_le_mO, p_rI, p_rL, p_wI, p_wL, p_wF, p_has10, p_has11, p_ib0, p_ib1, p_shl1, p_zv0, p_zv1, p_zvib, p_ibd, p_ibn, if_pos, if_neg, if_true, if_false, ne_eq, not_true, not_false_iff, Decidable.not_not, Nat.not_lt, Nat.not_le, Bool.true_eq_false, Bool.false_eq_true, eq_self, reduceIte, Nat.reduceAdd, Nat.reduceMul, Nat.reduceSub, Nat.reduceEqDiff, Nat.reduceLT, Nat.reduceLeDiff, reduceCtorEq, fX11_leastPlace_l22, m1, l1, hb, ibF]) (by
    rw [show p - (p - lPl S p) = lPl S p by omega]
    rcases gMx_at (f := fun o => if sLd S o p = true then o + 1 else 0) p with z | ⟨o, o1, o2⟩
    · have z : lPl S p = 0 := z
      rw [z]
      simp (disch := omega) only [p_bnd, p_nm, p_gSEl, p_gSEr, p_l0, p_l1, p_l2, p_l3, p_l4, p_l5, p_l6, p_l7, p_l8, p_l9, p_l10, p_l14, p_l16, p_l20, p_l22, p_l24, p_l30, p_l31, p_l32, p_l38, p_l40, p_l41, p_l43, p_l48, p_l57, p_l59, p_l60, p_l61, p_l62, p_l63, p_l97, p_l98, p_l101, p_l122, p_l158, p_l201, p_l255, p_l256, p_l374, p_l880, p_l900, p_l1000, p_l2618, p_neg, nI_add, p_mul, p_sub, p_addm, p_addm0, p_subm, p_le, p_lt, p_eq, p_mO_eq, p_eq_mO, p_mO_lt, p_nlt_mO, p_mO_le, p_le_mO, p_rI, p_rL, p_wI, p_wL, p_wF, p_has10, p_has11, p_ib0, p_ib1, p_shl1, p_zv0, p_zv1, p_zvib, p_ibd, p_ibn, if_pos, if_neg, if_true, if_false, ne_eq, not_true, not_false_iff, Decidable.not_not, Nat.not_lt, Nat.not_le, Bool.true_eq_false, Bool.false_eq_true, eq_self, reduceIte, Nat.reduceAdd, Nat.reduceMul, Nat.reduceSub, Nat.reduceEqDiff, Nat.reduceLT, Nat.reduceLeDiff, reduceCtorEq, fX11_leastPlace_l22]
    · have o2 : (if sLd S o p = true then o + 1 else 0) = lPl S p := o2
      by_cases c : sLd S o p = true
      · rw [if_pos c] at o2
        rw [← o2]
        have m1 := rs_membersAt h (show o < sG S by omega)
        have l1 := rs_leads h (p := o) (q := p)
        simp (disch := omega) only [p_bnd, p_nm, p_gSEl, p_gSEr, p_l0, p_l1, p_l2, p_l3, p_l4, p_l5, p_l6, p_l7, p_l8, p_l9, p_l10, p_l14, p_l16, p_l20, p_l22, p_l24, p_l30, p_l31, p_l32, p_l38, p_l40, p_l41, p_l43, p_l48, p_l57, p_l59, p_l60, p_l61, p_l62, p_l63, p_l97, p_l98, p_l101, p_l122, p_l158, p_l201, p_l255, p_l256, p_l374, p_l880, p_l900, p_l1000, p_l2618, p_neg, nI_add, p_mul, p_sub, p_addm, p_addm0, p_subm, p_le, p_lt, p_eq, p_mO_eq, p_eq_mO, p_mO_lt, p_nlt_mO, p_mO_le, p_le_mO, p_rI, p_rL, p_wI, p_wL, p_wF, p_has10, p_has11, p_ib0, p_ib1, p_shl1, p_zv0, p_zv1, p_zvib, p_ibd, p_ibn, if_pos, if_neg, if_true, if_false, ne_eq, not_true, not_false_iff, Decidable.not_not, Nat.not_lt, Nat.not_le, Bool.true_eq_false, Bool.false_eq_true, eq_self, reduceIte, Nat.reduceAdd, Nat.reduceMul, Nat.reduceSub, Nat.reduceEqDiff, Nat.reduceLT, Nat.reduceLeDiff, reduceCtorEq, fX11_leastPlace_l22, m1, l1, c, ibT, Nat.add_sub_cancel]
      · rw [if_neg c] at o2
        rw [← o2]
        simp (disch := omega) only [p_bnd, p_nm, p_gSEl, p_gSEr, p_l0, p_l1, p_l2, p_l3, p_l4, p_l5, p_l6, p_l7, p_l8, p_l9, p_l10, p_l14, p_l16, p_l20, p_l22, p_l24, p_l30, p_l31, p_l32, p_l38, p_l40, p_l41, p_l43, p_l48, p_l57, p_l59, p_l60, p_l61, p_l62, p_l63, p_l97, p_l98, p_l101, p_l122, p_l158, p_l201, p_l255, p_l256, p_l374, p_l880, p_l900, p_l1000, p_l2618, p_neg, nI_add, p_mul, p_sub, p_addm, p_addm0, p_subm, p_le, p_lt, p_eq, p_mO_eq, p_eq_mO, p_mO_lt, p_nlt_mO, p_mO_le, p_le_mO, p_rI, p_rL, p_wI, p_wL, p_wF, p_has10, p_has11, p_ib0, p_ib1, p_shl1, p_zv0, p_zv1, p_zvib, p_ibd, p_ibn, if_pos, if_neg, if_true, if_false, ne_eq, not_true, not_false_iff, Decidable.not_not, Nat.not_lt, Nat.not_le, Bool.true_eq_false, Bool.false_eq_true, eq_self, reduceIte, Nat.reduceAdd, Nat.reduceMul, Nat.reduceSub, Nat.reduceEqDiff, Nat.reduceLT, Nat.reduceLeDiff, reduceCtorEq, fX11_leastPlace_l22])
  exact e
/-- the greatest place -/
def mPl (S : gS) (p : Nat) : Nat := p + fa_first (fun k => sLd S p (p + 1 + k)) (sG S - 1 - p)
theorem mPl_le (hp : p < sG S) : p ≤ mPl S p ∧ mPl S p ≤ sG S - 1 := by
  have := fa_first_le (fun k => sLd S p (p + 1 + k)) (sG S - 1 - p)
  unfold mPl
  omega
theorem mPl_of (h : sW S) (hp : p < sG S) {y : Nat} (hy : y ≤ sG S - 1) (h1 : ∀ i, i < sM S → sPl S (sFr S i) = p → sPl S (sTo S i) ≠ p → y ≤ sPl S (sTo S i) - 1) (h2 : y = sG S - 1 ∨ ∃ i, i < sM S ∧ sPl S (sFr S i) = p ∧ sPl S (sTo S i) ≠ p ∧ y = sPl S (sTo S i) - 1) : y = mPl S p := by
  unfold mPl
  have hle := fa_first_le (fun k => sLd S p (p + 1 + k)) (sG S - 1 - p)
  refine Nat.le_antisymm ?_ ?_
  · rcases Nat.lt_or_ge (fa_first (fun k => sLd S p (p + 1 + k)) (sG S - 1 - p)) (sG S - 1 - p) with c | c
    · have l : sLd S p (p + 1 + fa_first (fun k => sLd S p (p + 1 + k)) (sG S - 1 - p)) = true := fa_first_yes (fun k => sLd S p (p + 1 + k)) (sG S - 1 - p) c
      obtain ⟨i, i1, i2, i3⟩ := sLd_iff.mp l
      have := h1 i i1 i2 (by omega)
      omega
    · omega
  · refine Classical.byContradiction fun q => ?_
    rcases h2 with z | ⟨i, i1, i2, i3, i4⟩
    · omega
    · have ol := h.2.2.2.1.1 i i1
      have := fa_first_no (fun k => sLd S p (p + 1 + k)) (sG S - 1 - p) (y - p) (by omega)
      have l : sLd S p (p + 1 + (y - p)) = true := sLd_iff.mpr ⟨i, i1, i2, by omega⟩
      rw [l] at this; cases this
theorem cs_mostLoop (h : CS M 1 S) (hp : p < sG S) : gLoop (fun z9 => fX10_mostPlace_l28 (nI p) M z9.1 z9.2) gFu (nI (sG S - 1), nI 0) = some (nI (mPl S p)) := by
  have hm := h.2.1.2.1
  have hg := (sW_24 h.2).2.2
  have m1 : M.1 1 10 = nI (sM S) := cs_m h
  obtain ⟨r, e, R⟩ : ∃ r, gLoop (fun z9 => fX10_mostPlace_l28 (nI p) M z9.1 z9.2) gFu (nI (sG S - 1), nI 0) = some r ∧ r = nI (mPl S p) := by
    refine gLoop_i (fun k s => ∃ y, s = (nI y, nI k) ∧ y ≤ sG S - 1 ∧ (∀ i, i < k → sPl S (sFr S i) = p → sPl S (sTo S i) ≠ p → y ≤ sPl S (sTo S i) - 1) ∧ (y = sG S - 1 ∨ ∃ i, i < sM S ∧ sPl S (sFr S i) = p ∧ sPl S (sTo S i) ≠ p ∧ y = sPl S (sTo S i) - 1)) _ (sM S) ⟨sG S - 1, rfl, Nat.le_refl _, fun i z => absurd z (Nat.not_lt_zero _), Or.inl rfl⟩ (by show sM S < 4096; omega) ?_
    rintro k s hk ⟨y, rfl, y1, y2, y3⟩
    rcases Nat.lt_or_ge k (sM S) with q | q
    · obtain ⟨b1, b2, b3, b4, b5, -⟩ := sW_ar h.2 q
      have i1 := cs_isInner h q
      have f1 : M.1 4 k = nI (sFr S k) := cs_fr h q
      have f2 : M.1 5 k = nI (sTo S k) := cs_to h q
      have p1 : M.1 9 (sFr S k) = nI (sPl S (sFr S k)) := cs_pl h b1
      have p2 : M.1 9 (sTo S k) = nI (sPl S (sTo S k)) := cs_pl h b2
      have ol := h.2.2.2.2.1.1 k q
      by_cases c : sPl S (sFr S k) = p
      · by_cases d : sPl S (sTo S k) = p
        · have hb : sIn S k = true := decide_eq_true (by omega)
          refine Or.inl ⟨(nI y, nI (k + 1)), ?_, q, y, rfl, y1, fun i hi z1 z2 => ?_, y3⟩
          · simp (disch := omega) only [p_bnd, p_nm, p_gSEl, p_gSEr, p_l0, p_l1, p_l2, p_l3, p_l4, p_l5, p_l6, p_l7, p_l8, p_l9, p_l10, p_l14, p_l16, p_l20, p_l22, p_l24, p_l30, p_l31, p_l32, p_l38, p_l40, p_l41, p_l43, p_l48, p_l57, p_l59, p_l60, p_l61, p_l62, p_l63, p_l97, p_l98, p_l101, p_l122, p_l158, p_l201, p_l255, p_l256, p_l374, p_l880, p_l900, p_l1000, p_l2618, p_neg, nI_add, p_mul, p_sub, p_addm, p_addm0, p_subm, p_le, p_lt, p_eq, p_mO_eq, p_eq_mO, p_mO_lt, p_nlt_mO, p_mO_le, p_le_mO, p_rI, p_rL, p_wI, p_wL, p_wF, p_has10, p_has11, p_ib0, p_ib1, p_shl1, p_zv0, p_zv1, p_zvib, p_ibd, p_ibn, if_pos, if_neg, if_true, if_false, ne_eq, not_true, not_false_iff, Decidable.not_not, Nat.not_lt, Nat.not_le, Bool.true_eq_false, Bool.false_eq_true, eq_self, reduceIte, Nat.reduceAdd, Nat.reduceMul, Nat.reduceSub, Nat.reduceEqDiff, Nat.reduceLT, Nat.reduceLeDiff, reduceCtorEq, fX10_mostPlace_l28, fX10_mostPlace_b99, m1, f1, f2, p1, p2, c, i1, hb, ibT]
          · by_cases e : i = k
            · rw [e] at z2; exact absurd d z2
            · exact y2 i (by omega) z1 z2
        · have hb : sIn S k = false := decide_eq_false (by omega)
          refine Or.inl ⟨(nI (if sPl S (sTo S k) - 1 < y then sPl S (sTo S k) - 1 else y), nI (k + 1)), ?_, q, _, rfl, by split <;> omega, fun i hi z1 z2 => ?_, ?_⟩
          · by_cases e : sPl S (sTo S k) - 1 < y
            · simp (disch := omega) only [p_bnd, p_nm, p_gSEl, p_gSEr, p_l0, p_l1, p_l2, p_l3, p_l4, p_l5, p_l6, p_l7, p_l8, p_l9, p_l10, p_l14, p_l16, p_l20, p_l22, p_l24, p_l30, p_l31, p_l32, p_l38, p_l40, p_l41, p_l43, p_l48, p_l57, p_l59, p_l60, p_l61, p_l62, p_l63, p_l97, p_l98, p_l101, p_l122, p_l158, p_l201, p_l255, p_l256, p_l374, p_l880, p_l900, p_l1000, p_l2618, p_neg, nI_add, p_mul, p_sub, p_addm, p_addm0, p_subm, p_le, p_lt, p_eq, p_mO_eq, p_eq_mO, p_mO_lt, p_nlt_mO, p_mO_le, p_le_mO, p_rI, p_rL, p_wI, p_wL, p_wF, p_has10, p_has11, p_ib0, p_ib1, p_shl1, p_zv0, p_zv1, p_zvib, p_ibd, p_ibn, if_pos, if_neg, if_true, if_false, ne_eq, not_true, not_false_iff, Decidable.not_not, Nat.not_lt, Nat.not_le, Bool.true_eq_false, Bool.false_eq_true, eq_self, reduceIte, Nat.reduceAdd, Nat.reduceMul, Nat.reduceSub, Nat.reduceEqDiff, Nat.reduceLT, Nat.reduceLeDiff, reduceCtorEq, fX10_mostPlace_l28, fX10_mostPlace_b99, m1, f1, f2, p1, p2, c, i1, hb, ibF, e]
            · simp (disch := omega) only [p_bnd, p_nm, p_gSEl, p_gSEr, p_l0, p_l1, p_l2, p_l3, p_l4, p_l5, p_l6, p_l7, p_l8, p_l9, p_l10, p_l14, p_l16, p_l20, p_l22, p_l24, p_l30, p_l31, p_l32, p_l38, p_l40, p_l41, p_l43, p_l48, p_l57, p_l59, p_l60, p_l61, p_l62, p_l63, p_l97, p_l98, p_l101, p_l122, p_l158, p_l201, p_l255, p_l256, p_l374, p_l880, p_l900, p_l1000, p_l2618, p_neg, nI_add, p_mul, p_sub, p_addm, p_addm0, p_subm, p_le, p_lt, p_eq, p_mO_eq, p_eq_mO, p_mO_lt, p_nlt_mO, p_mO_le, p_le_mO, p_rI, p_rL, p_wI, p_wL, p_wF, p_has10, p_has11, p_ib0, p_ib1, p_shl1, p_zv0, p_zv1, p_zvib, p_ibd, p_ibn, if_pos, if_neg, if_true, if_false, ne_eq, not_true, not_false_iff, Decidable.not_not, Nat.not_lt, Nat.not_le, Bool.true_eq_false, Bool.false_eq_true, eq_self, reduceIte, Nat.reduceAdd, Nat.reduceMul, Nat.reduceSub, Nat.reduceEqDiff, Nat.reduceLT, Nat.reduceLeDiff, reduceCtorEq, fX10_mostPlace_l28, fX10_mostPlace_b99, m1, f1, f2, p1, p2, c, i1, hb, ibF, e]
          · by_cases e : i = k
            · rw [e]; split <;> omega
            · have := y2 i (by omega) z1 z2
              split <;> omega
          · split
            · exact Or.inr ⟨k, q, c, d, rfl⟩
            · exact y3
      · refine Or.inl ⟨(nI y, nI (k + 1)), ?_, q, y, rfl, y1, fun i hi z1 z2 => ?_, y3⟩
        · simp (disch := omega) only [p_bnd, p_nm, p_gSEl, p_gSEr, p_l0, p_l1, p_l2, p_l3, p_l4, p_l5, p_l6, p_l7, p_l8, p_l9, p_l10, p_l14, p_l16, p_l20, p_l22, p_l24, p_l30, p_l31, p_l32, p_l38, p_l40, p_l41, p_l43, p_l48, p_l57, p_l59, p_l60, p_l61, p_l62, p_l63, p_l97, p_l98, p_l101, p_l122, p_l158, p_l201, p_l255, p_l256, p_l374, p_l880, p_l900, p_l1000, p_l2618, p_neg, nI_add, p_mul, p_sub, p_addm, p_addm0, p_subm, p_le, p_lt, p_eq, p_mO_eq, p_eq_mO, p_mO_lt, p_nlt_mO, p_mO_le, p_le_mO, p_rI, p_rL, p_wI, p_wL, p_wF, p_has10, p_has11, p_ib0, p_ib1, p_shl1, p_zv0, p_zv1, p_zvib, p_ibd, p_ibn, if_pos, if_neg, if_true, if_false, ne_eq, not_true, not_false_iff, Decidable.not_not, Nat.not_lt, Nat.not_le, Bool.true_eq_false, Bool.false_eq_true, eq_self, reduceIte, Nat.reduceAdd, Nat.reduceMul, Nat.reduceSub, Nat.reduceEqDiff, Nat.reduceLT, Nat.reduceLeDiff, reduceCtorEq, fX10_mostPlace_l28, fX10_mostPlace_b99, m1, f1, f2, p1, p2, c]
        · by_cases e : i = k
          · rw [e] at z1; exact absurd z1 c
          · exact y2 i (by omega) z1 z2
    · have e9 : k = sM S := by omega
      refine Or.inr ⟨nI y, by simp (disch := omega) only [p_bnd, p_nm, p_gSEl, p_gSEr, p_l0, p_l1, p_l2, p_l3, p_l4, p_l5, p_l6, p_l7, p_l8, p_l9, p_l10, p_l14, p_l16, p_l20, p_l22, p_l24, p_l30, p_l31, p_l32, p_l38, p_l40, p_l41, p_l43, p_l48, p_l57, p_l59, p_l60, p_l61, p_l62, p_l63, p_l97, p_l98, p_l101, p_l122, p_l158, p_l201, p_l255, p_l256, p_l374, p_l880, p_l900, p_l1000, p_l2618, p_neg, nI_add, p_mul, p_sub, p_addm, p_addm0, p_subm, p_le, p_lt, p_eq, p_mO_eq, p_eq_mO, p_mO_lt, p_nlt_mO, p_mO_le, p_le_mO, p_rI, p_rL, p_wI, p_wL, p_wF, p_has10, p_has11, p_ib0, p_ib1, p_shl1, p_zv0, p_zv1, p_zvib, p_ibd, p_ibn, if_pos, if_neg, if_true, if_false, ne_eq, not_true, not_false_iff, Decidable.not_not, Nat.not_lt, Nat.not_le, Bool.true_eq_false, Bool.false_eq_true, eq_self, reduceIte, Nat.reduceAdd, Nat.reduceMul, Nat.reduceSub, Nat.reduceEqDiff, Nat.reduceLT, Nat.reduceLeDiff, reduceCtorEq, fX10_mostPlace_l28, m1], ?_⟩
      rw [mPl_of h.2 hp y1 (fun i hi => y2 i (by omega)) y3]
  rw [e, R]
theorem rs_mostLoop (h : RS M S) (hp : p < sG S) : gLoop (fun z9 => fX11_mostPlace_l22 (sMb S p) M z9) gFu (nI p) = some (nI (mPl S p)) := by
  have hg := (sW_24 h.2).2.2
  have g1 : M.1 1 2 = nI (sG S) := h.1.1.2.2.1
  have hle := fa_first_le (fun k => sLd S p (p + 1 + k)) (sG S - 1 - p)
  have e := gLoop_f (body := fun z9 => fX11_mostPlace_l22 (sMb S p) M z9) (fun k => nI (p + k)) (r := nI (mPl S p)) (fa_first (fun k => sLd S p (p + 1 + k)) (sG S - 1 - p)) gFu (by show fa_first (fun k => sLd S p (p + 1 + k)) (sG S - 1 - p) < 4096; omega) (fun k hk => by
    have hb := fa_first_no (fun k => sLd S p (p + 1 + k)) (sG S - 1 - p) k hk
    have hb : sLd S p (p + 1 + k) = false := hb
    rw [show p + 1 + k = p + k + 1 by omega] at hb
    have m1 := rs_membersAt h (show p + k + 1 < sG S by omega)
    have l1 := rs_leads h (p := p) (q := p + k + 1)
    show fX11_mostPlace_l22 (sMb S p) M (nI (p + k)) = some (.inl (nI (p + k + 1)))
    simp (disch := omega) only [p_bnd, p_nm, p_gSEl, p_gSEr, p_l0, p_l1, p_l2, p_l3, p_l4, p_l5, p_l6, p_l7, p_l8, p_l9, p_l10, p_l14, p_l16, p_l20, p_l22, p_l24, p_l30, p_l31, p_l32, p_l38, p_l40, p_l41, p_l43, p_l48, p_l57, p_l59, p_l60, p_l61, p_l62, p_l63, p_l97, p_l98, p_l101, p_l122, p_l158, p_l201, p_l255, p_l256, p_l374, p_l880, p_l900, p_l1000, p_l2618, p_neg, nI_add, p_mul, p_sub, p_addm, p_addm0, p_subm, p_le, p_lt, p_eq, p_mO_eq, p_eq_mO, p_mO_lt, p_nlt_mO, p_mO_le, p_le_mO, p_rI, p_rL, p_wI, p_wL, p_wF, p_has10, p_has11, p_ib0, p_ib1, p_shl1, p_zv0, p_zv1, p_zvib, p_ibd, p_ibn, if_pos, if_neg, if_true, if_false, ne_eq, not_true, not_false_iff, Decidable.not_not, Nat.not_lt, Nat.not_le, Bool.true_eq_false, Bool.false_eq_true, eq_self, reduceIte, Nat.reduceAdd, Nat.reduceMul, Nat.reduceSub, Nat.reduceEqDiff, Nat.reduceLT, Nat.reduceLeDiff, reduceCtorEq, fX11_mostPlace_l22, g1, m1, l1, hb, ibF]) (by
    show fX11_mostPlace_l22 (sMb S p) M (nI (mPl S p)) = some (.inr (nI (mPl S p)))
    have hl := mPl_le hp
    rcases Nat.lt_or_ge (mPl S p) (sG S - 1) with c | c
    · have hb : sLd S p (p + 1 + fa_first (fun k => sLd S p (p + 1 + k)) (sG S - 1 - p)) = true := fa_first_yes (fun k => sLd S p (p + 1 + k)) (sG S - 1 - p) (by unfold mPl at c; omega)
      have e9 : p + 1 + fa_first (fun k => sLd S p (p + 1 + k)) (sG S - 1 - p) = mPl S p + 1 := by unfold mPl; omega
      rw [e9] at hb
      have m1 := rs_membersAt h (show mPl S p + 1 < sG S by omega)
      have l1 := rs_leads h (p := p) (q := mPl S p + 1)
      simp (disch := omega) only [p_bnd, p_nm, p_gSEl, p_gSEr, p_l0, p_l1, p_l2, p_l3, p_l4, p_l5, p_l6, p_l7, p_l8, p_l9, p_l10, p_l14, p_l16, p_l20, p_l22, p_l24, p_l30, p_l31, p_l32, p_l38, p_l40, p_l41, p_l43, p_l48, p_l57, p_l59, p_l60, p_l61, p_l62, p_l63, p_l97, p_l98, p_l101, p_l122, p_l158, p_l201, p_l255, p_l256, p_l374, p_l880, p_l900, p_l1000, p_l2618, p_neg, nI_add, p_mul, p_sub, p_addm, p_addm0, p_subm, p_le, p_lt, p_eq, p_mO_eq, p_eq_mO, p_mO_lt, p_nlt_mO, p_mO_le, p_le_mO, p_rI, p_rL, p_wI, p_wL, p_wF, p_has10, p_has11, p_ib0, p_ib1, p_shl1, p_zv0, p_zv1, p_zvib, p_ibd, p_ibn, if_pos, if_neg, if_true, if_false, ne_eq, not_true, not_false_iff, Decidable.not_not, Nat.not_lt, Nat.not_le, Bool.true_eq_false, Bool.false_eq_true, eq_self, reduceIte, Nat.reduceAdd, Nat.reduceMul, Nat.reduceSub, Nat.reduceEqDiff, Nat.reduceLT, Nat.reduceLeDiff, reduceCtorEq, fX11_mostPlace_l22, g1, m1, l1, hb, ibT]
    · simp (disch := omega) only [p_bnd, p_nm, p_gSEl, p_gSEr, p_l0, p_l1, p_l2, p_l3, p_l4, p_l5, p_l6, p_l7, p_l8, p_l9, p_l10, p_l14, p_l16, p_l20, p_l22, p_l24, p_l30, p_l31, p_l32, p_l38, p_l40, p_l41, p_l43, p_l48, p_l57, p_l59, p_l60, p_l61, p_l62, p_l63, p_l97, p_l98, p_l101, p_l122, p_l158, p_l201, p_l255, p_l256, p_l374, p_l880, p_l900, p_l1000, p_l2618, p_neg, nI_add, p_mul, p_sub, p_addm, p_addm0, p_subm, p_le, p_lt, p_eq, p_mO_eq, p_eq_mO, p_mO_lt, p_nlt_mO, p_mO_le, p_le_mO, p_rI, p_rL, p_wI, p_wL, p_wF, p_has10, p_has11, p_ib0, p_ib1, p_shl1, p_zv0, p_zv1, p_zvib, p_ibd, p_ibn, if_pos, if_neg, if_true, if_false, ne_eq, not_true, not_false_iff, Decidable.not_not, Nat.not_lt, Nat.not_le, Bool.true_eq_false, Bool.false_eq_true, eq_self, reduceIte, Nat.reduceAdd, Nat.reduceMul, Nat.reduceSub, Nat.reduceEqDiff, Nat.reduceLT, Nat.reduceLeDiff, reduceCtorEq, fX11_mostPlace_l22, g1])
  exact e
/-- nothing is wrong -/
theorem cs_gap (h : CS M 1 S) : fX10_gap M = some (nI 0) := by
  have hn := h.2.1.1
  have hm := h.2.1.2.1
  have hg := (sW_24 h.2).2.2
  have m1 : M.1 1 10 = nI (sM S) := cs_m h
  have n1 : M.1 1 9 = nI (sN S) := cs_n h
  have e1 : gLoop (fun z9 => fX2_wrongArrows_l4 1 M z9.1 z9.2) gFu (nI 0, nI 0) = some (nI 0) := gLoop_f (body := fun z9 => fX2_wrongArrows_l4 1 M z9.1 z9.2) (fun k => (nI 0, nI k)) (sM S) gFu (by show sM S < 4096; omega) (fun k hk => by
    obtain ⟨b1, b2, b3, b4, b5, -⟩ := sW_ar h.2 hk
    have f1 := cs_fr h hk
    have f2 := cs_to h hk
    have p1 := cs_pl h b1
    have p2 := cs_pl h b2
    have ol := h.2.2.2.2.1.1 k hk
    simp (disch := omega) only [p_bnd, p_nm, p_gSEl, p_gSEr, p_l0, p_l1, p_l2, p_l3, p_l4, p_l5, p_l6, p_l7, p_l8, p_l9, p_l10, p_l14, p_l16, p_l20, p_l22, p_l24, p_l30, p_l31, p_l32, p_l38, p_l40, p_l41, p_l43, p_l48, p_l57, p_l59, p_l60, p_l61, p_l62, p_l63, p_l97, p_l98, p_l101, p_l122, p_l158, p_l201, p_l255, p_l256, p_l374, p_l880, p_l900, p_l1000, p_l2618, p_neg, nI_add, p_mul, p_sub, p_addm, p_addm0, p_subm, p_le, p_lt, p_eq, p_mO_eq, p_eq_mO, p_mO_lt, p_nlt_mO, p_mO_le, p_le_mO, p_rI, p_rL, p_wI, p_wL, p_wF, p_has10, p_has11, p_ib0, p_ib1, p_shl1, p_zv0, p_zv1, p_zvib, p_ibd, p_ibn, if_pos, if_neg, if_true, if_false, ne_eq, not_true, not_false_iff, Decidable.not_not, Nat.not_lt, Nat.not_le, Bool.true_eq_false, Bool.false_eq_true, eq_self, reduceIte, Nat.reduceAdd, Nat.reduceMul, Nat.reduceSub, Nat.reduceEqDiff, Nat.reduceLT, Nat.reduceLeDiff, reduceCtorEq, fX2_wrongArrows_l4, fX2_wrongArrows_b40, m1, f1, f2, p1, p2]) (by simp (disch := omega) only [p_bnd, p_nm, p_gSEl, p_gSEr, p_l0, p_l1, p_l2, p_l3, p_l4, p_l5, p_l6, p_l7, p_l8, p_l9, p_l10, p_l14, p_l16, p_l20, p_l22, p_l24, p_l30, p_l31, p_l32, p_l38, p_l40, p_l41, p_l43, p_l48, p_l57, p_l59, p_l60, p_l61, p_l62, p_l63, p_l97, p_l98, p_l101, p_l122, p_l158, p_l201, p_l255, p_l256, p_l374, p_l880, p_l900, p_l1000, p_l2618, p_neg, nI_add, p_mul, p_sub, p_addm, p_addm0, p_subm, p_le, p_lt, p_eq, p_mO_eq, p_eq_mO, p_mO_lt, p_nlt_mO, p_mO_le, p_le_mO, p_rI, p_rL, p_wI, p_wL, p_wF, p_has10, p_has11, p_ib0, p_ib1, p_shl1, p_zv0, p_zv1, p_zvib, p_ibd, p_ibn, if_pos, if_neg, if_true, if_false, ne_eq, not_true, not_false_iff, Decidable.not_not, Nat.not_lt, Nat.not_le, Bool.true_eq_false, Bool.false_eq_true, eq_self, reduceIte, Nat.reduceAdd, Nat.reduceMul, Nat.reduceSub, Nat.reduceEqDiff, Nat.reduceLT, Nat.reduceLeDiff, reduceCtorEq, fX2_wrongArrows_l4, m1])
  have e3 : ∀ {u : Nat}, u < sN S → gLoop (fun z9 => fX2_wrongPairs_l14 1 (nI u) M z9.1 z9.2) gFu (nI 0, nI 0) = some (nI 0) := fun {u} hu => gLoop_f (body := fun z9 => fX2_wrongPairs_l14 1 (nI u) M z9.1 z9.2) (fun k => (nI 0, nI k)) u gFu (by show u < 4096; omega) (fun k hk => by
    have hk2 : k < sN S := by omega
    have p1 := cs_pl h hu
    have p2 := cs_pl h hk2
    have l1 := h.2.p hu
    have l2 := h.2.p hk2
    have r1 := cs_rc h hu (v := k) (by omega)
    have r2 := cs_rc h hk2 (v := u) (by omega)
    have hs := sR.same h.2.2.2.2.1 hu hk2
    cases b1 : bt (M.1 (1 + 6) u) k
    · have hne : ¬ sPl S u = sPl S k := fun z => by rw [r1.mpr (hs.mp z).1] at b1; cases b1
      simp (disch := omega) only [p_bnd, p_nm, p_gSEl, p_gSEr, p_l0, p_l1, p_l2, p_l3, p_l4, p_l5, p_l6, p_l7, p_l8, p_l9, p_l10, p_l14, p_l16, p_l20, p_l22, p_l24, p_l30, p_l31, p_l32, p_l38, p_l40, p_l41, p_l43, p_l48, p_l57, p_l59, p_l60, p_l61, p_l62, p_l63, p_l97, p_l98, p_l101, p_l122, p_l158, p_l201, p_l255, p_l256, p_l374, p_l880, p_l900, p_l1000, p_l2618, p_neg, nI_add, p_mul, p_sub, p_addm, p_addm0, p_subm, p_le, p_lt, p_eq, p_mO_eq, p_eq_mO, p_mO_lt, p_nlt_mO, p_mO_le, p_le_mO, p_rI, p_rL, p_wI, p_wL, p_wF, p_has10, p_has11, p_ib0, p_ib1, p_shl1, p_zv0, p_zv1, p_zvib, p_ibd, p_ibn, if_pos, if_neg, if_true, if_false, ne_eq, not_true, not_false_iff, Decidable.not_not, Nat.not_lt, Nat.not_le, Bool.true_eq_false, Bool.false_eq_true, eq_self, reduceIte, Nat.reduceAdd, Nat.reduceMul, Nat.reduceSub, Nat.reduceEqDiff, Nat.reduceLT, Nat.reduceLeDiff, reduceCtorEq, fX2_wrongPairs_l14, fX2_wrongPairs_b49, fX2_wrongPairs_b50, fX2_wrongPairs_b80, b1, p1, p2, hne, ibF, ibT, decide_true, decide_false, Bool.not_true, Bool.not_false]
    · cases b2 : bt (M.1 (1 + 6) k) u
      · have hne : ¬ sPl S u = sPl S k := fun z => by rw [r2.mpr (hs.mp z).2] at b2; cases b2
        simp (disch := omega) only [p_bnd, p_nm, p_gSEl, p_gSEr, p_l0, p_l1, p_l2, p_l3, p_l4, p_l5, p_l6, p_l7, p_l8, p_l9, p_l10, p_l14, p_l16, p_l20, p_l22, p_l24, p_l30, p_l31, p_l32, p_l38, p_l40, p_l41, p_l43, p_l48, p_l57, p_l59, p_l60, p_l61, p_l62, p_l63, p_l97, p_l98, p_l101, p_l122, p_l158, p_l201, p_l255, p_l256, p_l374, p_l880, p_l900, p_l1000, p_l2618, p_neg, nI_add, p_mul, p_sub, p_addm, p_addm0, p_subm, p_le, p_lt, p_eq, p_mO_eq, p_eq_mO, p_mO_lt, p_nlt_mO, p_mO_le, p_le_mO, p_rI, p_rL, p_wI, p_wL, p_wF, p_has10, p_has11, p_ib0, p_ib1, p_shl1, p_zv0, p_zv1, p_zvib, p_ibd, p_ibn, if_pos, if_neg, if_true, if_false, ne_eq, not_true, not_false_iff, Decidable.not_not, Nat.not_lt, Nat.not_le, Bool.true_eq_false, Bool.false_eq_true, eq_self, reduceIte, Nat.reduceAdd, Nat.reduceMul, Nat.reduceSub, Nat.reduceEqDiff, Nat.reduceLT, Nat.reduceLeDiff, reduceCtorEq, fX2_wrongPairs_l14, fX2_wrongPairs_b49, fX2_wrongPairs_b50, fX2_wrongPairs_b80, b1, b2, p1, p2, hne, ibF, ibT, decide_true, decide_false, Bool.not_true, Bool.not_false]
      · have heq : sPl S u = sPl S k := hs.mpr ⟨r1.mp b1, r2.mp b2⟩
        simp (disch := omega) only [p_bnd, p_nm, p_gSEl, p_gSEr, p_l0, p_l1, p_l2, p_l3, p_l4, p_l5, p_l6, p_l7, p_l8, p_l9, p_l10, p_l14, p_l16, p_l20, p_l22, p_l24, p_l30, p_l31, p_l32, p_l38, p_l40, p_l41, p_l43, p_l48, p_l57, p_l59, p_l60, p_l61, p_l62, p_l63, p_l97, p_l98, p_l101, p_l122, p_l158, p_l201, p_l255, p_l256, p_l374, p_l880, p_l900, p_l1000, p_l2618, p_neg, nI_add, p_mul, p_sub, p_addm, p_addm0, p_subm, p_le, p_lt, p_eq, p_mO_eq, p_eq_mO, p_mO_lt, p_nlt_mO, p_mO_le, p_le_mO, p_rI, p_rL, p_wI, p_wL, p_wF, p_has10, p_has11, p_ib0, p_ib1, p_shl1, p_zv0, p_zv1, p_zvib, p_ibd, p_ibn, if_pos, if_neg, if_true, if_false, ne_eq, not_true, not_false_iff, Decidable.not_not, Nat.not_lt, Nat.not_le, Bool.true_eq_false, Bool.false_eq_true, eq_self, reduceIte, Nat.reduceAdd, Nat.reduceMul, Nat.reduceSub, Nat.reduceEqDiff, Nat.reduceLT, Nat.reduceLeDiff, reduceCtorEq, fX2_wrongPairs_l14, fX2_wrongPairs_b50, fX2_wrongPairs_b80, b1, b2, p1, p2, heq, ibF, ibT, decide_true, decide_false, Bool.not_true, Bool.not_false]) (by simp (disch := omega) only [p_bnd, p_nm, p_gSEl, p_gSEr, p_l0, p_l1, p_l2, p_l3, p_l4, p_l5, p_l6, p_l7, p_l8, p_l9, p_l10, p_l14, p_l16, p_l20, p_l22, p_l24, p_l30, p_l31, p_l32, p_l38, p_l40, p_l41, p_l43, p_l48, p_l57, p_l59, p_l60, p_l61, p_l62, p_l63, p_l97, p_l98, p_l101, p_l122, p_l158, p_l201, p_l255, p_l256, p_l374, p_l880, p_l900, p_l1000, p_l2618, p_neg, nI_add, p_mul, p_sub, p_addm, p_addm0, p_subm, p_le, p_lt, p_eq, p_mO_eq, p_eq_mO, p_mO_lt, p_nlt_mO, p_mO_le, p_le_mO, p_rI, p_rL, p_wI, p_wL, p_wF, p_has10, p_has11, p_ib0, p_ib1, p_shl1, p_zv0, p_zv1, p_zvib, p_ibd, p_ibn, if_pos, if_neg, if_true, if_false, ne_eq, not_true, not_false_iff, Decidable.not_not, Nat.not_lt, Nat.not_le, Bool.true_eq_false, Bool.false_eq_true, eq_self, reduceIte, Nat.reduceAdd, Nat.reduceMul, Nat.reduceSub, Nat.reduceEqDiff, Nat.reduceLT, Nat.reduceLeDiff, reduceCtorEq, fX2_wrongPairs_l14])
  have e2 : gLoop (fun z9 => fX2_wrongPairs_l4 1 M z9.1 z9.2) gFu (nI 0, nI 0) = some (nI 0) := gLoop_f (body := fun z9 => fX2_wrongPairs_l4 1 M z9.1 z9.2) (fun k => (nI 0, nI k)) (sN S) gFu (by show sN S < 4096; omega) (fun k hk => by
    have e4 := e3 hk
    simp (disch := omega) only [p_bnd, p_nm, p_gSEl, p_gSEr, p_l0, p_l1, p_l2, p_l3, p_l4, p_l5, p_l6, p_l7, p_l8, p_l9, p_l10, p_l14, p_l16, p_l20, p_l22, p_l24, p_l30, p_l31, p_l32, p_l38, p_l40, p_l41, p_l43, p_l48, p_l57, p_l59, p_l60, p_l61, p_l62, p_l63, p_l97, p_l98, p_l101, p_l122, p_l158, p_l201, p_l255, p_l256, p_l374, p_l880, p_l900, p_l1000, p_l2618, p_neg, nI_add, p_mul, p_sub, p_addm, p_addm0, p_subm, p_le, p_lt, p_eq, p_mO_eq, p_eq_mO, p_mO_lt, p_nlt_mO, p_mO_le, p_le_mO, p_rI, p_rL, p_wI, p_wL, p_wF, p_has10, p_has11, p_ib0, p_ib1, p_shl1, p_zv0, p_zv1, p_zvib, p_ibd, p_ibn, if_pos, if_neg, if_true, if_false, ne_eq, not_true, not_false_iff, Decidable.not_not, Nat.not_lt, Nat.not_le, Bool.true_eq_false, Bool.false_eq_true, eq_self, reduceIte, Nat.reduceAdd, Nat.reduceMul, Nat.reduceSub, Nat.reduceEqDiff, Nat.reduceLT, Nat.reduceLeDiff, reduceCtorEq, fX2_wrongPairs_l4, n1, e4]) (by simp (disch := omega) only [p_bnd, p_nm, p_gSEl, p_gSEr, p_l0, p_l1, p_l2, p_l3, p_l4, p_l5, p_l6, p_l7, p_l8, p_l9, p_l10, p_l14, p_l16, p_l20, p_l22, p_l24, p_l30, p_l31, p_l32, p_l38, p_l40, p_l41, p_l43, p_l48, p_l57, p_l59, p_l60, p_l61, p_l62, p_l63, p_l97, p_l98, p_l101, p_l122, p_l158, p_l201, p_l255, p_l256, p_l374, p_l880, p_l900, p_l1000, p_l2618, p_neg, nI_add, p_mul, p_sub, p_addm, p_addm0, p_subm, p_le, p_lt, p_eq, p_mO_eq, p_eq_mO, p_mO_lt, p_nlt_mO, p_mO_le, p_le_mO, p_rI, p_rL, p_wI, p_wL, p_wF, p_has10, p_has11, p_ib0, p_ib1, p_shl1, p_zv0, p_zv1, p_zvib, p_ibd, p_ibn, if_pos, if_neg, if_true, if_false, ne_eq, not_true, not_false_iff, Decidable.not_not, Nat.not_lt, Nat.not_le, Bool.true_eq_false, Bool.false_eq_true, eq_self, reduceIte, Nat.reduceAdd, Nat.reduceMul, Nat.reduceSub, Nat.reduceEqDiff, Nat.reduceLT, Nat.reduceLeDiff, reduceCtorEq, fX2_wrongPairs_l4, n1])
  unfold fX10_gap fX2_wrongArrows fX2_wrongPairs
  rw [show gLoop (fun z9 => fX2_wrongArrows_l4 1 M z9.1 z9.2) gFu ((0 : Int32), (0 : Int32)) = some (nI 0) from e1, p_bnd, p_bnd, show gLoop (fun z9 => fX2_wrongPairs_l4 1 M z9.1 z9.2) gFu ((0 : Int32), (0 : Int32)) = some (nI 0) from e2, p_bnd, p_bnd]; rfl
theorem rs_gap (h : RS M S) : ∃ r, fX11_gap M = some (nI 0, r) ∧ gFr (fun c k => c = 6 ∨ (c = 0 ∧ k = 0)) M r ∧ r.1 0 0 = nI 0 := by
  have hn := h.2.1.1
  have hm := h.2.1.2.1
  have hg := (sW_24 h.2).2.2
  have h0 : RS (gI M 0 0 (nI 0)) S := RS_of h (p_gI_o (by decide))
  obtain ⟨M1, e0, F1, I1⟩ := r_laysReach0 h0.a
  have h1 : RS M1 S := RS_of h0 (gFr_c1 F1 (fun _ => by omega))
  have m1 : M1.1 1 1 = nI (sM S) := h1.1.1.2.1
  have n1 : M1.1 1 0 = nI (sN S) := h1.1.1.1
  have e1 : gLoop (fun z9 => fX11_gap_l14 M1 z9.1 z9.2) gFu (nI 0, nI 0) = some (nI 0) := gLoop_f (body := fun z9 => fX11_gap_l14 M1 z9.1 z9.2) (fun k => (nI 0, nI k)) (sM S) gFu (by show sM S < 4096; omega) (fun k hk => by
    obtain ⟨b1, b2, b3, b4, -⟩ := sW_ar h.2 hk
    have i1 := rs_isInner h1 hk
    obtain ⟨f1, f2⟩ := h1.1.2.2.2.1 k hk
    have p1 := rs_placeOf h1 b1
    have p2 := rs_placeOf h1 b2
    have ol := h.2.2.2.2.1.1 k hk
    cases hb : sIn S k
    · simp (disch := omega) only [p_bnd, p_nm, p_gSEl, p_gSEr, p_l0, p_l1, p_l2, p_l3, p_l4, p_l5, p_l6, p_l7, p_l8, p_l9, p_l10, p_l14, p_l16, p_l20, p_l22, p_l24, p_l30, p_l31, p_l32, p_l38, p_l40, p_l41, p_l43, p_l48, p_l57, p_l59, p_l60, p_l61, p_l62, p_l63, p_l97, p_l98, p_l101, p_l122, p_l158, p_l201, p_l255, p_l256, p_l374, p_l880, p_l900, p_l1000, p_l2618, p_neg, nI_add, p_mul, p_sub, p_addm, p_addm0, p_subm, p_le, p_lt, p_eq, p_mO_eq, p_eq_mO, p_mO_lt, p_nlt_mO, p_mO_le, p_le_mO, p_rI, p_rL, p_wI, p_wL, p_wF, p_has10, p_has11, p_ib0, p_ib1, p_shl1, p_zv0, p_zv1, p_zvib, p_ibd, p_ibn, if_pos, if_neg, if_true, if_false, ne_eq, not_true, not_false_iff, Decidable.not_not, Nat.not_lt, Nat.not_le, Bool.true_eq_false, Bool.false_eq_true, eq_self, reduceIte, Nat.reduceAdd, Nat.reduceMul, Nat.reduceSub, Nat.reduceEqDiff, Nat.reduceLT, Nat.reduceLeDiff, reduceCtorEq, fX11_gap_l14, fX11_gap_b66, fX11_gap_b67, m1, i1, hb, ibF, f1, f2, p1, p2]
    · simp (disch := omega) only [p_bnd, p_nm, p_gSEl, p_gSEr, p_l0, p_l1, p_l2, p_l3, p_l4, p_l5, p_l6, p_l7, p_l8, p_l9, p_l10, p_l14, p_l16, p_l20, p_l22, p_l24, p_l30, p_l31, p_l32, p_l38, p_l40, p_l41, p_l43, p_l48, p_l57, p_l59, p_l60, p_l61, p_l62, p_l63, p_l97, p_l98, p_l101, p_l122, p_l158, p_l201, p_l255, p_l256, p_l374, p_l880, p_l900, p_l1000, p_l2618, p_neg, nI_add, p_mul, p_sub, p_addm, p_addm0, p_subm, p_le, p_lt, p_eq, p_mO_eq, p_eq_mO, p_mO_lt, p_nlt_mO, p_mO_le, p_le_mO, p_rI, p_rL, p_wI, p_wL, p_wF, p_has10, p_has11, p_ib0, p_ib1, p_shl1, p_zv0, p_zv1, p_zvib, p_ibd, p_ibn, if_pos, if_neg, if_true, if_false, ne_eq, not_true, not_false_iff, Decidable.not_not, Nat.not_lt, Nat.not_le, Bool.true_eq_false, Bool.false_eq_true, eq_self, reduceIte, Nat.reduceAdd, Nat.reduceMul, Nat.reduceSub, Nat.reduceEqDiff, Nat.reduceLT, Nat.reduceLeDiff, reduceCtorEq, fX11_gap_l14, fX11_gap_b66, fX11_gap_b67, m1, i1, hb, ibT]) (by simp (disch := omega) only [p_bnd, p_nm, p_gSEl, p_gSEr, p_l0, p_l1, p_l2, p_l3, p_l4, p_l5, p_l6, p_l7, p_l8, p_l9, p_l10, p_l14, p_l16, p_l20, p_l22, p_l24, p_l30, p_l31, p_l32, p_l38, p_l40, p_l41, p_l43, p_l48, p_l57, p_l59, p_l60, p_l61, p_l62, p_l63, p_l97, p_l98, p_l101, p_l122, p_l158, p_l201, p_l255, p_l256, p_l374, p_l880, p_l900, p_l1000, p_l2618, p_neg, nI_add, p_mul, p_sub, p_addm, p_addm0, p_subm, p_le, p_lt, p_eq, p_mO_eq, p_eq_mO, p_mO_lt, p_nlt_mO, p_mO_le, p_le_mO, p_rI, p_rL, p_wI, p_wL, p_wF, p_has10, p_has11, p_ib0, p_ib1, p_shl1, p_zv0, p_zv1, p_zvib, p_ibd, p_ibn, if_pos, if_neg, if_true, if_false, ne_eq, not_true, not_false_iff, Decidable.not_not, Nat.not_lt, Nat.not_le, Bool.true_eq_false, Bool.false_eq_true, eq_self, reduceIte, Nat.reduceAdd, Nat.reduceMul, Nat.reduceSub, Nat.reduceEqDiff, Nat.reduceLT, Nat.reduceLeDiff, reduceCtorEq, fX11_gap_l14, m1])
  have e3 : ∀ {u : Nat}, u < sN S → gLoop (fun z9 => fX11_gap_l91 (nI u) M1 z9.1 z9.2) gFu (nI 0, nI (u + 1)) = some (nI 0) := fun {u} hu => gLoop_f (body := fun z9 => fX11_gap_l91 (nI u) M1 z9.1 z9.2) (fun k => (nI 0, nI (u + 1 + k))) (sN S - (u + 1)) gFu (by show sN S - (u + 1) < 4096; omega) (fun k hk => by
    obtain ⟨w, hw⟩ : ∃ w, w = u + 1 + k := ⟨_, rfl⟩
    have hk2 : w < sN S := by omega
    show fX11_gap_l91 (nI u) M1 (nI 0) (nI (u + 1 + k)) = some (.inl (nI 0, nI (u + 1 + k + 1)))
    rw [← hw]
    have p1 := rs_hd h1 hu
    have p2 := rs_hd h1 hk2
    have l1 := sHd_lt h.2 hu
    have l2 := sHd_lt h.2 hk2
    have hq := sHd_eq h.2 hu hk2
    have r1 := I1 u hu w (by omega)
    have r2 := I1 w hk2 u (by omega)
    have hs := sR.same h.2.2.2.2.1 hu hk2
    cases b1 : bt (M1.1 6 u) w
    · have hne : ¬ sPl S u = sPl S w := fun z => by have := r1.mpr (hs.mp z).1; rw [b1] at this; cases this
      simp (disch := omega) only [p_bnd, p_nm, p_gSEl, p_gSEr, p_l0, p_l1, p_l2, p_l3, p_l4, p_l5, p_l6, p_l7, p_l8, p_l9, p_l10, p_l14, p_l16, p_l20, p_l22, p_l24, p_l30, p_l31, p_l32, p_l38, p_l40, p_l41, p_l43, p_l48, p_l57, p_l59, p_l60, p_l61, p_l62, p_l63, p_l97, p_l98, p_l101, p_l122, p_l158, p_l201, p_l255, p_l256, p_l374, p_l880, p_l900, p_l1000, p_l2618, p_neg, nI_add, p_mul, p_sub, p_addm, p_addm0, p_subm, p_le, p_lt, p_eq, p_mO_eq, p_eq_mO, p_mO_lt, p_nlt_mO, p_mO_le, p_le_mO, p_rI, p_rL, p_wI, p_wL, p_wF, p_has10, p_has11, p_ib0, p_ib1, p_shl1, p_zv0, p_zv1, p_zvib, p_ibd, p_ibn, if_pos, if_neg, if_true, if_false, ne_eq, not_true, not_false_iff, Decidable.not_not, Nat.not_lt, Nat.not_le, Bool.true_eq_false, Bool.false_eq_true, eq_self, reduceIte, Nat.reduceAdd, Nat.reduceMul, Nat.reduceSub, Nat.reduceEqDiff, Nat.reduceLT, Nat.reduceLeDiff, reduceCtorEq, fX11_gap_l91, fX11_gap_b131, fX11_gap_b132, n1, b1, p1, p2, hq, hne, ibF, ibT, decide_true, decide_false, Bool.not_true, Bool.not_false]
    · cases b2 : bt (M1.1 6 w) u
      · have hne : ¬ sPl S u = sPl S w := fun z => by have := r2.mpr (hs.mp z).2; rw [b2] at this; cases this
        simp (disch := omega) only [p_bnd, p_nm, p_gSEl, p_gSEr, p_l0, p_l1, p_l2, p_l3, p_l4, p_l5, p_l6, p_l7, p_l8, p_l9, p_l10, p_l14, p_l16, p_l20, p_l22, p_l24, p_l30, p_l31, p_l32, p_l38, p_l40, p_l41, p_l43, p_l48, p_l57, p_l59, p_l60, p_l61, p_l62, p_l63, p_l97, p_l98, p_l101, p_l122, p_l158, p_l201, p_l255, p_l256, p_l374, p_l880, p_l900, p_l1000, p_l2618, p_neg, nI_add, p_mul, p_sub, p_addm, p_addm0, p_subm, p_le, p_lt, p_eq, p_mO_eq, p_eq_mO, p_mO_lt, p_nlt_mO, p_mO_le, p_le_mO, p_rI, p_rL, p_wI, p_wL, p_wF, p_has10, p_has11, p_ib0, p_ib1, p_shl1, p_zv0, p_zv1, p_zvib, p_ibd, p_ibn, if_pos, if_neg, if_true, if_false, ne_eq, not_true, not_false_iff, Decidable.not_not, Nat.not_lt, Nat.not_le, Bool.true_eq_false, Bool.false_eq_true, eq_self, reduceIte, Nat.reduceAdd, Nat.reduceMul, Nat.reduceSub, Nat.reduceEqDiff, Nat.reduceLT, Nat.reduceLeDiff, reduceCtorEq, fX11_gap_l91, fX11_gap_b131, fX11_gap_b132, n1, b1, b2, p1, p2, hq, hne, ibF, ibT, decide_true, decide_false, Bool.not_true, Bool.not_false]
      · have heq : sPl S u = sPl S w := hs.mpr ⟨r1.mp b1, r2.mp b2⟩
        simp (disch := omega) only [p_bnd, p_nm, p_gSEl, p_gSEr, p_l0, p_l1, p_l2, p_l3, p_l4, p_l5, p_l6, p_l7, p_l8, p_l9, p_l10, p_l14, p_l16, p_l20, p_l22, p_l24, p_l30, p_l31, p_l32, p_l38, p_l40, p_l41, p_l43, p_l48, p_l57, p_l59, p_l60, p_l61, p_l62, p_l63, p_l97, p_l98, p_l101, p_l122, p_l158, p_l201, p_l255, p_l256, p_l374, p_l880, p_l900, p_l1000, p_l2618, p_neg, nI_add, p_mul, p_sub, p_addm, p_addm0, p_subm, p_le, p_lt, p_eq, p_mO_eq, p_eq_mO, p_mO_lt, p_nlt_mO, p_mO_le, p_le_mO, p_rI, p_rL, p_wI, p_wL, p_wF, p_has10, p_has11, p_ib0, p_ib1, p_shl1, p_zv0, p_zv1, p_zvib, p_ibd, p_ibn, if_pos, if_neg, if_true, if_false, ne_eq, not_true, not_false_iff, Decidable.not_not, Nat.not_lt, Nat.not_le, Bool.true_eq_false, Bool.false_eq_true, eq_self, reduceIte, Nat.reduceAdd, Nat.reduceMul, Nat.reduceSub, Nat.reduceEqDiff, Nat.reduceLT, Nat.reduceLeDiff, reduceCtorEq, fX11_gap_l91, fX11_gap_b132, n1, b1, b2, p1, p2, hq, heq, ibF, ibT, decide_true, decide_false, Bool.not_true, Bool.not_false]) (by
    rw [show u + 1 + (sN S - (u + 1)) = sN S by omega]
    simp (disch := omega) only [p_bnd, p_nm, p_gSEl, p_gSEr, p_l0, p_l1, p_l2, p_l3, p_l4, p_l5, p_l6, p_l7, p_l8, p_l9, p_l10, p_l14, p_l16, p_l20, p_l22, p_l24, p_l30, p_l31, p_l32, p_l38, p_l40, p_l41, p_l43, p_l48, p_l57, p_l59, p_l60, p_l61, p_l62, p_l63, p_l97, p_l98, p_l101, p_l122, p_l158, p_l201, p_l255, p_l256, p_l374, p_l880, p_l900, p_l1000, p_l2618, p_neg, nI_add, p_mul, p_sub, p_addm, p_addm0, p_subm, p_le, p_lt, p_eq, p_mO_eq, p_eq_mO, p_mO_lt, p_nlt_mO, p_mO_le, p_le_mO, p_rI, p_rL, p_wI, p_wL, p_wF, p_has10, p_has11, p_ib0, p_ib1, p_shl1, p_zv0, p_zv1, p_zvib, p_ibd, p_ibn, if_pos, if_neg, if_true, if_false, ne_eq, not_true, not_false_iff, Decidable.not_not, Nat.not_lt, Nat.not_le, Bool.true_eq_false, Bool.false_eq_true, eq_self, reduceIte, Nat.reduceAdd, Nat.reduceMul, Nat.reduceSub, Nat.reduceEqDiff, Nat.reduceLT, Nat.reduceLeDiff, reduceCtorEq, fX11_gap_l91, n1])
  have e2 : gLoop (fun z9 => fX11_gap_l77 M1 z9.1 z9.2) gFu (nI 0, nI 0) = some (nI 0) := gLoop_f (body := fun z9 => fX11_gap_l77 M1 z9.1 z9.2) (fun k => (nI 0, nI k)) (sN S) gFu (by show sN S < 4096; omega) (fun k hk => by
    have e4 := e3 hk
    simp (disch := omega) only [p_bnd, p_nm, p_gSEl, p_gSEr, p_l0, p_l1, p_l2, p_l3, p_l4, p_l5, p_l6, p_l7, p_l8, p_l9, p_l10, p_l14, p_l16, p_l20, p_l22, p_l24, p_l30, p_l31, p_l32, p_l38, p_l40, p_l41, p_l43, p_l48, p_l57, p_l59, p_l60, p_l61, p_l62, p_l63, p_l97, p_l98, p_l101, p_l122, p_l158, p_l201, p_l255, p_l256, p_l374, p_l880, p_l900, p_l1000, p_l2618, p_neg, nI_add, p_mul, p_sub, p_addm, p_addm0, p_subm, p_le, p_lt, p_eq, p_mO_eq, p_eq_mO, p_mO_lt, p_nlt_mO, p_mO_le, p_le_mO, p_rI, p_rL, p_wI, p_wL, p_wF, p_has10, p_has11, p_ib0, p_ib1, p_shl1, p_zv0, p_zv1, p_zvib, p_ibd, p_ibn, if_pos, if_neg, if_true, if_false, ne_eq, not_true, not_false_iff, Decidable.not_not, Nat.not_lt, Nat.not_le, Bool.true_eq_false, Bool.false_eq_true, eq_self, reduceIte, Nat.reduceAdd, Nat.reduceMul, Nat.reduceSub, Nat.reduceEqDiff, Nat.reduceLT, Nat.reduceLeDiff, reduceCtorEq, fX11_gap_l77, n1, e4]) (by simp (disch := omega) only [p_bnd, p_nm, p_gSEl, p_gSEr, p_l0, p_l1, p_l2, p_l3, p_l4, p_l5, p_l6, p_l7, p_l8, p_l9, p_l10, p_l14, p_l16, p_l20, p_l22, p_l24, p_l30, p_l31, p_l32, p_l38, p_l40, p_l41, p_l43, p_l48, p_l57, p_l59, p_l60, p_l61, p_l62, p_l63, p_l97, p_l98, p_l101, p_l122, p_l158, p_l201, p_l255, p_l256, p_l374, p_l880, p_l900, p_l1000, p_l2618, p_neg, nI_add, p_mul, p_sub, p_addm, p_addm0, p_subm, p_le, p_lt, p_eq, p_mO_eq, p_eq_mO, p_mO_lt, p_nlt_mO, p_mO_le, p_le_mO, p_rI, p_rL, p_wI, p_wL, p_wF, p_has10, p_has11, p_ib0, p_ib1, p_shl1, p_zv0, p_zv1, p_zvib, p_ibd, p_ibn, if_pos, if_neg, if_true, if_false, ne_eq, not_true, not_false_iff, Decidable.not_not, Nat.not_lt, Nat.not_le, Bool.true_eq_false, Bool.false_eq_true, eq_self, reduceIte, Nat.reduceAdd, Nat.reduceMul, Nat.reduceSub, Nat.reduceEqDiff, Nat.reduceLT, Nat.reduceLeDiff, reduceCtorEq, fX11_gap_l77, n1])
  refine ⟨M1, ?_, gFr_tr (gFr_I (Or.inr ⟨rfl, rfl⟩)) (gFr_mo F1 (fun c k z => Or.inl z)), by rw [(F1 0 0 (by omega)).1, p_gI_s]⟩
  unfold fX11_gap
  rw [show (0 : Int32) = nI 0 from rfl, p_wF, p_bnd, e0, p_bnd, e1, p_bnd, e2, p_bnd]
end LP
