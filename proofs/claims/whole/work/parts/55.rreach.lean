/-! THE REFERENCE reads: heads, places, numbers of arrows; what reaches what -/
/-- arrows but one -/
def sX (S : gS) (a u v : Nat) : Prop := ∃ i, i < sM S ∧ i ≠ a ∧ sFr S i = u ∧ sTo S i = v
theorem sX_none {S : gS} {a : Nat} (h : sM S ≤ a) (u v : Nat) : sX S a u v ↔ sE S u v :=
  ⟨fun ⟨i, h1, _, h2⟩ => ⟨i, h1, h2⟩, fun ⟨i, h1, h2⟩ => ⟨i, h1, by omega, h2⟩⟩
section RD
variable {M : gMem} {S : gS} {n : Nat} {hd : Nat → Nat}
/-- behind r0: the arrows below k but one -/
def sXk (S : gS) (a k t v : Nat) : Prop := t = v ∨ ∃ i, i < k ∧ i ≠ a ∧ sFr S i = t ∧ sTo S i = v
theorem sXk_succ {S : gS} {a k t v : Nat} : sXk S a (k + 1) t v ↔ sXk S a k t v ∨ (k ≠ a ∧ sFr S k = t ∧ sTo S k = v) := by
  unfold sXk
  constructor
  · rintro (h | ⟨i, h1, h2⟩)
    · exact Or.inl (Or.inl h)
    · by_cases e : i = k
      · subst e; exact Or.inr h2
      · exact Or.inl (Or.inr ⟨i, by omega, h2⟩)
  · rintro ((h | ⟨i, h1, h2⟩) | h)
    · exact Or.inl h
    · exact Or.inr ⟨i, by omega, h2⟩
    · exact Or.inr ⟨k, by omega, h⟩
theorem r_reach1 (h : RA (M.1 1) S) (b : Int32) : ∃ r, gLoop (fun z9 => fX11_laysReach_l2 b z9.1 z9.2) gFu ((0 : Int32), M) = some r ∧ gFr (fun c _ => c = 6) M r ∧ ∀ t, t < sN S → r.1 6 t = sb t := by
  obtain ⟨h0, h1, hn, hm, h2⟩ := h
  refine gLoop_i (fun k s => ∃ M', s = (nI k, M') ∧ gFr (fun c _ => c = 6) M M' ∧ ∀ t, t < k → M'.1 6 t = sb t) _ (sN S) ⟨M, rfl, gFr_rf, fun t ht => absurd ht (Nat.not_lt_zero t)⟩ (by show sN S < 4096; omega) ?_
  rintro k s hk ⟨M', rfl, hF, hI⟩
  have hc : M'.1 1 = M.1 1 := gFr_c1 hF (fun _ => by decide)
  rcases Nat.lt_or_ge k (sN S) with q | q
  · refine Or.inl ⟨(nI (k + 1), gI M' 6 k (sb k)), ?_, q, _, rfl, gFr_trI hF rfl, ?_⟩
    · simp (disch := omega) only [p_bnd, p_nm, p_gSEl, p_gSEr, p_l0, p_l1, p_l2, p_l3, p_l4, p_l5, p_l6, p_l7, p_l8, p_l9, p_l10, p_l14, p_l16, p_l20, p_l22, p_l24, p_l30, p_l31, p_l32, p_l38, p_l40, p_l41, p_l43, p_l48, p_l57, p_l59, p_l60, p_l61, p_l62, p_l63, p_l97, p_l98, p_l101, p_l122, p_l158, p_l201, p_l255, p_l256, p_l374, p_l880, p_l900, p_l1000, p_l2618, p_neg, nI_add, p_mul, p_sub, p_addm, p_addm0, p_subm, p_le, p_lt, p_eq, p_mO_eq, p_eq_mO, p_mO_lt, p_nlt_mO, p_mO_le, p_le_mO, p_rI, p_rL, p_wI, p_wL, p_wF, p_has10, p_has11, p_ib0, p_ib1, p_shl1, p_zv0, p_zv1, p_zvib, p_ibd, p_ibn, if_pos, if_neg, if_true, if_false, ne_eq, not_true, not_false_iff, Decidable.not_not, Nat.not_lt, Nat.not_le, Bool.true_eq_false, Bool.false_eq_true, eq_self, reduceIte, Nat.reduceAdd, Nat.reduceMul, Nat.reduceSub, Nat.reduceEqDiff, Nat.reduceLT, Nat.reduceLeDiff, reduceCtorEq, fX11_laysReach_l2, hc, h0]
    · intro t ht
      rw [p_gI]
      by_cases e : t = k
      · rw [if_pos ⟨rfl, e⟩, e]
      · rw [if_neg (fun z => e z.2)]; exact hI t (by omega)
  · refine Or.inr ⟨M', ?_, hF, fun t ht => hI t (by omega)⟩
    simp (disch := omega) only [p_bnd, p_nm, p_gSEl, p_gSEr, p_l0, p_l1, p_l2, p_l3, p_l4, p_l5, p_l6, p_l7, p_l8, p_l9, p_l10, p_l14, p_l16, p_l20, p_l22, p_l24, p_l30, p_l31, p_l32, p_l38, p_l40, p_l41, p_l43, p_l48, p_l57, p_l59, p_l60, p_l61, p_l62, p_l63, p_l97, p_l98, p_l101, p_l122, p_l158, p_l201, p_l255, p_l256, p_l374, p_l880, p_l900, p_l1000, p_l2618, p_neg, nI_add, p_mul, p_sub, p_addm, p_addm0, p_subm, p_le, p_lt, p_eq, p_mO_eq, p_eq_mO, p_mO_lt, p_nlt_mO, p_mO_le, p_le_mO, p_rI, p_rL, p_wI, p_wL, p_wF, p_has10, p_has11, p_ib0, p_ib1, p_shl1, p_zv0, p_zv1, p_zvib, p_ibd, p_ibn, if_pos, if_neg, if_true, if_false, ne_eq, not_true, not_false_iff, Decidable.not_not, Nat.not_lt, Nat.not_le, Bool.true_eq_false, Bool.false_eq_true, eq_self, reduceIte, Nat.reduceAdd, Nat.reduceMul, Nat.reduceSub, Nat.reduceEqDiff, Nat.reduceLT, Nat.reduceLeDiff, reduceCtorEq, fX11_laysReach_l2, hc, h0]
theorem r_reach2 (h : RA (M.1 1) S) {b : Int32} {a : Nat} (hb : ∀ i, i < sM S → ((nI i = b) = (i = a))) (hr : ∀ t, t < sN S → M.1 6 t = sb t) : ∃ r, gLoop (fun z9 => fX11_laysReach_l29 b z9.1 z9.2) gFu ((0 : Int32), M) = some r ∧ gFr (fun c _ => c = 6) M r ∧ ∀ t, t < sN S → ∀ v, v < 32 → (bt (r.1 6 t) v = true ↔ sXk S a (sM S) t v) := by
  obtain ⟨h0, h1, hn, hm, h2⟩ := h
  refine gLoop_i (fun k s => ∃ M', s = (nI k, M') ∧ gFr (fun c _ => c = 6) M M' ∧ ∀ t, t < sN S → ∀ v, v < 32 → (bt (M'.1 6 t) v = true ↔ sXk S a k t v)) _ (sM S) ⟨M, rfl, gFr_rf, fun t ht v hv => ?_⟩ (by show sM S < 4096; omega) ?_
  · rw [hr t ht, p_sb (by omega), decide_eq_true_eq]
    unfold sXk
    constructor
    · intro e; exact Or.inl e.symm
    · rintro (e | ⟨i, h1, _⟩)
      · exact e.symm
      · omega
  rintro k s hk ⟨M', rfl, hF, hI⟩
  have hc : M'.1 1 = M.1 1 := gFr_c1 hF (fun _ => by decide)
  rcases Nat.lt_or_ge k (sM S) with q | q
  · obtain ⟨a1, a2, a3, a4⟩ := h2 k q
    have hbk := hb k q
    by_cases e : k = a
    · have e1 : (nI k = b) := by rw [hbk]; exact e
      refine Or.inl ⟨(nI (k + 1), gI M' 6 (sFr S k) (M'.1 6 (sFr S k) ||| nI 0)), ?_, q, _, rfl, gFr_trI hF rfl, ?_⟩
      · simp (disch := omega) only [p_bnd, p_nm, p_gSEl, p_gSEr, p_l0, p_l1, p_l2, p_l3, p_l4, p_l5, p_l6, p_l7, p_l8, p_l9, p_l10, p_l14, p_l16, p_l20, p_l22, p_l24, p_l30, p_l31, p_l32, p_l38, p_l40, p_l41, p_l43, p_l48, p_l57, p_l59, p_l60, p_l61, p_l62, p_l63, p_l97, p_l98, p_l101, p_l122, p_l158, p_l201, p_l255, p_l256, p_l374, p_l880, p_l900, p_l1000, p_l2618, p_neg, nI_add, p_mul, p_sub, p_addm, p_addm0, p_subm, p_le, p_lt, p_eq, p_mO_eq, p_eq_mO, p_mO_lt, p_nlt_mO, p_mO_le, p_le_mO, p_rI, p_rL, p_wI, p_wL, p_wF, p_has10, p_has11, p_ib0, p_ib1, p_shl1, p_zv0, p_zv1, p_zvib, p_ibd, p_ibn, if_pos, if_neg, if_true, if_false, ne_eq, not_true, not_false_iff, Decidable.not_not, Nat.not_lt, Nat.not_le, Bool.true_eq_false, Bool.false_eq_true, eq_self, reduceIte, Nat.reduceAdd, Nat.reduceMul, Nat.reduceSub, Nat.reduceEqDiff, Nat.reduceLT, Nat.reduceLeDiff, reduceCtorEq, fX11_laysReach_l29, fX11_laysReach_b74, hc, h1, a1, a2, if_pos e1]
      · intro t ht v hv
        rw [sXk_succ, p_gI]
        by_cases e2 : t = sFr S k
        · rw [if_pos ⟨rfl, e2⟩, b_or, p_bt0, Bool.or_false, ← e2, hI t ht v hv]
          exact ⟨Or.inl, fun z => z.elim id (fun y => absurd e y.1)⟩
        · rw [if_neg (fun z => e2 z.2), hI t ht v hv]
          exact ⟨Or.inl, fun z => z.elim id (fun y => absurd e y.1)⟩
    · have e1 : ¬ (nI k = b) := by rw [hbk]; exact e
      refine Or.inl ⟨(nI (k + 1), gI M' 6 (sFr S k) (M'.1 6 (sFr S k) ||| sb (sTo S k))), ?_, q, _, rfl, gFr_trI hF rfl, ?_⟩
      · simp (disch := omega) only [p_bnd, p_nm, p_gSEl, p_gSEr, p_l0, p_l1, p_l2, p_l3, p_l4, p_l5, p_l6, p_l7, p_l8, p_l9, p_l10, p_l14, p_l16, p_l20, p_l22, p_l24, p_l30, p_l31, p_l32, p_l38, p_l40, p_l41, p_l43, p_l48, p_l57, p_l59, p_l60, p_l61, p_l62, p_l63, p_l97, p_l98, p_l101, p_l122, p_l158, p_l201, p_l255, p_l256, p_l374, p_l880, p_l900, p_l1000, p_l2618, p_neg, nI_add, p_mul, p_sub, p_addm, p_addm0, p_subm, p_le, p_lt, p_eq, p_mO_eq, p_eq_mO, p_mO_lt, p_nlt_mO, p_mO_le, p_le_mO, p_rI, p_rL, p_wI, p_wL, p_wF, p_has10, p_has11, p_ib0, p_ib1, p_shl1, p_zv0, p_zv1, p_zvib, p_ibd, p_ibn, if_pos, if_neg, if_true, if_false, ne_eq, not_true, not_false_iff, Decidable.not_not, Nat.not_lt, Nat.not_le, Bool.true_eq_false, Bool.false_eq_true, eq_self, reduceIte, Nat.reduceAdd, Nat.reduceMul, Nat.reduceSub, Nat.reduceEqDiff, Nat.reduceLT, Nat.reduceLeDiff, reduceCtorEq, fX11_laysReach_l29, fX11_laysReach_b74, hc, h1, a1, a2, if_neg e1]
      · intro t ht v hv
        rw [sXk_succ, p_gI]
        by_cases e2 : t = sFr S k
        · rw [if_pos ⟨rfl, e2⟩, b_or, p_sb (by omega), Bool.or_eq_true, decide_eq_true_eq, ← e2, hI t ht v hv]
          exact ⟨fun z => z.elim Or.inl (fun y => Or.inr ⟨e, rfl, y.symm⟩), fun z => z.elim Or.inl (fun y => Or.inr y.2.2.symm)⟩
        · rw [if_neg (fun z => e2 z.2), hI t ht v hv]
          exact ⟨Or.inl, fun z => z.elim id (fun y => absurd y.2.1.symm e2)⟩
  · refine Or.inr ⟨M', ?_, hF, fun t ht v hv => ?_⟩
    · simp (disch := omega) only [p_bnd, p_nm, p_gSEl, p_gSEr, p_l0, p_l1, p_l2, p_l3, p_l4, p_l5, p_l6, p_l7, p_l8, p_l9, p_l10, p_l14, p_l16, p_l20, p_l22, p_l24, p_l30, p_l31, p_l32, p_l38, p_l40, p_l41, p_l43, p_l48, p_l57, p_l59, p_l60, p_l61, p_l62, p_l63, p_l97, p_l98, p_l101, p_l122, p_l158, p_l201, p_l255, p_l256, p_l374, p_l880, p_l900, p_l1000, p_l2618, p_neg, nI_add, p_mul, p_sub, p_addm, p_addm0, p_subm, p_le, p_lt, p_eq, p_mO_eq, p_eq_mO, p_mO_lt, p_nlt_mO, p_mO_le, p_le_mO, p_rI, p_rL, p_wI, p_wL, p_wF, p_has10, p_has11, p_ib0, p_ib1, p_shl1, p_zv0, p_zv1, p_zvib, p_ibd, p_ibn, if_pos, if_neg, if_true, if_false, ne_eq, not_true, not_false_iff, Decidable.not_not, Nat.not_lt, Nat.not_le, Bool.true_eq_false, Bool.false_eq_true, eq_self, reduceIte, Nat.reduceAdd, Nat.reduceMul, Nat.reduceSub, Nat.reduceEqDiff, Nat.reduceLT, Nat.reduceLeDiff, reduceCtorEq, fX11_laysReach_l29, hc, h1]
    · rw [hI t ht v hv, show k = sM S by omega]
theorem r_reach3 (h : RA (M.1 1) S) {k : Nat} (hk : k < sN S) {r : Nat → Nat → Prop} (hr : ∀ t, t < sN S → ∀ v, v < 32 → (bt (M.1 6 t) v = true ↔ r t v)) : ∃ q, gLoop (fun z9 => fX11_laysReach_l96 (nI k) z9.1 z9.2) gFu ((0 : Int32), M) = some q ∧ gFr (fun c _ => c = 6) M q ∧ ∀ t, t < sN S → ∀ v, v < 32 → (bt (q.1 6 t) v = true ↔ gWk k r t v) := by
  obtain ⟨h0, h1, hn, hm, h2⟩ := h
  refine gLoop_i (fun j s => ∃ M', s = (nI j, M') ∧ gFr (fun c _ => c = 6) M M' ∧ (∀ t, t < sN S → ∀ v, v < 32 → (bt (M'.1 6 t) v = true ↔ if t < j then gWk k r t v else r t v))) _ (sN S) ⟨M, rfl, gFr_rf, fun t ht v hv => by rw [if_neg (Nat.not_lt_zero t)]; exact hr t ht v hv⟩ (by show sN S < 4096; omega) ?_
  rintro j s hj ⟨M', rfl, hF, hI⟩
  have hc : M'.1 1 = M.1 1 := gFr_c1 hF (fun _ => by decide)
  rcases Nat.lt_or_ge j (sN S) with q | q
  · have hkr : ∀ v, v < 32 → (bt (M'.1 6 k) v = true ↔ r k v) := by
      intro v hv
      rw [hI k hk v hv]
      split
      · exact gWk_self
      · exact Iff.rfl
    have hjr : ∀ v, v < 32 → (bt (M'.1 6 j) v = true ↔ r j v) := by
      intro v hv
      rw [hI j q v hv, if_neg (Nat.lt_irrefl j)]
    cases hb : bt (M'.1 6 j) k
    · refine Or.inl ⟨(nI (j + 1), gI M' 6 j (M'.1 6 j ||| nI 0)), ?_, q, _, rfl, gFr_trI hF rfl, ?_⟩
      · simp (disch := omega) only [p_bnd, p_nm, p_gSEl, p_gSEr, p_l0, p_l1, p_l2, p_l3, p_l4, p_l5, p_l6, p_l7, p_l8, p_l9, p_l10, p_l14, p_l16, p_l20, p_l22, p_l24, p_l30, p_l31, p_l32, p_l38, p_l40, p_l41, p_l43, p_l48, p_l57, p_l59, p_l60, p_l61, p_l62, p_l63, p_l97, p_l98, p_l101, p_l122, p_l158, p_l201, p_l255, p_l256, p_l374, p_l880, p_l900, p_l1000, p_l2618, p_neg, nI_add, p_mul, p_sub, p_addm, p_addm0, p_subm, p_le, p_lt, p_eq, p_mO_eq, p_eq_mO, p_mO_lt, p_nlt_mO, p_mO_le, p_le_mO, p_rI, p_rL, p_wI, p_wL, p_wF, p_has10, p_has11, p_ib0, p_ib1, p_shl1, p_zv0, p_zv1, p_zvib, p_ibd, p_ibn, if_pos, if_neg, if_true, if_false, ne_eq, not_true, not_false_iff, Decidable.not_not, Nat.not_lt, Nat.not_le, Bool.true_eq_false, Bool.false_eq_true, eq_self, reduceIte, Nat.reduceAdd, Nat.reduceMul, Nat.reduceSub, Nat.reduceEqDiff, Nat.reduceLT, Nat.reduceLeDiff, reduceCtorEq, fX11_laysReach_l96, fX11_laysReach_b136, hc, h0, hb]
      · intro t ht v hv
        rw [p_gI]
        by_cases e : t = j
        · rw [if_pos ⟨rfl, e⟩, b_or, p_bt0, Bool.or_false, hjr v hv, e, if_pos (by omega)]
          exact ⟨Or.inl, fun z => z.elim id (fun y => absurd ((hjr k (by omega)).mpr y.1) (by rw [hb]; decide))⟩
        · rw [if_neg (fun z => e z.2), hI t ht v hv]
          by_cases e2 : t < j
          · rw [if_pos e2, if_pos (by omega)]
          · rw [if_neg e2, if_neg (by omega)]
    · refine Or.inl ⟨(nI (j + 1), gI M' 6 j (M'.1 6 j ||| M'.1 6 k)), ?_, q, _, rfl, gFr_trI hF rfl, ?_⟩
      · simp (disch := omega) only [p_bnd, p_nm, p_gSEl, p_gSEr, p_l0, p_l1, p_l2, p_l3, p_l4, p_l5, p_l6, p_l7, p_l8, p_l9, p_l10, p_l14, p_l16, p_l20, p_l22, p_l24, p_l30, p_l31, p_l32, p_l38, p_l40, p_l41, p_l43, p_l48, p_l57, p_l59, p_l60, p_l61, p_l62, p_l63, p_l97, p_l98, p_l101, p_l122, p_l158, p_l201, p_l255, p_l256, p_l374, p_l880, p_l900, p_l1000, p_l2618, p_neg, nI_add, p_mul, p_sub, p_addm, p_addm0, p_subm, p_le, p_lt, p_eq, p_mO_eq, p_eq_mO, p_mO_lt, p_nlt_mO, p_mO_le, p_le_mO, p_rI, p_rL, p_wI, p_wL, p_wF, p_has10, p_has11, p_ib0, p_ib1, p_shl1, p_zv0, p_zv1, p_zvib, p_ibd, p_ibn, if_pos, if_neg, if_true, if_false, ne_eq, not_true, not_false_iff, Decidable.not_not, Nat.not_lt, Nat.not_le, Bool.true_eq_false, Bool.false_eq_true, eq_self, reduceIte, Nat.reduceAdd, Nat.reduceMul, Nat.reduceSub, Nat.reduceEqDiff, Nat.reduceLT, Nat.reduceLeDiff, reduceCtorEq, fX11_laysReach_l96, fX11_laysReach_b136, hc, h0, hb]
      · intro t ht v hv
        rw [p_gI]
        by_cases e : t = j
        · rw [if_pos ⟨rfl, e⟩, b_or, Bool.or_eq_true, hjr v hv, hkr v hv, e, if_pos (by omega)]
          exact ⟨fun z => z.elim Or.inl (fun y => Or.inr ⟨(hjr k (by omega)).mp hb, y⟩), fun z => z.elim Or.inl (fun y => Or.inr y.2)⟩
        · rw [if_neg (fun z => e z.2), hI t ht v hv]
          by_cases e2 : t < j
          · rw [if_pos e2, if_pos (by omega)]
          · rw [if_neg e2, if_neg (by omega)]
  · refine Or.inr ⟨M', ?_, hF, fun t ht v hv => ?_⟩
    · simp (disch := omega) only [p_bnd, p_nm, p_gSEl, p_gSEr, p_l0, p_l1, p_l2, p_l3, p_l4, p_l5, p_l6, p_l7, p_l8, p_l9, p_l10, p_l14, p_l16, p_l20, p_l22, p_l24, p_l30, p_l31, p_l32, p_l38, p_l40, p_l41, p_l43, p_l48, p_l57, p_l59, p_l60, p_l61, p_l62, p_l63, p_l97, p_l98, p_l101, p_l122, p_l158, p_l201, p_l255, p_l256, p_l374, p_l880, p_l900, p_l1000, p_l2618, p_neg, nI_add, p_mul, p_sub, p_addm, p_addm0, p_subm, p_le, p_lt, p_eq, p_mO_eq, p_eq_mO, p_mO_lt, p_nlt_mO, p_mO_le, p_le_mO, p_rI, p_rL, p_wI, p_wL, p_wF, p_has10, p_has11, p_ib0, p_ib1, p_shl1, p_zv0, p_zv1, p_zvib, p_ibd, p_ibn, if_pos, if_neg, if_true, if_false, ne_eq, not_true, not_false_iff, Decidable.not_not, Nat.not_lt, Nat.not_le, Bool.true_eq_false, Bool.false_eq_true, eq_self, reduceIte, Nat.reduceAdd, Nat.reduceMul, Nat.reduceSub, Nat.reduceEqDiff, Nat.reduceLT, Nat.reduceLeDiff, reduceCtorEq, fX11_laysReach_l96, hc, h0]
    · rw [hI t ht v hv, if_pos (by omega)]
theorem RA_of {M M' : gMem} (h : RA (M.1 1) S) (e : M'.1 1 = M.1 1) : RA (M'.1 1) S := by rw [e]; exact h
theorem r_reach4 (h : RA (M.1 1) S) {r : Nat → Nat → Prop} (hr : ∀ t, t < sN S → ∀ v, v < 32 → (bt (M.1 6 t) v = true ↔ r t v)) : ∃ q, gLoop (fun z9 => fX11_laysReach_l84 z9.1 z9.2) gFu ((0 : Int32), M) = some q ∧ gFr (fun c _ => c = 6) M q ∧ ∀ t, t < sN S → ∀ v, v < 32 → (bt (q.1 6 t) v = true ↔ gWa r (sN S) t v) := by
  obtain ⟨h0, h1, hn, hm, h2⟩ := id h
  refine gLoop_i (fun k s => ∃ M', s = (nI k, M') ∧ gFr (fun c _ => c = 6) M M' ∧ (∀ t, t < sN S → ∀ v, v < 32 → (bt (M'.1 6 t) v = true ↔ gWa r k t v))) _ (sN S) ⟨M, rfl, gFr_rf, hr⟩ (by show sN S < 4096; omega) ?_
  rintro k s hk ⟨M', rfl, hF, hI⟩
  have hc : M'.1 1 = M.1 1 := gFr_c1 hF (fun _ => by decide)
  rcases Nat.lt_or_ge k (sN S) with q | q
  · obtain ⟨M2, e2, F2, I2⟩ := r_reach3 (RA_of h hc) q hI
    refine Or.inl ⟨(nI (k + 1), M2), ?_, q, _, rfl, gFr_tr hF F2, I2⟩
    simp (disch := omega) only [p_bnd, p_nm, p_gSEl, p_gSEr, p_l0, p_l1, p_l2, p_l3, p_l4, p_l5, p_l6, p_l7, p_l8, p_l9, p_l10, p_l14, p_l16, p_l20, p_l22, p_l24, p_l30, p_l31, p_l32, p_l38, p_l40, p_l41, p_l43, p_l48, p_l57, p_l59, p_l60, p_l61, p_l62, p_l63, p_l97, p_l98, p_l101, p_l122, p_l158, p_l201, p_l255, p_l256, p_l374, p_l880, p_l900, p_l1000, p_l2618, p_neg, nI_add, p_mul, p_sub, p_addm, p_addm0, p_subm, p_le, p_lt, p_eq, p_mO_eq, p_eq_mO, p_mO_lt, p_nlt_mO, p_mO_le, p_le_mO, p_rI, p_rL, p_wI, p_wL, p_wF, p_has10, p_has11, p_ib0, p_ib1, p_shl1, p_zv0, p_zv1, p_zvib, p_ibd, p_ibn, if_pos, if_neg, if_true, if_false, ne_eq, not_true, not_false_iff, Decidable.not_not, Nat.not_lt, Nat.not_le, Bool.true_eq_false, Bool.false_eq_true, eq_self, reduceIte, Nat.reduceAdd, Nat.reduceMul, Nat.reduceSub, Nat.reduceEqDiff, Nat.reduceLT, Nat.reduceLeDiff, reduceCtorEq, fX11_laysReach_l84, hc, h0]
    rw [show (nI 0, M') = ((0 : Int32), M') from rfl, e2]; rfl
  · refine Or.inr ⟨M', ?_, hF, fun t ht v hv => ?_⟩
    · simp (disch := omega) only [p_bnd, p_nm, p_gSEl, p_gSEr, p_l0, p_l1, p_l2, p_l3, p_l4, p_l5, p_l6, p_l7, p_l8, p_l9, p_l10, p_l14, p_l16, p_l20, p_l22, p_l24, p_l30, p_l31, p_l32, p_l38, p_l40, p_l41, p_l43, p_l48, p_l57, p_l59, p_l60, p_l61, p_l62, p_l63, p_l97, p_l98, p_l101, p_l122, p_l158, p_l201, p_l255, p_l256, p_l374, p_l880, p_l900, p_l1000, p_l2618, p_neg, nI_add, p_mul, p_sub, p_addm, p_addm0, p_subm, p_le, p_lt, p_eq, p_mO_eq, p_eq_mO, p_mO_lt, p_nlt_mO, p_mO_le, p_le_mO, p_rI, p_rL, p_wI, p_wL, p_wF, p_has10, p_has11, p_ib0, p_ib1, p_shl1, p_zv0, p_zv1, p_zvib, p_ibd, p_ibn, if_pos, if_neg, if_true, if_false, ne_eq, not_true, not_false_iff, Decidable.not_not, Nat.not_lt, Nat.not_le, Bool.true_eq_false, Bool.false_eq_true, eq_self, reduceIte, Nat.reduceAdd, Nat.reduceMul, Nat.reduceSub, Nat.reduceEqDiff, Nat.reduceLT, Nat.reduceLeDiff, reduceCtorEq, fX11_laysReach_l84, hc, h0]
    · rw [hI t ht v hv, show k = sN S by omega]
theorem r_laysReach (h : RA (M.1 1) S) {b : Int32} {a : Nat} (hb : ∀ i, i < sM S → ((nI i = b) = (i = a))) : ∃ q, fX11_laysReach b M = some q ∧ gFr (fun c _ => c = 6) M q ∧ ∀ t, t < sN S → ∀ v, v < 32 → (bt (q.1 6 t) v = true ↔ gRc (sX S a) t v) := by
  obtain ⟨M1, e1, F1, I1⟩ := r_reach1 h b
  have h1 := RA_of h (gFr_c1 F1 (fun _ => by decide))
  obtain ⟨M2, e2, F2, I2⟩ := r_reach2 h1 hb I1
  have h2 := RA_of h1 (gFr_c1 F2 (fun _ => by decide))
  obtain ⟨M3, e3, F3, I3⟩ := r_reach4 h2 I2
  refine ⟨M3, ?_, gFr_tr F1 (gFr_tr F2 F3), fun t ht v hv => ?_⟩
  · unfold fX11_laysReach
    rw [e1, p_bnd, e2, p_bnd, e3, p_bnd]
  · rw [I3 t ht v hv]
    refine gWa_spec (fun x y e => ?_) (fun t v => ?_) t v
    · obtain ⟨i, i1, i2, i3, rfl⟩ := e
      exact (h.2.2.2.2 i i1).2.2.2
    · unfold sXk sX; exact Iff.rfl
/-- without any left out -/
theorem r_laysReach0 (h : RA (M.1 1) S) : ∃ q, fX11_laysReach (-1 : Int32) M = some q ∧ gFr (fun c _ => c = 6) M q ∧ ∀ t, t < sN S → ∀ v, v < 32 → (bt (q.1 6 t) v = true ↔ sR S t v) := by
  obtain ⟨q, h1, h2, h3⟩ := r_laysReach h (b := (-1 : Int32)) (a := 4000) (fun i hi => by
    have := h.2.2.2.1
    rw [show (-1 : Int32) = mO 1 from rfl, p_eq_mO (by omega) (by omega) (by omega)]
    exact (eq_false (by omega)).symm)
  refine ⟨q, h1, h2, fun t ht v hv => (h3 t ht v hv).trans (gRc.cong (fun a b => sX_none (by have := h.2.2.2.1; omega) a b))⟩
end RD
