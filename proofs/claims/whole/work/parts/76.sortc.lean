/-! ORDERS ANEW: the class's sortPart -/
section SC
variable {M : gMem} {S : gS} {t g first last : Nat} {ac pl : Nat → Nat}
theorem c_fill {c n : Nat} (hn : n ≤ 4000) (x : Int32) : ∃ M', fJ7_fill_53178 c n x M = some M' ∧ gFr (fun d _ => d = c) M M' ∧ ∀ k, k < n → M'.1 c k = x := by
  obtain ⟨r, e, F, I⟩ : ∃ r, gLoop (fun z9 => fJ7_fill_53178_l5 c n x (Int32.ofNat n) z9.1 z9.2) gFu ((0 : Int32), M) = some r ∧ gFr (fun d _ => d = c) M r ∧ ∀ k, k < n → r.1 c k = x := by
    refine gLoop_i (fun k s => ∃ M', s = (nI k, M') ∧ gFr (fun d _ => d = c) M M' ∧ ∀ j, j < k → M'.1 c j = x) _ n ⟨M, rfl, gFr_rf, fun j h => absurd h (Nat.not_lt_zero _)⟩ (by show n < 4096; omega) ?_
    rintro k s hk ⟨M', rfl, hF, hI⟩
    have e0 : Int32.ofNat n = nI n := rfl
    rcases Nat.lt_or_ge k n with q | q
    · refine Or.inl ⟨(nI (k + 1), gI M' c k x), ?_, q, _, rfl, gFr_trI hF rfl, fun j hj => ?_⟩
      · simp (disch := omega) only [p_bnd, p_nm, p_gSEl, p_gSEr, p_l0, p_l1, p_l2, p_l3, p_l4, p_l5, p_l6, p_l7, p_l8, p_l9, p_l10, p_l14, p_l16, p_l20, p_l22, p_l24, p_l30, p_l31, p_l32, p_l38, p_l40, p_l41, p_l43, p_l48, p_l57, p_l59, p_l60, p_l61, p_l62, p_l63, p_l97, p_l98, p_l101, p_l122, p_l158, p_l201, p_l255, p_l256, p_l374, p_l880, p_l900, p_l1000, p_l2618, p_neg, nI_add, p_mul, p_sub, p_addm, p_addm0, p_subm, p_le, p_lt, p_eq, p_mO_eq, p_eq_mO, p_mO_lt, p_nlt_mO, p_mO_le, p_le_mO, p_rI, p_rL, p_wI, p_wL, p_wF, p_has10, p_has11, p_ib0, p_ib1, p_shl1, p_zv0, p_zv1, p_zvib, p_ibd, p_ibn, if_pos, if_neg, if_true, if_false, ne_eq, not_true, not_false_iff, Decidable.not_not, Nat.not_lt, Nat.not_le, Bool.true_eq_false, Bool.false_eq_true, eq_self, reduceIte, Nat.reduceAdd, Nat.reduceMul, Nat.reduceSub, Nat.reduceEqDiff, Nat.reduceLT, Nat.reduceLeDiff, reduceCtorEq, fJ7_fill_53178_l5, e0]
      · rw [p_gI]
        by_cases e : j = k
        · rw [if_pos ⟨rfl, e⟩]
        · rw [if_neg (fun z => e z.2)]; exact hI j (by omega)
    · exact Or.inr ⟨M', by simp (disch := omega) only [p_bnd, p_nm, p_gSEl, p_gSEr, p_l0, p_l1, p_l2, p_l3, p_l4, p_l5, p_l6, p_l7, p_l8, p_l9, p_l10, p_l14, p_l16, p_l20, p_l22, p_l24, p_l30, p_l31, p_l32, p_l38, p_l40, p_l41, p_l43, p_l48, p_l57, p_l59, p_l60, p_l61, p_l62, p_l63, p_l97, p_l98, p_l101, p_l122, p_l158, p_l201, p_l255, p_l256, p_l374, p_l880, p_l900, p_l1000, p_l2618, p_neg, nI_add, p_mul, p_sub, p_addm, p_addm0, p_subm, p_le, p_lt, p_eq, p_mO_eq, p_eq_mO, p_mO_lt, p_nlt_mO, p_mO_le, p_le_mO, p_rI, p_rL, p_wI, p_wL, p_wF, p_has10, p_has11, p_ib0, p_ib1, p_shl1, p_zv0, p_zv1, p_zvib, p_ibd, p_ibn, if_pos, if_neg, if_true, if_false, ne_eq, not_true, not_false_iff, Decidable.not_not, Nat.not_lt, Nat.not_le, Bool.true_eq_false, Bool.false_eq_true, eq_self, reduceIte, Nat.reduceAdd, Nat.reduceMul, Nat.reduceSub, Nat.reduceEqDiff, Nat.reduceLT, Nat.reduceLeDiff, reduceCtorEq, fJ7_fill_53178_l5, e0], hF, fun j hj => hI j (by omega)⟩
  refine ⟨r, ?_, F, I⟩
  unfold fJ7_fill_53178
  rw [p_nm, p_bnd, e, p_bnd]
/-- the HEAD by places -/
def hdP (pl : Nat → Nat) (n u : Nat) : Nat := fa_first (fun v => decide (pl v = pl u)) n
theorem hdP_ok {n u : Nat} (hu : u < n) : hdP pl n u ≤ u ∧ hdP pl n u < n ∧ pl (hdP pl n u) = pl u := by
  have h1 : hdP pl n u ≤ u := by
    refine Classical.byContradiction fun q => ?_
    have := fa_first_no (fun v => decide (pl v = pl u)) n u (show u < hdP pl n u by omega)
    simp at this
  refine ⟨h1, by omega, ?_⟩
  have := fa_first_yes (fun v => decide (pl v = pl u)) n (show hdP pl n u < n by omega)
  exact of_decide_eq_true this
theorem hdP_eq {n u v : Nat} (hu : u < n) (hv : v < n) : hdP pl n u = hdP pl n v ↔ pl u = pl v := by
  constructor
  · intro e; rw [← (hdP_ok (pl := pl) hu).2.2, e, (hdP_ok (pl := pl) hv).2.2]
  · intro e; unfold hdP; rw [e]
theorem hdP_id {n u : Nat} (hu : u < n) : hdP pl n (hdP pl n u) = hdP pl n u := (hdP_eq (hdP_ok hu).2.1 hu).mpr (hdP_ok hu).2.2
/-- an arrow leads from place q to place p, both within the part -/
theorem cs_lookBefore (h : CI M t S ac g pl) (hn : sN S ≤ 24) (hm : sM S ≤ 60) (hW1 : sW1 S) (hg : g ≤ 24) (hpl : ∀ u, u < sN S → pl u < g) (ht : t ≤ 21) (hl : last ≤ 24) (hf : first ≤ 24) :
    ∃ M', fX8_lookBefore t (nI first) (nI last) M = some M' ∧ gFr (fun c _ => c = 48) M M' ∧ ∀ p, p < 24 → ∀ q, q < 32 → (bt (M'.1 48 p) q = true ↔ ∃ i, i < sM S ∧ pl (sFr S i) = q ∧ pl (sTo S i) = p ∧ q ≠ p ∧ first ≤ q ∧ q < last ∧ first ≤ p ∧ p < last) := by
  obtain ⟨M0, e0, F0, Z0⟩ := c_fill (M := M) (c := 48) (n := 24) (by omega) (nI 0)
  obtain ⟨r, e, F, I⟩ : ∃ r, gLoop (fun z9 => fX8_lookBefore_l11 t (nI first) (nI last) z9.1 z9.2) gFu ((0 : Int32), M0) = some r ∧ gFr (fun c _ => c = 48) M0 r ∧ ∀ p, p < 24 → ∀ q, q < 32 → (bt (r.1 48 p) q = true ↔ ∃ i, i < sM S ∧ pl (sFr S i) = q ∧ pl (sTo S i) = p ∧ q ≠ p ∧ first ≤ q ∧ q < last ∧ first ≤ p ∧ p < last) := by
    refine gLoop_i (fun k s => ∃ M', s = (nI k, M') ∧ gFr (fun c _ => c = 48) M0 M' ∧ ∀ p, p < 24 → ∀ q, q < 32 → (bt (M'.1 48 p) q = true ↔ ∃ i, i < k ∧ pl (sFr S i) = q ∧ pl (sTo S i) = p ∧ q ≠ p ∧ first ≤ q ∧ q < last ∧ first ≤ p ∧ p < last)) _ (sM S) ⟨M0, rfl, gFr_rf, fun p hp q hq => by
      rw [Z0 p hp, p_bt0]; exact ⟨fun z => (by cases z), fun ⟨i, z, _⟩ => absurd z (Nat.not_lt_zero _)⟩⟩ (by show sM S < 4096; omega) ?_
    rintro k s hk ⟨M', rfl, hF, hI⟩
    have hC : CI M' t S ac g pl := CI_of h (fun j hj => ⟨by rw [gFr_c1 hF (fun k z => by omega), gFr_c1 F0 (fun k z => by omega)], by rw [gFr_c2 hF (fun k z => by omega), gFr_c2 F0 (fun k z => by omega)]⟩)
    obtain ⟨⟨c0, c1, c2, -, -⟩, -, -, c4, c5⟩ := hC
    rcases Nat.lt_or_ge k (sM S) with q | q
    · obtain ⟨b1, b2, -⟩ := hW1.1 k q
      obtain ⟨f1, f2⟩ := c4 k q
      have p1 := (c5 _ b1).2.1
      have p2 := (c5 _ b2).2.1
      have l1 := hpl _ b1
      have l2 := hpl _ b2
      have hsplit : ∀ p q', (∃ i, i < k + 1 ∧ pl (sFr S i) = q' ∧ pl (sTo S i) = p ∧ q' ≠ p ∧ first ≤ q' ∧ q' < last ∧ first ≤ p ∧ p < last) ↔ (∃ i, i < k ∧ pl (sFr S i) = q' ∧ pl (sTo S i) = p ∧ q' ≠ p ∧ first ≤ q' ∧ q' < last ∧ first ≤ p ∧ p < last) ∨ (pl (sFr S k) = q' ∧ pl (sTo S k) = p ∧ q' ≠ p ∧ first ≤ q' ∧ q' < last ∧ first ≤ p ∧ p < last) := fun p q' => by
        constructor
        · rintro ⟨i, h1, h2⟩
          by_cases e : i = k
          · rw [e] at h2; exact Or.inr h2
          · exact Or.inl ⟨i, by omega, h2⟩
        · rintro (⟨i, h1, h2⟩ | h2)
          · exact ⟨i, by omega, h2⟩
          · exact ⟨k, by omega, h2⟩
      by_cases c : pl (sFr S k) ≠ pl (sTo S k) ∧ first ≤ pl (sFr S k) ∧ pl (sFr S k) < last ∧ first ≤ pl (sTo S k) ∧ pl (sTo S k) < last
      · obtain ⟨z1, z2, z3, z4, z5⟩ := c
        refine Or.inl ⟨(nI (k + 1), gI M' 48 (pl (sTo S k)) (M'.1 48 (pl (sTo S k)) ||| sb (pl (sFr S k)))), ?_, q, _, rfl, gFr_trI hF rfl, fun p hp q' hq => ?_⟩
        · simp (disch := omega) only [p_bnd, p_nm, p_gSEl, p_gSEr, p_l0, p_l1, p_l2, p_l3, p_l4, p_l5, p_l6, p_l7, p_l8, p_l9, p_l10, p_l14, p_l16, p_l20, p_l22, p_l24, p_l30, p_l31, p_l32, p_l38, p_l40, p_l41, p_l43, p_l48, p_l57, p_l59, p_l60, p_l61, p_l62, p_l63, p_l97, p_l98, p_l101, p_l122, p_l158, p_l201, p_l255, p_l256, p_l374, p_l880, p_l900, p_l1000, p_l2618, p_neg, nI_add, p_mul, p_sub, p_addm, p_addm0, p_subm, p_le, p_lt, p_eq, p_mO_eq, p_eq_mO, p_mO_lt, p_nlt_mO, p_mO_le, p_le_mO, p_rI, p_rL, p_wI, p_wL, p_wF, p_has10, p_has11, p_ib0, p_ib1, p_shl1, p_zv0, p_zv1, p_zvib, p_ibd, p_ibn, if_pos, if_neg, if_true, if_false, ne_eq, not_true, not_false_iff, Decidable.not_not, Nat.not_lt, Nat.not_le, Bool.true_eq_false, Bool.false_eq_true, eq_self, reduceIte, Nat.reduceAdd, Nat.reduceMul, Nat.reduceSub, Nat.reduceEqDiff, Nat.reduceLT, Nat.reduceLeDiff, reduceCtorEq, fX8_lookBefore_l11, fX8_lookBefore_b93, c1, f1, f2, p1, p2]
        · rw [hsplit, p_gI]
          by_cases e : p = pl (sTo S k)
          · rw [if_pos ⟨rfl, e⟩, b_or, Bool.or_eq_true, p_sb (by omega), decide_eq_true_eq, ← e, hI p hp q' hq]
            refine or_congr Iff.rfl ⟨fun z => ⟨z.symm, rfl, by omega, by omega, by omega, by omega, by omega⟩, fun z => z.1.symm⟩
          · rw [if_neg (fun z => e z.2), hI p hp q' hq]
            exact ⟨Or.inl, fun z => z.elim id (fun y => absurd y.2.1.symm e)⟩
      · refine Or.inl ⟨(nI (k + 1), M'), ?_, q, _, rfl, hF, fun p hp q' hq => ?_⟩
        · by_cases y1 : pl (sFr S k) = pl (sTo S k)
          · simp (disch := omega) only [p_bnd, p_nm, p_gSEl, p_gSEr, p_l0, p_l1, p_l2, p_l3, p_l4, p_l5, p_l6, p_l7, p_l8, p_l9, p_l10, p_l14, p_l16, p_l20, p_l22, p_l24, p_l30, p_l31, p_l32, p_l38, p_l40, p_l41, p_l43, p_l48, p_l57, p_l59, p_l60, p_l61, p_l62, p_l63, p_l97, p_l98, p_l101, p_l122, p_l158, p_l201, p_l255, p_l256, p_l374, p_l880, p_l900, p_l1000, p_l2618, p_neg, nI_add, p_mul, p_sub, p_addm, p_addm0, p_subm, p_le, p_lt, p_eq, p_mO_eq, p_eq_mO, p_mO_lt, p_nlt_mO, p_mO_le, p_le_mO, p_rI, p_rL, p_wI, p_wL, p_wF, p_has10, p_has11, p_ib0, p_ib1, p_shl1, p_zv0, p_zv1, p_zvib, p_ibd, p_ibn, if_pos, if_neg, if_true, if_false, ne_eq, not_true, not_false_iff, Decidable.not_not, Nat.not_lt, Nat.not_le, Bool.true_eq_false, Bool.false_eq_true, eq_self, reduceIte, Nat.reduceAdd, Nat.reduceMul, Nat.reduceSub, Nat.reduceEqDiff, Nat.reduceLT, Nat.reduceLeDiff, reduceCtorEq, fX8_lookBefore_l11, fX8_lookBefore_b93, c1, f1, f2, p1, p2]
          · by_cases y2 : pl (sFr S k) < first
            · simp (disch := omega) only [p_bnd, p_nm, p_gSEl, p_gSEr, p_l0, p_l1, p_l2, p_l3, p_l4, p_l5, p_l6, p_l7, p_l8, p_l9, p_l10, p_l14, p_l16, p_l20, p_l22, p_l24, p_l30, p_l31, p_l32, p_l38, p_l40, p_l41, p_l43, p_l48, p_l57, p_l59, p_l60, p_l61, p_l62, p_l63, p_l97, p_l98, p_l101, p_l122, p_l158, p_l201, p_l255, p_l256, p_l374, p_l880, p_l900, p_l1000, p_l2618, p_neg, nI_add, p_mul, p_sub, p_addm, p_addm0, p_subm, p_le, p_lt, p_eq, p_mO_eq, p_eq_mO, p_mO_lt, p_nlt_mO, p_mO_le, p_le_mO, p_rI, p_rL, p_wI, p_wL, p_wF, p_has10, p_has11, p_ib0, p_ib1, p_shl1, p_zv0, p_zv1, p_zvib, p_ibd, p_ibn, if_pos, if_neg, if_true, if_false, ne_eq, not_true, not_false_iff, Decidable.not_not, Nat.not_lt, Nat.not_le, Bool.true_eq_false, Bool.false_eq_true, eq_self, reduceIte, Nat.reduceAdd, Nat.reduceMul, Nat.reduceSub, Nat.reduceEqDiff, Nat.reduceLT, Nat.reduceLeDiff, reduceCtorEq, fX8_lookBefore_l11, fX8_lookBefore_b93, c1, f1, f2, p1, p2]
            · by_cases y3 : last ≤ pl (sFr S k)
              · simp (disch := omega) only [p_bnd, p_nm, p_gSEl, p_gSEr, p_l0, p_l1, p_l2, p_l3, p_l4, p_l5, p_l6, p_l7, p_l8, p_l9, p_l10, p_l14, p_l16, p_l20, p_l22, p_l24, p_l30, p_l31, p_l32, p_l38, p_l40, p_l41, p_l43, p_l48, p_l57, p_l59, p_l60, p_l61, p_l62, p_l63, p_l97, p_l98, p_l101, p_l122, p_l158, p_l201, p_l255, p_l256, p_l374, p_l880, p_l900, p_l1000, p_l2618, p_neg, nI_add, p_mul, p_sub, p_addm, p_addm0, p_subm, p_le, p_lt, p_eq, p_mO_eq, p_eq_mO, p_mO_lt, p_nlt_mO, p_mO_le, p_le_mO, p_rI, p_rL, p_wI, p_wL, p_wF, p_has10, p_has11, p_ib0, p_ib1, p_shl1, p_zv0, p_zv1, p_zvib, p_ibd, p_ibn, if_pos, if_neg, if_true, if_false, ne_eq, not_true, not_false_iff, Decidable.not_not, Nat.not_lt, Nat.not_le, Bool.true_eq_false, Bool.false_eq_true, eq_self, reduceIte, Nat.reduceAdd, Nat.reduceMul, Nat.reduceSub, Nat.reduceEqDiff, Nat.reduceLT, Nat.reduceLeDiff, reduceCtorEq, fX8_lookBefore_l11, fX8_lookBefore_b93, c1, f1, f2, p1, p2]
              · by_cases y4 : pl (sTo S k) < first
                · simp (disch := omega) only [p_bnd, p_nm, p_gSEl, p_gSEr, p_l0, p_l1, p_l2, p_l3, p_l4, p_l5, p_l6, p_l7, p_l8, p_l9, p_l10, p_l14, p_l16, p_l20, p_l22, p_l24, p_l30, p_l31, p_l32, p_l38, p_l40, p_l41, p_l43, p_l48, p_l57, p_l59, p_l60, p_l61, p_l62, p_l63, p_l97, p_l98, p_l101, p_l122, p_l158, p_l201, p_l255, p_l256, p_l374, p_l880, p_l900, p_l1000, p_l2618, p_neg, nI_add, p_mul, p_sub, p_addm, p_addm0, p_subm, p_le, p_lt, p_eq, p_mO_eq, p_eq_mO, p_mO_lt, p_nlt_mO, p_mO_le, p_le_mO, p_rI, p_rL, p_wI, p_wL, p_wF, p_has10, p_has11, p_ib0, p_ib1, p_shl1, p_zv0, p_zv1, p_zvib, p_ibd, p_ibn, if_pos, if_neg, if_true, if_false, ne_eq, not_true, not_false_iff, Decidable.not_not, Nat.not_lt, Nat.not_le, Bool.true_eq_false, Bool.false_eq_true, eq_self, reduceIte, Nat.reduceAdd, Nat.reduceMul, Nat.reduceSub, Nat.reduceEqDiff, Nat.reduceLT, Nat.reduceLeDiff, reduceCtorEq, fX8_lookBefore_l11, fX8_lookBefore_b93, c1, f1, f2, p1, p2]
                · have y5 : last ≤ pl (sTo S k) := by omega
                  simp (disch := omega) only [p_bnd, p_nm, p_gSEl, p_gSEr, p_l0, p_l1, p_l2, p_l3, p_l4, p_l5, p_l6, p_l7, p_l8, p_l9, p_l10, p_l14, p_l16, p_l20, p_l22, p_l24, p_l30, p_l31, p_l32, p_l38, p_l40, p_l41, p_l43, p_l48, p_l57, p_l59, p_l60, p_l61, p_l62, p_l63, p_l97, p_l98, p_l101, p_l122, p_l158, p_l201, p_l255, p_l256, p_l374, p_l880, p_l900, p_l1000, p_l2618, p_neg, nI_add, p_mul, p_sub, p_addm, p_addm0, p_subm, p_le, p_lt, p_eq, p_mO_eq, p_eq_mO, p_mO_lt, p_nlt_mO, p_mO_le, p_le_mO, p_rI, p_rL, p_wI, p_wL, p_wF, p_has10, p_has11, p_ib0, p_ib1, p_shl1, p_zv0, p_zv1, p_zvib, p_ibd, p_ibn, if_pos, if_neg, if_true, if_false, ne_eq, not_true, not_false_iff, Decidable.not_not, Nat.not_lt, Nat.not_le, Bool.true_eq_false, Bool.false_eq_true, eq_self, reduceIte, Nat.reduceAdd, Nat.reduceMul, Nat.reduceSub, Nat.reduceEqDiff, Nat.reduceLT, Nat.reduceLeDiff, reduceCtorEq, fX8_lookBefore_l11, fX8_lookBefore_b93, c1, f1, f2, p1, p2]
        · rw [hsplit, hI p hp q' hq]
          exact ⟨Or.inl, fun z => z.elim id (fun y => absurd ⟨by omega, by omega, by omega, by omega, by omega⟩ c)⟩
    · exact Or.inr ⟨M', by simp (disch := omega) only [p_bnd, p_nm, p_gSEl, p_gSEr, p_l0, p_l1, p_l2, p_l3, p_l4, p_l5, p_l6, p_l7, p_l8, p_l9, p_l10, p_l14, p_l16, p_l20, p_l22, p_l24, p_l30, p_l31, p_l32, p_l38, p_l40, p_l41, p_l43, p_l48, p_l57, p_l59, p_l60, p_l61, p_l62, p_l63, p_l97, p_l98, p_l101, p_l122, p_l158, p_l201, p_l255, p_l256, p_l374, p_l880, p_l900, p_l1000, p_l2618, p_neg, nI_add, p_mul, p_sub, p_addm, p_addm0, p_subm, p_le, p_lt, p_eq, p_mO_eq, p_eq_mO, p_mO_lt, p_nlt_mO, p_mO_le, p_le_mO, p_rI, p_rL, p_wI, p_wL, p_wF, p_has10, p_has11, p_ib0, p_ib1, p_shl1, p_zv0, p_zv1, p_zvib, p_ibd, p_ibn, if_pos, if_neg, if_true, if_false, ne_eq, not_true, not_false_iff, Decidable.not_not, Nat.not_lt, Nat.not_le, Bool.true_eq_false, Bool.false_eq_true, eq_self, reduceIte, Nat.reduceAdd, Nat.reduceMul, Nat.reduceSub, Nat.reduceEqDiff, Nat.reduceLT, Nat.reduceLeDiff, reduceCtorEq, fX8_lookBefore_l11, c1], hF, fun p hp q' hq => by rw [hI p hp q' hq, show k = sM S by omega]⟩
  refine ⟨r, ?_, gFr_tr F0 F, I⟩
  unfold fX8_lookBefore
  rw [show (0 : Int32) = nI 0 from rfl, e0, p_bnd]
  rw [show (nI 0, M0) = ((0 : Int32), M0) from rfl, e, p_bnd]
/-- the rest, as a set of places -/
def RM9 (w : Int32) (pl : Nat → Nat) (rest : List Nat) : Prop := ∀ p, p < 32 → (bt w p = true ↔ ∃ h, h ∈ rest ∧ pl h = p)
theorem cs_freePlace (h : CI M t S ac g pl) (hn : sN S ≤ 24) (hW1 : sW1 S) (hg : g ≤ 24) (hpl : ∀ u, u < sN S → pl u < g) (ht : t ≤ 21) {rest : List Nat} {w : Int32} (hw : RM9 w pl rest) (hr : ∀ x, x ∈ rest → x < sN S ∧ hdP pl (sN S) x = x ∧ first ≤ pl x ∧ pl x < last)
    (hB : ∀ p, p < 24 → ∀ q, q < 32 → (bt (M.1 48 p) q = true ↔ ∃ i, i < sM S ∧ pl (sFr S i) = q ∧ pl (sTo S i) = p ∧ q ≠ p ∧ first ≤ q ∧ q < last ∧ first ≤ p ∧ p < last))
    (hsd : rest.Pairwise (fun x y => x < y)) (ha : gAt (ldH S (hdP pl (sN S))) rest < rest.length) (hfr : gFree (ldH S (hdP pl (sN S))) rest (rest.getD (gAt (ldH S (hdP pl (sN S))) rest) 0) = true) (hno : ∀ i, i < gAt (ldH S (hdP pl (sN S))) rest → gFree (ldH S (hdP pl (sN S))) rest (rest.getD i 0) = false) :
    fX8_freePlace t w M = some (nI (pl (rest.getD (gAt (ldH S (hdP pl (sN S))) rest) 0))) := by
  obtain ⟨⟨c0, c1, c2, -, -⟩, -, -, c4, c5⟩ := id h
  -- a place of the rest is free just if its head is
  have hfree : ∀ x, x ∈ rest → ((M.1 48 (pl x) &&& w = nI 0) ↔ gFree (ldH S (hdP pl (sN S))) rest x = true) := fun x hx => by
    obtain ⟨x1, x2, x3, x4⟩ := hr x hx
    have := hpl x x1
    rw [p_z, gFree_iff]
    constructor
    · intro z h' hm hne
      obtain ⟨y1, y2, y3, y4⟩ := hr h' hm
      have := hpl h' y1
      rw [← Bool.not_eq_true, ldH_iff]
      rintro ⟨i, i1, i2, i3⟩
      obtain ⟨b1, b2, -⟩ := hW1.1 i i1
      have e1 : pl (sFr S i) = pl h' := (hdP_eq b1 y1).mp (i2.trans y2.symm)
      have e2 : pl (sTo S i) = pl x := (hdP_eq b2 x1).mp (i3.trans x2.symm)
      have e3 : pl h' ≠ pl x := fun e => hne (by rw [← y2, ← x2]; exact (hdP_eq y1 x1).mpr e)
      have := z (pl h') (by omega)
      rw [b_and, (hB (pl x) (by omega) (pl h') (by omega)).mpr ⟨i, i1, e1, e2, e3, y3, y4, x3, x4⟩, (hw (pl h') (by omega)).mpr ⟨h', hm, rfl⟩] at this
      cases this
    · intro z q hq
      rw [b_and]
      cases hb : bt (M.1 48 (pl x)) q && bt w q
      · rfl
      · rw [Bool.and_eq_true] at hb
        obtain ⟨i, i1, i2, i3, i4, -⟩ := (hB (pl x) (by omega) q hq).mp hb.1
        obtain ⟨h', hm, e⟩ := (hw q hq).mp hb.2
        obtain ⟨y1, y2, y3, y4⟩ := hr h' hm
        obtain ⟨b1, b2, -⟩ := hW1.1 i i1
        have hne : h' ≠ x := fun e2 => i4 (by rw [← e, e2])
        have hl : ldH S (hdP pl (sN S)) h' x = true := ldH_iff.mpr ⟨i, i1, by rw [← y2]; exact (hdP_eq b1 y1).mpr (i2.trans e.symm), by rw [← x2]; exact (hdP_eq b2 x1).mpr i3⟩
        rw [z h' hm hne] at hl; cases hl
  generalize hq : gAt (ldH S (hdP pl (sN S))) rest = a at ha hfr hno
  have hm : rest.getD a 0 ∈ rest := List.mem_of_getElem? (getD_at ha)
  generalize hh : rest.getD a 0 = hh9 at hfr hm
  obtain ⟨m1, m2, m3, m4⟩ := hr hh9 hm
  have mpl := hpl hh9 m1
  have e := gLoop_f (body := fun z9 => fX8_freePlace_l2 t w M z9) (fun k => nI k) (r := .inr (nI (pl hh9))) hh9 gFu (by show hh9 < 4096; omega) (fun k hk => by
    have hkn : k < sN S := by omega
    have pk := (c5 k hkn).2.1
    have lk := hpl k hkn
    cases hb : bt w (pl k)
    · simp (disch := omega) only [p_bnd, p_nm, p_gSEl, p_gSEr, p_l0, p_l1, p_l2, p_l3, p_l4, p_l5, p_l6, p_l7, p_l8, p_l9, p_l10, p_l14, p_l16, p_l20, p_l22, p_l24, p_l30, p_l31, p_l32, p_l38, p_l40, p_l41, p_l43, p_l48, p_l57, p_l59, p_l60, p_l61, p_l62, p_l63, p_l97, p_l98, p_l101, p_l122, p_l158, p_l201, p_l255, p_l256, p_l374, p_l880, p_l900, p_l1000, p_l2618, p_neg, nI_add, p_mul, p_sub, p_addm, p_addm0, p_subm, p_le, p_lt, p_eq, p_mO_eq, p_eq_mO, p_mO_lt, p_nlt_mO, p_mO_le, p_le_mO, p_rI, p_rL, p_wI, p_wL, p_wF, p_has10, p_has11, p_ib0, p_ib1, p_shl1, p_zv0, p_zv1, p_zvib, p_ibd, p_ibn, if_pos, if_neg, if_true, if_false, ne_eq, not_true, not_false_iff, Decidable.not_not, Nat.not_lt, Nat.not_le, Bool.true_eq_false, Bool.false_eq_true, eq_self, reduceIte, Nat.reduceAdd, Nat.reduceMul, Nat.reduceSub, Nat.reduceEqDiff, Nat.reduceLT, Nat.reduceLeDiff, reduceCtorEq, fX8_freePlace_l2, fX8_freePlace_b42, c0, pk, hb]
    · obtain ⟨x, hx, ex⟩ := (hw (pl k) (by omega)).mp hb
      obtain ⟨x1, x2, x3, x4⟩ := hr x hx
      have hxk : x ≤ k := by
        rw [← x2, (hdP_eq x1 hkn).mpr ex]; exact (hdP_ok hkn).1
      have hnf : ¬ (M.1 48 (pl k) &&& w = nI 0) := by
        rw [← ex, hfree x hx]
        obtain ⟨i, hi, ei⟩ := List.getElem_of_mem hx
        have ei2 : rest.getD i 0 = x := by rw [List.getD_eq_getElem?_getD, List.getElem?_eq_getElem hi, ei]; rfl
        have hia : i < a := by
          refine Classical.byContradiction fun z => ?_
          rcases Nat.lt_or_ge a i with y | y
          · have := List.pairwise_iff_getElem.mp hsd a i ha hi y
            have e8 : rest[a] = hh9 := by rw [← hh, List.getD_eq_getElem?_getD, List.getElem?_eq_getElem ha]; rfl
            omega
          · have : i = a := by omega
            rw [this, hh] at ei2; omega
        have := hno i hia
        rw [ei2] at this
        rw [this]; decide
      simp (disch := omega) only [p_bnd, p_nm, p_gSEl, p_gSEr, p_l0, p_l1, p_l2, p_l3, p_l4, p_l5, p_l6, p_l7, p_l8, p_l9, p_l10, p_l14, p_l16, p_l20, p_l22, p_l24, p_l30, p_l31, p_l32, p_l38, p_l40, p_l41, p_l43, p_l48, p_l57, p_l59, p_l60, p_l61, p_l62, p_l63, p_l97, p_l98, p_l101, p_l122, p_l158, p_l201, p_l255, p_l256, p_l374, p_l880, p_l900, p_l1000, p_l2618, p_neg, nI_add, p_mul, p_sub, p_addm, p_addm0, p_subm, p_le, p_lt, p_eq, p_mO_eq, p_eq_mO, p_mO_lt, p_nlt_mO, p_mO_le, p_le_mO, p_rI, p_rL, p_wI, p_wL, p_wF, p_has10, p_has11, p_ib0, p_ib1, p_shl1, p_zv0, p_zv1, p_zvib, p_ibd, p_ibn, if_pos, if_neg, if_true, if_false, ne_eq, not_true, not_false_iff, Decidable.not_not, Nat.not_lt, Nat.not_le, Bool.true_eq_false, Bool.false_eq_true, eq_self, reduceIte, Nat.reduceAdd, Nat.reduceMul, Nat.reduceSub, Nat.reduceEqDiff, Nat.reduceLT, Nat.reduceLeDiff, reduceCtorEq, fX8_freePlace_l2, fX8_freePlace_b42, c0, pk, hb]) (by
    have pk := (c5 hh9 m1).2.1
    have hb : bt w (pl hh9) = true := (hw _ (by omega)).mpr ⟨hh9, hm, rfl⟩
    have hz : (M.1 48 (pl hh9) &&& w = nI 0) := (hfree hh9 hm).mpr hfr
    simp (disch := omega) only [p_bnd, p_nm, p_gSEl, p_gSEr, p_l0, p_l1, p_l2, p_l3, p_l4, p_l5, p_l6, p_l7, p_l8, p_l9, p_l10, p_l14, p_l16, p_l20, p_l22, p_l24, p_l30, p_l31, p_l32, p_l38, p_l40, p_l41, p_l43, p_l48, p_l57, p_l59, p_l60, p_l61, p_l62, p_l63, p_l97, p_l98, p_l101, p_l122, p_l158, p_l201, p_l255, p_l256, p_l374, p_l880, p_l900, p_l1000, p_l2618, p_neg, nI_add, p_mul, p_sub, p_addm, p_addm0, p_subm, p_le, p_lt, p_eq, p_mO_eq, p_eq_mO, p_mO_lt, p_nlt_mO, p_mO_le, p_le_mO, p_rI, p_rL, p_wI, p_wL, p_wF, p_has10, p_has11, p_ib0, p_ib1, p_shl1, p_zv0, p_zv1, p_zvib, p_ibd, p_ibn, if_pos, if_neg, if_true, if_false, ne_eq, not_true, not_false_iff, Decidable.not_not, Nat.not_lt, Nat.not_le, Bool.true_eq_false, Bool.false_eq_true, eq_self, reduceIte, Nat.reduceAdd, Nat.reduceMul, Nat.reduceSub, Nat.reduceEqDiff, Nat.reduceLT, Nat.reduceLeDiff, reduceCtorEq, fX8_freePlace_l2, c0, pk, hb, hz])
  unfold fX8_freePlace
  show (gLoop (fun z9 => fX8_freePlace_l2 t w M z9) gFu ((fun k => nI k) 0)).bind _ = _
  rw [e]; rfl
end SC
