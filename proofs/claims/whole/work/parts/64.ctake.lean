/-! THE CLASS takes an order -/
section TO
variable {M : gMem} {t r n : Nat} {ls : List Int32} {pl : Nat → Nat}
theorem ct_setPlaces {g : Nat} (hn : M.1 t 9 = nI n) (hn24 : n ≤ 24) (hg : M.1 t 11 = nI g) (hg24 : g ≤ 24) (hb : ∀ p, p < g → ∀ v, v < 32 → (bt (M.1 (t + 7) p) v = true ↔ v < n ∧ pl v = p)) (hpl : ∀ v, v < n → pl v < g) :
    ∃ M', fX2_setPlaces t M = some M' ∧ gFr (fun c _ => c = t + 8) M M' ∧ ∀ v, v < n → M'.1 (t + 8) v = nI (pl v) := by
  obtain ⟨q, e, F, I⟩ : ∃ q, gLoop (fun z9 => fX2_setPlaces_l2 t z9.1 z9.2) gFu ((0 : Int32), M) = some q ∧ gFr (fun c _ => c = t + 8) M q ∧ ∀ v, v < n → q.1 (t + 8) v = nI (pl v) := by
    refine gLoop_i (fun p s => ∃ M', s = (nI p, M') ∧ gFr (fun c _ => c = t + 8) M M' ∧ ∀ v, v < n → pl v < p → M'.1 (t + 8) v = nI (pl v)) _ g ⟨M, rfl, gFr_rf, fun v _ h => absurd h (Nat.not_lt_zero _)⟩ (by show g < 4096; omega) ?_
    rintro p s hp ⟨M', rfl, hF, hI⟩
    have e9 : M'.1 t 9 = nI n := by rw [(hF t 9 (by omega)).1]; exact hn
    have e11 : M'.1 t 11 = nI g := by rw [(hF t 11 (by omega)).1]; exact hg
    rcases Nat.lt_or_ge p g with q | q
    · obtain ⟨M2, e2, F2, I2, K2⟩ : ∃ M2, gLoop (fun z9 => fX2_setPlaces_l12 t (nI p) z9.1 z9.2) gFu ((0 : Int32), M') = some M2 ∧ gFr (fun c _ => c = t + 8) M' M2 ∧ (∀ v, v < n → pl v < p → M2.1 (t + 8) v = nI (pl v)) ∧ ∀ v, v < n → pl v = p → M2.1 (t + 8) v = nI (pl v) := by
        refine gLoop_i (fun u s => ∃ M2, s = (nI u, M2) ∧ gFr (fun c _ => c = t + 8) M' M2 ∧ (∀ v, v < n → pl v < p → M2.1 (t + 8) v = nI (pl v)) ∧ ∀ v, v < u → pl v = p → M2.1 (t + 8) v = nI (pl v)) _ n ⟨M', rfl, gFr_rf, hI, fun v h => absurd h (Nat.not_lt_zero _)⟩ (by show n < 4096; omega) ?_
        rintro u s hu ⟨M2, rfl, F2, I2, K2⟩
        have e9 : M2.1 t 9 = nI n := by rw [(F2 t 9 (by omega)).1]; exact e9
        have e7 : M2.1 (t + 7) = M.1 (t + 7) := by rw [gFr_c1 F2 (c := t + 7) (fun k z => by omega), gFr_c1 hF (c := t + 7) (fun k z => by omega)]
        rcases Nat.lt_or_ge u n with w | w
        · by_cases c : pl u = p
          · have c' : bt (M.1 (t + 7) p) u = true := (hb p q u (by omega)).mpr ⟨w, c⟩
            refine Or.inl ⟨(nI (u + 1), gI M2 (t + 8) u (nI p)), ?_, w, _, rfl, gFr_trI F2 rfl, ?_, ?_⟩
            · simp (disch := omega) only [p_bnd, p_nm, p_gSEl, p_gSEr, p_l0, p_l1, p_l2, p_l3, p_l4, p_l5, p_l6, p_l7, p_l8, p_l9, p_l10, p_l14, p_l16, p_l20, p_l22, p_l24, p_l30, p_l31, p_l32, p_l38, p_l40, p_l41, p_l43, p_l48, p_l57, p_l59, p_l60, p_l61, p_l62, p_l63, p_l97, p_l98, p_l101, p_l122, p_l158, p_l201, p_l255, p_l256, p_l374, p_l880, p_l900, p_l1000, p_l2618, p_neg, nI_add, p_mul, p_sub, p_addm, p_addm0, p_subm, p_le, p_lt, p_eq, p_mO_eq, p_eq_mO, p_mO_lt, p_nlt_mO, p_mO_le, p_le_mO, p_rI, p_rL, p_wI, p_wL, p_wF, p_has10, p_has11, p_ib0, p_ib1, p_shl1, p_zv0, p_zv1, p_zvib, p_ibd, p_ibn, if_pos, if_neg, if_true, if_false, ne_eq, not_true, not_false_iff, Decidable.not_not, Nat.not_lt, Nat.not_le, Bool.true_eq_false, Bool.false_eq_true, eq_self, reduceIte, Nat.reduceAdd, Nat.reduceMul, Nat.reduceSub, Nat.reduceEqDiff, Nat.reduceLT, Nat.reduceLeDiff, reduceCtorEq, fX2_setPlaces_l12, fX2_setPlaces_b40, e9, e7, c']
            · intro v h1 h2
              rw [p_gI_n (Or.inr (fun z => by rw [z, c] at h2; omega))]; exact I2 v h1 h2
            · intro v h1 h2
              rw [p_gI]
              by_cases e : v = u
              · rw [if_pos ⟨rfl, e⟩, h2]
              · rw [if_neg (fun z => e z.2)]; exact K2 v (by omega) h2
          · have c' : bt (M.1 (t + 7) p) u = false := by
              rw [← Bool.not_eq_true, hb p q u (by omega)]; exact fun z => c z.2
            refine Or.inl ⟨(nI (u + 1), M2), ?_, w, _, rfl, F2, I2, ?_⟩
            · simp (disch := omega) only [p_bnd, p_nm, p_gSEl, p_gSEr, p_l0, p_l1, p_l2, p_l3, p_l4, p_l5, p_l6, p_l7, p_l8, p_l9, p_l10, p_l14, p_l16, p_l20, p_l22, p_l24, p_l30, p_l31, p_l32, p_l38, p_l40, p_l41, p_l43, p_l48, p_l57, p_l59, p_l60, p_l61, p_l62, p_l63, p_l97, p_l98, p_l101, p_l122, p_l158, p_l201, p_l255, p_l256, p_l374, p_l880, p_l900, p_l1000, p_l2618, p_neg, nI_add, p_mul, p_sub, p_addm, p_addm0, p_subm, p_le, p_lt, p_eq, p_mO_eq, p_eq_mO, p_mO_lt, p_nlt_mO, p_mO_le, p_le_mO, p_rI, p_rL, p_wI, p_wL, p_wF, p_has10, p_has11, p_ib0, p_ib1, p_shl1, p_zv0, p_zv1, p_zvib, p_ibd, p_ibn, if_pos, if_neg, if_true, if_false, ne_eq, not_true, not_false_iff, Decidable.not_not, Nat.not_lt, Nat.not_le, Bool.true_eq_false, Bool.false_eq_true, eq_self, reduceIte, Nat.reduceAdd, Nat.reduceMul, Nat.reduceSub, Nat.reduceEqDiff, Nat.reduceLT, Nat.reduceLeDiff, reduceCtorEq, fX2_setPlaces_l12, fX2_setPlaces_b40, e9, e7, c']
            · intro v h1 h2
              exact K2 v (by rcases Nat.lt_or_ge v u with z | z; exact z; exact absurd (show pl u = p by rw [← h2, show v = u by omega]) c) h2
        · refine Or.inr ⟨M2, by simp (disch := omega) only [p_bnd, p_nm, p_gSEl, p_gSEr, p_l0, p_l1, p_l2, p_l3, p_l4, p_l5, p_l6, p_l7, p_l8, p_l9, p_l10, p_l14, p_l16, p_l20, p_l22, p_l24, p_l30, p_l31, p_l32, p_l38, p_l40, p_l41, p_l43, p_l48, p_l57, p_l59, p_l60, p_l61, p_l62, p_l63, p_l97, p_l98, p_l101, p_l122, p_l158, p_l201, p_l255, p_l256, p_l374, p_l880, p_l900, p_l1000, p_l2618, p_neg, nI_add, p_mul, p_sub, p_addm, p_addm0, p_subm, p_le, p_lt, p_eq, p_mO_eq, p_eq_mO, p_mO_lt, p_nlt_mO, p_mO_le, p_le_mO, p_rI, p_rL, p_wI, p_wL, p_wF, p_has10, p_has11, p_ib0, p_ib1, p_shl1, p_zv0, p_zv1, p_zvib, p_ibd, p_ibn, if_pos, if_neg, if_true, if_false, ne_eq, not_true, not_false_iff, Decidable.not_not, Nat.not_lt, Nat.not_le, Bool.true_eq_false, Bool.false_eq_true, eq_self, reduceIte, Nat.reduceAdd, Nat.reduceMul, Nat.reduceSub, Nat.reduceEqDiff, Nat.reduceLT, Nat.reduceLeDiff, reduceCtorEq, fX2_setPlaces_l12, e9], F2, I2, fun v h1 h2 => K2 v (by omega) h2⟩
      refine Or.inl ⟨(nI (p + 1), M2), ?_, q, M2, rfl, gFr_tr hF F2, fun v h1 h2 => ?_⟩
      · simp (disch := omega) only [p_bnd, p_nm, p_gSEl, p_gSEr, p_l0, p_l1, p_l2, p_l3, p_l4, p_l5, p_l6, p_l7, p_l8, p_l9, p_l10, p_l14, p_l16, p_l20, p_l22, p_l24, p_l30, p_l31, p_l32, p_l38, p_l40, p_l41, p_l43, p_l48, p_l57, p_l59, p_l60, p_l61, p_l62, p_l63, p_l97, p_l98, p_l101, p_l122, p_l158, p_l201, p_l255, p_l256, p_l374, p_l880, p_l900, p_l1000, p_l2618, p_neg, nI_add, p_mul, p_sub, p_addm, p_addm0, p_subm, p_le, p_lt, p_eq, p_mO_eq, p_eq_mO, p_mO_lt, p_nlt_mO, p_mO_le, p_le_mO, p_rI, p_rL, p_wI, p_wL, p_wF, p_has10, p_has11, p_ib0, p_ib1, p_shl1, p_zv0, p_zv1, p_zvib, p_ibd, p_ibn, if_pos, if_neg, if_true, if_false, ne_eq, not_true, not_false_iff, Decidable.not_not, Nat.not_lt, Nat.not_le, Bool.true_eq_false, Bool.false_eq_true, eq_self, reduceIte, Nat.reduceAdd, Nat.reduceMul, Nat.reduceSub, Nat.reduceEqDiff, Nat.reduceLT, Nat.reduceLeDiff, reduceCtorEq, fX2_setPlaces_l2, e11]
        rw [show (nI 0, M') = ((0 : Int32), M') from rfl, e2]; rfl
      · rcases Nat.lt_or_ge (pl v) p with z | z
        · exact I2 v h1 z
        · exact K2 v h1 (by omega)
    · refine Or.inr ⟨M', by simp (disch := omega) only [p_bnd, p_nm, p_gSEl, p_gSEr, p_l0, p_l1, p_l2, p_l3, p_l4, p_l5, p_l6, p_l7, p_l8, p_l9, p_l10, p_l14, p_l16, p_l20, p_l22, p_l24, p_l30, p_l31, p_l32, p_l38, p_l40, p_l41, p_l43, p_l48, p_l57, p_l59, p_l60, p_l61, p_l62, p_l63, p_l97, p_l98, p_l101, p_l122, p_l158, p_l201, p_l255, p_l256, p_l374, p_l880, p_l900, p_l1000, p_l2618, p_neg, nI_add, p_mul, p_sub, p_addm, p_addm0, p_subm, p_le, p_lt, p_eq, p_mO_eq, p_eq_mO, p_mO_lt, p_nlt_mO, p_mO_le, p_le_mO, p_rI, p_rL, p_wI, p_wL, p_wF, p_has10, p_has11, p_ib0, p_ib1, p_shl1, p_zv0, p_zv1, p_zvib, p_ibd, p_ibn, if_pos, if_neg, if_true, if_false, ne_eq, not_true, not_false_iff, Decidable.not_not, Nat.not_lt, Nat.not_le, Bool.true_eq_false, Bool.false_eq_true, eq_self, reduceIte, Nat.reduceAdd, Nat.reduceMul, Nat.reduceSub, Nat.reduceEqDiff, Nat.reduceLT, Nat.reduceLeDiff, reduceCtorEq, fX2_setPlaces_l2, e11], hF, fun v h1 => hI v h1 (by have := hpl v h1; omega)⟩
  refine ⟨q, ?_, F, I⟩
  unfold fX2_setPlaces
  rw [e, p_bnd]
theorem ct_takeOrder (hn : M.1 t 9 = nI n) (hn24 : n ≤ 24) (hR : RW M r ls) (hl : ls.length ≤ 24) (htr : t + 9 < r) (hb : ∀ p x, ls[p]? = some x → ∀ v, v < 32 → (bt x v = true ↔ v < n ∧ pl v = p)) (hpl : ∀ v, v < n → pl v < ls.length) :
    ∃ M', fX2_takeOrder t r M = some M' ∧ gFr (fun c k => (c = t ∧ k = 11) ∨ c = t + 7 ∨ c = t + 8) M M' ∧ M'.1 t 11 = nI ls.length ∧ (∀ p x, ls[p]? = some x → M'.1 (t + 7) p = x) ∧ ∀ v, v < n → M'.1 (t + 8) v = nI (pl v) := by
  have F0 : gFr (fun c k => (c = t ∧ k = 11) ∨ c = t + 7) M (gI M t 11 (nI ls.length)) := gFr_I (Or.inl ⟨rfl, rfl⟩)
  obtain ⟨q, e, F, I⟩ : ∃ q, gLoop (fun z9 => fX2_takeOrder_l10 t r z9.1 z9.2) gFu ((0 : Int32), gI M t 11 (nI ls.length)) = some q ∧ gFr (fun c _ => c = t + 7) (gI M t 11 (nI ls.length)) q ∧ ∀ p x, ls[p]? = some x → q.1 (t + 7) p = x := by
    refine gLoop_i (fun p s => ∃ M', s = (nI p, M') ∧ gFr (fun c _ => c = t + 7) (gI M t 11 (nI ls.length)) M' ∧ ∀ j x, j < p → ls[j]? = some x → M'.1 (t + 7) j = x) _ ls.length ⟨_, rfl, gFr_rf, fun j x h => absurd h (Nat.not_lt_zero _)⟩ (by show ls.length < 4096; omega) ?_
    rintro p s hp ⟨M', rfl, hF, hI⟩
    have e11 : M'.1 t 11 = nI ls.length := by rw [(hF t 11 (by omega)).1, p_gI_s]
    have er : M'.1 (r + 1) = M.1 (r + 1) := by rw [gFr_c1 hF (c := r + 1) (fun k z => by omega), p_gI_o (by omega)]
    rcases Nat.lt_or_ge p ls.length with q | q
    · obtain ⟨x, hx⟩ : ∃ x, ls[p]? = some x := ⟨_, List.getElem?_eq_getElem q⟩
      have ex := hR.2 p x hx
      refine Or.inl ⟨(nI (p + 1), gI M' (t + 7) p x), ?_, q, _, rfl, gFr_trI hF rfl, fun j y h1 h2 => ?_⟩
      · simp (disch := omega) only [p_bnd, p_nm, p_gSEl, p_gSEr, p_l0, p_l1, p_l2, p_l3, p_l4, p_l5, p_l6, p_l7, p_l8, p_l9, p_l10, p_l14, p_l16, p_l20, p_l22, p_l24, p_l30, p_l31, p_l32, p_l38, p_l40, p_l41, p_l43, p_l48, p_l57, p_l59, p_l60, p_l61, p_l62, p_l63, p_l97, p_l98, p_l101, p_l122, p_l158, p_l201, p_l255, p_l256, p_l374, p_l880, p_l900, p_l1000, p_l2618, p_neg, nI_add, p_mul, p_sub, p_addm, p_addm0, p_subm, p_le, p_lt, p_eq, p_mO_eq, p_eq_mO, p_mO_lt, p_nlt_mO, p_mO_le, p_le_mO, p_rI, p_rL, p_wI, p_wL, p_wF, p_has10, p_has11, p_ib0, p_ib1, p_shl1, p_zv0, p_zv1, p_zvib, p_ibd, p_ibn, if_pos, if_neg, if_true, if_false, ne_eq, not_true, not_false_iff, Decidable.not_not, Nat.not_lt, Nat.not_le, Bool.true_eq_false, Bool.false_eq_true, eq_self, reduceIte, Nat.reduceAdd, Nat.reduceMul, Nat.reduceSub, Nat.reduceEqDiff, Nat.reduceLT, Nat.reduceLeDiff, reduceCtorEq, fX2_takeOrder_l10, e11, er, ex]
      · rw [p_gI]
        by_cases e : j = p
        · rw [if_pos ⟨rfl, e⟩]
          rw [e, hx] at h2; exact Option.some.inj h2
        · rw [if_neg (fun z => e z.2)]; exact hI j y (by omega) h2
    · refine Or.inr ⟨M', by simp (disch := omega) only [p_bnd, p_nm, p_gSEl, p_gSEr, p_l0, p_l1, p_l2, p_l3, p_l4, p_l5, p_l6, p_l7, p_l8, p_l9, p_l10, p_l14, p_l16, p_l20, p_l22, p_l24, p_l30, p_l31, p_l32, p_l38, p_l40, p_l41, p_l43, p_l48, p_l57, p_l59, p_l60, p_l61, p_l62, p_l63, p_l97, p_l98, p_l101, p_l122, p_l158, p_l201, p_l255, p_l256, p_l374, p_l880, p_l900, p_l1000, p_l2618, p_neg, nI_add, p_mul, p_sub, p_addm, p_addm0, p_subm, p_le, p_lt, p_eq, p_mO_eq, p_eq_mO, p_mO_lt, p_nlt_mO, p_mO_le, p_le_mO, p_rI, p_rL, p_wI, p_wL, p_wF, p_has10, p_has11, p_ib0, p_ib1, p_shl1, p_zv0, p_zv1, p_zvib, p_ibd, p_ibn, if_pos, if_neg, if_true, if_false, ne_eq, not_true, not_false_iff, Decidable.not_not, Nat.not_lt, Nat.not_le, Bool.true_eq_false, Bool.false_eq_true, eq_self, reduceIte, Nat.reduceAdd, Nat.reduceMul, Nat.reduceSub, Nat.reduceEqDiff, Nat.reduceLT, Nat.reduceLeDiff, reduceCtorEq, fX2_takeOrder_l10, e11], hF, fun j x h => hI j x ?_ h⟩
      have := (List.getElem?_eq_some_iff.mp h).1
      omega
  have e9 : q.1 t 9 = nI n := by rw [(F t 9 (by omega)).1, p_gI_n (Or.inr (by decide))]; exact hn
  have e11 : q.1 t 11 = nI ls.length := by rw [(F t 11 (by omega)).1, p_gI_s]
  obtain ⟨M2, e2, F2, P2⟩ := ct_setPlaces (t := t) (M := q) (pl := pl) e9 hn24 e11 hl (fun p hp v hv => by
    rw [I p _ (List.getElem?_eq_getElem hp)]; exact hb p _ (List.getElem?_eq_getElem hp) v hv) hpl
  refine ⟨M2, ?_, gFr_tr (gFr_mo F0 (fun c k z => by omega)) (gFr_tr (gFr_mo F (fun c k z => by omega)) (gFr_mo F2 (fun c k z => by omega))), ?_, ?_, P2⟩
  · unfold fX2_takeOrder
    rw [hR.1, p_wF, p_bnd, e, p_bnd, e2, p_bnd]
  · rw [(F2 t 11 (by omega)).1, e11]
  · intro p x hx
    rw [(F2 (t + 7) p (by omega)).1]; exact I p x hx
end TO
