/-! THE REFERENCE lays the groups of a set anew: laysGroups -/
section LG
variable {M : gMem} {S : gS}
theorem rg_head {n t : Nat} {R : Nat → Nat → Prop} (x1 x2 : Int32) (hn : n ≤ 24) (hr : ∀ x, R x x) (ht : t < n) (hR : ∀ u, u < n → ∀ v, v < 32 → (bt (M.1 6 u) v = true ↔ R u v)) : gLoop (fun z9 => fX11_laysGroups_l33 x1 x2 (nI t) M z9) gFu (0 : Int32) = some (nI (hdR R n t)) := by
  obtain ⟨a1, a2, a3, a4⟩ := hdR_ok hr ht
  have h2 := (hR t ht (hdR R n t) (by omega)).mpr a2
  have h3 := (hR (hdR R n t) (by omega) t (by omega)).mpr a3
  generalize hdR R n t = h at a1 a4 h2 h3
  exact gLoop_f (body := fun z9 => fX11_laysGroups_l33 x1 x2 (nI t) M z9) (fun j => nI j) (r := nI h) h gFu (by show h < 4096; omega) (fun j hj => by
    cases b1 : bt (M.1 6 t) j
    · simp (disch := omega) only [p_bnd, p_nm, p_gSEl, p_gSEr, p_l0, p_l1, p_l2, p_l3, p_l4, p_l5, p_l6, p_l7, p_l8, p_l9, p_l10, p_l14, p_l16, p_l20, p_l22, p_l24, p_l30, p_l31, p_l32, p_l38, p_l40, p_l41, p_l43, p_l48, p_l57, p_l59, p_l60, p_l61, p_l62, p_l63, p_l97, p_l98, p_l101, p_l122, p_l158, p_l201, p_l255, p_l256, p_l374, p_l880, p_l900, p_l1000, p_l2618, p_neg, nI_add, p_mul, p_sub, p_addm, p_addm0, p_subm, p_le, p_lt, p_eq, p_mO_eq, p_eq_mO, p_mO_lt, p_nlt_mO, p_mO_le, p_le_mO, p_rI, p_rL, p_wI, p_wL, p_wF, p_has10, p_has11, p_ib0, p_ib1, p_shl1, p_zv0, p_zv1, p_zvib, p_ibd, p_ibn, if_pos, if_neg, if_true, if_false, ne_eq, not_true, not_false_iff, Decidable.not_not, Nat.not_lt, Nat.not_le, Bool.true_eq_false, Bool.false_eq_true, eq_self, reduceIte, Nat.reduceAdd, Nat.reduceMul, Nat.reduceSub, Nat.reduceEqDiff, Nat.reduceLT, Nat.reduceLeDiff, reduceCtorEq, fX11_laysGroups_l33, fX11_laysGroups_b61, b1]
    · cases b2 : bt (M.1 6 j) t
      · simp (disch := omega) only [p_bnd, p_nm, p_gSEl, p_gSEr, p_l0, p_l1, p_l2, p_l3, p_l4, p_l5, p_l6, p_l7, p_l8, p_l9, p_l10, p_l14, p_l16, p_l20, p_l22, p_l24, p_l30, p_l31, p_l32, p_l38, p_l40, p_l41, p_l43, p_l48, p_l57, p_l59, p_l60, p_l61, p_l62, p_l63, p_l97, p_l98, p_l101, p_l122, p_l158, p_l201, p_l255, p_l256, p_l374, p_l880, p_l900, p_l1000, p_l2618, p_neg, nI_add, p_mul, p_sub, p_addm, p_addm0, p_subm, p_le, p_lt, p_eq, p_mO_eq, p_eq_mO, p_mO_lt, p_nlt_mO, p_mO_le, p_le_mO, p_rI, p_rL, p_wI, p_wL, p_wF, p_has10, p_has11, p_ib0, p_ib1, p_shl1, p_zv0, p_zv1, p_zvib, p_ibd, p_ibn, if_pos, if_neg, if_true, if_false, ne_eq, not_true, not_false_iff, Decidable.not_not, Nat.not_lt, Nat.not_le, Bool.true_eq_false, Bool.false_eq_true, eq_self, reduceIte, Nat.reduceAdd, Nat.reduceMul, Nat.reduceSub, Nat.reduceEqDiff, Nat.reduceLT, Nat.reduceLeDiff, reduceCtorEq, fX11_laysGroups_l33, fX11_laysGroups_b61, b1, b2]
      · exact absurd ⟨(hR t ht j (by omega)).mp b1, (hR j (by omega) t (by omega)).mp b2⟩ (a4 j hj)) (by simp (disch := omega) only [p_bnd, p_nm, p_gSEl, p_gSEr, p_l0, p_l1, p_l2, p_l3, p_l4, p_l5, p_l6, p_l7, p_l8, p_l9, p_l10, p_l14, p_l16, p_l20, p_l22, p_l24, p_l30, p_l31, p_l32, p_l38, p_l40, p_l41, p_l43, p_l48, p_l57, p_l59, p_l60, p_l61, p_l62, p_l63, p_l97, p_l98, p_l101, p_l122, p_l158, p_l201, p_l255, p_l256, p_l374, p_l880, p_l900, p_l1000, p_l2618, p_neg, nI_add, p_mul, p_sub, p_addm, p_addm0, p_subm, p_le, p_lt, p_eq, p_mO_eq, p_eq_mO, p_mO_lt, p_nlt_mO, p_mO_le, p_le_mO, p_rI, p_rL, p_wI, p_wL, p_wF, p_has10, p_has11, p_ib0, p_ib1, p_shl1, p_zv0, p_zv1, p_zvib, p_ibd, p_ibn, if_pos, if_neg, if_true, if_false, ne_eq, not_true, not_false_iff, Decidable.not_not, Nat.not_lt, Nat.not_le, Bool.true_eq_false, Bool.false_eq_true, eq_self, reduceIte, Nat.reduceAdd, Nat.reduceMul, Nat.reduceSub, Nat.reduceEqDiff, Nat.reduceLT, Nat.reduceLeDiff, reduceCtorEq, fX11_laysGroups_l33, h2, h3])
def Dlg (n c k : Nat) : Prop := c = 6 ∨ c = 11 ∨ (c = 1 ∧ ∃ t, t < n ∧ k = 158 + 9 * t + 1)
theorem rs_laysGroups {G : Nat → Bool} {x : Int32} (hA : RA (M.1 1) S) (hx : ∀ v, v < 32 → (bt x v = true ↔ v < sN S ∧ G v = true)) :
    ∃ M', fX11_laysGroups x M = some (nI (gHs (hdR (sR S) (sN S)) (sN S) G).length, M') ∧ gFr (Dlg (sN S)) M M' ∧ HW M' 0 (gHs (hdR (sR S) (sN S)) (sN S) G) ∧ ∀ t, t < sN S → M'.1 1 (158 + 9 * t + 1) = if G t = true then nI (hdR (sR S) (sN S) t) else M.1 1 (158 + 9 * t + 1) := by
  have hn := hA.2.2.1
  obtain ⟨M1, e1, F1, I1⟩ := r_laysReach0 hA
  have w1 : M1.1 1 = M.1 1 := gFr_c1 F1 (fun _ => by omega)
  obtain ⟨q, e, q1, F, L, W⟩ : ∃ q, gLoop (fun z9 => fX11_laysGroups_l9 x z9.1 z9.2.1 z9.2.2) gFu ((0 : Int32), (0 : Int32), M1) = some q ∧ q.1 = nI (gHs (hdR (sR S) (sN S)) (sN S) G).length ∧ gFr (Dlg (sN S)) M1 q.2 ∧ HW q.2 0 (gHs (hdR (sR S) (sN S)) (sN S) G) ∧ ∀ t, t < sN S → q.2.1 1 (158 + 9 * t + 1) = if G t = true then nI (hdR (sR S) (sN S) t) else M1.1 1 (158 + 9 * t + 1) := by
    refine gLoop_i (fun k s => ∃ M', s = (nI (gHs (hdR (sR S) (sN S)) k G).length, nI k, M') ∧ gFr (Dlg (sN S)) M1 M' ∧ gFr (fun c _ => c ≠ 6) M1 M' ∧ HW M' 0 (gHs (hdR (sR S) (sN S)) k G) ∧ ∀ t, t < sN S → M'.1 1 (158 + 9 * t + 1) = if t < k ∧ G t = true then nI (hdR (sR S) (sN S) t) else M1.1 1 (158 + 9 * t + 1)) _ (sN S) ⟨M1, rfl, gFr_rf, gFr_rf, fun j x z => by simp [gHs] at z, fun t ht => by rw [if_neg (fun z => Nat.not_lt_zero _ z.1)]⟩ (by show sN S < 4096; omega) ?_
    rintro k s hk ⟨M', rfl, hF, hF6, hH, hT⟩
    have h0 : M'.1 1 0 = nI (sN S) := by rw [(hF 1 0 (by unfold Dlg; omega)).1, w1]; exact hA.1
    have c6 : M'.1 6 = M1.1 6 := gFr_c1 hF6 (fun _ z => z rfl)
    have hlk : (gHs (hdR (sR S) (sN S)) k G).length ≤ k := by rw [gHs_ct]; exact fb_ct_le _ _
    rcases Nat.lt_or_ge k (sN S) with q | q
    · cases hg : G k
      · have hb : bt x k = false := by
          cases hz : bt x k
          · rfl
          · rw [((hx k (by omega)).mp hz).2] at hg; cases hg
        have e9 : gHs (hdR (sR S) (sN S)) (k + 1) G = gHs (hdR (sR S) (sN S)) k G := by
          rw [gHs_sc, hg, Bool.false_and, if_neg (by decide), List.append_nil]
        refine Or.inl ⟨(nI (gHs (hdR (sR S) (sN S)) k G).length, nI (k + 1), M'), ?_, q, M', by rw [e9], hF, hF6, by rw [e9]; exact hH, fun t ht => ?_⟩
        · simp (disch := omega) only [p_bnd, p_nm, p_gSEl, p_gSEr, p_l0, p_l1, p_l2, p_l3, p_l4, p_l5, p_l6, p_l7, p_l8, p_l9, p_l10, p_l14, p_l16, p_l20, p_l22, p_l24, p_l30, p_l31, p_l32, p_l38, p_l40, p_l41, p_l43, p_l48, p_l57, p_l59, p_l60, p_l61, p_l62, p_l63, p_l97, p_l98, p_l101, p_l122, p_l158, p_l201, p_l255, p_l256, p_l374, p_l880, p_l900, p_l1000, p_l2618, p_neg, nI_add, p_mul, p_sub, p_addm, p_addm0, p_subm, p_le, p_lt, p_eq, p_mO_eq, p_eq_mO, p_mO_lt, p_nlt_mO, p_mO_le, p_le_mO, p_rI, p_rL, p_wI, p_wL, p_wF, p_has10, p_has11, p_ib0, p_ib1, p_shl1, p_zv0, p_zv1, p_zvib, p_ibd, p_ibn, if_pos, if_neg, if_true, if_false, ne_eq, not_true, not_false_iff, Decidable.not_not, Nat.not_lt, Nat.not_le, Bool.true_eq_false, Bool.false_eq_true, eq_self, reduceIte, Nat.reduceAdd, Nat.reduceMul, Nat.reduceSub, Nat.reduceEqDiff, Nat.reduceLT, Nat.reduceLeDiff, reduceCtorEq, fX11_laysGroups_l9, fX11_laysGroups_b91, h0, hb]
        · rw [hT t ht]
          by_cases e : t = k
          · rw [e, hg, if_neg (by simp), if_neg (by simp)]
          · by_cases d : t < k ∧ G t = true
            · rw [if_pos d, if_pos ⟨by omega, d.2⟩]
            · rw [if_neg d, if_neg (fun z => d ⟨by omega, z.2⟩)]
      · have hb : bt x k = true := (hx k (by omega)).mpr ⟨q, hg⟩
        have hhd := rg_head (M := M') (R := sR S) x (nI (gHs (hdR (sR S) (sN S)) k G).length) hn (fun _ => gRc.rf) q (fun u hu v hv => by rw [c6]; exact I1 u hu v hv)
        have hhd' : gLoop (fun z9 => fX11_laysGroups_l33 x (nI (gHs (hdR (sR S) (sN S)) k G).length) (nI k) M' z9) gFu (nI 0) = some (nI (hdR (sR S) (sN S) k)) := hhd
        obtain ⟨a1, a2, a3, a4⟩ := hdR_ok (R := sR S) (fun _ => gRc.rf) q
        have hT2 : ∀ (M2 : gMem), (∀ j, M2.1 1 j = if j = 158 + 9 * k + 1 then nI (hdR (sR S) (sN S) k) else M'.1 1 j) → ∀ t, t < sN S → M2.1 1 (158 + 9 * t + 1) = if t < k + 1 ∧ G t = true then nI (hdR (sR S) (sN S) t) else M1.1 1 (158 + 9 * t + 1) := fun M2 h2 t ht => by
          rw [h2]
          by_cases e : t = k
          · rw [if_pos (by omega), e, if_pos ⟨by omega, hg⟩]
          · rw [if_neg (by omega), hT t ht]
            by_cases d : t < k ∧ G t = true
            · rw [if_pos d, if_pos ⟨by omega, d.2⟩]
            · rw [if_neg d, if_neg (fun z => d ⟨by omega, z.2⟩)]
        have hgI : ∀ j, (gI M' 1 (158 + 9 * k + 1) (nI (hdR (sR S) (sN S) k))).1 1 j = if j = 158 + 9 * k + 1 then nI (hdR (sR S) (sN S) k) else M'.1 1 j := fun j => by
          rw [p_gI]
          by_cases e : j = 158 + 9 * k + 1
          · rw [if_pos ⟨rfl, e⟩, if_pos e]
          · rw [if_neg (fun z => e z.2), if_neg e]
        by_cases c : hdR (sR S) (sN S) k = k
        · have e9 : gHs (hdR (sR S) (sN S)) (k + 1) G = gHs (hdR (sR S) (sN S)) k G ++ [k] := by
            rw [gHs_sc, if_pos (by rw [hg, c]; simp)]
          refine Or.inl ⟨(nI ((gHs (hdR (sR S) (sN S)) k G).length + 1), nI (k + 1), gI (gI M' 1 (158 + 9 * k + 1) (nI (hdR (sR S) (sN S) k))) 11 (gHs (hdR (sR S) (sN S)) k G).length (nI k)), ?_, q, _, by rw [e9, List.length_append]; rfl, gFr_trI (gFr_trI hF (Or.inr (Or.inr ⟨rfl, k, q, rfl⟩))) (Or.inr (Or.inl rfl)), gFr_trI (gFr_trI hF6 (by decide)) (by decide), ?_, ?_⟩
          · generalize hL : (gHs (hdR (sR S) (sN S)) k G).length = L at hhd' hlk
            generalize hdR (sR S) (sN S) k = h at hhd' c
            simp (disch := omega) only [p_bnd, p_nm, p_gSEl, p_gSEr, p_l0, p_l1, p_l2, p_l3, p_l4, p_l5, p_l6, p_l7, p_l8, p_l9, p_l10, p_l14, p_l16, p_l20, p_l22, p_l24, p_l30, p_l31, p_l32, p_l38, p_l40, p_l41, p_l43, p_l48, p_l57, p_l59, p_l60, p_l61, p_l62, p_l63, p_l97, p_l98, p_l101, p_l122, p_l158, p_l201, p_l255, p_l256, p_l374, p_l880, p_l900, p_l1000, p_l2618, p_neg, nI_add, p_mul, p_sub, p_addm, p_addm0, p_subm, p_le, p_lt, p_eq, p_mO_eq, p_eq_mO, p_mO_lt, p_nlt_mO, p_mO_le, p_le_mO, p_rI, p_rL, p_wI, p_wL, p_wF, p_has10, p_has11, p_ib0, p_ib1, p_shl1, p_zv0, p_zv1, p_zvib, p_ibd, p_ibn, if_pos, if_neg, if_true, if_false, ne_eq, not_true, not_false_iff, Decidable.not_not, Nat.not_lt, Nat.not_le, Bool.true_eq_false, Bool.false_eq_true, eq_self, reduceIte, Nat.reduceAdd, Nat.reduceMul, Nat.reduceSub, Nat.reduceEqDiff, Nat.reduceLT, Nat.reduceLeDiff, reduceCtorEq, fX11_laysGroups_l9, fX11_laysGroups_b91, fX11_puts, h0, hb, hhd', c]
          · rw [e9]
            intro j y hj
            rw [Nat.zero_add, p_gI]
            rcases Nat.lt_or_ge j (gHs (hdR (sR S) (sN S)) k G).length with d | d
            · rw [List.getElem?_append_left d] at hj
              rw [if_neg (by omega), p_gI_n (Or.inl (by decide))]
              have := hH j y hj
              rw [Nat.zero_add] at this; exact this
            · rw [List.getElem?_append_right d] at hj
              have hj3 := (List.getElem?_eq_some_iff.mp hj).1
              have e7 : j = (gHs (hdR (sR S) (sN S)) k G).length := by simp at hj3; omega
              rw [show j - (gHs (hdR (sR S) (sN S)) k G).length = 0 by omega] at hj
              rw [if_pos ⟨rfl, e7⟩, show k = y from Option.some.inj hj]
          · refine hT2 _ (fun j => ?_)
            rw [p_gI_n (Or.inl (by decide))]; exact hgI j
        · have e9 : gHs (hdR (sR S) (sN S)) (k + 1) G = gHs (hdR (sR S) (sN S)) k G := by
            rw [gHs_sc, if_neg (by rw [hg]; simp [c]), List.append_nil]
          refine Or.inl ⟨(nI (gHs (hdR (sR S) (sN S)) k G).length, nI (k + 1), gI M' 1 (158 + 9 * k + 1) (nI (hdR (sR S) (sN S) k))), ?_, q, _, by rw [e9], gFr_trI hF (Or.inr (Or.inr ⟨rfl, k, q, rfl⟩)), gFr_trI hF6 (by decide), ?_, hT2 _ hgI⟩
          · generalize hdR (sR S) (sN S) k = h at hhd' c a1
            simp (disch := omega) only [p_bnd, p_nm, p_gSEl, p_gSEr, p_l0, p_l1, p_l2, p_l3, p_l4, p_l5, p_l6, p_l7, p_l8, p_l9, p_l10, p_l14, p_l16, p_l20, p_l22, p_l24, p_l30, p_l31, p_l32, p_l38, p_l40, p_l41, p_l43, p_l48, p_l57, p_l59, p_l60, p_l61, p_l62, p_l63, p_l97, p_l98, p_l101, p_l122, p_l158, p_l201, p_l255, p_l256, p_l374, p_l880, p_l900, p_l1000, p_l2618, p_neg, nI_add, p_mul, p_sub, p_addm, p_addm0, p_subm, p_le, p_lt, p_eq, p_mO_eq, p_eq_mO, p_mO_lt, p_nlt_mO, p_mO_le, p_le_mO, p_rI, p_rL, p_wI, p_wL, p_wF, p_has10, p_has11, p_ib0, p_ib1, p_shl1, p_zv0, p_zv1, p_zvib, p_ibd, p_ibn, if_pos, if_neg, if_true, if_false, ne_eq, not_true, not_false_iff, Decidable.not_not, Nat.not_lt, Nat.not_le, Bool.true_eq_false, Bool.false_eq_true, eq_self, reduceIte, Nat.reduceAdd, Nat.reduceMul, Nat.reduceSub, Nat.reduceEqDiff, Nat.reduceLT, Nat.reduceLeDiff, reduceCtorEq, fX11_laysGroups_l9, fX11_laysGroups_b91, fX11_puts, h0, hb, hhd', c]
          · rw [e9]; exact HW_of hH (p_gI_o (by decide))
    · have hk3 : k = sN S := by omega
      refine Or.inr ⟨(nI (gHs (hdR (sR S) (sN S)) k G).length, M'), by simp (disch := omega) only [p_bnd, p_nm, p_gSEl, p_gSEr, p_l0, p_l1, p_l2, p_l3, p_l4, p_l5, p_l6, p_l7, p_l8, p_l9, p_l10, p_l14, p_l16, p_l20, p_l22, p_l24, p_l30, p_l31, p_l32, p_l38, p_l40, p_l41, p_l43, p_l48, p_l57, p_l59, p_l60, p_l61, p_l62, p_l63, p_l97, p_l98, p_l101, p_l122, p_l158, p_l201, p_l255, p_l256, p_l374, p_l880, p_l900, p_l1000, p_l2618, p_neg, nI_add, p_mul, p_sub, p_addm, p_addm0, p_subm, p_le, p_lt, p_eq, p_mO_eq, p_eq_mO, p_mO_lt, p_nlt_mO, p_mO_le, p_le_mO, p_rI, p_rL, p_wI, p_wL, p_wF, p_has10, p_has11, p_ib0, p_ib1, p_shl1, p_zv0, p_zv1, p_zvib, p_ibd, p_ibn, if_pos, if_neg, if_true, if_false, ne_eq, not_true, not_false_iff, Decidable.not_not, Nat.not_lt, Nat.not_le, Bool.true_eq_false, Bool.false_eq_true, eq_self, reduceIte, Nat.reduceAdd, Nat.reduceMul, Nat.reduceSub, Nat.reduceEqDiff, Nat.reduceLT, Nat.reduceLeDiff, reduceCtorEq, fX11_laysGroups_l9, h0], by rw [hk3], hF, by rw [← hk3]; rw [hk3] at hH ⊢; exact hH, fun t ht => ?_⟩
      rw [hT t ht]
      by_cases d : G t = true
      · rw [if_pos d, if_pos ⟨by omega, d⟩]
      · rw [if_neg d, if_neg (fun z => d z.2)]
  refine ⟨q.2, ?_, gFr_tr (gFr_mo F1 (fun c k z => Or.inl z)) F, L, fun t ht => ?_⟩
  · unfold fX11_laysGroups
    rw [e1, p_bnd, e, p_bnd, q1]
  · rw [W t ht, w1]
end LG
