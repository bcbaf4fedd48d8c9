/-! AN ARROW IS CUT: the reference's cuts, whole -/
section RC
variable {M : gMem} {S : gS} {a : Nat}
theorem rr_placeOfHead (h : RR (M.1 1) S) (h0 : sW0 S) (hw : sW2 S) {p : Nat} (hp : p < sG S) : fX11_placeOfHead (nI (sHd S p)) M = some (nI p) := by
  have h1 := h0.1
  have h2 := h0.2.2.1
  have c1 := (sHd_ok hw hp).1
  have e := gLoop_f (body := fun z9 => fX11_placeOfHead_l2 (nI (sHd S p)) M z9) (fun k => nI k) (r := nI p) p gFu (by show p < 4096; omega) (fun k hk => by
    have c2 := (sHd_ok hw (show k < sG S by omega)).1
    have c3 : ¬ sHd S k = sHd S p := fun z => by have := sHd_inj hw (show k < sG S by omega) hp z; omega
    simp (disch := omega) only [p_bnd, p_nm, p_gSEl, p_gSEr, p_l0, p_l1, p_l2, p_l3, p_l4, p_l5, p_l6, p_l7, p_l8, p_l9, p_l10, p_l14, p_l16, p_l20, p_l22, p_l24, p_l30, p_l31, p_l32, p_l38, p_l40, p_l41, p_l43, p_l48, p_l57, p_l59, p_l60, p_l61, p_l62, p_l63, p_l97, p_l98, p_l101, p_l122, p_l158, p_l201, p_l255, p_l256, p_l374, p_l880, p_l900, p_l1000, p_l2618, p_neg, nI_add, p_mul, p_sub, p_addm, p_addm0, p_subm, p_le, p_lt, p_eq, p_mO_eq, p_eq_mO, p_mO_lt, p_nlt_mO, p_mO_le, p_le_mO, p_rI, p_rL, p_wI, p_wL, p_wF, p_has10, p_has11, p_ib0, p_ib1, p_shl1, p_zv0, p_zv1, p_zvib, p_ibd, p_ibn, if_pos, if_neg, if_true, if_false, ne_eq, not_true, not_false_iff, Decidable.not_not, Nat.not_lt, Nat.not_le, Bool.true_eq_false, Bool.false_eq_true, eq_self, reduceIte, Nat.reduceAdd, Nat.reduceMul, Nat.reduceSub, Nat.reduceEqDiff, Nat.reduceLT, Nat.reduceLeDiff, reduceCtorEq, fX11_placeOfHead_l2, h.2.2.1 k (show k < sG S by omega)]) (by simp (disch := omega) only [p_bnd, p_nm, p_gSEl, p_gSEr, p_l0, p_l1, p_l2, p_l3, p_l4, p_l5, p_l6, p_l7, p_l8, p_l9, p_l10, p_l14, p_l16, p_l20, p_l22, p_l24, p_l30, p_l31, p_l32, p_l38, p_l40, p_l41, p_l43, p_l48, p_l57, p_l59, p_l60, p_l61, p_l62, p_l63, p_l97, p_l98, p_l101, p_l122, p_l158, p_l201, p_l255, p_l256, p_l374, p_l880, p_l900, p_l1000, p_l2618, p_neg, nI_add, p_mul, p_sub, p_addm, p_addm0, p_subm, p_le, p_lt, p_eq, p_mO_eq, p_eq_mO, p_mO_lt, p_nlt_mO, p_mO_le, p_le_mO, p_rI, p_rL, p_wI, p_wL, p_wF, p_has10, p_has11, p_ib0, p_ib1, p_shl1, p_zv0, p_zv1, p_zvib, p_ibd, p_ibn, if_pos, if_neg, if_true, if_false, ne_eq, not_true, not_false_iff, Decidable.not_not, Nat.not_lt, Nat.not_le, Bool.true_eq_false, Bool.false_eq_true, eq_self, reduceIte, Nat.reduceAdd, Nat.reduceMul, Nat.reduceSub, Nat.reduceEqDiff, Nat.reduceLT, Nat.reduceLeDiff, reduceCtorEq, fX11_placeOfHead_l2, h.2.2.1 p hp])
  show (gLoop (fun z9 => fX11_placeOfHead_l2 (nI (sHd S p)) M z9) gFu ((fun k => nI k) 0)).bind _ = _
  rw [e]; rfl
theorem sCut_hd (h : sW S) (ha : a < sM S) (hin : sIn S a = true) {t : Nat} (ht : t < sN S) : sHd (sCut S a) (xQ S a (xS S a) t) = xH S a t := by
  have e := hdP_xQ h ha (xOK_S h ha) ht
  unfold sHd
  rw [sCut_n, sCut_pl, if_pos hin]
  exact e
theorem sCut_or1 (h : sW S) (ha : a < sM S) (hin : sIn S a = true) {p : Nat} (hp : p < xO S a) : sHd (sCut S a) p = sHd S p := by
  have : xO S a < sG S := h.p (h.2.1.1 a ha).1
  obtain ⟨t, t1, t2⟩ := h.2.2.1.2 p (by omega)
  have e := sCut_hd h ha hin t1
  rw [(xQ_lo hp).mpr t2] at e
  rw [e]; unfold xH; rw [if_neg (by omega), t2]
theorem sCut_or2 (h : sW S) (ha : a < sM S) (hin : sIn S a = true) {k y : Nat} (hk : (xS S a)[k]? = some y) : sHd (sCut S a) (xO S a + k) = y := by
  have hS := xOK_S h ha
  obtain ⟨b1, b2, b3⟩ := xL_mem.mp ((hS.2.1 y).mp (List.mem_of_getElem? hk))
  have b4 : xH S a y = y := by rw [xH_in b2]; exact b3
  have e := sCut_hd h ha hin b1
  rw [(xQ_mid h ha hS b1 hk).mpr ⟨b2, b4⟩, b4] at e
  exact e
theorem sCut_or3 (h : sW S) (ha : a < sM S) (hin : sIn S a = true) {p : Nat} (hp : xO S a + (xL S a).length ≤ p) (hp2 : p < sG S + ((xL S a).length - 1)) : sHd (sCut S a) p = sHd S (p - ((xL S a).length - 1)) := by
  have := xL_pos h ha
  obtain ⟨t, t1, t2⟩ := h.2.2.1.2 (p - ((xL S a).length - 1)) (by omega)
  have e := sCut_hd h ha hin t1
  rw [(xQ_hi h ha (xOK_S h ha) t1 hp).mpr (by omega)] at e
  rw [e]; unfold xH; rw [if_neg (by omega), t2]
/-- the places behind are pushed up, the parts are laid -/
theorem ru_up {g p m : Nat} (hp : p < g) (hm : 2 ≤ m) (hg : g + (m - 1) ≤ 24) : ∃ q, gLoop (fun z9 => fX11_cuts_l80 (nI p) (nI m) z9.1 z9.2) gFu (nI (g - 1), M) = some q ∧ gFr (fun c k => c = 1 ∧ 14 + p + m ≤ k ∧ k < 14 + g + (m - 1)) M q ∧ ∀ j, p + m ≤ j → j < g + (m - 1) → q.1 1 (14 + j) = M.1 1 (14 + (j - (m - 1))) := by
  refine gLoop_i (fun k s => ∃ i M', s = (nI i, M') ∧ i + k = g - 1 ∧ p ≤ i ∧ gFr (fun c k => c = 1 ∧ 14 + p + m ≤ k ∧ k < 14 + g + (m - 1)) M M' ∧ (∀ j, i + (m - 1) < j → j < g + (m - 1) → M'.1 1 (14 + j) = M.1 1 (14 + (j - (m - 1)))) ∧ ∀ j, j ≤ i + (m - 1) → M'.1 1 (14 + j) = M.1 1 (14 + j)) _ (g - 1 - p) ⟨g - 1, M, rfl, by omega, by omega, gFr_rf, fun j z1 z2 => by omega, fun j _ => rfl⟩ (by show g - 1 - p < 4096; omega) ?_
  rintro k s hk ⟨i, M', rfl, hi, hpi, hF, hI, hJ⟩
  rcases Nat.lt_or_ge p i with q | q
  · refine Or.inl ⟨(nI (i - 1), gI M' 1 (14 + i + m - 1) (M'.1 1 (14 + i))), ?_, by omega, i - 1, _, rfl, by omega, by omega, gFr_trI hF ⟨rfl, by omega, by omega⟩, fun j z1 z2 => ?_, fun j z => ?_⟩
    · simp (disch := omega) only [p_bnd, p_nm, p_gSEl, p_gSEr, p_l0, p_l1, p_l2, p_l3, p_l4, p_l5, p_l6, p_l7, p_l8, p_l9, p_l10, p_l14, p_l16, p_l20, p_l22, p_l24, p_l30, p_l31, p_l32, p_l38, p_l40, p_l41, p_l43, p_l48, p_l57, p_l59, p_l60, p_l61, p_l62, p_l63, p_l97, p_l98, p_l101, p_l122, p_l158, p_l201, p_l255, p_l256, p_l374, p_l880, p_l900, p_l1000, p_l2618, p_neg, nI_add, p_mul, p_sub, p_addm, p_addm0, p_subm, p_le, p_lt, p_eq, p_mO_eq, p_eq_mO, p_mO_lt, p_nlt_mO, p_mO_le, p_le_mO, p_rI, p_rL, p_wI, p_wL, p_wF, p_has10, p_has11, p_ib0, p_ib1, p_shl1, p_zv0, p_zv1, p_zvib, p_ibd, p_ibn, if_pos, if_neg, if_true, if_false, ne_eq, not_true, not_false_iff, Decidable.not_not, Nat.not_lt, Nat.not_le, Bool.true_eq_false, Bool.false_eq_true, eq_self, reduceIte, Nat.reduceAdd, Nat.reduceMul, Nat.reduceSub, Nat.reduceEqDiff, Nat.reduceLT, Nat.reduceLeDiff, reduceCtorEq, fX11_cuts_l80]
    · rw [p_gI]
      by_cases e : j = i + (m - 1)
      · rw [if_pos ⟨rfl, by omega⟩, hJ i (by omega), e, Nat.add_sub_cancel]
      · rw [if_neg (by omega)]; exact hI j (by omega) z2
    · rw [p_gI_n (Or.inr (by omega))]; exact hJ j (by omega)
  · exact Or.inr ⟨M', by simp (disch := omega) only [p_bnd, p_nm, p_gSEl, p_gSEr, p_l0, p_l1, p_l2, p_l3, p_l4, p_l5, p_l6, p_l7, p_l8, p_l9, p_l10, p_l14, p_l16, p_l20, p_l22, p_l24, p_l30, p_l31, p_l32, p_l38, p_l40, p_l41, p_l43, p_l48, p_l57, p_l59, p_l60, p_l61, p_l62, p_l63, p_l97, p_l98, p_l101, p_l122, p_l158, p_l201, p_l255, p_l256, p_l374, p_l880, p_l900, p_l1000, p_l2618, p_neg, nI_add, p_mul, p_sub, p_addm, p_addm0, p_subm, p_le, p_lt, p_eq, p_mO_eq, p_eq_mO, p_mO_lt, p_nlt_mO, p_mO_le, p_le_mO, p_rI, p_rL, p_wI, p_wL, p_wF, p_has10, p_has11, p_ib0, p_ib1, p_shl1, p_zv0, p_zv1, p_zvib, p_ibd, p_ibn, if_pos, if_neg, if_true, if_false, ne_eq, not_true, not_false_iff, Decidable.not_not, Nat.not_lt, Nat.not_le, Bool.true_eq_false, Bool.false_eq_true, eq_self, reduceIte, Nat.reduceAdd, Nat.reduceMul, Nat.reduceSub, Nat.reduceEqDiff, Nat.reduceLT, Nat.reduceLeDiff, reduceCtorEq, fX11_cuts_l80], hF, fun j z1 z2 => hI j (by omega) z2⟩
theorem ru_lay {p m : Nat} {l : List Nat} (hm : l.length = m) (hl : p + m ≤ 24) (hW : HW M 0 l) : ∃ q, gLoop (fun z9 => fX11_cuts_l121 (nI p) (nI m) z9.1 z9.2) gFu (nI 0, M) = some q ∧ gFr (fun c k => c = 1 ∧ 14 + p ≤ k ∧ k < 14 + p + m) M q ∧ ∀ k y, l[k]? = some y → q.1 1 (14 + (p + k)) = nI y := by
  obtain ⟨q, e, F, I⟩ : ∃ q, gLoop (fun z9 => fX11_cuts_l121 (nI p) (nI m) z9.1 z9.2) gFu (nI 0, M) = some q ∧ gFr (fun c k => c = 1 ∧ 14 + p ≤ k ∧ k < 14 + p + m) M q ∧ ∀ k y, k < m → l[k]? = some y → q.1 1 (14 + (p + k)) = nI y := by
    refine gLoop_i (fun k s => ∃ M', s = (nI k, M') ∧ gFr (fun c k => c = 1 ∧ 14 + p ≤ k ∧ k < 14 + p + m) M M' ∧ ∀ j y, j < k → l[j]? = some y → M'.1 1 (14 + (p + j)) = nI y) _ m ⟨M, rfl, gFr_rf, fun j y z => absurd z (Nat.not_lt_zero _)⟩ (by show m < 4096; omega) ?_
    rintro k s hk ⟨M', rfl, hF, hI⟩
    rcases Nat.lt_or_ge k m with q | q
    · have h11 : M'.1 11 k = nI (l.getD k 0) := by
        have := hW k _ (getD_at (l := l) (i := k) (by omega))
        rw [Nat.zero_add] at this
        rw [(hF 11 k (by omega)).1]; exact this
      refine Or.inl ⟨(nI (k + 1), gI M' 1 (14 + p + k) (nI (l.getD k 0))), ?_, q, _, rfl, gFr_trI hF ⟨rfl, by omega, by omega⟩, fun j y z1 z2 => ?_⟩
      · simp (disch := omega) only [p_bnd, p_nm, p_gSEl, p_gSEr, p_l0, p_l1, p_l2, p_l3, p_l4, p_l5, p_l6, p_l7, p_l8, p_l9, p_l10, p_l14, p_l16, p_l20, p_l22, p_l24, p_l30, p_l31, p_l32, p_l38, p_l40, p_l41, p_l43, p_l48, p_l57, p_l59, p_l60, p_l61, p_l62, p_l63, p_l97, p_l98, p_l101, p_l122, p_l158, p_l201, p_l255, p_l256, p_l374, p_l880, p_l900, p_l1000, p_l2618, p_neg, nI_add, p_mul, p_sub, p_addm, p_addm0, p_subm, p_le, p_lt, p_eq, p_mO_eq, p_eq_mO, p_mO_lt, p_nlt_mO, p_mO_le, p_le_mO, p_rI, p_rL, p_wI, p_wL, p_wF, p_has10, p_has11, p_ib0, p_ib1, p_shl1, p_zv0, p_zv1, p_zvib, p_ibd, p_ibn, if_pos, if_neg, if_true, if_false, ne_eq, not_true, not_false_iff, Decidable.not_not, Nat.not_lt, Nat.not_le, Bool.true_eq_false, Bool.false_eq_true, eq_self, reduceIte, Nat.reduceAdd, Nat.reduceMul, Nat.reduceSub, Nat.reduceEqDiff, Nat.reduceLT, Nat.reduceLeDiff, reduceCtorEq, fX11_cuts_l121, h11]
      · rw [p_gI]
        by_cases e : j = k
        · rw [if_pos ⟨rfl, by omega⟩, ← e, List.getD_eq_getElem?_getD, z2]; rfl
        · rw [if_neg (by omega)]; exact hI j y (by omega) z2
    · exact Or.inr ⟨M', by simp (disch := omega) only [p_bnd, p_nm, p_gSEl, p_gSEr, p_l0, p_l1, p_l2, p_l3, p_l4, p_l5, p_l6, p_l7, p_l8, p_l9, p_l10, p_l14, p_l16, p_l20, p_l22, p_l24, p_l30, p_l31, p_l32, p_l38, p_l40, p_l41, p_l43, p_l48, p_l57, p_l59, p_l60, p_l61, p_l62, p_l63, p_l97, p_l98, p_l101, p_l122, p_l158, p_l201, p_l255, p_l256, p_l374, p_l880, p_l900, p_l1000, p_l2618, p_neg, nI_add, p_mul, p_sub, p_addm, p_addm0, p_subm, p_le, p_lt, p_eq, p_mO_eq, p_eq_mO, p_mO_lt, p_nlt_mO, p_mO_le, p_le_mO, p_rI, p_rL, p_wI, p_wL, p_wF, p_has10, p_has11, p_ib0, p_ib1, p_shl1, p_zv0, p_zv1, p_zvib, p_ibd, p_ibn, if_pos, if_neg, if_true, if_false, ne_eq, not_true, not_false_iff, Decidable.not_not, Nat.not_lt, Nat.not_le, Bool.true_eq_false, Bool.false_eq_true, eq_self, reduceIte, Nat.reduceAdd, Nat.reduceMul, Nat.reduceSub, Nat.reduceEqDiff, Nat.reduceLT, Nat.reduceLeDiff, reduceCtorEq, fX11_cuts_l121], hF, fun j y z1 z2 => hI j y (by omega) z2⟩
  exact ⟨q, e, F, fun k y z => I k y (by rw [← hm]; exact (List.getElem?_eq_some_iff.mp z).1) z⟩
theorem r_counts {k x y : Nat} (hk : k < 9) (hr : M.1 1 (5 + k) = nI y) : fX11_counts (nI k) (nI x) M = some (gI M 1 (5 + k) (nI (y + x))) := by
  simp (disch := omega) only [p_bnd, p_nm, p_gSEl, p_gSEr, p_l0, p_l1, p_l2, p_l3, p_l4, p_l5, p_l6, p_l7, p_l8, p_l9, p_l10, p_l14, p_l16, p_l20, p_l22, p_l24, p_l30, p_l31, p_l32, p_l38, p_l40, p_l41, p_l43, p_l48, p_l57, p_l59, p_l60, p_l61, p_l62, p_l63, p_l97, p_l98, p_l101, p_l122, p_l158, p_l201, p_l255, p_l256, p_l374, p_l880, p_l900, p_l1000, p_l2618, p_neg, nI_add, p_mul, p_sub, p_addm, p_addm0, p_subm, p_le, p_lt, p_eq, p_mO_eq, p_eq_mO, p_mO_lt, p_nlt_mO, p_mO_le, p_le_mO, p_rI, p_rL, p_wI, p_wL, p_wF, p_has10, p_has11, p_ib0, p_ib1, p_shl1, p_zv0, p_zv1, p_zvib, p_ibd, p_ibn, if_pos, if_neg, if_true, if_false, ne_eq, not_true, not_false_iff, Decidable.not_not, Nat.not_lt, Nat.not_le, Bool.true_eq_false, Bool.false_eq_true, eq_self, reduceIte, Nat.reduceAdd, Nat.reduceMul, Nat.reduceSub, Nat.reduceEqDiff, Nat.reduceLT, Nat.reduceLeDiff, reduceCtorEq, fX11_counts, hr]
def Dct (c k : Nat) : Prop := c = 6 ∨ c = 11 ∨ (c = 1 ∧ (k = 2 ∨ k = 12 ∨ (14 ≤ k ∧ k < 38) ∨ (158 ≤ k ∧ (k - 158) % 9 = 1)))
theorem RR_cut {ac : Nat → Nat} {M' : gMem} (R : RR (M.1 1) (sWa (sLess S a) ac)) (hn : sN S ≤ 24) (hm : sM S ≤ 60) (F : gFr Dct M M') (r2 : M'.1 1 2 = nI (sG (sCut S a))) (hac : ∀ k, k < 9 → k ≠ 7 → sAc (sCut S a) k = ac k) (r7 : M'.1 1 12 = nI (sAc (sCut S a) 7)) (ro : ∀ p, p < sG (sCut S a) → M'.1 1 (14 + p) = nI (sHd (sCut S a) p)) (rh : ∀ t, t < sN S → M'.1 1 (158 + 9 * t + 1) = nI (sHd (sCut S a) (sPl (sCut S a) t))) : RR (M'.1 1) (sCut S a) := by
  obtain ⟨⟨q0, q1, q2, q3, q4⟩, qa, qo, qf, qt⟩ := R
  have o : ∀ {k : Nat}, ¬ (k = 2 ∨ k = 12 ∨ (14 ≤ k ∧ k < 38) ∨ (158 ≤ k ∧ (k - 158) % 9 = 1)) → M'.1 1 k = M.1 1 k := fun z => (F 1 _ (by unfold Dct; omega)).1
  refine ⟨⟨?_, ?_, r2, ?_, ?_⟩, fun k hk => ?_, ro, fun i hi => ?_, fun t ht => ?_⟩
  · rw [o (by omega), sCut_n]; exact q0
  · rw [o (by omega), sCut_m]; exact q1
  · rw [o (by omega), sCut_mo]; exact q3
  · rw [o (by omega), sCut_jo]; exact q4
  · by_cases c : k = 7
    · rw [c]; exact r7
    · rw [o (by omega), hac k hk c]; exact qa k hk
  · rw [sCut_m] at hi
    rw [o (by omega), o (by omega), sCut_fr, sCut_to]; exact qf i hi
  · rw [sCut_n] at ht
    obtain ⟨t1, t2, t3, t4⟩ := qt t ht
    refine ⟨?_, rh t ht, ?_, fun k hk => ?_⟩
    · rw [o (by omega), sCut_hr]; exact t1
    · rw [o (by omega), sCut_nm]; exact t3
    · rw [o (by omega), sCut_nm]; exact t4 k hk
def Dcu (c : Nat) : Prop := c = 1 ∨ c = 6 ∨ c = 11
theorem rs_cuts (h : RS M S) (ha : a < sM S) : ∃ M', fX11_cuts (nI a) M = some (nI (xN S a), M') ∧ gFr (fun c _ => Dcu c) M M' ∧ RS M' (sCut S a) := by
  obtain ⟨y1, y2, y3⟩ := h.2.2.1.1 a ha
  have hW := sCut_W h.2 ha
  have hn := h.2.1.1
  have hm := h.2.1.2.1
  have hg := h.2.1.2.2.1
  have hpo : xO S a < sG S := h.2.p y1
  have w0 : sW0 (sWa (sLess S a) (upN (sAc S) 1 (sAc S 1 + 1))) := ⟨h.2.1.1, Nat.le_trans (Nat.sub_le _ _) hm, h.2.1.2.2⟩
  have w1 : sW1 (sWa (sLess S a) (upN (sAc S) 1 (sAc S 1 + 1))) := sLess_W1 h.2.2.1 ha
  have w2 : sW2 (sWa (sLess S a) (upN (sAc S) 1 (sAc S 1 + 1))) := h.2.2.2.1
  have e1 := rs_isInner h ha
  have e2 : M.1 1 (38 + a) = nI (sFr S a) := (h.1.2.2.2.1 a ha).1
  have e3 : fX11_of (nI (sFr S a)) (nI 1) M = some (nI (sHd S (xO S a))) := rs_hd h y1
  obtain ⟨M4, e4, F4, R4⟩ := rr_less h.1 hm ha hn (by omega)
  obtain ⟨e5, R5⟩ : fX11_counts (nI 1) (nI 1) M4 = some (gI M4 1 (5 + 1) (nI (sAc S 1 + 1))) ∧ RR ((gI M4 1 (5 + 1) (nI (sAc S 1 + 1))).1 1) (sWa (sLess S a) (upN (sAc S) 1 (sAc S 1 + 1))) := RR_cnt R4 hn (Nat.le_trans (Nat.sub_le _ _) hm) (by show sG S ≤ 24; omega) (k := 1) (by omega) 1
  have F5 : gFr (fun c _ => Dcu c) M (gI M4 1 (5 + 1) (nI (sAc S 1 + 1))) := gFr_trI (gFr_mo F4 (fun c k z => Or.inl z.1)) (Or.inl rfl)
  generalize gI M4 1 (5 + 1) (nI (sAc S 1 + 1)) = M5 at e5 R5 F5
  have hs : fX11_cuts (nI a) M = if ib (sIn S a) = 0 then (some ((0 : Int32), M5)) else (fX11_placeOfHead (nI (sHd S (xO S a))) M5).bind fun v7 => (fX11_members (nI (sHd S (xO S a))) M5).bind fun v8 => (fX11_laysGroups v8 M5).bind fun v9 => if v9.1 = nI 1 then (some (nI 1, v9.2)) else (fX11_sortsHeads v9.1 v9.2).bind fun v11 => (rI v11 1 374 (2 : Int32)).bind fun v12 => (nm (v12 - nI 1)).bind fun v13 => (gLoop (fun z9 => fX11_cuts_l80 v7 v9.1 z9.1 z9.2) gFu (v13, v11)).bind fun w17 => (gLoop (fun z9 => fX11_cuts_l121 v7 v9.1 z9.1 z9.2) gFu ((0 : Int32), w17)).bind fun w21 => (rI w21 1 374 (2 : Int32)).bind fun v22 => (wI w21 1 374 (2 : Int32) (v22 + (v9.1 - nI 1))).bind fun M23 => (fX11_counts (7 : Int32) v9.1 M23).bind fun v24 => some (v9.1, v24) := by
    unfold fX11_cuts
    rw [e1, p_bnd, show (38 : Int32) + nI a = nI (38 + a) from nI_add _ _, p_rI (by omega) (by omega), p_bnd, e2, show (1 : Int32) = nI 1 from rfl, e3, p_bnd, e4, p_bnd, e5, p_bnd]
  rw [hs]
  cases hin : sIn S a
  · refine ⟨M5, ?_, F5, RR_eq R5 (fun k _ => ?_) (by rw [sCut_fr]; rfl) (by rw [sCut_to]; rfl) (by rw [sCut_pl, if_neg (by rw [hin]; decide)]; rfl) (by rw [sCut_hr]; rfl) (fun k _ => cut_ac0 hin k) (by rw [sCut_nm]; rfl), hW⟩
    · unfold xN
      rw [if_pos (show ib false = 0 from rfl), hin, if_neg (by decide)]; rfl
    · unfold sCut; rw [if_neg (by rw [hin]; decide)]; rfl
  have hP := xL_pos h.2 ha
  have hfit := xL_fit h.2 ha hin
  have hS := xOK_S h.2 ha
  have exN : xN S a = (xL S a).length := by unfold xN; rw [hin, if_pos rfl]
  have hgc : sG (sCut S a) = sG S + ((xL S a).length - 1) := by rw [sCut_g, if_pos hin]
  have hpc : sPl (sCut S a) = xQ S a (xS S a) := by rw [sCut_pl, if_pos hin]; rfl
  have e7 : fX11_placeOfHead (nI (sHd S (xO S a))) M5 = some (nI (xO S a)) := rr_placeOfHead R5 w0 w2 hpo
  have hhd := (sHd_ok h.2.2.2.1 hpo).1
  have e8 : fX11_members (nI (sHd S (xO S a))) M5 = some (mkS (fun v => decide (v < sN S ∧ sHd S (sPl S v) = sHd S (xO S a)))) := r_members (R5.h w0 w2) (show sHd S (xO S a) < 24 by omega)
  obtain ⟨M9, e9, F9, H9, W9⟩ := rs_laysGroups (S := sWa (sLess S a) (upN (sAc S) 1 (sAc S 1 + 1))) (G := fun u => decide (sPl S u = xO S a)) (R5.a w0 w1) (x := mkS (fun v => decide (v < sN S ∧ sHd S (sPl S v) = sHd S (xO S a)))) (fun v hv => by
    rw [mkS_bt hv, decide_eq_true_eq]
    show _ ↔ v < sN S ∧ decide (sPl S v = xO S a) = true
    rw [decide_eq_true_eq]
    exact and_congr_right fun c => ⟨fun z => sHd_inj h.2.2.2.1 (h.2.p c) hpo z, fun z => by rw [z]⟩)
  have e9 : fX11_laysGroups (mkS (fun v => decide (v < sN S ∧ sHd S (sPl S v) = sHd S (xO S a)))) M5 = some (nI (xL S a).length, M9) := e9
  have H9 : HW M9 0 (xL S a) := H9
  have F9' : gFr Dct M5 M9 := gFr_mo F9 (fun c k z => by
    rcases z with z | z | ⟨z, t, ht, e⟩
    · exact Or.inl z
    · exact Or.inr (Or.inl z)
    · unfold Dct; omega)
  have h9 : ∀ t, t < sN S → M9.1 1 (158 + 9 * t + 1) = nI (xH S a t) := fun t ht => by
    rw [W9 t ht]
    by_cases c : sPl S t = xO S a
    · rw [if_pos (decide_eq_true c), xH_in c]; rfl
    · rw [if_neg (by rw [decide_eq_true_eq]; exact c), (R5.2.2.2.2 t ht).2.1]
      unfold xH; rw [if_neg c]; rfl
  have o9 : ∀ {k : Nat}, k < 158 → M9.1 1 k = M5.1 1 k := fun {k} z => (F9 1 k (by
    rintro (z | z | ⟨-, t, ht, e⟩) <;> omega)).1
  have m2 : M5.1 1 2 = nI (sG S) := R5.1.2.2.1
  have m7 : M5.1 1 12 = nI (sAc S 7) := R5.2.1 7 (by omega)
  rw [exN, if_neg (show ¬ ib true = 0 by decide), e7, p_bnd, e8, p_bnd, e9, p_bnd]
  by_cases h1 : (xL S a).length = 1
  · refine ⟨M9, ?_, gFr_tr F5 (gFr_mo F9' (fun c k z => by unfold Dct at z; unfold Dcu; omega)), RR_cut R5 hn hm F9' ?_ (fun k _ _ => cut_ac1 hin h1 k) ?_ (fun p hp => ?_) (fun t ht => ?_), hW⟩
    · rw [h1, if_pos rfl]
    · rw [o9 (by omega), m2, hgc, h1]; rfl
    · rw [o9 (by omega), m7, cut_ac1 hin h1]; rfl
    · rw [hgc, h1] at hp
      have e : sHd (sCut S a) p = sHd S p := by
        unfold sHd
        rw [sCut_n, sCut_pl, if_pos hin]
        exact fa_first_cg fun t ht => by rw [xP_one h.2 ha h1 ht]
      rw [e, o9 (by omega)]; exact R5.2.2.1 p hp
    · rw [hpc, sCut_hd h.2 ha hin ht]; exact h9 t ht
  have hm2 : 2 ≤ (xL S a).length := by omega
  rw [if_neg (show ¬ nI (xL S a).length = nI 1 by rw [p_eq (by omega) (by omega)]; exact h1)]
  have hA5 := R5.a w0 w1
  have hA9 : RA (M9.1 1) (sWa (sLess S a) (upN (sAc S) 1 (sAc S 1 + 1))) := ⟨by rw [o9 (by omega)]; exact hA5.1, by rw [o9 (by omega)]; exact hA5.2.1, hA5.2.2.1, hA5.2.2.2.1, fun i hi => by
    have hi' : i < sM S - 1 := hi
    rw [o9 (by omega), o9 (by omega)]; exact hA5.2.2.2.2 i hi⟩
  have hH9 : RH (M9.1 1) (sN S) (xH S a) := ⟨by rw [o9 (by omega)]; exact hA5.1, hn, fun t ht => ⟨h9 t ht, by have := (xH_pl h.2 ha ht).1; omega⟩⟩
  obtain ⟨M11, e11, F11, H11⟩ := rs_sortsHeads (S := sWa (sLess S a) (upN (sAc S) 1 (sAc S 1 + 1))) (hs := xL S a) hA9 hH9 H9 (by omega) (fun x hx => by have := (xL_mem.mp hx).1; omega) (by unfold xL; exact gHs_sorted) (fun _ z => z) (xSrc h.2 ha)
  have H11 : HW M11 0 (xS S a) := H11
  have o11 : M11.1 1 = M9.1 1 := gFr_c1 F11 (fun _ => by omega)
  have m11 : M11.1 1 2 = nI (sG S) := by rw [o11, o9 (by omega)]; exact m2
  obtain ⟨Mu, eu, Fu, Iu⟩ := ru_up (M := M11) hpo hm2 (by omega)
  obtain ⟨Ml, el, Fl, Il⟩ := ru_lay (M := Mu) (p := xO S a) hS.1 (by omega) (fun j x hj => by rw [(Fu 11 _ (by omega)).1]; exact H11 j x hj)
  have ml : Ml.1 1 2 = nI (sG S) := by rw [(Fl 1 2 (by omega)).1, (Fu 1 2 (by omega)).1]; exact m11
  have ml7 : (gI Ml 1 2 (nI (sG S + ((xL S a).length - 1)))).1 1 (5 + 7) = nI (sAc S 7) := by
    rw [p_gI_n (Or.inr (by omega)), (Fl 1 _ (by omega)).1, (Fu 1 _ (by omega)).1, o11, o9 (by omega)]; exact m7
  have ec := r_counts (x := (xL S a).length) (show 7 < 9 by omega) ml7
  have Fz : gFr Dct M5 (gI (gI Ml 1 2 (nI (sG S + ((xL S a).length - 1)))) 1 (5 + 7) (nI (sAc S 7 + (xL S a).length))) := gFr_trI (gFr_trI (gFr_tr F9' (gFr_tr (gFr_mo F11 (fun c k z => by unfold Dct; omega)) (gFr_tr (gFr_mo Fu (fun c k z => by unfold Dct; omega)) (gFr_mo Fl (fun c k z => by unfold Dct; omega))))) (by unfold Dct; omega)) (by unfold Dct; omega)
  refine ⟨_, ?_, gFr_tr F5 (gFr_mo Fz (fun c k z => by unfold Dct at z; unfold Dcu; omega)), RR_cut R5 hn hm Fz ?_ (fun k _ hk => ?_) ?_ (fun p hp => ?_) (fun t ht => ?_), hW⟩
  · rw [e11, p_bnd, show (2 : Int32) = nI 2 from rfl, p_rI (by omega) (by omega), p_bnd, m11, p_sub (show 1 ≤ sG S by omega), p_nm, p_bnd, eu, p_bnd, show (0 : Int32) = nI 0 from rfl, el, p_bnd, p_rI (by omega) (by omega), p_bnd, ml, p_sub hP, nI_add, p_wI (by omega) (by omega), p_bnd, show (7 : Int32) = nI 7 from rfl, ec, p_bnd]
  · rw [p_gI_n (Or.inr (by omega)), p_gI_s, hgc]
  · rw [cut_ac2 hin h1]; unfold upN; rw [if_neg hk]
  · rw [show (12 : Nat) = 5 + 7 from rfl, p_gI_s, cut_ac2 hin h1]; unfold upN; rw [if_pos rfl]
  · rw [hgc] at hp
    rw [p_gI_n (Or.inr (by omega)), p_gI_n (Or.inr (by omega))]
    rcases Nat.lt_or_ge p (xO S a) with q | q
    · rw [(Fl 1 _ (by omega)).1, (Fu 1 _ (by omega)).1, o11, o9 (by omega), sCut_or1 h.2 ha hin q]
      exact R5.2.2.1 p (show p < sG S by omega)
    · rcases Nat.lt_or_ge p (xO S a + (xL S a).length) with q2 | q2
      · have hy : (xS S a)[p - xO S a]? = some _ := List.getElem?_eq_getElem (by have := hS.1; omega)
        have e := sCut_or2 h.2 ha hin hy
        have e' := Il _ _ hy
        rw [show xO S a + (p - xO S a) = p by omega] at e e'
        rw [e, e']
      · rw [(Fl 1 _ (by omega)).1, Iu p q2 hp, o11, o9 (by omega), sCut_or3 h.2 ha hin q2 hp]
        exact R5.2.2.1 _ (show p - ((xL S a).length - 1) < sG S by omega)
  · rw [p_gI_n (Or.inr (by omega)), p_gI_n (Or.inr (by omega)), (Fl 1 _ (by omega)).1, (Fu 1 _ (by omega)).1, o11, hpc, sCut_hd h.2 ha hin ht]
    exact h9 t ht
end RC
