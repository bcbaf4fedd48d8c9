/-! ORDERS ANEW: the reference's sortsHeads -/
section SH
variable {M : gMem} {S : gS} {hd : Nat → Nat} {hs : List Nat}
theorem rs_shift {k a : Nat} (h : k + a < 24) (x1 x4 : Int32) : ∃ M', gLoop (fun z9 => fX11_sortsHeads_l36 x1 (nI k) x4 z9.1 z9.2) gFu (nI (k + a), M) = some M' ∧ gFr (fun c p => c = 11 ∧ k < p ∧ p ≤ k + a) M M' ∧ ∀ p, k < p → p ≤ k + a → M'.1 11 p = M.1 11 (p - 1) := by
  refine gLoop_i (fun j s => j ≤ a ∧ ∃ M', s = (nI (k + a - j), M') ∧ gFr (fun c p => c = 11 ∧ k < p ∧ p ≤ k + a) M M' ∧ (∀ p, k + a - j < p → p ≤ k + a → M'.1 11 p = M.1 11 (p - 1)) ∧ ∀ p, p ≤ k + a - j → M'.1 11 p = M.1 11 p) _ a ⟨Nat.zero_le _, M, rfl, gFr_rf, fun p h1 h2 => by omega, fun p _ => rfl⟩ (by show a < 4096; omega) ?_
  rintro j s hj ⟨hja, M', rfl, hF, I1, I2⟩
  rcases Nat.lt_or_ge j a with q | q
  · refine Or.inl ⟨(nI (k + a - (j + 1)), gI M' 11 (k + a - j) (M'.1 11 (k + a - j - 1))), ?_, q, by omega, _, rfl, gFr_trI hF ⟨rfl, by omega, by omega⟩, fun p h1 h2 => ?_, fun p h1 => ?_⟩
    · simp (disch := omega) only [p_bnd, p_nm, p_gSEl, p_gSEr, p_l0, p_l1, p_l2, p_l3, p_l4, p_l5, p_l6, p_l7, p_l8, p_l9, p_l10, p_l14, p_l16, p_l20, p_l22, p_l24, p_l30, p_l31, p_l32, p_l38, p_l40, p_l41, p_l43, p_l48, p_l57, p_l59, p_l60, p_l61, p_l62, p_l63, p_l97, p_l98, p_l101, p_l122, p_l158, p_l201, p_l255, p_l256, p_l374, p_l880, p_l900, p_l1000, p_l2618, p_neg, nI_add, p_mul, p_sub, p_addm, p_addm0, p_subm, p_le, p_lt, p_eq, p_mO_eq, p_eq_mO, p_mO_lt, p_nlt_mO, p_mO_le, p_le_mO, p_rI, p_rL, p_wI, p_wL, p_wF, p_has10, p_has11, p_ib0, p_ib1, p_shl1, p_zv0, p_zv1, p_zvib, p_ibd, p_ibn, if_pos, if_neg, if_true, if_false, ne_eq, not_true, not_false_iff, Decidable.not_not, Nat.not_lt, Nat.not_le, Bool.true_eq_false, Bool.false_eq_true, eq_self, reduceIte, Nat.reduceAdd, Nat.reduceMul, Nat.reduceSub, Nat.reduceEqDiff, Nat.reduceLT, Nat.reduceLeDiff, reduceCtorEq, fX11_sortsHeads_l36, Nat.sub_sub]
    · rw [p_gI]
      by_cases e : p = k + a - j
      · rw [if_pos ⟨rfl, e⟩, I2 _ (by omega), e]
      · rw [if_neg (fun z => e z.2)]; exact I1 p (by omega) h2
    · rw [p_gI_n (Or.inr (by omega))]; exact I2 p (by omega)
  · refine Or.inr ⟨M', ?_, hF, fun p h1 h2 => I1 p (by omega) h2⟩
    have : k + a - j = k := by omega
    rw [this]
    simp (disch := omega) only [p_bnd, p_nm, p_gSEl, p_gSEr, p_l0, p_l1, p_l2, p_l3, p_l4, p_l5, p_l6, p_l7, p_l8, p_l9, p_l10, p_l14, p_l16, p_l20, p_l22, p_l24, p_l30, p_l31, p_l32, p_l38, p_l40, p_l41, p_l43, p_l48, p_l57, p_l59, p_l60, p_l61, p_l62, p_l63, p_l97, p_l98, p_l101, p_l122, p_l158, p_l201, p_l255, p_l256, p_l374, p_l880, p_l900, p_l1000, p_l2618, p_neg, nI_add, p_mul, p_sub, p_addm, p_addm0, p_subm, p_le, p_lt, p_eq, p_mO_eq, p_eq_mO, p_mO_lt, p_nlt_mO, p_mO_le, p_le_mO, p_rI, p_rL, p_wI, p_wL, p_wF, p_has10, p_has11, p_ib0, p_ib1, p_shl1, p_zv0, p_zv1, p_zvib, p_ibd, p_ibn, if_pos, if_neg, if_true, if_false, ne_eq, not_true, not_false_iff, Decidable.not_not, Nat.not_lt, Nat.not_le, Bool.true_eq_false, Bool.false_eq_true, eq_self, reduceIte, Nat.reduceAdd, Nat.reduceMul, Nat.reduceSub, Nat.reduceEqDiff, Nat.reduceLT, Nat.reduceLeDiff, reduceCtorEq, fX11_sortsHeads_l36]
theorem HW_of {M' : gMem} {k : Nat} {l : List Nat} (h : HW M k l) (e : M'.1 11 = M.1 11) : HW M' k l := by unfold HW; rw [e]; exact h
theorem rs_sortsHeads (hA : RA (M.1 1) S) (hH : RH (M.1 1) (sN S) hd) {l : List Nat} (hW : HW M 0 l) (hl : l.length ≤ 24) (hb : ∀ x, x ∈ l → x < 24) (hsd : l.Pairwise (fun x y => x < y)) (hsub : ∀ x, x ∈ l → x ∈ hs) (hsrc : gSrc (ldH S hd) hs) :
    ∃ M', fX11_sortsHeads (nI l.length) M = some M' ∧ gFr (fun c k => c = 11 ∧ k < l.length) M M' ∧ HW M' 0 (selS (ldH S hd) l.length l) := by
  generalize hn : l.length = n at hl
  obtain ⟨r, e, F, R⟩ : ∃ r, gLoop (fun z9 => fX11_sortsHeads_l2 (nI n) z9.1 z9.2) gFu ((0 : Int32), M) = some r ∧ gFr (fun c k => c = 11 ∧ k < n) M r ∧ HW r 0 (selS (ldH S hd) n l) := by
    refine gLoop_i (fun k s => ∃ done rest M', s = (nI k, M') ∧ gFr (fun c k => c = 11 ∧ k < n) M M' ∧ done.length = k ∧ rest.length = n - k ∧ HW M' 0 done ∧ HW M' k rest ∧ rest.Pairwise (fun x y => x < y) ∧ (∀ x, x ∈ rest → x ∈ l) ∧ done ++ selS (ldH S hd) (n - k) rest = selS (ldH S hd) n l) _ n
      ⟨[], l, M, rfl, gFr_rf, rfl, by omega, fun j x z => by simp at z, hW, hsd, fun _ z => z, rfl⟩ (by show n < 4096; omega) ?_
    rintro k s hk ⟨done, rest, M', rfl, hF, d1, d2, d3, d4, d5, d6, d7⟩
    have hc : M'.1 1 = M.1 1 := gFr_c1 hF (fun k z => by omega)
    have hA' : RA (M'.1 1) S := by rw [hc]; exact hA
    have hH' : RH (M'.1 1) (sN S) hd := by rw [hc]; exact hH
    rcases Nat.lt_or_ge k n with q | q
    · have hne : rest ≠ [] := fun z => by rw [z] at d2; simp at d2; omega
      obtain ⟨a1, a2, a3⟩ := gAt_ok (ld := ldH S hd) hne (fun x hx => hsub x (d6 x hx)) hsrc
      have hkn : k + rest.length = n := by omega
      -- where
      have hat : gLoop (fun z9 => fX11_sortsHeads_l9 (nI n) (nI k) M' z9) gFu (nI k) = some (nI (k + gAt (ldH S hd) rest)) := by
        refine gLoop_f (body := fun z9 => fX11_sortsHeads_l9 (nI n) (nI k) M' z9) (fun j => nI (k + j)) (gAt (ldH S hd) rest) gFu (by show _ < 4096; omega) (fun j hj => ?_) ?_
        · have := rs_isBehind hA' hH' d4 (by omega) (fun x hx => hb x (d6 x hx)) d5 (i := j) (by omega)
          rw [hkn, a3 j hj] at this
          simp (disch := omega) only [p_bnd, p_nm, p_gSEl, p_gSEr, p_l0, p_l1, p_l2, p_l3, p_l4, p_l5, p_l6, p_l7, p_l8, p_l9, p_l10, p_l14, p_l16, p_l20, p_l22, p_l24, p_l30, p_l31, p_l32, p_l38, p_l40, p_l41, p_l43, p_l48, p_l57, p_l59, p_l60, p_l61, p_l62, p_l63, p_l97, p_l98, p_l101, p_l122, p_l158, p_l201, p_l255, p_l256, p_l374, p_l880, p_l900, p_l1000, p_l2618, p_neg, nI_add, p_mul, p_sub, p_addm, p_addm0, p_subm, p_le, p_lt, p_eq, p_mO_eq, p_eq_mO, p_mO_lt, p_nlt_mO, p_mO_le, p_le_mO, p_rI, p_rL, p_wI, p_wL, p_wF, p_has10, p_has11, p_ib0, p_ib1, p_shl1, p_zv0, p_zv1, p_zvib, p_ibd, p_ibn, if_pos, if_neg, if_true, if_false, ne_eq, not_true, not_false_iff, Decidable.not_not, Nat.not_lt, Nat.not_le, Bool.true_eq_false, Bool.false_eq_true, eq_self, reduceIte, Nat.reduceAdd, Nat.reduceMul, Nat.reduceSub, Nat.reduceEqDiff, Nat.reduceLT, Nat.reduceLeDiff, reduceCtorEq, fX11_sortsHeads_l9, this, Bool.not_false, Nat.add_assoc]
        · have := rs_isBehind hA' hH' d4 (by omega) (fun x hx => hb x (d6 x hx)) d5 (i := gAt (ldH S hd) rest) a1
          rw [hkn, a2] at this
          simp (disch := omega) only [p_bnd, p_nm, p_gSEl, p_gSEr, p_l0, p_l1, p_l2, p_l3, p_l4, p_l5, p_l6, p_l7, p_l8, p_l9, p_l10, p_l14, p_l16, p_l20, p_l22, p_l24, p_l30, p_l31, p_l32, p_l38, p_l40, p_l41, p_l43, p_l48, p_l57, p_l59, p_l60, p_l61, p_l62, p_l63, p_l97, p_l98, p_l101, p_l122, p_l158, p_l201, p_l255, p_l256, p_l374, p_l880, p_l900, p_l1000, p_l2618, p_neg, nI_add, p_mul, p_sub, p_addm, p_addm0, p_subm, p_le, p_lt, p_eq, p_mO_eq, p_eq_mO, p_mO_lt, p_nlt_mO, p_mO_le, p_le_mO, p_rI, p_rL, p_wI, p_wL, p_wF, p_has10, p_has11, p_ib0, p_ib1, p_shl1, p_zv0, p_zv1, p_zvib, p_ibd, p_ibn, if_pos, if_neg, if_true, if_false, ne_eq, not_true, not_false_iff, Decidable.not_not, Nat.not_lt, Nat.not_le, Bool.true_eq_false, Bool.false_eq_true, eq_self, reduceIte, Nat.reduceAdd, Nat.reduceMul, Nat.reduceSub, Nat.reduceEqDiff, Nat.reduceLT, Nat.reduceLeDiff, reduceCtorEq, fX11_sortsHeads_l9, this, Bool.not_true]
      generalize hat2 : gAt (ldH S hd) rest = at9 at a1 a2 a3 hat
      have hits := d4 at9 _ (getD_at a1)
      obtain ⟨M2, e2, F2, S2⟩ := rs_shift (M := M') (k := k) (a := at9) (by omega) (nI n) (nI (rest.getD at9 0))
      generalize hM3 : gI M2 11 k (nI (rest.getD at9 0)) = M3
      have hsel : selS (ldH S hd) (n - k) rest = rest.getD at9 0 :: selS (ldH S hd) (n - (k + 1)) (gRm rest at9) := by
        rw [show n - k = n - (k + 1) + 1 by omega]
        show rest.getD (gAt (ldH S hd) rest) 0 :: selS (ldH S hd) (n - (k + 1)) (gRm rest (gAt (ldH S hd) rest)) = _
        rw [hat2]
      have o3 : ∀ p, p ≠ k → M3.1 11 p = M2.1 11 p := fun p hp => by rw [← hM3, p_gI_n (Or.inr hp)]
      refine Or.inl ⟨(nI (k + 1), M3), ?_, q, done ++ [rest.getD at9 0], gRm rest at9, M3, rfl, ?_, ?_, ?_, ?_, ?_, gRm_sorted a1 d5, fun x hx => d6 x ((gRm_mem a1 d5 x).mp hx).1, ?_⟩
      · simp (disch := omega) only [p_bnd, p_nm, p_gSEl, p_gSEr, p_l0, p_l1, p_l2, p_l3, p_l4, p_l5, p_l6, p_l7, p_l8, p_l9, p_l10, p_l14, p_l16, p_l20, p_l22, p_l24, p_l30, p_l31, p_l32, p_l38, p_l40, p_l41, p_l43, p_l48, p_l57, p_l59, p_l60, p_l61, p_l62, p_l63, p_l97, p_l98, p_l101, p_l122, p_l158, p_l201, p_l255, p_l256, p_l374, p_l880, p_l900, p_l1000, p_l2618, p_neg, nI_add, p_mul, p_sub, p_addm, p_addm0, p_subm, p_le, p_lt, p_eq, p_mO_eq, p_eq_mO, p_mO_lt, p_nlt_mO, p_mO_le, p_le_mO, p_rI, p_rL, p_wI, p_wL, p_wF, p_has10, p_has11, p_ib0, p_ib1, p_shl1, p_zv0, p_zv1, p_zvib, p_ibd, p_ibn, if_pos, if_neg, if_true, if_false, ne_eq, not_true, not_false_iff, Decidable.not_not, Nat.not_lt, Nat.not_le, Bool.true_eq_false, Bool.false_eq_true, eq_self, reduceIte, Nat.reduceAdd, Nat.reduceMul, Nat.reduceSub, Nat.reduceEqDiff, Nat.reduceLT, Nat.reduceLeDiff, reduceCtorEq, fX11_sortsHeads_l2, hat, hits, e2, hM3]
      · rw [← hM3]
        exact gFr_trI (gFr_tr hF (gFr_mo F2 (fun c k z => by omega))) ⟨rfl, q⟩
      · rw [List.length_append, d1]; rfl
      · rw [gRm_len a1]; omega
      · intro j x hj
        rw [Nat.zero_add]
        rcases Nat.lt_or_ge j k with y | y
        · rw [List.getElem?_append_left (by omega)] at hj
          have hj2 := d3 j x hj
          rw [Nat.zero_add] at hj2
          rw [o3 j (by omega), (F2 11 j (by omega)).1]; exact hj2
        · rw [List.getElem?_append_right (by omega)] at hj
          have hj3 := (List.getElem?_eq_some_iff.mp hj).1
          have e5 : j = k := by
            simp at hj3; omega
          subst e5
          rw [← hM3, p_gI_s]
          rw [show j - done.length = 0 by omega] at hj
          have hj4 : rest.getD at9 0 = x := Option.some.inj hj
          rw [hj4]
      · intro j x hj
        rw [gRm_at a1] at hj
        rw [o3 _ (by omega)]
        by_cases c : j < at9
        · rw [if_pos c] at hj
          rw [S2 _ (by omega) (by omega), show k + 1 + j - 1 = k + j by omega]; exact d4 j x hj
        · rw [if_neg c] at hj
          rw [(F2 11 _ (by omega)).1, show k + 1 + j = k + (j + 1) by omega]; exact d4 (j + 1) x hj
      · rw [← d7, hsel, List.append_assoc]; rfl
    · have e9 : k = n := by omega
      refine Or.inr ⟨M', by simp (disch := omega) only [p_bnd, p_nm, p_gSEl, p_gSEr, p_l0, p_l1, p_l2, p_l3, p_l4, p_l5, p_l6, p_l7, p_l8, p_l9, p_l10, p_l14, p_l16, p_l20, p_l22, p_l24, p_l30, p_l31, p_l32, p_l38, p_l40, p_l41, p_l43, p_l48, p_l57, p_l59, p_l60, p_l61, p_l62, p_l63, p_l97, p_l98, p_l101, p_l122, p_l158, p_l201, p_l255, p_l256, p_l374, p_l880, p_l900, p_l1000, p_l2618, p_neg, nI_add, p_mul, p_sub, p_addm, p_addm0, p_subm, p_le, p_lt, p_eq, p_mO_eq, p_eq_mO, p_mO_lt, p_nlt_mO, p_mO_le, p_le_mO, p_rI, p_rL, p_wI, p_wL, p_wF, p_has10, p_has11, p_ib0, p_ib1, p_shl1, p_zv0, p_zv1, p_zvib, p_ibd, p_ibn, if_pos, if_neg, if_true, if_false, ne_eq, not_true, not_false_iff, Decidable.not_not, Nat.not_lt, Nat.not_le, Bool.true_eq_false, Bool.false_eq_true, eq_self, reduceIte, Nat.reduceAdd, Nat.reduceMul, Nat.reduceSub, Nat.reduceEqDiff, Nat.reduceLT, Nat.reduceLeDiff, reduceCtorEq, fX11_sortsHeads_l2], hF, ?_⟩
      rw [← d7, e9, Nat.sub_self]
      show HW M' 0 (done ++ [])
      rw [List.append_nil]; exact d3
  refine ⟨r, ?_, F, R⟩
  unfold fX11_sortsHeads
  rw [e, p_bnd]
end SH
