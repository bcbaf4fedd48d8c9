/-! TEXT: tokens; the reference's goesOn, the class's reader -/
section TD
/-- the end of spaces, of a word, of a number -/
def tSk (B : Nat → Nat) (L i : Nat) : Nat := i + fa_first (fun k => !decide (B (i + k) = 32)) (L - i)
def tL (B : Nat → Nat) (L i : Nat) : Bool := decide (i < L ∧ 97 ≤ B i ∧ B i ≤ 122)
def tD (B : Nat → Nat) (L i : Nat) : Bool := decide (i < L ∧ 48 ≤ B i ∧ B i ≤ 57)
def tWe (B : Nat → Nat) (L j : Nat) : Nat := j + fa_first (fun k => !tL B L (j + k)) (L - j)
def tNe (B : Nat → Nat) (L j : Nat) : Nat := j + fa_first (fun k => !tD B L (j + k)) (L - j)
def tVl (B : Nat → Nat) (j : Nat) : Nat → Nat
  | 0 => 0
  | k + 1 => 10 * tVl B j k + (B (j + k) - 48)
def tTk (B : Nat → Nat) (L j : Nat) : Nat := if j = L then 0 else if tL B L j = true then 1 else if tD B L j = true then 2 else if B j = 59 then 3 else 4
def tTe (B : Nat → Nat) (L j : Nat) : Nat := if j = L then j else if tL B L j = true then tWe B L j else if tD B L j = true then tNe B L j else j + 1
variable {B : Nat → Nat} {L i j k : Nat}
theorem tSk_b (h : i ≤ L) : i ≤ tSk B L i ∧ tSk B L i ≤ L := by
  have := fa_first_le (fun k => !decide (B (i + k) = 32)) (L - i)
  unfold tSk; omega
theorem tSk_sp (h : k < tSk B L i - i) : B (i + k) = 32 := by
  have := fa_first_no (fun k => !decide (B (i + k) = 32)) (L - i) k (by unfold tSk at h; omega)
  simpa using this
theorem tSk_e (h : i ≤ L) (hl : tSk B L i < L) : B (tSk B L i) ≠ 32 := by
  have := fa_first_yes (fun k => !decide (B (i + k) = 32)) (L - i) (by unfold tSk at hl; omega)
  have this : (!decide (B (tSk B L i) = 32)) = true := this
  simpa using this
theorem tSk_id (h : i ≤ L) : tSk B L (tSk B L i) = tSk B L i := by
  obtain ⟨h1, h2⟩ := tSk_b (B := B) h
  rcases Nat.lt_or_ge (tSk B L i) L with q | q
  · have e := tSk_e h q
    have z : fa_first (fun k => !decide (B (tSk B L i + k) = 32)) (L - tSk B L i) = 0 := ff_of (by omega) (by simp [e]) (fun j hj => absurd hj (Nat.not_lt_zero j))
    show tSk B L i + fa_first (fun k => !decide (B (tSk B L i + k) = 32)) (L - tSk B L i) = _
    rw [z]; rfl
  · have z : L - tSk B L i = 0 := by omega
    show tSk B L i + fa_first (fun k => !decide (B (tSk B L i + k) = 32)) (L - tSk B L i) = _
    rw [z]; rfl
theorem tWe_b (h : j ≤ L) : j ≤ tWe B L j ∧ tWe B L j ≤ L := by
  have := fa_first_le (fun k => !tL B L (j + k)) (L - j)
  unfold tWe; omega
theorem tWe_in (h : k < tWe B L j - j) : tL B L (j + k) = true := by
  have := fa_first_no (fun k => !tL B L (j + k)) (L - j) k (by unfold tWe at h; omega)
  simpa using this
theorem tWe_out (h : j ≤ L) : tL B L (tWe B L j) = false := by
  rcases Nat.lt_or_ge (tWe B L j) L with q | q
  · have := fa_first_yes (fun k => !tL B L (j + k)) (L - j) (by unfold tWe at q; omega)
    have this : (!tL B L (tWe B L j)) = true := this
    simpa using this
  · unfold tL; rw [decide_eq_false_iff_not]; omega
theorem tWe_gt (h : tL B L j = true) : j < tWe B L j := by
  have hl : j < L := (of_decide_eq_true h).1
  refine Classical.byContradiction fun q => ?_
  obtain ⟨h1, h2⟩ := tWe_b (B := B) (j := j) (L := L) (by omega)
  have := tWe_out (B := B) (j := j) (L := L) (by omega)
  rw [show tWe B L j = j by omega, h] at this
  cases this
theorem tWe_0 (h : tL B L j = false) (hj : j ≤ L) : tWe B L j = j := by
  obtain ⟨h1, h2⟩ := tWe_b (B := B) hj
  rcases Nat.lt_or_ge j (tWe B L j) with q | q
  · have := tWe_in (B := B) (L := L) (j := j) (k := 0) (by omega)
    rw [Nat.add_zero, h] at this; cases this
  · omega
theorem tNe_b (h : j ≤ L) : j ≤ tNe B L j ∧ tNe B L j ≤ L := by
  have := fa_first_le (fun k => !tD B L (j + k)) (L - j)
  unfold tNe; omega
theorem tNe_in (h : k < tNe B L j - j) : tD B L (j + k) = true := by
  have := fa_first_no (fun k => !tD B L (j + k)) (L - j) k (by unfold tNe at h; omega)
  simpa using this
theorem tNe_out (h : j ≤ L) : tD B L (tNe B L j) = false := by
  rcases Nat.lt_or_ge (tNe B L j) L with q | q
  · have := fa_first_yes (fun k => !tD B L (j + k)) (L - j) (by unfold tNe at q; omega)
    have this : (!tD B L (tNe B L j)) = true := this
    simpa using this
  · unfold tD; rw [decide_eq_false_iff_not]; omega
theorem tNe_gt (h : tD B L j = true) : j < tNe B L j := by
  have hl : j < L := (of_decide_eq_true h).1
  refine Classical.byContradiction fun q => ?_
  obtain ⟨h1, h2⟩ := tNe_b (B := B) (j := j) (L := L) (by omega)
  have := tNe_out (B := B) (j := j) (L := L) (by omega)
  rw [show tNe B L j = j by omega, h] at this
  cases this
theorem tNe_0 (h : tD B L j = false) (hj : j ≤ L) : tNe B L j = j := by
  obtain ⟨h1, h2⟩ := tNe_b (B := B) hj
  rcases Nat.lt_or_ge j (tNe B L j) with q | q
  · have := tNe_in (B := B) (L := L) (j := j) (k := 0) (by omega)
    rw [Nat.add_zero, h] at this; cases this
  · omega
theorem tD_L (h : tD B L j = true) : tL B L j = false := by
  have := of_decide_eq_true h
  unfold tL; rw [decide_eq_false_iff_not]; omega
theorem tVl_b (hd : ∀ k, k < 3 → tD B L (j + k) = true ∨ k < 3) : tVl B j 0 = 0 := rfl
theorem tVl_le (hk : ∀ m, m < k → B (j + m) ≤ 57) (h3 : k ≤ 3) : tVl B j k ≤ 999 := by
  have st : ∀ m, m < k → tVl B j (m + 1) ≤ 10 * tVl B j m + 9 := fun m hm => by
    have := hk m hm
    show 10 * tVl B j m + (B (j + m) - 48) ≤ _
    omega
  rcases (show k = 0 ∨ k = 1 ∨ k = 2 ∨ k = 3 by omega) with rfl | rfl | rfl | rfl
  · show 0 ≤ 999; omega
  · have a1 : tVl B j 1 ≤ 10 * tVl B j 0 + 9 := st 0 (by omega)
    have e : tVl B j 0 = 0 := rfl
    omega
  · have a1 : tVl B j 1 ≤ 10 * tVl B j 0 + 9 := st 0 (by omega)
    have a2 : tVl B j 2 ≤ 10 * tVl B j 1 + 9 := st 1 (by omega)
    have e : tVl B j 0 = 0 := rfl
    omega
  · have a1 : tVl B j 1 ≤ 10 * tVl B j 0 + 9 := st 0 (by omega)
    have a2 : tVl B j 2 ≤ 10 * tVl B j 1 + 9 := st 1 (by omega)
    have a3 : tVl B j 3 ≤ 10 * tVl B j 2 + 9 := st 2 (by omega)
    have e : tVl B j 0 = 0 := rfl
    omega
end TD
/-- both buffers hold the bytes -/
def TXc (M : gMem) (B : Nat → Nat) (L : Nat) : Prop := M.1 32 1 = nI L ∧ L ≤ 900 ∧ ∀ i, i < L → B i < 256 ∧ M.1 33 i = sg (B i)
def TXr (N : gMem) (B : Nat → Nat) (L : Nat) : Prop := N.1 0 21 = nI L ∧ L ≤ 900 ∧ ∀ i, i < L → B i < 256 ∧ N.1 12 i = nI (B i)
theorem TXc_of {M M' : gMem} {B : Nat → Nat} {L : Nat} (h : TXc M B L) (e1 : M'.1 32 1 = M.1 32 1) (e2 : M'.1 33 = M.1 33) : TXc M' B L := by unfold TXc; rw [e1, e2]; exact h
theorem TXr_of {M M' : gMem} {B : Nat → Nat} {L : Nat} (h : TXr M B L) (e1 : M'.1 0 21 = M.1 0 21) (e2 : M'.1 12 = M.1 12) : TXr M' B L := by unfold TXr; rw [e1, e2]; exact h
section TC
variable {M : gMem} {B : Nat → Nat} {L i j : Nat}
theorem c_skip (h : TXc M B L) (ha : M.1 32 2 = nI i) (hi : i ≤ L) : ∃ r, fX5_skipSpaces M = some r ∧ gFr (fun c k => c = 32 ∧ k = 2) M r ∧ r.1 32 2 = nI (tSk B L i) := by
  obtain ⟨h1, h2, h3⟩ := id h
  obtain ⟨b1, b2⟩ := tSk_b (B := B) hi
  obtain ⟨r, e, F, R⟩ : ∃ r, gLoop (fun z9 => fX5_skipSpaces_l0 z9) gFu M = some r ∧ gFr (fun c k => c = 32 ∧ k = 2) M r ∧ r.1 32 2 = nI (tSk B L i) := by
    refine gLoop_i (fun k M' => i + k ≤ tSk B L i ∧ gFr (fun c k => c = 32 ∧ k = 2) M M' ∧ M'.1 32 2 = nI (i + k)) _ (tSk B L i - i) ⟨b1, gFr_rf, ha⟩ (by show tSk B L i - i < 4096; omega) ?_
    rintro k M' hk ⟨hk2, hF, hA⟩
    have s1 : M'.1 32 1 = nI L := by rw [(hF 32 1 (by omega)).1]; exact h1
    rcases Nat.lt_or_ge (i + k) (tSk B L i) with q | q
    · obtain ⟨t1, t2⟩ := h3 (i + k) (by omega)
      have t3 : M'.1 33 (i + k) = nI 32 := by rw [(hF 33 _ (by omega)).1, t2, tSk_sp (B := B) (L := L) (i := i) (k := k) (by omega)]; rfl
      refine Or.inl ⟨gI M' 32 2 (nI (i + k + 1)), ?_, by omega, by omega, gFr_trI hF ⟨rfl, rfl⟩, p_gI_s _ _ _ _⟩
      simp (disch := omega) only [p_bnd, p_nm, p_gSEl, p_gSEr, p_l0, p_l1, p_l2, p_l3, p_l4, p_l5, p_l6, p_l7, p_l8, p_l9, p_l10, p_l14, p_l16, p_l20, p_l22, p_l24, p_l30, p_l31, p_l32, p_l38, p_l40, p_l41, p_l43, p_l48, p_l57, p_l59, p_l60, p_l61, p_l62, p_l63, p_l97, p_l98, p_l101, p_l122, p_l158, p_l201, p_l255, p_l256, p_l374, p_l880, p_l900, p_l1000, p_l2618, p_neg, nI_add, p_mul, p_sub, p_addm, p_addm0, p_subm, p_le, p_lt, p_eq, p_mO_eq, p_eq_mO, p_mO_lt, p_nlt_mO, p_mO_le, p_le_mO, p_rI, p_rL, p_wI, p_wL, p_wF, p_has10, p_has11, p_ib0, p_ib1, p_shl1, p_zv0, p_zv1, p_zvib, p_ibd, p_ibn, if_pos, if_neg, if_true, if_false, ne_eq, not_true, not_false_iff, Decidable.not_not, Nat.not_lt, Nat.not_le, Bool.true_eq_false, Bool.false_eq_true, eq_self, reduceIte, Nat.reduceAdd, Nat.reduceMul, Nat.reduceSub, Nat.reduceEqDiff, Nat.reduceLT, Nat.reduceLeDiff, reduceCtorEq, fX5_skipSpaces_l0, s1, hA, t3]
    · have e9 : i + k = tSk B L i := by omega
      refine Or.inr ⟨M', ?_, hF, by rw [hA, e9]⟩
      rcases Nat.lt_or_ge (i + k) L with q2 | q2
      · obtain ⟨t1, t2⟩ := h3 (i + k) q2
        have t3 : ¬ M'.1 33 (i + k) = nI 32 := by
          rw [(hF 33 _ (by omega)).1, t2, sg_eq t1 (by decide), e9]; exact tSk_e hi (by omega)
        simp (disch := omega) only [p_bnd, p_nm, p_gSEl, p_gSEr, p_l0, p_l1, p_l2, p_l3, p_l4, p_l5, p_l6, p_l7, p_l8, p_l9, p_l10, p_l14, p_l16, p_l20, p_l22, p_l24, p_l30, p_l31, p_l32, p_l38, p_l40, p_l41, p_l43, p_l48, p_l57, p_l59, p_l60, p_l61, p_l62, p_l63, p_l97, p_l98, p_l101, p_l122, p_l158, p_l201, p_l255, p_l256, p_l374, p_l880, p_l900, p_l1000, p_l2618, p_neg, nI_add, p_mul, p_sub, p_addm, p_addm0, p_subm, p_le, p_lt, p_eq, p_mO_eq, p_eq_mO, p_mO_lt, p_nlt_mO, p_mO_le, p_le_mO, p_rI, p_rL, p_wI, p_wL, p_wF, p_has10, p_has11, p_ib0, p_ib1, p_shl1, p_zv0, p_zv1, p_zvib, p_ibd, p_ibn, if_pos, if_neg, if_true, if_false, ne_eq, not_true, not_false_iff, Decidable.not_not, Nat.not_lt, Nat.not_le, Bool.true_eq_false, Bool.false_eq_true, eq_self, reduceIte, Nat.reduceAdd, Nat.reduceMul, Nat.reduceSub, Nat.reduceEqDiff, Nat.reduceLT, Nat.reduceLeDiff, reduceCtorEq, fX5_skipSpaces_l0, s1, hA, t3]
      · simp (disch := omega) only [p_bnd, p_nm, p_gSEl, p_gSEr, p_l0, p_l1, p_l2, p_l3, p_l4, p_l5, p_l6, p_l7, p_l8, p_l9, p_l10, p_l14, p_l16, p_l20, p_l22, p_l24, p_l30, p_l31, p_l32, p_l38, p_l40, p_l41, p_l43, p_l48, p_l57, p_l59, p_l60, p_l61, p_l62, p_l63, p_l97, p_l98, p_l101, p_l122, p_l158, p_l201, p_l255, p_l256, p_l374, p_l880, p_l900, p_l1000, p_l2618, p_neg, nI_add, p_mul, p_sub, p_addm, p_addm0, p_subm, p_le, p_lt, p_eq, p_mO_eq, p_eq_mO, p_mO_lt, p_nlt_mO, p_mO_le, p_le_mO, p_rI, p_rL, p_wI, p_wL, p_wF, p_has10, p_has11, p_ib0, p_ib1, p_shl1, p_zv0, p_zv1, p_zvib, p_ibd, p_ibn, if_pos, if_neg, if_true, if_false, ne_eq, not_true, not_false_iff, Decidable.not_not, Nat.not_lt, Nat.not_le, Bool.true_eq_false, Bool.false_eq_true, eq_self, reduceIte, Nat.reduceAdd, Nat.reduceMul, Nat.reduceSub, Nat.reduceEqDiff, Nat.reduceLT, Nat.reduceLeDiff, reduceCtorEq, fX5_skipSpaces_l0, s1, hA]
  refine ⟨r, ?_, F, R⟩
  unfold fX5_skipSpaces
  rw [e, p_bnd]
theorem c_isLetterAt (h : TXc M B L) (hj : j < 2000) : fX5_isLetterAt (nI j) M = some (ib (tL B L j)) := by
  obtain ⟨h1, h2, h3⟩ := id h
  rcases Nat.lt_or_ge j L with q | q
  · obtain ⟨t1, t2⟩ := h3 j q
    have l1 := sg_gt t1 (c := 97) (by decide)
    have l2 := sg_lt t1 (c := 122) (by decide)
    by_cases c : B j < 97 ∨ 128 ≤ B j
    · have e : tL B L j = false := decide_eq_false (by omega)
      have l3 : sg (B j) < nI 97 := by rw [l1]; exact c
      simp (disch := omega) only [p_bnd, p_nm, p_gSEl, p_gSEr, p_l0, p_l1, p_l2, p_l3, p_l4, p_l5, p_l6, p_l7, p_l8, p_l9, p_l10, p_l14, p_l16, p_l20, p_l22, p_l24, p_l30, p_l31, p_l32, p_l38, p_l40, p_l41, p_l43, p_l48, p_l57, p_l59, p_l60, p_l61, p_l62, p_l63, p_l97, p_l98, p_l101, p_l122, p_l158, p_l201, p_l255, p_l256, p_l374, p_l880, p_l900, p_l1000, p_l2618, p_neg, nI_add, p_mul, p_sub, p_addm, p_addm0, p_subm, p_le, p_lt, p_eq, p_mO_eq, p_eq_mO, p_mO_lt, p_nlt_mO, p_mO_le, p_le_mO, p_rI, p_rL, p_wI, p_wL, p_wF, p_has10, p_has11, p_ib0, p_ib1, p_shl1, p_zv0, p_zv1, p_zvib, p_ibd, p_ibn, if_pos, if_neg, if_true, if_false, ne_eq, not_true, not_false_iff, Decidable.not_not, Nat.not_lt, Nat.not_le, Bool.true_eq_false, Bool.false_eq_true, eq_self, reduceIte, Nat.reduceAdd, Nat.reduceMul, Nat.reduceSub, Nat.reduceEqDiff, Nat.reduceLT, Nat.reduceLeDiff, reduceCtorEq, fX5_isLetterAt, h1, t2, l3, e, ibF]
    · have l3 : ¬ sg (B j) < nI 97 := by rw [l1]; exact c
      by_cases d : 122 < B j
      · have e : tL B L j = false := decide_eq_false (by omega)
        have l4 : nI 122 < sg (B j) := by rw [l2]; omega
        simp (disch := omega) only [p_bnd, p_nm, p_gSEl, p_gSEr, p_l0, p_l1, p_l2, p_l3, p_l4, p_l5, p_l6, p_l7, p_l8, p_l9, p_l10, p_l14, p_l16, p_l20, p_l22, p_l24, p_l30, p_l31, p_l32, p_l38, p_l40, p_l41, p_l43, p_l48, p_l57, p_l59, p_l60, p_l61, p_l62, p_l63, p_l97, p_l98, p_l101, p_l122, p_l158, p_l201, p_l255, p_l256, p_l374, p_l880, p_l900, p_l1000, p_l2618, p_neg, nI_add, p_mul, p_sub, p_addm, p_addm0, p_subm, p_le, p_lt, p_eq, p_mO_eq, p_eq_mO, p_mO_lt, p_nlt_mO, p_mO_le, p_le_mO, p_rI, p_rL, p_wI, p_wL, p_wF, p_has10, p_has11, p_ib0, p_ib1, p_shl1, p_zv0, p_zv1, p_zvib, p_ibd, p_ibn, if_pos, if_neg, if_true, if_false, ne_eq, not_true, not_false_iff, Decidable.not_not, Nat.not_lt, Nat.not_le, Bool.true_eq_false, Bool.false_eq_true, eq_self, reduceIte, Nat.reduceAdd, Nat.reduceMul, Nat.reduceSub, Nat.reduceEqDiff, Nat.reduceLT, Nat.reduceLeDiff, reduceCtorEq, fX5_isLetterAt, h1, t2, l3, l4, e, ibF]
      · have e : tL B L j = true := decide_eq_true (by omega)
        have l4 : ¬ nI 122 < sg (B j) := by rw [l2]; omega
        simp (disch := omega) only [p_bnd, p_nm, p_gSEl, p_gSEr, p_l0, p_l1, p_l2, p_l3, p_l4, p_l5, p_l6, p_l7, p_l8, p_l9, p_l10, p_l14, p_l16, p_l20, p_l22, p_l24, p_l30, p_l31, p_l32, p_l38, p_l40, p_l41, p_l43, p_l48, p_l57, p_l59, p_l60, p_l61, p_l62, p_l63, p_l97, p_l98, p_l101, p_l122, p_l158, p_l201, p_l255, p_l256, p_l374, p_l880, p_l900, p_l1000, p_l2618, p_neg, nI_add, p_mul, p_sub, p_addm, p_addm0, p_subm, p_le, p_lt, p_eq, p_mO_eq, p_eq_mO, p_mO_lt, p_nlt_mO, p_mO_le, p_le_mO, p_rI, p_rL, p_wI, p_wL, p_wF, p_has10, p_has11, p_ib0, p_ib1, p_shl1, p_zv0, p_zv1, p_zvib, p_ibd, p_ibn, if_pos, if_neg, if_true, if_false, ne_eq, not_true, not_false_iff, Decidable.not_not, Nat.not_lt, Nat.not_le, Bool.true_eq_false, Bool.false_eq_true, eq_self, reduceIte, Nat.reduceAdd, Nat.reduceMul, Nat.reduceSub, Nat.reduceEqDiff, Nat.reduceLT, Nat.reduceLeDiff, reduceCtorEq, fX5_isLetterAt, h1, t2, l3, l4, e, ibT]
  · have e : tL B L j = false := decide_eq_false (by omega)
    simp (disch := omega) only [p_bnd, p_nm, p_gSEl, p_gSEr, p_l0, p_l1, p_l2, p_l3, p_l4, p_l5, p_l6, p_l7, p_l8, p_l9, p_l10, p_l14, p_l16, p_l20, p_l22, p_l24, p_l30, p_l31, p_l32, p_l38, p_l40, p_l41, p_l43, p_l48, p_l57, p_l59, p_l60, p_l61, p_l62, p_l63, p_l97, p_l98, p_l101, p_l122, p_l158, p_l201, p_l255, p_l256, p_l374, p_l880, p_l900, p_l1000, p_l2618, p_neg, nI_add, p_mul, p_sub, p_addm, p_addm0, p_subm, p_le, p_lt, p_eq, p_mO_eq, p_eq_mO, p_mO_lt, p_nlt_mO, p_mO_le, p_le_mO, p_rI, p_rL, p_wI, p_wL, p_wF, p_has10, p_has11, p_ib0, p_ib1, p_shl1, p_zv0, p_zv1, p_zvib, p_ibd, p_ibn, if_pos, if_neg, if_true, if_false, ne_eq, not_true, not_false_iff, Decidable.not_not, Nat.not_lt, Nat.not_le, Bool.true_eq_false, Bool.false_eq_true, eq_self, reduceIte, Nat.reduceAdd, Nat.reduceMul, Nat.reduceSub, Nat.reduceEqDiff, Nat.reduceLT, Nat.reduceLeDiff, reduceCtorEq, fX5_isLetterAt, h1, e, ibF]
theorem c_isDigitAt (h : TXc M B L) (hj : j < 2000) : fX5_isDigitAt (nI j) M = some (ib (tD B L j)) := by
  obtain ⟨h1, h2, h3⟩ := id h
  rcases Nat.lt_or_ge j L with q | q
  · obtain ⟨t1, t2⟩ := h3 j q
    have l1 := sg_gt t1 (c := 48) (by decide)
    have l2 := sg_lt t1 (c := 57) (by decide)
    by_cases c : B j < 48 ∨ 128 ≤ B j
    · have e : tD B L j = false := decide_eq_false (by omega)
      have l3 : sg (B j) < nI 48 := by rw [l1]; exact c
      simp (disch := omega) only [p_bnd, p_nm, p_gSEl, p_gSEr, p_l0, p_l1, p_l2, p_l3, p_l4, p_l5, p_l6, p_l7, p_l8, p_l9, p_l10, p_l14, p_l16, p_l20, p_l22, p_l24, p_l30, p_l31, p_l32, p_l38, p_l40, p_l41, p_l43, p_l48, p_l57, p_l59, p_l60, p_l61, p_l62, p_l63, p_l97, p_l98, p_l101, p_l122, p_l158, p_l201, p_l255, p_l256, p_l374, p_l880, p_l900, p_l1000, p_l2618, p_neg, nI_add, p_mul, p_sub, p_addm, p_addm0, p_subm, p_le, p_lt, p_eq, p_mO_eq, p_eq_mO, p_mO_lt, p_nlt_mO, p_mO_le, p_le_mO, p_rI, p_rL, p_wI, p_wL, p_wF, p_has10, p_has11, p_ib0, p_ib1, p_shl1, p_zv0, p_zv1, p_zvib, p_ibd, p_ibn, if_pos, if_neg, if_true, if_false, ne_eq, not_true, not_false_iff, Decidable.not_not, Nat.not_lt, Nat.not_le, Bool.true_eq_false, Bool.false_eq_true, eq_self, reduceIte, Nat.reduceAdd, Nat.reduceMul, Nat.reduceSub, Nat.reduceEqDiff, Nat.reduceLT, Nat.reduceLeDiff, reduceCtorEq, fX5_isDigitAt, h1, t2, l3, e, ibF]
    · have l3 : ¬ sg (B j) < nI 48 := by rw [l1]; exact c
      by_cases d : 57 < B j
      · have e : tD B L j = false := decide_eq_false (by omega)
        have l4 : nI 57 < sg (B j) := by rw [l2]; omega
        simp (disch := omega) only [p_bnd, p_nm, p_gSEl, p_gSEr, p_l0, p_l1, p_l2, p_l3, p_l4, p_l5, p_l6, p_l7, p_l8, p_l9, p_l10, p_l14, p_l16, p_l20, p_l22, p_l24, p_l30, p_l31, p_l32, p_l38, p_l40, p_l41, p_l43, p_l48, p_l57, p_l59, p_l60, p_l61, p_l62, p_l63, p_l97, p_l98, p_l101, p_l122, p_l158, p_l201, p_l255, p_l256, p_l374, p_l880, p_l900, p_l1000, p_l2618, p_neg, nI_add, p_mul, p_sub, p_addm, p_addm0, p_subm, p_le, p_lt, p_eq, p_mO_eq, p_eq_mO, p_mO_lt, p_nlt_mO, p_mO_le, p_le_mO, p_rI, p_rL, p_wI, p_wL, p_wF, p_has10, p_has11, p_ib0, p_ib1, p_shl1, p_zv0, p_zv1, p_zvib, p_ibd, p_ibn, if_pos, if_neg, if_true, if_false, ne_eq, not_true, not_false_iff, Decidable.not_not, Nat.not_lt, Nat.not_le, Bool.true_eq_false, Bool.false_eq_true, eq_self, reduceIte, Nat.reduceAdd, Nat.reduceMul, Nat.reduceSub, Nat.reduceEqDiff, Nat.reduceLT, Nat.reduceLeDiff, reduceCtorEq, fX5_isDigitAt, h1, t2, l3, l4, e, ibF]
      · have e : tD B L j = true := decide_eq_true (by omega)
        have l4 : ¬ nI 57 < sg (B j) := by rw [l2]; omega
        simp (disch := omega) only [p_bnd, p_nm, p_gSEl, p_gSEr, p_l0, p_l1, p_l2, p_l3, p_l4, p_l5, p_l6, p_l7, p_l8, p_l9, p_l10, p_l14, p_l16, p_l20, p_l22, p_l24, p_l30, p_l31, p_l32, p_l38, p_l40, p_l41, p_l43, p_l48, p_l57, p_l59, p_l60, p_l61, p_l62, p_l63, p_l97, p_l98, p_l101, p_l122, p_l158, p_l201, p_l255, p_l256, p_l374, p_l880, p_l900, p_l1000, p_l2618, p_neg, nI_add, p_mul, p_sub, p_addm, p_addm0, p_subm, p_le, p_lt, p_eq, p_mO_eq, p_eq_mO, p_mO_lt, p_nlt_mO, p_mO_le, p_le_mO, p_rI, p_rL, p_wI, p_wL, p_wF, p_has10, p_has11, p_ib0, p_ib1, p_shl1, p_zv0, p_zv1, p_zvib, p_ibd, p_ibn, if_pos, if_neg, if_true, if_false, ne_eq, not_true, not_false_iff, Decidable.not_not, Nat.not_lt, Nat.not_le, Bool.true_eq_false, Bool.false_eq_true, eq_self, reduceIte, Nat.reduceAdd, Nat.reduceMul, Nat.reduceSub, Nat.reduceEqDiff, Nat.reduceLT, Nat.reduceLeDiff, reduceCtorEq, fX5_isDigitAt, h1, t2, l3, l4, e, ibT]
  · have e : tD B L j = false := decide_eq_false (by omega)
    simp (disch := omega) only [p_bnd, p_nm, p_gSEl, p_gSEr, p_l0, p_l1, p_l2, p_l3, p_l4, p_l5, p_l6, p_l7, p_l8, p_l9, p_l10, p_l14, p_l16, p_l20, p_l22, p_l24, p_l30, p_l31, p_l32, p_l38, p_l40, p_l41, p_l43, p_l48, p_l57, p_l59, p_l60, p_l61, p_l62, p_l63, p_l97, p_l98, p_l101, p_l122, p_l158, p_l201, p_l255, p_l256, p_l374, p_l880, p_l900, p_l1000, p_l2618, p_neg, nI_add, p_mul, p_sub, p_addm, p_addm0, p_subm, p_le, p_lt, p_eq, p_mO_eq, p_eq_mO, p_mO_lt, p_nlt_mO, p_mO_le, p_le_mO, p_rI, p_rL, p_wI, p_wL, p_wF, p_has10, p_has11, p_ib0, p_ib1, p_shl1, p_zv0, p_zv1, p_zvib, p_ibd, p_ibn, if_pos, if_neg, if_true, if_false, ne_eq, not_true, not_false_iff, Decidable.not_not, Nat.not_lt, Nat.not_le, Bool.true_eq_false, Bool.false_eq_true, eq_self, reduceIte, Nat.reduceAdd, Nat.reduceMul, Nat.reduceSub, Nat.reduceEqDiff, Nat.reduceLT, Nat.reduceLeDiff, reduceCtorEq, fX5_isDigitAt, h1, e, ibF]
/-- an error of the class -/
def EC (M : gMem) (c p : Nat) : Prop := M.1 32 4 = nI c ∧ M.1 32 5 = nI p
theorem c_fail (M : gMem) (c p : Nat) : ∃ r, fX5_fail (nI c) (nI p) M = some (nI 0, r) ∧ gFr (fun c k => c = 32 ∧ (k = 4 ∨ k = 5)) M r ∧ EC r c p :=
  ⟨gI (gI M 32 4 (nI c)) 32 5 (nI p), rfl, gFr_trI (gFr_I (by omega)) (by omega), by rw [p_gI_n (Or.inr (by decide)), p_gI_s], p_gI_s _ _ _ _⟩
def Drd (c k : Nat) : Prop := c = 32 ∧ 2 ≤ k ∧ k ≤ 5
theorem TXc_fr {M' : gMem} (h : TXc M B L) (F : gFr Drd M M') : TXc M' B L := TXc_of h (F 32 1 (by unfold Drd; omega)).1 (gFr_c1 F (fun _ z => by unfold Drd at z; omega))
/-- words -/
theorem c_readWord (h : TXc M B L) (ha : M.1 32 2 = nI i) (hi : i ≤ L) : ∃ r, fX5_readWord M = some (ib (tL B L (tSk B L i)), r) ∧ gFr Drd M r ∧ r.1 32 3 = nI (tSk B L i) ∧ (tL B L (tSk B L i) = true → r.1 32 2 = nI (tWe B L (tSk B L i)) ∧ r.1 32 4 = M.1 32 4 ∧ r.1 32 5 = M.1 32 5) ∧ (tL B L (tSk B L i) = false → EC r 1 (tSk B L i)) := by
  obtain ⟨h1, h2, h3⟩ := id h
  obtain ⟨b1, b2⟩ := tSk_b (B := B) hi
  obtain ⟨M1, e1, F1, A1⟩ := c_skip h ha hi
  obtain ⟨c1, c2⟩ := tWe_b (B := B) b2
  have F2 : gFr Drd M (gI M1 32 3 (nI (tSk B L i))) := gFr_trI (gFr_mo F1 (fun c k z => by unfold Drd; omega)) (by unfold Drd; omega)
  have t2 : TXc (gI M1 32 3 (nI (tSk B L i))) B L := TXc_fr h F2
  obtain ⟨M3, e3, F3, A3⟩ : ∃ r, gLoop (fun z9 => fX5_readWord_l12 z9) gFu (gI M1 32 3 (nI (tSk B L i))) = some r ∧ gFr (fun c k => c = 32 ∧ k = 2) (gI M1 32 3 (nI (tSk B L i))) r ∧ r.1 32 2 = nI (tWe B L (tSk B L i)) := by
    refine gLoop_i (fun k M' => tSk B L i + k ≤ tWe B L (tSk B L i) ∧ gFr (fun c k => c = 32 ∧ k = 2) (gI M1 32 3 (nI (tSk B L i))) M' ∧ M'.1 32 2 = nI (tSk B L i + k)) _ (tWe B L (tSk B L i) - tSk B L i) ⟨c1, gFr_rf, by rw [p_gI_n (Or.inr (by decide))]; exact A1⟩ (by show tWe B L (tSk B L i) - tSk B L i < 4096; omega) ?_
    rintro k M' hk ⟨hk2, hF, hA⟩
    have t' : TXc M' B L := TXc_fr t2 (gFr_mo hF (fun c k z => by unfold Drd; omega))
    have il := c_isLetterAt t' (j := tSk B L i + k) (by omega)
    rcases Nat.lt_or_ge (tSk B L i + k) (tWe B L (tSk B L i)) with q | q
    · have hb := tWe_in (B := B) (L := L) (j := tSk B L i) (k := k) (by omega)
      refine Or.inl ⟨gI M' 32 2 (nI (tSk B L i + k + 1)), ?_, by omega, by omega, gFr_trI hF ⟨rfl, rfl⟩, p_gI_s _ _ _ _⟩
      have hy : tSk B L i + k < 900 := by omega
      generalize tSk B L i + k = y at hA il hb q hy
      simp (disch := omega) only [p_bnd, p_nm, p_gSEl, p_gSEr, p_l0, p_l1, p_l2, p_l3, p_l4, p_l5, p_l6, p_l7, p_l8, p_l9, p_l10, p_l14, p_l16, p_l20, p_l22, p_l24, p_l30, p_l31, p_l32, p_l38, p_l40, p_l41, p_l43, p_l48, p_l57, p_l59, p_l60, p_l61, p_l62, p_l63, p_l97, p_l98, p_l101, p_l122, p_l158, p_l201, p_l255, p_l256, p_l374, p_l880, p_l900, p_l1000, p_l2618, p_neg, nI_add, p_mul, p_sub, p_addm, p_addm0, p_subm, p_le, p_lt, p_eq, p_mO_eq, p_eq_mO, p_mO_lt, p_nlt_mO, p_mO_le, p_le_mO, p_rI, p_rL, p_wI, p_wL, p_wF, p_has10, p_has11, p_ib0, p_ib1, p_shl1, p_zv0, p_zv1, p_zvib, p_ibd, p_ibn, if_pos, if_neg, if_true, if_false, ne_eq, not_true, not_false_iff, Decidable.not_not, Nat.not_lt, Nat.not_le, Bool.true_eq_false, Bool.false_eq_true, eq_self, reduceIte, Nat.reduceAdd, Nat.reduceMul, Nat.reduceSub, Nat.reduceEqDiff, Nat.reduceLT, Nat.reduceLeDiff, reduceCtorEq, fX5_readWord_l12, hA, il, hb, ibT]
    · have e9 : tSk B L i + k = tWe B L (tSk B L i) := by omega
      refine Or.inr ⟨M', ?_, hF, by rw [hA, e9]⟩
      have hb := tWe_out (B := B) b2
      rw [← e9] at hb
      have hy : tSk B L i + k ≤ 900 := by omega
      generalize tSk B L i + k = y at hA il hb q hy
      by_cases c : 900 ≤ y
      · simp (disch := omega) only [p_bnd, p_nm, p_gSEl, p_gSEr, p_l0, p_l1, p_l2, p_l3, p_l4, p_l5, p_l6, p_l7, p_l8, p_l9, p_l10, p_l14, p_l16, p_l20, p_l22, p_l24, p_l30, p_l31, p_l32, p_l38, p_l40, p_l41, p_l43, p_l48, p_l57, p_l59, p_l60, p_l61, p_l62, p_l63, p_l97, p_l98, p_l101, p_l122, p_l158, p_l201, p_l255, p_l256, p_l374, p_l880, p_l900, p_l1000, p_l2618, p_neg, nI_add, p_mul, p_sub, p_addm, p_addm0, p_subm, p_le, p_lt, p_eq, p_mO_eq, p_eq_mO, p_mO_lt, p_nlt_mO, p_mO_le, p_le_mO, p_rI, p_rL, p_wI, p_wL, p_wF, p_has10, p_has11, p_ib0, p_ib1, p_shl1, p_zv0, p_zv1, p_zvib, p_ibd, p_ibn, if_pos, if_neg, if_true, if_false, ne_eq, not_true, not_false_iff, Decidable.not_not, Nat.not_lt, Nat.not_le, Bool.true_eq_false, Bool.false_eq_true, eq_self, reduceIte, Nat.reduceAdd, Nat.reduceMul, Nat.reduceSub, Nat.reduceEqDiff, Nat.reduceLT, Nat.reduceLeDiff, reduceCtorEq, fX5_readWord_l12, hA]
      · simp (disch := omega) only [p_bnd, p_nm, p_gSEl, p_gSEr, p_l0, p_l1, p_l2, p_l3, p_l4, p_l5, p_l6, p_l7, p_l8, p_l9, p_l10, p_l14, p_l16, p_l20, p_l22, p_l24, p_l30, p_l31, p_l32, p_l38, p_l40, p_l41, p_l43, p_l48, p_l57, p_l59, p_l60, p_l61, p_l62, p_l63, p_l97, p_l98, p_l101, p_l122, p_l158, p_l201, p_l255, p_l256, p_l374, p_l880, p_l900, p_l1000, p_l2618, p_neg, nI_add, p_mul, p_sub, p_addm, p_addm0, p_subm, p_le, p_lt, p_eq, p_mO_eq, p_eq_mO, p_mO_lt, p_nlt_mO, p_mO_le, p_le_mO, p_rI, p_rL, p_wI, p_wL, p_wF, p_has10, p_has11, p_ib0, p_ib1, p_shl1, p_zv0, p_zv1, p_zvib, p_ibd, p_ibn, if_pos, if_neg, if_true, if_false, ne_eq, not_true, not_false_iff, Decidable.not_not, Nat.not_lt, Nat.not_le, Bool.true_eq_false, Bool.false_eq_true, eq_self, reduceIte, Nat.reduceAdd, Nat.reduceMul, Nat.reduceSub, Nat.reduceEqDiff, Nat.reduceLT, Nat.reduceLeDiff, reduceCtorEq, fX5_readWord_l12, hA, il, hb, ibF]
  have F3' : gFr Drd M M3 := gFr_tr F2 (gFr_mo F3 (fun c k z => by unfold Drd; omega))
  have s3 : M3.1 32 3 = nI (tSk B L i) := by rw [(F3 32 3 (by omega)).1, p_gI_s]
  have k4 : M3.1 32 4 = M.1 32 4 := by rw [(F3 32 4 (by omega)).1, p_gI_n (Or.inr (by decide)), (F1 32 4 (by omega)).1]
  have k5 : M3.1 32 5 = M.1 32 5 := by rw [(F3 32 5 (by omega)).1, p_gI_n (Or.inr (by decide)), (F1 32 5 (by omega)).1]
  have hu : fX5_readWord M = fX5_readWord_b46 M3 := by
    unfold fX5_readWord
    rw [e1, p_bnd, A1, p_wF, p_bnd, e3, p_bnd]
  rw [hu]
  cases hb : tL B L (tSk B L i)
  · have e0 := tWe_0 hb b2
    rw [e0] at A3
    obtain ⟨M4, e4, F4, E4⟩ := c_fail M3 1 (tSk B L i)
    refine ⟨M4, ?_, gFr_tr F3' (gFr_mo F4 (fun c k z => by unfold Drd; omega)), by rw [(F4 32 3 (by omega)).1]; exact s3, fun z => (by cases z), fun _ => E4⟩
    unfold fX5_readWord_b46
    rw [A3, s3, if_neg (by rw [p_lt (by omega) (by omega)]; omega), show (1 : Int32) = nI 1 from rfl, e4, p_bnd, if_pos (show nI 0 = (0 : Int32) from rfl)]; rfl
  · have gt := tWe_gt hb
    refine ⟨M3, ?_, F3', s3, fun _ => ⟨A3, k4, k5⟩, fun z => (by cases z)⟩
    unfold fX5_readWord_b46 fX5_readWord_b69
    rw [A3, s3, if_pos (by rw [p_lt (by omega) (by omega)]; omega)]; rfl
/-- which word it is -/
def tWd (B : Nat → Nat) (j n t : Nat) : Bool := decide (n = gSl.getD t 0) && decide (fa_first (fun k => !decide (nI (B (j + k)) = sCh t (nI k))) (gSl.getD t 0) = gSl.getD t 0)
theorem gSl_le : ∀ t, gSl.getD t 0 ≤ 7 := fun t => by
  rcases Nat.lt_or_ge t 8 with q | q
  · exact (by decide : ∀ t, t < 8 → gSl.getD t 0 ≤ 7) t q
  · have : gSl.length = 8 := rfl
    rw [getD_out (by omega)]; omega
theorem c_wordIs {n : Nat} (h3 : M.1 32 3 = nI j) (h2 : M.1 32 2 = nI (j + n)) (hl : j + n ≤ 900) (hB : ∀ k, k < n → M.1 33 (j + k) = nI (B (j + k))) (t : Nat) : fX5_wordIs t M = some (ib (tWd B j n t)) := by
  have g7 := gSl_le t
  have sl : sLen t = nI (gSl.getD t 0) := rfl
  have e0 : nI (j + n) - nI j = nI n := by rw [p_sub (by omega)]; congr 1; omega
  unfold fX5_wordIs tWd
  rw [h2, h3, e0, sl]
  by_cases c : n = gSl.getD t 0
  · rw [if_pos (by rw [c]), decide_eq_true c, Bool.true_and]
    have sc : ∀ k, k < gSl.getD t 0 → sChr t (nI k) = some (sCh t (nI k)) := fun k hk => by
      unfold sChr; rw [if_pos (p_gIn hk (by omega))]
    have sl2 := sl
    generalize gSl.getD t 0 = m at c g7 sc sl2
    generalize hq : fa_first (fun k => !decide (nI (B (j + k)) = sCh t (nI k))) m = q
    have hle : q ≤ m := hq ▸ fa_first_le _ _
    have hstep : ∀ k, k < q → fX5_wordIs_l20 t M (nI k) = some (.inl (nI (k + 1))) := fun k hk => by
      have := fa_first_no (fun k => !decide (nI (B (j + k)) = sCh t (nI k))) m k (by rw [hq]; exact hk)
      have he : nI (B (j + k)) = sCh t (nI k) := by simpa using this
      have hb := hB k (by omega)
      rw [he] at hb
      unfold fX5_wordIs_l20
      rw [sl2, if_neg (by rw [p_le (by omega) (by omega)]; omega), h3, nI_add, p_rI (by omega) (by omega), p_bnd, hb, sc k (by omega), p_bnd, if_pos rfl, show (1 : Int32) = nI 1 from rfl, nI_add]
    rcases Nat.lt_or_ge q m with d | d
    · have hne : ¬ nI (B (j + q)) = sCh t (nI q) := by
        have := fa_first_yes (fun k => !decide (nI (B (j + k)) = sCh t (nI k))) m (by rw [hq]; exact d)
        rw [hq] at this; simpa using this
      have e := gLoop_f (body := fun z9 => fX5_wordIs_l20 t M z9) (fun k => nI k) (r := .inr (nI 0)) q gFu (by show q < 4096; omega) hstep (by
        show fX5_wordIs_l20 t M (nI q) = _
        unfold fX5_wordIs_l20
        rw [sl2, if_neg (by rw [p_le (by omega) (by omega)]; omega), h3, nI_add, p_rI (by omega) (by omega), p_bnd, hB q (by omega), sc q d, p_bnd, if_neg hne]; rfl)
      rw [show gLoop (fun z9 => fX5_wordIs_l20 t M z9) gFu (0 : Int32) = some (.inr (nI 0)) from e, decide_eq_false (by omega)]; rfl
    · have e := gLoop_f (body := fun z9 => fX5_wordIs_l20 t M z9) (fun k => nI k) (r := .inl ()) q gFu (by show q < 4096; omega) hstep (by
        show fX5_wordIs_l20 t M (nI q) = _
        unfold fX5_wordIs_l20
        rw [sl2, if_pos (by rw [p_le (by omega) (by omega)]; omega)])
      rw [show gLoop (fun z9 => fX5_wordIs_l20 t M z9) gFu (0 : Int32) = some (.inl ()) from e, decide_eq_true (by omega)]; rfl
  · rw [if_neg (by rw [p_eq (by omega) (by omega)]; exact c), decide_eq_false c, Bool.false_and]; rfl
end TC
