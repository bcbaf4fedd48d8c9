/-! THE REFERENCE reads: members, places, arrows, leads -/
def gSet (f : Nat → Bool) : Nat → Int32
  | 0 => nI 0
  | n + 1 => gSet f n ||| (if f n = true then sb n else nI 0)
theorem gSet_bt (f : Nat → Bool) : ∀ n, n ≤ 32 → ∀ v, bt (gSet f n) v = (decide (v < n) && f v)
  | 0, _, v => by rw [show gSet f 0 = nI 0 from rfl, p_bt0]; simp
  | n + 1, h, v => by
    show bt (gSet f n ||| (if f n = true then sb n else nI 0)) v = _
    rw [b_or, gSet_bt f n (by omega)]
    by_cases e : v = n
    · subst e
      by_cases hf : f v = true
      · rw [if_pos hf, p_sb (by omega)]; simp [hf]
      · rw [if_neg hf, p_bt0]; simp [hf]
    · have e1 : bt (if f n = true then sb n else nI 0) v = false := by
        by_cases hf : f n = true
        · rw [if_pos hf, p_sb (by omega)]; simp [e]
        · rw [if_neg hf, p_bt0]
      rw [e1, Bool.or_false]
      congr 1
      exact decide_eq_decide.mpr (by omega)
def mkS (f : Nat → Bool) : Int32 := gSet f 32
theorem mkS_bt {f : Nat → Bool} {v : Nat} (hv : v < 32) : bt (mkS f) v = f v := by
  unfold mkS; rw [gSet_bt f 32 (Nat.le_refl _)]; simp [hv]
theorem mkS_of {x : Int32} {f : Nat → Bool} (h : ∀ v, v < 32 → bt x v = f v) : x = mkS f := b_ext fun v hv => (h v hv).trans (mkS_bt hv).symm
theorem mkS_cg {f g : Nat → Bool} (h : ∀ v, v < 32 → f v = g v) : mkS f = mkS g := mkS_of fun v hv => (mkS_bt hv).trans (h v hv)
theorem gSet_mkS {f : Nat → Bool} {n : Nat} (h : n ≤ 32) : gSet f n = mkS (fun v => decide (v < n) && f v) := mkS_of fun v _ => gSet_bt f n h v
/-- numbers, names of groups, arrows of the row -/
def RH (w : Nat → Int32) (n : Nat) (hd : Nat → Nat) : Prop := w 0 = nI n ∧ n ≤ 24 ∧ ∀ t, t < n → w (158 + 9 * t + 1) = nI (hd t) ∧ hd t < 24
def RA (w : Nat → Int32) (S : gS) : Prop := w 0 = nI (sN S) ∧ w 1 = nI (sM S) ∧ sN S ≤ 24 ∧ sM S ≤ 60 ∧ ∀ i, i < sM S → w (38 + i) = nI (sFr S i) ∧ w (98 + i) = nI (sTo S i) ∧ sFr S i < sN S ∧ sTo S i < sN S
theorem RR.h {w : Nat → Int32} {S : gS} (h : RR w S) (hW0 : sW0 S) (hW2 : sW2 S) : RH w (sN S) (fun t => sHd S (sPl S t)) :=
  ⟨h.1.1, hW0.1, fun t ht => ⟨(h.2.2.2.2 t ht).2.1, Nat.lt_of_lt_of_le (sHd_ok hW2 (hW2.1 t ht)).1 hW0.1⟩⟩
theorem RR.a {w : Nat → Int32} {S : gS} (h : RR w S) (hW0 : sW0 S) (hW1 : sW1 S) : RA w S :=
  ⟨h.1.1, h.1.2.1, hW0.1, hW0.2.1, fun i hi => ⟨(h.2.2.2.1 i hi).1, (h.2.2.2.1 i hi).2, (hW1.1 i hi).1, (hW1.1 i hi).2.1⟩⟩
section RD
variable {M : gMem} {S : gS} {n : Nat} {hd : Nat → Nat}
theorem r_members (h : RH (M.1 1) n hd) {a : Nat} (ha : a < 24) : fX11_members (nI a) M = some (mkS (fun v => decide (v < n ∧ hd v = a))) := by
  obtain ⟨h0, hn, h1⟩ := h
  have e := gLoop_f (body := fun z9 => fX11_members_l4 (nI a) M z9.1 z9.2) (fun k => (gSet (fun t => decide (hd t = a)) k, nI k)) (r := gSet (fun t => decide (hd t = a)) n) n gFu (by show n < 4096; omega) (fun k hk => by
    obtain ⟨h2, h3⟩ := h1 k hk
    simp (disch := omega) only [p_bnd, p_nm, p_gSEl, p_gSEr, p_l0, p_l1, p_l2, p_l3, p_l4, p_l5, p_l6, p_l7, p_l8, p_l9, p_l10, p_l14, p_l16, p_l20, p_l22, p_l24, p_l30, p_l31, p_l32, p_l38, p_l40, p_l41, p_l43, p_l48, p_l57, p_l59, p_l60, p_l61, p_l62, p_l63, p_l97, p_l98, p_l101, p_l122, p_l158, p_l201, p_l255, p_l256, p_l374, p_l880, p_l900, p_l1000, p_l2618, p_neg, nI_add, p_mul, p_sub, p_addm, p_addm0, p_subm, p_le, p_lt, p_eq, p_mO_eq, p_eq_mO, p_mO_lt, p_nlt_mO, p_mO_le, p_le_mO, p_rI, p_rL, p_wI, p_wL, p_wF, p_has10, p_has11, p_ib0, p_ib1, p_shl1, p_zv0, p_zv1, p_zvib, p_ibd, p_ibn, if_pos, if_neg, if_true, if_false, ne_eq, not_true, not_false_iff, Decidable.not_not, Nat.not_lt, Nat.not_le, Bool.true_eq_false, Bool.false_eq_true, eq_self, reduceIte, Nat.reduceAdd, Nat.reduceMul, Nat.reduceSub, Nat.reduceEqDiff, Nat.reduceLT, Nat.reduceLeDiff, reduceCtorEq, fX11_members_l4, fX11_of, h0, h2, gSet, decide_eq_true_eq]) (by simp (disch := omega) only [p_bnd, p_nm, p_gSEl, p_gSEr, p_l0, p_l1, p_l2, p_l3, p_l4, p_l5, p_l6, p_l7, p_l8, p_l9, p_l10, p_l14, p_l16, p_l20, p_l22, p_l24, p_l30, p_l31, p_l32, p_l38, p_l40, p_l41, p_l43, p_l48, p_l57, p_l59, p_l60, p_l61, p_l62, p_l63, p_l97, p_l98, p_l101, p_l122, p_l158, p_l201, p_l255, p_l256, p_l374, p_l880, p_l900, p_l1000, p_l2618, p_neg, nI_add, p_mul, p_sub, p_addm, p_addm0, p_subm, p_le, p_lt, p_eq, p_mO_eq, p_eq_mO, p_mO_lt, p_nlt_mO, p_mO_le, p_le_mO, p_rI, p_rL, p_wI, p_wL, p_wF, p_has10, p_has11, p_ib0, p_ib1, p_shl1, p_zv0, p_zv1, p_zvib, p_ibd, p_ibn, if_pos, if_neg, if_true, if_false, ne_eq, not_true, not_false_iff, Decidable.not_not, Nat.not_lt, Nat.not_le, Bool.true_eq_false, Bool.false_eq_true, eq_self, reduceIte, Nat.reduceAdd, Nat.reduceMul, Nat.reduceSub, Nat.reduceEqDiff, Nat.reduceLT, Nat.reduceLeDiff, reduceCtorEq, fX11_members_l4, h0])
  show (gLoop (fun z9 => fX11_members_l4 (nI a) M z9.1 z9.2) gFu ((fun k => (gSet (fun t => decide (hd t = a)) k, nI k)) 0)).bind _ = _
  rw [e, p_bnd, gSet_mkS (by omega)]
  congr 1
  exact mkS_cg fun v _ => by simp
theorem r_leads (h : RA (M.1 1) S) (x y : Int32) : fX11_leads x y M = some (ib (decide (fa_first (fun i => bt x (sFr S i) && bt y (sTo S i)) (sM S) < sM S))) := by
  obtain ⟨h0, h1, hn, hm, h2⟩ := h
  generalize hp : fa_first (fun i => bt x (sFr S i) && bt y (sTo S i)) (sM S) = p
  have hle : p ≤ sM S := hp ▸ fa_first_le _ _
  have hno : ∀ k, k < p → (bt x (sFr S k) && bt y (sTo S k)) = false := fun k hk => fa_first_no (fun i => bt x (sFr S i) && bt y (sTo S i)) (sM S) k (by rw [hp]; exact hk)
  have hstep : ∀ k, k < p → fX11_leads_l2 x y M (nI k) = some (.inl (nI (k + 1))) := by
    intro k hk
    obtain ⟨a1, a2, a3, a4⟩ := h2 k (by omega)
    have hb := hno k hk
    cases hb1 : bt x (sFr S k)
    · simp (disch := omega) only [p_bnd, p_nm, p_gSEl, p_gSEr, p_l0, p_l1, p_l2, p_l3, p_l4, p_l5, p_l6, p_l7, p_l8, p_l9, p_l10, p_l14, p_l16, p_l20, p_l22, p_l24, p_l30, p_l31, p_l32, p_l38, p_l40, p_l41, p_l43, p_l48, p_l57, p_l59, p_l60, p_l61, p_l62, p_l63, p_l97, p_l98, p_l101, p_l122, p_l158, p_l201, p_l255, p_l256, p_l374, p_l880, p_l900, p_l1000, p_l2618, p_neg, nI_add, p_mul, p_sub, p_addm, p_addm0, p_subm, p_le, p_lt, p_eq, p_mO_eq, p_eq_mO, p_mO_lt, p_nlt_mO, p_mO_le, p_le_mO, p_rI, p_rL, p_wI, p_wL, p_wF, p_has10, p_has11, p_ib0, p_ib1, p_shl1, p_zv0, p_zv1, p_zvib, p_ibd, p_ibn, if_pos, if_neg, if_true, if_false, ne_eq, not_true, not_false_iff, Decidable.not_not, Nat.not_lt, Nat.not_le, Bool.true_eq_false, Bool.false_eq_true, eq_self, reduceIte, Nat.reduceAdd, Nat.reduceMul, Nat.reduceSub, Nat.reduceEqDiff, Nat.reduceLT, Nat.reduceLeDiff, reduceCtorEq, fX11_leads_l2, fX11_leads_b46, h1, a1, hb1]
    · rw [hb1, Bool.true_and] at hb
      simp (disch := omega) only [p_bnd, p_nm, p_gSEl, p_gSEr, p_l0, p_l1, p_l2, p_l3, p_l4, p_l5, p_l6, p_l7, p_l8, p_l9, p_l10, p_l14, p_l16, p_l20, p_l22, p_l24, p_l30, p_l31, p_l32, p_l38, p_l40, p_l41, p_l43, p_l48, p_l57, p_l59, p_l60, p_l61, p_l62, p_l63, p_l97, p_l98, p_l101, p_l122, p_l158, p_l201, p_l255, p_l256, p_l374, p_l880, p_l900, p_l1000, p_l2618, p_neg, nI_add, p_mul, p_sub, p_addm, p_addm0, p_subm, p_le, p_lt, p_eq, p_mO_eq, p_eq_mO, p_mO_lt, p_nlt_mO, p_mO_le, p_le_mO, p_rI, p_rL, p_wI, p_wL, p_wF, p_has10, p_has11, p_ib0, p_ib1, p_shl1, p_zv0, p_zv1, p_zvib, p_ibd, p_ibn, if_pos, if_neg, if_true, if_false, ne_eq, not_true, not_false_iff, Decidable.not_not, Nat.not_lt, Nat.not_le, Bool.true_eq_false, Bool.false_eq_true, eq_self, reduceIte, Nat.reduceAdd, Nat.reduceMul, Nat.reduceSub, Nat.reduceEqDiff, Nat.reduceLT, Nat.reduceLeDiff, reduceCtorEq, fX11_leads_l2, fX11_leads_b46, h1, a1, a2, hb1, hb]
  rcases Nat.lt_or_ge p (sM S) with q | q
  · have hy := fa_first_yes (fun i => bt x (sFr S i) && bt y (sTo S i)) (sM S) (by rw [hp]; exact q)
    rw [hp, Bool.and_eq_true] at hy
    obtain ⟨a1, a2, a3, a4⟩ := h2 p q
    have e := gLoop_f (body := fun z9 => fX11_leads_l2 x y M z9) (fun k => nI k) (r := .inr (nI 1)) p gFu (by show p < 4096; omega) hstep (by simp (disch := omega) only [p_bnd, p_nm, p_gSEl, p_gSEr, p_l0, p_l1, p_l2, p_l3, p_l4, p_l5, p_l6, p_l7, p_l8, p_l9, p_l10, p_l14, p_l16, p_l20, p_l22, p_l24, p_l30, p_l31, p_l32, p_l38, p_l40, p_l41, p_l43, p_l48, p_l57, p_l59, p_l60, p_l61, p_l62, p_l63, p_l97, p_l98, p_l101, p_l122, p_l158, p_l201, p_l255, p_l256, p_l374, p_l880, p_l900, p_l1000, p_l2618, p_neg, nI_add, p_mul, p_sub, p_addm, p_addm0, p_subm, p_le, p_lt, p_eq, p_mO_eq, p_eq_mO, p_mO_lt, p_nlt_mO, p_mO_le, p_le_mO, p_rI, p_rL, p_wI, p_wL, p_wF, p_has10, p_has11, p_ib0, p_ib1, p_shl1, p_zv0, p_zv1, p_zvib, p_ibd, p_ibn, if_pos, if_neg, if_true, if_false, ne_eq, not_true, not_false_iff, Decidable.not_not, Nat.not_lt, Nat.not_le, Bool.true_eq_false, Bool.false_eq_true, eq_self, reduceIte, Nat.reduceAdd, Nat.reduceMul, Nat.reduceSub, Nat.reduceEqDiff, Nat.reduceLT, Nat.reduceLeDiff, reduceCtorEq, fX11_leads_l2, h1, a1, a2, hy.1, hy.2])
    show (gLoop (fun z9 => fX11_leads_l2 x y M z9) gFu ((fun k => nI k) 0)).bind _ = _
    rw [e, decide_eq_true q]; rfl
  · have ep : p = sM S := by omega
    have e := gLoop_f (body := fun z9 => fX11_leads_l2 x y M z9) (fun k => nI k) (r := .inl ()) p gFu (by show p < 4096; omega) hstep (by simp (disch := omega) only [p_bnd, p_nm, p_gSEl, p_gSEr, p_l0, p_l1, p_l2, p_l3, p_l4, p_l5, p_l6, p_l7, p_l8, p_l9, p_l10, p_l14, p_l16, p_l20, p_l22, p_l24, p_l30, p_l31, p_l32, p_l38, p_l40, p_l41, p_l43, p_l48, p_l57, p_l59, p_l60, p_l61, p_l62, p_l63, p_l97, p_l98, p_l101, p_l122, p_l158, p_l201, p_l255, p_l256, p_l374, p_l880, p_l900, p_l1000, p_l2618, p_neg, nI_add, p_mul, p_sub, p_addm, p_addm0, p_subm, p_le, p_lt, p_eq, p_mO_eq, p_eq_mO, p_mO_lt, p_nlt_mO, p_mO_le, p_le_mO, p_rI, p_rL, p_wI, p_wL, p_wF, p_has10, p_has11, p_ib0, p_ib1, p_shl1, p_zv0, p_zv1, p_zvib, p_ibd, p_ibn, if_pos, if_neg, if_true, if_false, ne_eq, not_true, not_false_iff, Decidable.not_not, Nat.not_lt, Nat.not_le, Bool.true_eq_false, Bool.false_eq_true, eq_self, reduceIte, Nat.reduceAdd, Nat.reduceMul, Nat.reduceSub, Nat.reduceEqDiff, Nat.reduceLT, Nat.reduceLeDiff, reduceCtorEq, fX11_leads_l2, h1])
    show (gLoop (fun z9 => fX11_leads_l2 x y M z9) gFu ((fun k => nI k) 0)).bind _ = _
    rw [e, decide_eq_false (by omega)]; rfl
end RD
