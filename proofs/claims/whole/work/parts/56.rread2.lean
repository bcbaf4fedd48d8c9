/-! THE REFERENCE reads, of a row that holds the state -/
section RD
variable {M : gMem} {S : gS}
/-- what the reference's rows stand on: the row holds the state, the state is whole -/
def RS (M : gMem) (S : gS) : Prop := RR (M.1 1) S ∧ sW S
theorem RS.h (h : RS M S) : RH (M.1 1) (sN S) (fun t => sHd S (sPl S t)) := h.1.h h.2.1 h.2.2.2.1
theorem RS.a (h : RS M S) : RA (M.1 1) S := h.1.a h.2.1 h.2.2.1
theorem RS_of {M' : gMem} (h : RS M S) (e : M'.1 1 = M.1 1) : RS M' S := by unfold RS; rw [e]; exact h
theorem sHd_lt (h : sW S) {t : Nat} (ht : t < sN S) : sHd S (sPl S t) < sN S := (sHd_ok h.2.2.1 (h.p ht)).1
theorem sHd_eq (h : sW S) {t u : Nat} (ht : t < sN S) (hu : u < sN S) : (sHd S (sPl S t) = sHd S (sPl S u)) = (sPl S t = sPl S u) :=
  propext ⟨fun e => sHd_inj h.2.2.1 (h.p ht) (h.p hu) e, fun e => by rw [e]⟩
def sMb (S : gS) (p : Nat) : Int32 := mkS (fun v => decide (v < sN S ∧ sPl S v = p))
theorem sMb_bt {p v : Nat} (hv : v < 32) : bt (sMb S p) v = decide (v < sN S ∧ sPl S v = p) := mkS_bt hv
theorem rs_members (h : RS M S) {p : Nat} (hp : p < sG S) : fX11_members (nI (sHd S p)) M = some (sMb S p) := by
  have hn := h.2.1.1
  rw [r_members h.h (Nat.lt_of_lt_of_le (sHd_ok h.2.2.2.1 hp).1 hn)]
  congr 1
  refine mkS_cg fun v _ => decide_eq_decide.mpr ⟨fun ⟨a, b⟩ => ⟨a, sHd_inj h.2.2.2.1 (h.2.p a) hp b⟩, fun ⟨a, b⟩ => ⟨a, by rw [b]⟩⟩
theorem rs_or (h : RS M S) {p : Nat} (hp : p < sG S) : M.1 1 (14 + p) = nI (sHd S p) := h.1.2.2.1 p hp
theorem rs_membersAt (h : RS M S) {p : Nat} (hp : p < sG S) : fX11_membersAt (nI p) M = some (sMb S p) := by
  have h1 := h.2.1.1
  have h2 := h.2.1.2.2.1
  simp (disch := omega) only [p_bnd, p_nm, p_gSEl, p_gSEr, p_l0, p_l1, p_l2, p_l3, p_l4, p_l5, p_l6, p_l7, p_l8, p_l9, p_l10, p_l14, p_l16, p_l20, p_l22, p_l24, p_l30, p_l31, p_l32, p_l38, p_l40, p_l41, p_l43, p_l48, p_l57, p_l59, p_l60, p_l61, p_l62, p_l63, p_l97, p_l98, p_l101, p_l122, p_l158, p_l201, p_l255, p_l256, p_l374, p_l880, p_l900, p_l1000, p_l2618, p_neg, nI_add, p_mul, p_sub, p_addm, p_addm0, p_subm, p_le, p_lt, p_eq, p_mO_eq, p_eq_mO, p_mO_lt, p_nlt_mO, p_mO_le, p_le_mO, p_rI, p_rL, p_wI, p_wL, p_wF, p_has10, p_has11, p_ib0, p_ib1, p_shl1, p_zv0, p_zv1, p_zvib, p_ibd, p_ibn, if_pos, if_neg, if_true, if_false, ne_eq, not_true, not_false_iff, Decidable.not_not, Nat.not_lt, Nat.not_le, Bool.true_eq_false, Bool.false_eq_true, eq_self, reduceIte, Nat.reduceAdd, Nat.reduceMul, Nat.reduceSub, Nat.reduceEqDiff, Nat.reduceLT, Nat.reduceLeDiff, reduceCtorEq, fX11_membersAt, rs_or h hp, rs_members h hp]
theorem rs_hrs (h : RS M S) {t : Nat} (ht : t < sN S) : fX11_of (nI t) (nI 0) M = some (nI (sHr S t)) := by
  have h1 := h.2.1.1
  simp (disch := omega) only [p_bnd, p_nm, p_gSEl, p_gSEr, p_l0, p_l1, p_l2, p_l3, p_l4, p_l5, p_l6, p_l7, p_l8, p_l9, p_l10, p_l14, p_l16, p_l20, p_l22, p_l24, p_l30, p_l31, p_l32, p_l38, p_l40, p_l41, p_l43, p_l48, p_l57, p_l59, p_l60, p_l61, p_l62, p_l63, p_l97, p_l98, p_l101, p_l122, p_l158, p_l201, p_l255, p_l256, p_l374, p_l880, p_l900, p_l1000, p_l2618, p_neg, nI_add, p_mul, p_sub, p_addm, p_addm0, p_subm, p_le, p_lt, p_eq, p_mO_eq, p_eq_mO, p_mO_lt, p_nlt_mO, p_mO_le, p_le_mO, p_rI, p_rL, p_wI, p_wL, p_wF, p_has10, p_has11, p_ib0, p_ib1, p_shl1, p_zv0, p_zv1, p_zvib, p_ibd, p_ibn, if_pos, if_neg, if_true, if_false, ne_eq, not_true, not_false_iff, Decidable.not_not, Nat.not_lt, Nat.not_le, Bool.true_eq_false, Bool.false_eq_true, eq_self, reduceIte, Nat.reduceAdd, Nat.reduceMul, Nat.reduceSub, Nat.reduceEqDiff, Nat.reduceLT, Nat.reduceLeDiff, reduceCtorEq, fX11_of, Nat.add_zero, (h.1.2.2.2.2 t ht).1]
theorem rs_hd (h : RS M S) {t : Nat} (ht : t < sN S) : fX11_of (nI t) (nI 1) M = some (nI (sHd S (sPl S t))) := by
  have h1 := h.2.1.1
  simp (disch := omega) only [p_bnd, p_nm, p_gSEl, p_gSEr, p_l0, p_l1, p_l2, p_l3, p_l4, p_l5, p_l6, p_l7, p_l8, p_l9, p_l10, p_l14, p_l16, p_l20, p_l22, p_l24, p_l30, p_l31, p_l32, p_l38, p_l40, p_l41, p_l43, p_l48, p_l57, p_l59, p_l60, p_l61, p_l62, p_l63, p_l97, p_l98, p_l101, p_l122, p_l158, p_l201, p_l255, p_l256, p_l374, p_l880, p_l900, p_l1000, p_l2618, p_neg, nI_add, p_mul, p_sub, p_addm, p_addm0, p_subm, p_le, p_lt, p_eq, p_mO_eq, p_eq_mO, p_mO_lt, p_nlt_mO, p_mO_le, p_le_mO, p_rI, p_rL, p_wI, p_wL, p_wF, p_has10, p_has11, p_ib0, p_ib1, p_shl1, p_zv0, p_zv1, p_zvib, p_ibd, p_ibn, if_pos, if_neg, if_true, if_false, ne_eq, not_true, not_false_iff, Decidable.not_not, Nat.not_lt, Nat.not_le, Bool.true_eq_false, Bool.false_eq_true, eq_self, reduceIte, Nat.reduceAdd, Nat.reduceMul, Nat.reduceSub, Nat.reduceEqDiff, Nat.reduceLT, Nat.reduceLeDiff, reduceCtorEq, fX11_of, (h.1.2.2.2.2 t ht).2.1]
theorem rs_len (h : RS M S) {t : Nat} (ht : t < sN S) : fX11_of (nI t) (nI 2) M = some (nI (sNm S t).length) := by
  have h1 := h.2.1.1
  simp (disch := omega) only [p_bnd, p_nm, p_gSEl, p_gSEr, p_l0, p_l1, p_l2, p_l3, p_l4, p_l5, p_l6, p_l7, p_l8, p_l9, p_l10, p_l14, p_l16, p_l20, p_l22, p_l24, p_l30, p_l31, p_l32, p_l38, p_l40, p_l41, p_l43, p_l48, p_l57, p_l59, p_l60, p_l61, p_l62, p_l63, p_l97, p_l98, p_l101, p_l122, p_l158, p_l201, p_l255, p_l256, p_l374, p_l880, p_l900, p_l1000, p_l2618, p_neg, nI_add, p_mul, p_sub, p_addm, p_addm0, p_subm, p_le, p_lt, p_eq, p_mO_eq, p_eq_mO, p_mO_lt, p_nlt_mO, p_mO_le, p_le_mO, p_rI, p_rL, p_wI, p_wL, p_wF, p_has10, p_has11, p_ib0, p_ib1, p_shl1, p_zv0, p_zv1, p_zvib, p_ibd, p_ibn, if_pos, if_neg, if_true, if_false, ne_eq, not_true, not_false_iff, Decidable.not_not, Nat.not_lt, Nat.not_le, Bool.true_eq_false, Bool.false_eq_true, eq_self, reduceIte, Nat.reduceAdd, Nat.reduceMul, Nat.reduceSub, Nat.reduceEqDiff, Nat.reduceLT, Nat.reduceLeDiff, reduceCtorEq, fX11_of, (h.1.2.2.2.2 t ht).2.2.1]
theorem rs_let (h : RS M S) {t k : Nat} (ht : t < sN S) (hk : k < 6) : fX11_of (nI t) (nI (3 + k)) M = some (nI ((sNm S t).getD k 0)) := by
  have h1 := h.2.1.1
  simp (disch := omega) only [p_bnd, p_nm, p_gSEl, p_gSEr, p_l0, p_l1, p_l2, p_l3, p_l4, p_l5, p_l6, p_l7, p_l8, p_l9, p_l10, p_l14, p_l16, p_l20, p_l22, p_l24, p_l30, p_l31, p_l32, p_l38, p_l40, p_l41, p_l43, p_l48, p_l57, p_l59, p_l60, p_l61, p_l62, p_l63, p_l97, p_l98, p_l101, p_l122, p_l158, p_l201, p_l255, p_l256, p_l374, p_l880, p_l900, p_l1000, p_l2618, p_neg, nI_add, p_mul, p_sub, p_addm, p_addm0, p_subm, p_le, p_lt, p_eq, p_mO_eq, p_eq_mO, p_mO_lt, p_nlt_mO, p_mO_le, p_le_mO, p_rI, p_rL, p_wI, p_wL, p_wF, p_has10, p_has11, p_ib0, p_ib1, p_shl1, p_zv0, p_zv1, p_zvib, p_ibd, p_ibn, if_pos, if_neg, if_true, if_false, ne_eq, not_true, not_false_iff, Decidable.not_not, Nat.not_lt, Nat.not_le, Bool.true_eq_false, Bool.false_eq_true, eq_self, reduceIte, Nat.reduceAdd, Nat.reduceMul, Nat.reduceSub, Nat.reduceEqDiff, Nat.reduceLT, Nat.reduceLeDiff, reduceCtorEq, fX11_of, (h.1.2.2.2.2 t ht).2.2.2 k hk]
theorem rs_isInner (h : RS M S) {i : Nat} (hi : i < sM S) : fX11_isInner (nI i) M = some (ib (sIn S i)) := by
  have h1 := h.2.1.1
  have h2 := h.2.1.2.1
  obtain ⟨a1, a2⟩ := h.1.2.2.2.1 i hi
  obtain ⟨b1, b2, -⟩ := h.2.2.1.1 i hi
  have c1 := sHd_lt h.2 b1
  have c2 := sHd_lt h.2 b2
  simp (disch := omega) only [p_bnd, p_nm, p_gSEl, p_gSEr, p_l0, p_l1, p_l2, p_l3, p_l4, p_l5, p_l6, p_l7, p_l8, p_l9, p_l10, p_l14, p_l16, p_l20, p_l22, p_l24, p_l30, p_l31, p_l32, p_l38, p_l40, p_l41, p_l43, p_l48, p_l57, p_l59, p_l60, p_l61, p_l62, p_l63, p_l97, p_l98, p_l101, p_l122, p_l158, p_l201, p_l255, p_l256, p_l374, p_l880, p_l900, p_l1000, p_l2618, p_neg, nI_add, p_mul, p_sub, p_addm, p_addm0, p_subm, p_le, p_lt, p_eq, p_mO_eq, p_eq_mO, p_mO_lt, p_nlt_mO, p_mO_le, p_le_mO, p_rI, p_rL, p_wI, p_wL, p_wF, p_has10, p_has11, p_ib0, p_ib1, p_shl1, p_zv0, p_zv1, p_zvib, p_ibd, p_ibn, if_pos, if_neg, if_true, if_false, ne_eq, not_true, not_false_iff, Decidable.not_not, Nat.not_lt, Nat.not_le, Bool.true_eq_false, Bool.false_eq_true, eq_self, reduceIte, Nat.reduceAdd, Nat.reduceMul, Nat.reduceSub, Nat.reduceEqDiff, Nat.reduceLT, Nat.reduceLeDiff, reduceCtorEq, fX11_isInner, a1, a2, rs_hd h b1, rs_hd h b2, sHd_eq h.2 b1 b2, sIn]
theorem rs_inners (h : RS M S) : fX11_inners M = some (nI (fb_ct (sIn S) (sM S))) := by
  have h1 := h.2.1.1
  have h2 := h.2.1.2.1
  have h3 : M.1 1 1 = nI (sM S) := h.1.1.2.1
  have e := gLoop_f (body := fun z9 => fX11_inners_l4 M z9.1 z9.2) (fun k => (nI (fb_ct (sIn S) k), nI k)) (r := nI (fb_ct (sIn S) (sM S))) (sM S) gFu (by show sM S < 4096; omega) (fun k hk => by
    cases hb : sIn S k
    · simp (disch := omega) only [p_bnd, p_nm, p_gSEl, p_gSEr, p_l0, p_l1, p_l2, p_l3, p_l4, p_l5, p_l6, p_l7, p_l8, p_l9, p_l10, p_l14, p_l16, p_l20, p_l22, p_l24, p_l30, p_l31, p_l32, p_l38, p_l40, p_l41, p_l43, p_l48, p_l57, p_l59, p_l60, p_l61, p_l62, p_l63, p_l97, p_l98, p_l101, p_l122, p_l158, p_l201, p_l255, p_l256, p_l374, p_l880, p_l900, p_l1000, p_l2618, p_neg, nI_add, p_mul, p_sub, p_addm, p_addm0, p_subm, p_le, p_lt, p_eq, p_mO_eq, p_eq_mO, p_mO_lt, p_nlt_mO, p_mO_le, p_le_mO, p_rI, p_rL, p_wI, p_wL, p_wF, p_has10, p_has11, p_ib0, p_ib1, p_shl1, p_zv0, p_zv1, p_zvib, p_ibd, p_ibn, if_pos, if_neg, if_true, if_false, ne_eq, not_true, not_false_iff, Decidable.not_not, Nat.not_lt, Nat.not_le, Bool.true_eq_false, Bool.false_eq_true, eq_self, reduceIte, Nat.reduceAdd, Nat.reduceMul, Nat.reduceSub, Nat.reduceEqDiff, Nat.reduceLT, Nat.reduceLeDiff, reduceCtorEq, fX11_inners_l4, h3, rs_isInner h hk, hb, fb_ct_succ, Nat.add_zero]
    · simp (disch := omega) only [p_bnd, p_nm, p_gSEl, p_gSEr, p_l0, p_l1, p_l2, p_l3, p_l4, p_l5, p_l6, p_l7, p_l8, p_l9, p_l10, p_l14, p_l16, p_l20, p_l22, p_l24, p_l30, p_l31, p_l32, p_l38, p_l40, p_l41, p_l43, p_l48, p_l57, p_l59, p_l60, p_l61, p_l62, p_l63, p_l97, p_l98, p_l101, p_l122, p_l158, p_l201, p_l255, p_l256, p_l374, p_l880, p_l900, p_l1000, p_l2618, p_neg, nI_add, p_mul, p_sub, p_addm, p_addm0, p_subm, p_le, p_lt, p_eq, p_mO_eq, p_eq_mO, p_mO_lt, p_nlt_mO, p_mO_le, p_le_mO, p_rI, p_rL, p_wI, p_wL, p_wF, p_has10, p_has11, p_ib0, p_ib1, p_shl1, p_zv0, p_zv1, p_zvib, p_ibd, p_ibn, if_pos, if_neg, if_true, if_false, ne_eq, not_true, not_false_iff, Decidable.not_not, Nat.not_lt, Nat.not_le, Bool.true_eq_false, Bool.false_eq_true, eq_self, reduceIte, Nat.reduceAdd, Nat.reduceMul, Nat.reduceSub, Nat.reduceEqDiff, Nat.reduceLT, Nat.reduceLeDiff, reduceCtorEq, fX11_inners_l4, h3, rs_isInner h hk, hb, fb_ct_succ]) (by simp (disch := omega) only [p_bnd, p_nm, p_gSEl, p_gSEr, p_l0, p_l1, p_l2, p_l3, p_l4, p_l5, p_l6, p_l7, p_l8, p_l9, p_l10, p_l14, p_l16, p_l20, p_l22, p_l24, p_l30, p_l31, p_l32, p_l38, p_l40, p_l41, p_l43, p_l48, p_l57, p_l59, p_l60, p_l61, p_l62, p_l63, p_l97, p_l98, p_l101, p_l122, p_l158, p_l201, p_l255, p_l256, p_l374, p_l880, p_l900, p_l1000, p_l2618, p_neg, nI_add, p_mul, p_sub, p_addm, p_addm0, p_subm, p_le, p_lt, p_eq, p_mO_eq, p_eq_mO, p_mO_lt, p_nlt_mO, p_mO_le, p_le_mO, p_rI, p_rL, p_wI, p_wL, p_wF, p_has10, p_has11, p_ib0, p_ib1, p_shl1, p_zv0, p_zv1, p_zvib, p_ibd, p_ibn, if_pos, if_neg, if_true, if_false, ne_eq, not_true, not_false_iff, Decidable.not_not, Nat.not_lt, Nat.not_le, Bool.true_eq_false, Bool.false_eq_true, eq_self, reduceIte, Nat.reduceAdd, Nat.reduceMul, Nat.reduceSub, Nat.reduceEqDiff, Nat.reduceLT, Nat.reduceLeDiff, reduceCtorEq, fX11_inners_l4, h3])
  show (gLoop (fun z9 => fX11_inners_l4 M z9.1 z9.2) gFu ((fun k => (nI (fb_ct (sIn S) k), nI k)) 0)).bind _ = _
  rw [e]; rfl
theorem rs_placeOfHead (h : RS M S) {p : Nat} (hp : p < sG S) : fX11_placeOfHead (nI (sHd S p)) M = some (nI p) := by
  have h1 := h.2.1.1
  have h2 := h.2.1.2.2.1
  have c1 := (sHd_ok h.2.2.2.1 hp).1
  have e := gLoop_f (body := fun z9 => fX11_placeOfHead_l2 (nI (sHd S p)) M z9) (fun k => nI k) (r := nI p) p gFu (by show p < 4096; omega) (fun k hk => by
    have c2 := (sHd_ok h.2.2.2.1 (show k < sG S by omega)).1
    have c3 : ¬ sHd S k = sHd S p := fun z => by have := sHd_inj h.2.2.2.1 (show k < sG S by omega) hp z; omega
    simp (disch := omega) only [p_bnd, p_nm, p_gSEl, p_gSEr, p_l0, p_l1, p_l2, p_l3, p_l4, p_l5, p_l6, p_l7, p_l8, p_l9, p_l10, p_l14, p_l16, p_l20, p_l22, p_l24, p_l30, p_l31, p_l32, p_l38, p_l40, p_l41, p_l43, p_l48, p_l57, p_l59, p_l60, p_l61, p_l62, p_l63, p_l97, p_l98, p_l101, p_l122, p_l158, p_l201, p_l255, p_l256, p_l374, p_l880, p_l900, p_l1000, p_l2618, p_neg, nI_add, p_mul, p_sub, p_addm, p_addm0, p_subm, p_le, p_lt, p_eq, p_mO_eq, p_eq_mO, p_mO_lt, p_nlt_mO, p_mO_le, p_le_mO, p_rI, p_rL, p_wI, p_wL, p_wF, p_has10, p_has11, p_ib0, p_ib1, p_shl1, p_zv0, p_zv1, p_zvib, p_ibd, p_ibn, if_pos, if_neg, if_true, if_false, ne_eq, not_true, not_false_iff, Decidable.not_not, Nat.not_lt, Nat.not_le, Bool.true_eq_false, Bool.false_eq_true, eq_self, reduceIte, Nat.reduceAdd, Nat.reduceMul, Nat.reduceSub, Nat.reduceEqDiff, Nat.reduceLT, Nat.reduceLeDiff, reduceCtorEq, fX11_placeOfHead_l2, rs_or h (show k < sG S by omega)]) (by simp (disch := omega) only [p_bnd, p_nm, p_gSEl, p_gSEr, p_l0, p_l1, p_l2, p_l3, p_l4, p_l5, p_l6, p_l7, p_l8, p_l9, p_l10, p_l14, p_l16, p_l20, p_l22, p_l24, p_l30, p_l31, p_l32, p_l38, p_l40, p_l41, p_l43, p_l48, p_l57, p_l59, p_l60, p_l61, p_l62, p_l63, p_l97, p_l98, p_l101, p_l122, p_l158, p_l201, p_l255, p_l256, p_l374, p_l880, p_l900, p_l1000, p_l2618, p_neg, nI_add, p_mul, p_sub, p_addm, p_addm0, p_subm, p_le, p_lt, p_eq, p_mO_eq, p_eq_mO, p_mO_lt, p_nlt_mO, p_mO_le, p_le_mO, p_rI, p_rL, p_wI, p_wL, p_wF, p_has10, p_has11, p_ib0, p_ib1, p_shl1, p_zv0, p_zv1, p_zvib, p_ibd, p_ibn, if_pos, if_neg, if_true, if_false, ne_eq, not_true, not_false_iff, Decidable.not_not, Nat.not_lt, Nat.not_le, Bool.true_eq_false, Bool.false_eq_true, eq_self, reduceIte, Nat.reduceAdd, Nat.reduceMul, Nat.reduceSub, Nat.reduceEqDiff, Nat.reduceLT, Nat.reduceLeDiff, reduceCtorEq, fX11_placeOfHead_l2, rs_or h hp])
  show (gLoop (fun z9 => fX11_placeOfHead_l2 (nI (sHd S p)) M z9) gFu ((fun k => nI k) 0)).bind _ = _
  rw [e]; rfl
theorem rs_placeOf (h : RS M S) {t : Nat} (ht : t < sN S) : fX11_placeOf (nI t) M = some (nI (sPl S t)) := by
  simp (disch := omega) only [p_bnd, p_nm, p_gSEl, p_gSEr, p_l0, p_l1, p_l2, p_l3, p_l4, p_l5, p_l6, p_l7, p_l8, p_l9, p_l10, p_l14, p_l16, p_l20, p_l22, p_l24, p_l30, p_l31, p_l32, p_l38, p_l40, p_l41, p_l43, p_l48, p_l57, p_l59, p_l60, p_l61, p_l62, p_l63, p_l97, p_l98, p_l101, p_l122, p_l158, p_l201, p_l255, p_l256, p_l374, p_l880, p_l900, p_l1000, p_l2618, p_neg, nI_add, p_mul, p_sub, p_addm, p_addm0, p_subm, p_le, p_lt, p_eq, p_mO_eq, p_eq_mO, p_mO_lt, p_nlt_mO, p_mO_le, p_le_mO, p_rI, p_rL, p_wI, p_wL, p_wF, p_has10, p_has11, p_ib0, p_ib1, p_shl1, p_zv0, p_zv1, p_zvib, p_ibd, p_ibn, if_pos, if_neg, if_true, if_false, ne_eq, not_true, not_false_iff, Decidable.not_not, Nat.not_lt, Nat.not_le, Bool.true_eq_false, Bool.false_eq_true, eq_self, reduceIte, Nat.reduceAdd, Nat.reduceMul, Nat.reduceSub, Nat.reduceEqDiff, Nat.reduceLT, Nat.reduceLeDiff, reduceCtorEq, fX11_placeOf, rs_hd h ht, rs_placeOfHead h (h.2.p ht)]
def sHo (S : gS) (p : Nat) : Nat := fb_sm (fun t => if sPl S t = p then sHr S t else 0) (sN S)
theorem rs_hoursOf (h : RS M S) {p : Nat} : fX11_hoursOf (sMb S p) M = some (nI (sHo S p)) := by
  have h1 := h.2.1.1
  have h3 : M.1 1 0 = nI (sN S) := h.1.1.1
  have e := gLoop_f (body := fun z9 => fX11_hoursOf_l4 (sMb S p) M z9.1 z9.2) (fun k => (nI (fb_sm (fun t => if sPl S t = p then sHr S t else 0) k), nI k)) (r := nI (fb_sm (fun t => if sPl S t = p then sHr S t else 0) (sN S))) (sN S) gFu (by show sN S < 4096; omega) (fun k hk => by
    by_cases hb : sPl S k = p
    · have e1 : bt (sMb S p) k = true := by rw [sMb_bt (by omega)]; exact decide_eq_true ⟨hk, hb⟩
      simp (disch := omega) only [p_bnd, p_nm, p_gSEl, p_gSEr, p_l0, p_l1, p_l2, p_l3, p_l4, p_l5, p_l6, p_l7, p_l8, p_l9, p_l10, p_l14, p_l16, p_l20, p_l22, p_l24, p_l30, p_l31, p_l32, p_l38, p_l40, p_l41, p_l43, p_l48, p_l57, p_l59, p_l60, p_l61, p_l62, p_l63, p_l97, p_l98, p_l101, p_l122, p_l158, p_l201, p_l255, p_l256, p_l374, p_l880, p_l900, p_l1000, p_l2618, p_neg, nI_add, p_mul, p_sub, p_addm, p_addm0, p_subm, p_le, p_lt, p_eq, p_mO_eq, p_eq_mO, p_mO_lt, p_nlt_mO, p_mO_le, p_le_mO, p_rI, p_rL, p_wI, p_wL, p_wF, p_has10, p_has11, p_ib0, p_ib1, p_shl1, p_zv0, p_zv1, p_zvib, p_ibd, p_ibn, if_pos, if_neg, if_true, if_false, ne_eq, not_true, not_false_iff, Decidable.not_not, Nat.not_lt, Nat.not_le, Bool.true_eq_false, Bool.false_eq_true, eq_self, reduceIte, Nat.reduceAdd, Nat.reduceMul, Nat.reduceSub, Nat.reduceEqDiff, Nat.reduceLT, Nat.reduceLeDiff, reduceCtorEq, fX11_hoursOf_l4, fX11_hoursOf_b33, h3, e1, rs_hrs h hk, fb_sm_succ, if_pos hb]
    · have e1 : bt (sMb S p) k = false := by rw [sMb_bt (by omega)]; exact decide_eq_false (fun z => hb z.2)
      simp (disch := omega) only [p_bnd, p_nm, p_gSEl, p_gSEr, p_l0, p_l1, p_l2, p_l3, p_l4, p_l5, p_l6, p_l7, p_l8, p_l9, p_l10, p_l14, p_l16, p_l20, p_l22, p_l24, p_l30, p_l31, p_l32, p_l38, p_l40, p_l41, p_l43, p_l48, p_l57, p_l59, p_l60, p_l61, p_l62, p_l63, p_l97, p_l98, p_l101, p_l122, p_l158, p_l201, p_l255, p_l256, p_l374, p_l880, p_l900, p_l1000, p_l2618, p_neg, nI_add, p_mul, p_sub, p_addm, p_addm0, p_subm, p_le, p_lt, p_eq, p_mO_eq, p_eq_mO, p_mO_lt, p_nlt_mO, p_mO_le, p_le_mO, p_rI, p_rL, p_wI, p_wL, p_wF, p_has10, p_has11, p_ib0, p_ib1, p_shl1, p_zv0, p_zv1, p_zvib, p_ibd, p_ibn, if_pos, if_neg, if_true, if_false, ne_eq, not_true, not_false_iff, Decidable.not_not, Nat.not_lt, Nat.not_le, Bool.true_eq_false, Bool.false_eq_true, eq_self, reduceIte, Nat.reduceAdd, Nat.reduceMul, Nat.reduceSub, Nat.reduceEqDiff, Nat.reduceLT, Nat.reduceLeDiff, reduceCtorEq, fX11_hoursOf_l4, fX11_hoursOf_b33, h3, e1, fb_sm_succ, if_neg hb, Nat.add_zero]) (by simp (disch := omega) only [p_bnd, p_nm, p_gSEl, p_gSEr, p_l0, p_l1, p_l2, p_l3, p_l4, p_l5, p_l6, p_l7, p_l8, p_l9, p_l10, p_l14, p_l16, p_l20, p_l22, p_l24, p_l30, p_l31, p_l32, p_l38, p_l40, p_l41, p_l43, p_l48, p_l57, p_l59, p_l60, p_l61, p_l62, p_l63, p_l97, p_l98, p_l101, p_l122, p_l158, p_l201, p_l255, p_l256, p_l374, p_l880, p_l900, p_l1000, p_l2618, p_neg, nI_add, p_mul, p_sub, p_addm, p_addm0, p_subm, p_le, p_lt, p_eq, p_mO_eq, p_eq_mO, p_mO_lt, p_nlt_mO, p_mO_le, p_le_mO, p_rI, p_rL, p_wI, p_wL, p_wF, p_has10, p_has11, p_ib0, p_ib1, p_shl1, p_zv0, p_zv1, p_zvib, p_ibd, p_ibn, if_pos, if_neg, if_true, if_false, ne_eq, not_true, not_false_iff, Decidable.not_not, Nat.not_lt, Nat.not_le, Bool.true_eq_false, Bool.false_eq_true, eq_self, reduceIte, Nat.reduceAdd, Nat.reduceMul, Nat.reduceSub, Nat.reduceEqDiff, Nat.reduceLT, Nat.reduceLeDiff, reduceCtorEq, fX11_hoursOf_l4, h3])
  show (gLoop (fun z9 => fX11_hoursOf_l4 (sMb S p) M z9.1 z9.2) gFu ((fun k => (nI (fb_sm (fun t => if sPl S t = p then sHr S t else 0) k), nI k)) 0)).bind _ = _
  rw [e]; rfl
/-- the number of an arrow, or sM -/
def sAr (S : gS) (u v : Nat) : Nat := fa_first (fun i => decide (sFr S i = u ∧ sTo S i = v)) (sM S)
def gNo (n m : Nat) : Int32 := if n < m then nI n else mO 1
theorem sAr_E {u v : Nat} : sAr S u v < sM S ↔ sE S u v := by
  constructor
  · intro h
    have := fa_first_yes (fun i => decide (sFr S i = u ∧ sTo S i = v)) (sM S) h
    exact ⟨_, h, of_decide_eq_true this⟩
  · intro ⟨i, h1, h2, h3⟩
    refine Classical.byContradiction fun q => ?_
    have := fa_first_no (fun i => decide (sFr S i = u ∧ sTo S i = v)) (sM S) i (show i < sAr S u v by omega)
    rw [decide_eq_true ⟨h2, h3⟩] at this; cases this
theorem rs_arrowFrom (h : RS M S) {u v : Nat} (hu : u < 24) (hv : v < 24) : fX11_arrowFrom (nI u) (nI v) M = some (gNo (sAr S u v) (sM S)) := by
  obtain ⟨h0, h1, hn, hm, h2⟩ := h.a
  generalize hp : sAr S u v = p
  have hle : p ≤ sM S := hp ▸ fa_first_le _ _
  have hno : ∀ k, k < p → ¬ (sFr S k = u ∧ sTo S k = v) := fun k hk => of_decide_eq_false (fa_first_no (fun i => decide (sFr S i = u ∧ sTo S i = v)) (sM S) k (by rw [show fa_first (fun i => decide (sFr S i = u ∧ sTo S i = v)) (sM S) = p from hp]; exact hk))
  have hstep : ∀ k, k < p → fX11_arrowFrom_l2 (nI u) (nI v) M (nI k) = some (.inl (nI (k + 1))) := by
    intro k hk
    obtain ⟨a1, a2, a3, a4⟩ := h2 k (by omega)
    by_cases hb : sFr S k = u
    · have hb2 : ¬ sTo S k = v := fun z => hno k hk ⟨hb, z⟩
      simp (disch := omega) only [p_bnd, p_nm, p_gSEl, p_gSEr, p_l0, p_l1, p_l2, p_l3, p_l4, p_l5, p_l6, p_l7, p_l8, p_l9, p_l10, p_l14, p_l16, p_l20, p_l22, p_l24, p_l30, p_l31, p_l32, p_l38, p_l40, p_l41, p_l43, p_l48, p_l57, p_l59, p_l60, p_l61, p_l62, p_l63, p_l97, p_l98, p_l101, p_l122, p_l158, p_l201, p_l255, p_l256, p_l374, p_l880, p_l900, p_l1000, p_l2618, p_neg, nI_add, p_mul, p_sub, p_addm, p_addm0, p_subm, p_le, p_lt, p_eq, p_mO_eq, p_eq_mO, p_mO_lt, p_nlt_mO, p_mO_le, p_le_mO, p_rI, p_rL, p_wI, p_wL, p_wF, p_has10, p_has11, p_ib0, p_ib1, p_shl1, p_zv0, p_zv1, p_zvib, p_ibd, p_ibn, if_pos, if_neg, if_true, if_false, ne_eq, not_true, not_false_iff, Decidable.not_not, Nat.not_lt, Nat.not_le, Bool.true_eq_false, Bool.false_eq_true, eq_self, reduceIte, Nat.reduceAdd, Nat.reduceMul, Nat.reduceSub, Nat.reduceEqDiff, Nat.reduceLT, Nat.reduceLeDiff, reduceCtorEq, fX11_arrowFrom_l2, fX11_arrowFrom_b40, h1, a1, a2]
    · simp (disch := omega) only [p_bnd, p_nm, p_gSEl, p_gSEr, p_l0, p_l1, p_l2, p_l3, p_l4, p_l5, p_l6, p_l7, p_l8, p_l9, p_l10, p_l14, p_l16, p_l20, p_l22, p_l24, p_l30, p_l31, p_l32, p_l38, p_l40, p_l41, p_l43, p_l48, p_l57, p_l59, p_l60, p_l61, p_l62, p_l63, p_l97, p_l98, p_l101, p_l122, p_l158, p_l201, p_l255, p_l256, p_l374, p_l880, p_l900, p_l1000, p_l2618, p_neg, nI_add, p_mul, p_sub, p_addm, p_addm0, p_subm, p_le, p_lt, p_eq, p_mO_eq, p_eq_mO, p_mO_lt, p_nlt_mO, p_mO_le, p_le_mO, p_rI, p_rL, p_wI, p_wL, p_wF, p_has10, p_has11, p_ib0, p_ib1, p_shl1, p_zv0, p_zv1, p_zvib, p_ibd, p_ibn, if_pos, if_neg, if_true, if_false, ne_eq, not_true, not_false_iff, Decidable.not_not, Nat.not_lt, Nat.not_le, Bool.true_eq_false, Bool.false_eq_true, eq_self, reduceIte, Nat.reduceAdd, Nat.reduceMul, Nat.reduceSub, Nat.reduceEqDiff, Nat.reduceLT, Nat.reduceLeDiff, reduceCtorEq, fX11_arrowFrom_l2, fX11_arrowFrom_b40, h1, a1, a2]
  unfold gNo
  rcases Nat.lt_or_ge p (sM S) with q | q
  · have hy := of_decide_eq_true (fa_first_yes (fun i => decide (sFr S i = u ∧ sTo S i = v)) (sM S) (by rw [show fa_first (fun i => decide (sFr S i = u ∧ sTo S i = v)) (sM S) = p from hp]; exact q))
    rw [show fa_first (fun i => decide (sFr S i = u ∧ sTo S i = v)) (sM S) = p from hp] at hy
    obtain ⟨a1, a2, a3, a4⟩ := h2 p q
    have e := gLoop_f (body := fun z9 => fX11_arrowFrom_l2 (nI u) (nI v) M z9) (fun k => nI k) (r := .inr (nI p)) p gFu (by show p < 4096; omega) hstep (by simp (disch := omega) only [p_bnd, p_nm, p_gSEl, p_gSEr, p_l0, p_l1, p_l2, p_l3, p_l4, p_l5, p_l6, p_l7, p_l8, p_l9, p_l10, p_l14, p_l16, p_l20, p_l22, p_l24, p_l30, p_l31, p_l32, p_l38, p_l40, p_l41, p_l43, p_l48, p_l57, p_l59, p_l60, p_l61, p_l62, p_l63, p_l97, p_l98, p_l101, p_l122, p_l158, p_l201, p_l255, p_l256, p_l374, p_l880, p_l900, p_l1000, p_l2618, p_neg, nI_add, p_mul, p_sub, p_addm, p_addm0, p_subm, p_le, p_lt, p_eq, p_mO_eq, p_eq_mO, p_mO_lt, p_nlt_mO, p_mO_le, p_le_mO, p_rI, p_rL, p_wI, p_wL, p_wF, p_has10, p_has11, p_ib0, p_ib1, p_shl1, p_zv0, p_zv1, p_zvib, p_ibd, p_ibn, if_pos, if_neg, if_true, if_false, ne_eq, not_true, not_false_iff, Decidable.not_not, Nat.not_lt, Nat.not_le, Bool.true_eq_false, Bool.false_eq_true, eq_self, reduceIte, Nat.reduceAdd, Nat.reduceMul, Nat.reduceSub, Nat.reduceEqDiff, Nat.reduceLT, Nat.reduceLeDiff, reduceCtorEq, fX11_arrowFrom_l2, h1, a1, a2, hy.1, hy.2])
    show (gLoop (fun z9 => fX11_arrowFrom_l2 (nI u) (nI v) M z9) gFu ((fun k => nI k) 0)).bind _ = _
    rw [e, if_pos q]; rfl
  · have ep : p = sM S := by omega
    have e := gLoop_f (body := fun z9 => fX11_arrowFrom_l2 (nI u) (nI v) M z9) (fun k => nI k) (r := .inl ()) p gFu (by show p < 4096; omega) hstep (by simp (disch := omega) only [p_bnd, p_nm, p_gSEl, p_gSEr, p_l0, p_l1, p_l2, p_l3, p_l4, p_l5, p_l6, p_l7, p_l8, p_l9, p_l10, p_l14, p_l16, p_l20, p_l22, p_l24, p_l30, p_l31, p_l32, p_l38, p_l40, p_l41, p_l43, p_l48, p_l57, p_l59, p_l60, p_l61, p_l62, p_l63, p_l97, p_l98, p_l101, p_l122, p_l158, p_l201, p_l255, p_l256, p_l374, p_l880, p_l900, p_l1000, p_l2618, p_neg, nI_add, p_mul, p_sub, p_addm, p_addm0, p_subm, p_le, p_lt, p_eq, p_mO_eq, p_eq_mO, p_mO_lt, p_nlt_mO, p_mO_le, p_le_mO, p_rI, p_rL, p_wI, p_wL, p_wF, p_has10, p_has11, p_ib0, p_ib1, p_shl1, p_zv0, p_zv1, p_zvib, p_ibd, p_ibn, if_pos, if_neg, if_true, if_false, ne_eq, not_true, not_false_iff, Decidable.not_not, Nat.not_lt, Nat.not_le, Bool.true_eq_false, Bool.false_eq_true, eq_self, reduceIte, Nat.reduceAdd, Nat.reduceMul, Nat.reduceSub, Nat.reduceEqDiff, Nat.reduceLT, Nat.reduceLeDiff, reduceCtorEq, fX11_arrowFrom_l2, h1])
    show (gLoop (fun z9 => fX11_arrowFrom_l2 (nI u) (nI v) M z9) gFu ((fun k => nI k) 0)).bind _ = _
    rw [e, if_neg (by omega)]; rfl
/-- an arrow leads from the group at p to that at q -/
def sLd (S : gS) (p q : Nat) : Bool := decide (fa_first (fun i => decide (sPl S (sFr S i) = p ∧ sPl S (sTo S i) = q)) (sM S) < sM S)
theorem sLd_iff {p q : Nat} : sLd S p q = true ↔ ∃ i, i < sM S ∧ sPl S (sFr S i) = p ∧ sPl S (sTo S i) = q := by
  unfold sLd
  rw [decide_eq_true_eq]
  constructor
  · intro h
    exact ⟨_, h, of_decide_eq_true (fa_first_yes (fun i => decide (sPl S (sFr S i) = p ∧ sPl S (sTo S i) = q)) (sM S) h)⟩
  · intro ⟨i, h1, h2⟩
    refine Classical.byContradiction fun z => ?_
    have := fa_first_no (fun i => decide (sPl S (sFr S i) = p ∧ sPl S (sTo S i) = q)) (sM S) i (by omega)
    rw [decide_eq_true h2] at this; cases this
theorem fa_first_cg {f g : Nat → Bool} : ∀ {n : Nat}, (∀ k, k < n → f k = g k) → fa_first f n = fa_first g n
  | 0, _ => rfl
  | n + 1, h => by
    unfold fa_first
    rw [fa_first_cg (n := n) (fun k hk => h k (by omega)), h n (by omega)]
theorem rs_leads (h : RS M S) {p q : Nat} : fX11_leads (sMb S p) (sMb S q) M = some (ib (sLd S p q)) := by
  rw [r_leads h.a]
  unfold sLd
  congr 2
  have hc : fa_first (fun i => bt (sMb S p) (sFr S i) && bt (sMb S q) (sTo S i)) (sM S) = fa_first (fun i => decide (sPl S (sFr S i) = p ∧ sPl S (sTo S i) = q)) (sM S) := fa_first_cg fun i hi => by
    obtain ⟨b1, b2, -⟩ := h.2.2.1.1 i hi
    have hn := h.2.1.1
    rw [sMb_bt (by omega), sMb_bt (by omega)]
    simp [b1, b2]
  rw [hc]
end RD
