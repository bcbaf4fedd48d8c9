/-! AN ARROW COMES: the reference lays its part -/
def PW (M : gMem) (l : List Int32) : Prop := M.1 0 16 = nI l.length ∧ ∀ k v, l[k]? = some v → M.1 8 k = v
def Dpw (c k : Nat) : Prop := (c = 0 ∧ k = 16) ∨ c = 8
def rfI (lo : Nat) (x : Option Nat) : Int32 := match x with | some k => nI (lo + k) | none => mO 2
section RPT
variable {M : gMem} {l : List Int32} {lo hi : Nat} {A B : Nat → Bool} {wA wB : Int32}
/-- the reference's part, looked at -/
def RQ (M : gMem) (lo hi : Nat) (wB wA : Int32) : Prop := M.1 0 10 = nI lo ∧ M.1 0 11 = nI hi ∧ M.1 0 12 = wB ∧ M.1 0 13 = wA
theorem RQ_fr {M' : gMem} (h : RQ M lo hi wB wA) (F : gFr Dpw M M') : RQ M' lo hi wB wA := by
  unfold RQ
  rw [(F 0 10 (by unfold Dpw; omega)).1, (F 0 11 (by unfold Dpw; omega)).1, (F 0 12 (by unfold Dpw; omega)).1, (F 0 13 (by unfold Dpw; omega)).1]; exact h
theorem rp_adds (h : PW M l) (hl : l.length < 24) (x : Int32) : ∃ M', fX11_adds x M = some M' ∧ gFr Dpw M M' ∧ PW M' (l ++ [x]) := by
  obtain ⟨h1, h2⟩ := h
  refine ⟨gI (gI M 8 l.length x) 0 16 (nI (l.length + 1)), ?_, gFr_trI (gFr_I (Or.inr rfl)) (Or.inl ⟨rfl, rfl⟩), ?_, ?_⟩
  · have e : (gI M 8 l.length x).1 0 16 = nI l.length := by rw [p_gI_n (Or.inl (by decide))]; exact h1
    simp (disch := omega) only [p_bnd, p_nm, p_gSEl, p_gSEr, p_l0, p_l1, p_l2, p_l3, p_l4, p_l5, p_l6, p_l7, p_l8, p_l9, p_l10, p_l14, p_l16, p_l20, p_l22, p_l24, p_l30, p_l31, p_l32, p_l38, p_l40, p_l41, p_l43, p_l48, p_l57, p_l59, p_l60, p_l61, p_l62, p_l63, p_l97, p_l98, p_l101, p_l122, p_l158, p_l201, p_l255, p_l256, p_l374, p_l880, p_l900, p_l1000, p_l2618, p_neg, nI_add, p_mul, p_sub, p_addm, p_addm0, p_subm, p_le, p_lt, p_eq, p_mO_eq, p_eq_mO, p_mO_lt, p_nlt_mO, p_mO_le, p_le_mO, p_rI, p_rL, p_wI, p_wL, p_wF, p_has10, p_has11, p_ib0, p_ib1, p_shl1, p_zv0, p_zv1, p_zvib, p_ibd, p_ibn, if_pos, if_neg, if_true, if_false, ne_eq, not_true, not_false_iff, Decidable.not_not, Nat.not_lt, Nat.not_le, Bool.true_eq_false, Bool.false_eq_true, eq_self, reduceIte, Nat.reduceAdd, Nat.reduceMul, Nat.reduceSub, Nat.reduceEqDiff, Nat.reduceLT, Nat.reduceLeDiff, reduceCtorEq, fX11_adds, h1, e]
  · rw [p_gI_s, List.length_append]; rfl
  · intro k v hk
    rw [p_gI_n (Or.inl (by decide)), p_gI]
    rcases Nat.lt_or_ge k l.length with q | q
    · rw [List.getElem?_append_left q] at hk
      rw [if_neg (by omega)]
      exact h2 k v hk
    · rw [List.getElem?_append_right q] at hk
      have e : k = l.length := by
        have := (List.getElem?_eq_some_iff.mp hk).1
        simp at this; omega
      subst e
      rw [if_pos ⟨rfl, rfl⟩]
      simpa using hk
theorem rp_addsAll (h : PW M l) (hp : RQ M lo hi wB wA) (hlo : lo ≤ hi + 1) (hhi : hi < 24) (w : Int32) {f : Nat → Bool} (hf : ∀ k, k < hi + 1 - lo → bt w (lo + k) = f k) (hl : l.length + fb_ct f (hi + 1 - lo) ≤ 24) :
    ∃ M', fX11_addsAll w M = some M' ∧ gFr Dpw M M' ∧ PW M' (l ++ (((List.range (hi + 1 - lo)).filter f).map some).map (rfI lo)) := by
  obtain ⟨q, e1, F, R⟩ : ∃ q, gLoop (fun z9 => fX11_addsAll_l5 w z9.1 z9.2) gFu (nI lo, M) = some q ∧ gFr Dpw M q ∧ PW q (l ++ (((List.range (hi + 1 - lo)).filter f).map some).map (rfI lo)) := by
    refine gLoop_i (fun k s => ∃ M', s = (nI (lo + k), M') ∧ gFr Dpw M M' ∧ PW M' (l ++ (((List.range k).filter f).map some).map (rfI lo))) _ (hi + 1 - lo) ⟨M, rfl, gFr_rf, by simpa using h⟩ (by show hi + 1 - lo < 4096; omega) ?_
    rintro k s hk ⟨M', rfl, hF, hR⟩
    have hp' := RQ_fr hp hF
    rcases Nat.lt_or_ge k (hi + 1 - lo) with q | q
    · have hb := hf k q
      cases hc : f k
      · rw [hc] at hb
        refine Or.inl ⟨(nI (lo + (k + 1)), M'), ?_, q, M', rfl, hF, ?_⟩
        · simp (disch := omega) only [p_bnd, p_nm, p_gSEl, p_gSEr, p_l0, p_l1, p_l2, p_l3, p_l4, p_l5, p_l6, p_l7, p_l8, p_l9, p_l10, p_l14, p_l16, p_l20, p_l22, p_l24, p_l30, p_l31, p_l32, p_l38, p_l40, p_l41, p_l43, p_l48, p_l57, p_l59, p_l60, p_l61, p_l62, p_l63, p_l97, p_l98, p_l101, p_l122, p_l158, p_l201, p_l255, p_l256, p_l374, p_l880, p_l900, p_l1000, p_l2618, p_neg, nI_add, p_mul, p_sub, p_addm, p_addm0, p_subm, p_le, p_lt, p_eq, p_mO_eq, p_eq_mO, p_mO_lt, p_nlt_mO, p_mO_le, p_le_mO, p_rI, p_rL, p_wI, p_wL, p_wF, p_has10, p_has11, p_ib0, p_ib1, p_shl1, p_zv0, p_zv1, p_zvib, p_ibd, p_ibn, if_pos, if_neg, if_true, if_false, ne_eq, not_true, not_false_iff, Decidable.not_not, Nat.not_lt, Nat.not_le, Bool.true_eq_false, Bool.false_eq_true, eq_self, reduceIte, Nat.reduceAdd, Nat.reduceMul, Nat.reduceSub, Nat.reduceEqDiff, Nat.reduceLT, Nat.reduceLeDiff, reduceCtorEq, fX11_addsAll_l5, fX11_addsAll_b26, hp'.2.1, hb, Nat.add_assoc]
        · rw [List.range_succ, List.filter_append]
          simpa [hc] using hR
      · rw [hc] at hb
        have hm := fb_ct_mono f (show k + 1 ≤ hi + 1 - lo from q)
        rw [fb_ct_succ, hc] at hm
        simp at hm
        obtain ⟨M2, e2, F2, R2⟩ := rp_adds hR (by rw [List.length_append, List.length_map, List.length_map, filter_len]; omega) (nI (lo + k))
        refine Or.inl ⟨(nI (lo + (k + 1)), M2), ?_, q, M2, rfl, gFr_tr hF F2, ?_⟩
        · simp (disch := omega) only [p_bnd, p_nm, p_gSEl, p_gSEr, p_l0, p_l1, p_l2, p_l3, p_l4, p_l5, p_l6, p_l7, p_l8, p_l9, p_l10, p_l14, p_l16, p_l20, p_l22, p_l24, p_l30, p_l31, p_l32, p_l38, p_l40, p_l41, p_l43, p_l48, p_l57, p_l59, p_l60, p_l61, p_l62, p_l63, p_l97, p_l98, p_l101, p_l122, p_l158, p_l201, p_l255, p_l256, p_l374, p_l880, p_l900, p_l1000, p_l2618, p_neg, nI_add, p_mul, p_sub, p_addm, p_addm0, p_subm, p_le, p_lt, p_eq, p_mO_eq, p_eq_mO, p_mO_lt, p_nlt_mO, p_mO_le, p_le_mO, p_rI, p_rL, p_wI, p_wL, p_wF, p_has10, p_has11, p_ib0, p_ib1, p_shl1, p_zv0, p_zv1, p_zvib, p_ibd, p_ibn, if_pos, if_neg, if_true, if_false, ne_eq, not_true, not_false_iff, Decidable.not_not, Nat.not_lt, Nat.not_le, Bool.true_eq_false, Bool.false_eq_true, eq_self, reduceIte, Nat.reduceAdd, Nat.reduceMul, Nat.reduceSub, Nat.reduceEqDiff, Nat.reduceLT, Nat.reduceLeDiff, reduceCtorEq, fX11_addsAll_l5, fX11_addsAll_b26, hp'.2.1, hb, e2, Nat.add_assoc]
        · rw [List.range_succ, List.filter_append, List.map_append, List.map_append, ← List.append_assoc]
          simpa [hc, rfI] using R2
    · refine Or.inr ⟨M', by simp (disch := omega) only [p_bnd, p_nm, p_gSEl, p_gSEr, p_l0, p_l1, p_l2, p_l3, p_l4, p_l5, p_l6, p_l7, p_l8, p_l9, p_l10, p_l14, p_l16, p_l20, p_l22, p_l24, p_l30, p_l31, p_l32, p_l38, p_l40, p_l41, p_l43, p_l48, p_l57, p_l59, p_l60, p_l61, p_l62, p_l63, p_l97, p_l98, p_l101, p_l122, p_l158, p_l201, p_l255, p_l256, p_l374, p_l880, p_l900, p_l1000, p_l2618, p_neg, nI_add, p_mul, p_sub, p_addm, p_addm0, p_subm, p_le, p_lt, p_eq, p_mO_eq, p_eq_mO, p_mO_lt, p_nlt_mO, p_mO_le, p_le_mO, p_rI, p_rL, p_wI, p_wL, p_wF, p_has10, p_has11, p_ib0, p_ib1, p_shl1, p_zv0, p_zv1, p_zvib, p_ibd, p_ibn, if_pos, if_neg, if_true, if_false, ne_eq, not_true, not_false_iff, Decidable.not_not, Nat.not_lt, Nat.not_le, Bool.true_eq_false, Bool.false_eq_true, eq_self, reduceIte, Nat.reduceAdd, Nat.reduceMul, Nat.reduceSub, Nat.reduceEqDiff, Nat.reduceLT, Nat.reduceLeDiff, reduceCtorEq, fX11_addsAll_l5, hp'.2.1], hF, ?_⟩
      rw [show hi + 1 - lo = k by omega]; exact hR
  refine ⟨q, ?_, F, R⟩
  unfold fX11_addsAll
  rw [hp.1, p_nm, p_bnd, e1, p_bnd]
/-- what is known of the two sets, by places of the part -/
def RAB (lo hi : Nat) (wB wA : Int32) (A B : Nat → Bool) : Prop := (∀ k, k < hi + 1 - lo → bt wA (lo + k) = A k ∧ bt wB (lo + k) = B k) ∧ ∀ p, p < 32 → (p < lo ∨ hi < p) → bt wA p = false ∧ bt wB p = false
theorem rab_J (h : RAB lo hi wB wA A B) (hhi : hi < 24) : (wB &&& wA = nI 0) = ¬ 0 < fb_ct (iJ A B) (hi + 1 - lo) := by
  refine propext ?_
  rw [fb_ct_pos, p_z]
  constructor
  · intro hz ⟨k, hk, hj⟩
    have := hz (lo + k) (by omega)
    rw [b_and, (h.1 k hk).1, (h.1 k hk).2] at this
    unfold iJ at hj
    rw [Bool.and_eq_true] at hj
    rw [hj.1, hj.2] at this; cases this
  · intro hz p hp
    rw [b_and]
    by_cases c : p < lo ∨ hi < p
    · rw [(h.2 p hp c).2]; rfl
    · cases hb : bt wB p && bt wA p
      · rfl
      · rw [Bool.and_eq_true] at hb
        refine absurd ⟨p - lo, by omega, ?_⟩ hz
        have e : lo + (p - lo) = p := by omega
        obtain ⟨x1, x2⟩ := h.1 (p - lo) (by omega)
        rw [e] at x1 x2
        unfold iJ; rw [← x1, ← x2, hb.1, hb.2]; rfl
theorem rp_addsJoined (h : PW M l) (hp : RQ M lo hi wB wA) (hab : RAB lo hi wB wA A B) (hhi : hi < 24) (hl : l.length < 24) :
    ∃ M', fX11_addsJoined M = some M' ∧ gFr Dpw M M' ∧ PW M' (l ++ (iN A B (hi + 1 - lo)).map (rfI lo)) := by
  have hj := rab_J hab hhi
  by_cases c : 0 < fb_ct (iJ A B) (hi + 1 - lo)
  · obtain ⟨M', e, F, R⟩ := rp_adds h hl (mO 2)
    refine ⟨M', ?_, F, ?_⟩
    · unfold fX11_addsJoined
      rw [hp.2.2.1, hp.2.2.2]
      refine (if_neg (by rw [show (0 : Int32) = nI 0 from rfl, hj]; exact fun z => z c)).trans ?_
      rw [show (-2 : Int32) = mO 2 from rfl, e, p_bnd]
    · unfold iN; rw [if_pos c]; exact R
  · refine ⟨M, ?_, gFr_rf, ?_⟩
    · unfold fX11_addsJoined
      rw [hp.2.2.1, hp.2.2.2]
      exact if_pos (by rw [show (0 : Int32) = nI 0 from rfl, hj]; exact c)
    · unfold iN; rw [if_neg c]; simpa using h
theorem rp_affected (hp : RQ M lo hi wB wA) (hlo : lo ≤ hi + 1) (hhi : hi < 24) : fX11_affected M = some (mkS (fun p => decide (lo ≤ p ∧ p ≤ hi))) := by
  have e := gLoop_f (body := fun z9 => fX11_affected_l7 M z9.1 z9.2) (fun k => (mkS (fun p => decide (lo ≤ p ∧ p < lo + k)), nI (lo + k))) (r := mkS (fun p => decide (lo ≤ p ∧ p < lo + (hi + 1 - lo)))) (hi + 1 - lo) gFu (by show _ < 4096; omega) (fun k hk => by
    simp (disch := omega) only [p_bnd, p_nm, p_gSEl, p_gSEr, p_l0, p_l1, p_l2, p_l3, p_l4, p_l5, p_l6, p_l7, p_l8, p_l9, p_l10, p_l14, p_l16, p_l20, p_l22, p_l24, p_l30, p_l31, p_l32, p_l38, p_l40, p_l41, p_l43, p_l48, p_l57, p_l59, p_l60, p_l61, p_l62, p_l63, p_l97, p_l98, p_l101, p_l122, p_l158, p_l201, p_l255, p_l256, p_l374, p_l880, p_l900, p_l1000, p_l2618, p_neg, nI_add, p_mul, p_sub, p_addm, p_addm0, p_subm, p_le, p_lt, p_eq, p_mO_eq, p_eq_mO, p_mO_lt, p_nlt_mO, p_mO_le, p_le_mO, p_rI, p_rL, p_wI, p_wL, p_wF, p_has10, p_has11, p_ib0, p_ib1, p_shl1, p_zv0, p_zv1, p_zvib, p_ibd, p_ibn, if_pos, if_neg, if_true, if_false, ne_eq, not_true, not_false_iff, Decidable.not_not, Nat.not_lt, Nat.not_le, Bool.true_eq_false, Bool.false_eq_true, eq_self, reduceIte, Nat.reduceAdd, Nat.reduceMul, Nat.reduceSub, Nat.reduceEqDiff, Nat.reduceLT, Nat.reduceLeDiff, reduceCtorEq, fX11_affected_l7, hp.2.1, Nat.add_assoc]
    congr 3
    refine mkS_of fun v hv => ?_
    rw [b_or, mkS_bt hv, p_sb (by omega)]
    by_cases c : v = lo + k
    · subst c; simp
    · rw [decide_eq_false c, Bool.or_false]; exact decide_eq_decide.mpr (by omega)) (by simp (disch := omega) only [p_bnd, p_nm, p_gSEl, p_gSEr, p_l0, p_l1, p_l2, p_l3, p_l4, p_l5, p_l6, p_l7, p_l8, p_l9, p_l10, p_l14, p_l16, p_l20, p_l22, p_l24, p_l30, p_l31, p_l32, p_l38, p_l40, p_l41, p_l43, p_l48, p_l57, p_l59, p_l60, p_l61, p_l62, p_l63, p_l97, p_l98, p_l101, p_l122, p_l158, p_l201, p_l255, p_l256, p_l374, p_l880, p_l900, p_l1000, p_l2618, p_neg, nI_add, p_mul, p_sub, p_addm, p_addm0, p_subm, p_le, p_lt, p_eq, p_mO_eq, p_eq_mO, p_mO_lt, p_nlt_mO, p_mO_le, p_le_mO, p_rI, p_rL, p_wI, p_wL, p_wF, p_has10, p_has11, p_ib0, p_ib1, p_shl1, p_zv0, p_zv1, p_zvib, p_ibd, p_ibn, if_pos, if_neg, if_true, if_false, ne_eq, not_true, not_false_iff, Decidable.not_not, Nat.not_lt, Nat.not_le, Bool.true_eq_false, Bool.false_eq_true, eq_self, reduceIte, Nat.reduceAdd, Nat.reduceMul, Nat.reduceSub, Nat.reduceEqDiff, Nat.reduceLT, Nat.reduceLeDiff, reduceCtorEq, fX11_affected_l7, hp.2.1])
  unfold fX11_affected
  rw [hp.1, p_nm, p_bnd, show (0 : Int32) = mkS (fun p => decide (lo ≤ p ∧ p < lo + 0)) from mkS_of fun v _ => by
    rw [show (0 : Int32) = nI 0 from rfl, p_bt0]; symm; rw [decide_eq_false_iff_not]; omega]
  show (gLoop (fun z9 => fX11_affected_l7 M z9.1 z9.2) gFu ((fun k => (mkS (fun p => decide (lo ≤ p ∧ p < lo + k)), nI (lo + k))) 0)).bind _ = _
  rw [e, p_bnd]
  congr 1
  exact mkS_cg fun v _ => decide_eq_decide.mpr (by omega)
theorem rp_nth (hp : RQ M lo hi wB wA) (hlo : lo ≤ hi + 1) (hhi : hi < 24) (w : Int32) {f : Nat → Bool} (hf : ∀ k, k < hi + 1 - lo → bt w (lo + k) = f k) {n : Nat} (hn : n < fb_ct f (hi + 1 - lo)) : fX11_nth w (nI n) M = some (nI (lo + gNth f n (hi + 1 - lo))) := by
  obtain ⟨g1, g2, g3⟩ := gNth_ok hn
  have hle := fb_ct_le f (hi + 1 - lo)
  generalize gNth f n (hi + 1 - lo) = q at g1 g2 g3
  have e := gLoop_f (body := fun z9 => fX11_nth_l8 w M z9.1 z9.2) (fun k => (nI (n - fb_ct f k), nI (lo + k))) (r := .inr (nI (lo + q))) q gFu (by show _ < 4096; omega) (fun k hk => by
    have hb := hf k (by omega)
    have hm := fb_ct_mono f (show k ≤ q by omega)
    cases hc : f k
    · rw [hc] at hb
      simp (disch := omega) only [p_bnd, p_nm, p_gSEl, p_gSEr, p_l0, p_l1, p_l2, p_l3, p_l4, p_l5, p_l6, p_l7, p_l8, p_l9, p_l10, p_l14, p_l16, p_l20, p_l22, p_l24, p_l30, p_l31, p_l32, p_l38, p_l40, p_l41, p_l43, p_l48, p_l57, p_l59, p_l60, p_l61, p_l62, p_l63, p_l97, p_l98, p_l101, p_l122, p_l158, p_l201, p_l255, p_l256, p_l374, p_l880, p_l900, p_l1000, p_l2618, p_neg, nI_add, p_mul, p_sub, p_addm, p_addm0, p_subm, p_le, p_lt, p_eq, p_mO_eq, p_eq_mO, p_mO_lt, p_nlt_mO, p_mO_le, p_le_mO, p_rI, p_rL, p_wI, p_wL, p_wF, p_has10, p_has11, p_ib0, p_ib1, p_shl1, p_zv0, p_zv1, p_zvib, p_ibd, p_ibn, if_pos, if_neg, if_true, if_false, ne_eq, not_true, not_false_iff, Decidable.not_not, Nat.not_lt, Nat.not_le, Bool.true_eq_false, Bool.false_eq_true, eq_self, reduceIte, Nat.reduceAdd, Nat.reduceMul, Nat.reduceSub, Nat.reduceEqDiff, Nat.reduceLT, Nat.reduceLeDiff, reduceCtorEq, fX11_nth_l8, fX11_nth_b33, hp.2.1, hb, fb_ct_succ, hc, Nat.add_assoc, Nat.sub_zero, Nat.add_zero]
    · rw [hc] at hb
      have hm2 := ct_lt hk hc
      simp (disch := omega) only [p_bnd, p_nm, p_gSEl, p_gSEr, p_l0, p_l1, p_l2, p_l3, p_l4, p_l5, p_l6, p_l7, p_l8, p_l9, p_l10, p_l14, p_l16, p_l20, p_l22, p_l24, p_l30, p_l31, p_l32, p_l38, p_l40, p_l41, p_l43, p_l48, p_l57, p_l59, p_l60, p_l61, p_l62, p_l63, p_l97, p_l98, p_l101, p_l122, p_l158, p_l201, p_l255, p_l256, p_l374, p_l880, p_l900, p_l1000, p_l2618, p_neg, nI_add, p_mul, p_sub, p_addm, p_addm0, p_subm, p_le, p_lt, p_eq, p_mO_eq, p_eq_mO, p_mO_lt, p_nlt_mO, p_mO_le, p_le_mO, p_rI, p_rL, p_wI, p_wL, p_wF, p_has10, p_has11, p_ib0, p_ib1, p_shl1, p_zv0, p_zv1, p_zvib, p_ibd, p_ibn, if_pos, if_neg, if_true, if_false, ne_eq, not_true, not_false_iff, Decidable.not_not, Nat.not_lt, Nat.not_le, Bool.true_eq_false, Bool.false_eq_true, eq_self, reduceIte, Nat.reduceAdd, Nat.reduceMul, Nat.reduceSub, Nat.reduceEqDiff, Nat.reduceLT, Nat.reduceLeDiff, reduceCtorEq, fX11_nth_l8, fX11_nth_b33, hp.2.1, hb, fb_ct_succ, hc, Nat.add_assoc, Nat.sub_sub]) (by
    have hb := hf q g1
    rw [g2] at hb
    simp (disch := omega) only [p_bnd, p_nm, p_gSEl, p_gSEr, p_l0, p_l1, p_l2, p_l3, p_l4, p_l5, p_l6, p_l7, p_l8, p_l9, p_l10, p_l14, p_l16, p_l20, p_l22, p_l24, p_l30, p_l31, p_l32, p_l38, p_l40, p_l41, p_l43, p_l48, p_l57, p_l59, p_l60, p_l61, p_l62, p_l63, p_l97, p_l98, p_l101, p_l122, p_l158, p_l201, p_l255, p_l256, p_l374, p_l880, p_l900, p_l1000, p_l2618, p_neg, nI_add, p_mul, p_sub, p_addm, p_addm0, p_subm, p_le, p_lt, p_eq, p_mO_eq, p_eq_mO, p_mO_lt, p_nlt_mO, p_mO_le, p_le_mO, p_rI, p_rL, p_wI, p_wL, p_wF, p_has10, p_has11, p_ib0, p_ib1, p_shl1, p_zv0, p_zv1, p_zvib, p_ibd, p_ibn, if_pos, if_neg, if_true, if_false, ne_eq, not_true, not_false_iff, Decidable.not_not, Nat.not_lt, Nat.not_le, Bool.true_eq_false, Bool.false_eq_true, eq_self, reduceIte, Nat.reduceAdd, Nat.reduceMul, Nat.reduceSub, Nat.reduceEqDiff, Nat.reduceLT, Nat.reduceLeDiff, reduceCtorEq, fX11_nth_l8, hp.2.1, hb, g3, Nat.sub_self])
  unfold fX11_nth
  rw [hp.1, p_nm, p_bnd]
  show (gLoop (fun z9 => fX11_nth_l8 w M z9.1 z9.2) gFu ((fun k => (nI (n - fb_ct f k), nI (lo + k))) 0)).bind _ = _
  rw [e]; rfl
/-- what is dealt to the k-th place -/
def dlt (lo : Nat) (x : Option (Option Nat)) : Int32 := match x with | some y => rfI lo y | none => mO 1
theorem rp_dealt (hp : RQ M lo hi wB wA) (hab : RAB lo hi wB wA A B) (hlo : lo ≤ hi + 1) (hhi : hi < 24) {k : Nat} (hk : k < hi + 1 - lo) (hu : iU A B k = true) : fX11_dealt (nI (fb_ct (iU A B) k)) M = some (dlt lo (i0 A B (hi + 1 - lo) k)) := by
  have h32 : lo + (hi + 1 - lo) ≤ 32 := by omega
  have cU : fb_ct (bt (wB ||| wA)) 32 = fb_ct (iU A B) (hi + 1 - lo) := ct_off h32 (fun k hk => by rw [b_or, (hab.1 k hk).1, (hab.1 k hk).2, Bool.or_comm]; rfl) (fun p p1 p2 => by
    obtain ⟨z1, z2⟩ := hab.2 p p1 (by omega)
    rw [b_or, z1, z2]; rfl)
  have bA : ∀ k, k < hi + 1 - lo → bt (wA &&& ((wB &&& wA) ^^^ mO 1)) (lo + k) = iA A B k := fun k hk => by
    rw [b_and, p_not _ (by omega), b_and, (hab.1 k hk).1, (hab.1 k hk).2]; unfold iA; cases A k <;> cases B k <;> rfl
  have bB : ∀ k, k < hi + 1 - lo → bt (wB &&& ((wB &&& wA) ^^^ mO 1)) (lo + k) = iB A B k := fun k hk => by
    rw [b_and, p_not _ (by omega), b_and, (hab.1 k hk).1, (hab.1 k hk).2]; unfold iB; cases A k <;> cases B k <;> rfl
  have cA : fb_ct (bt (wA &&& ((wB &&& wA) ^^^ mO 1))) 32 = fb_ct (iA A B) (hi + 1 - lo) := ct_off h32 bA (fun p p1 p2 => by rw [b_and, (hab.2 p p1 (by omega)).1]; rfl)
  have cB : fb_ct (bt (wB &&& ((wB &&& wA) ^^^ mO 1))) 32 = fb_ct (iB A B) (hi + 1 - lo) := ct_off h32 bB (fun p p1 p2 => by rw [b_and, (hab.2 p p1 (by omega)).2]; rfl)
  have hj := rab_J hab hhi
  have hs := i_sum A B (hi + 1 - lo)
  have hle := fb_ct_le (iU A B) (hi + 1 - lo)
  have hlt := iU_step hk hu
  unfold fX11_dealt
  rw [hp.2.2.1, hp.2.2.2, show (-1 : Int32) = mO 1 from rfl, p_nm, p_bnd, p_many, p_bnd, p_many, p_bnd, p_many, p_bnd, cU, cA, cB]
  by_cases c1 : fb_ct (iU A B) k < fb_ct (iA A B) (hi + 1 - lo)
  · rw [if_neg (by rw [p_le (by omega) (by omega)]; omega), rp_nth hp hlo hhi _ bA c1, p_bnd]
    unfold i0 dlt
    rw [if_neg (by rw [hu]; decide), if_pos c1]; rfl
  · have e82 : ∀ (hn : ¬ (fb_ct (iU A B) k = fb_ct (iA A B) (hi + 1 - lo) ∧ 0 < fb_ct (iJ A B) (hi + 1 - lo))), fX11_dealt_b82 (nI (fb_ct (iU A B) k)) (wB &&& wA) (nI (fb_ct (iU A B) (hi + 1 - lo))) (nI (fb_ct (iB A B) (hi + 1 - lo))) M = some (dlt lo (i0 A B (hi + 1 - lo) k)) := fun hn => by
      unfold fX11_dealt_b82
      rw [p_sub (by omega), hp.2.2.1, show (-1 : Int32) = mO 1 from rfl]
      by_cases c3 : fb_ct (iU A B) (hi + 1 - lo) ≤ fb_ct (iU A B) k + fb_ct (iB A B) (hi + 1 - lo)
      · rw [if_neg (by rw [p_lt (by omega) (by omega)]; omega), p_sub (by omega), rp_nth hp hlo hhi _ bB (by omega), p_bnd]
        unfold i0 dlt
        rw [if_neg (by rw [hu]; decide), if_neg c1, if_neg hn, if_pos c3]
        show some (nI _) = some (nI _)
        congr 4; omega
      · rw [if_pos (by rw [p_lt (by omega) (by omega)]; omega)]
        unfold i0 dlt
        rw [if_neg (by rw [hu]; decide), if_neg c1, if_neg hn, if_neg c3]
    rw [if_pos (by rw [p_le (by omega) (by omega)]; omega)]
    by_cases c2 : fb_ct (iU A B) k = fb_ct (iA A B) (hi + 1 - lo)
    · rw [if_pos (by rw [p_eq (by omega) (by omega)]; exact c2)]
      by_cases c4 : 0 < fb_ct (iJ A B) (hi + 1 - lo)
      · rw [if_neg (by rw [show (0 : Int32) = nI 0 from rfl, hj]; exact fun z => z c4)]
        unfold i0 dlt
        rw [if_neg (by rw [hu]; decide), if_neg c1, if_pos ⟨c2, c4⟩]; rfl
      · rw [if_pos (by rw [show (0 : Int32) = nI 0 from rfl, hj]; exact c4)]
        exact e82 (fun z => c4 z.2)
    · rw [if_neg (by rw [p_eq (by omega) (by omega)]; exact c2)]
      exact e82 (fun z => c2 z.1)
theorem rfI_no {x : Option Nat} (hx : ∀ k, x = some k → lo + k < 24) : ¬ rfI lo x = mO 1 := by
  cases x with
  | none => show ¬ mO 2 = mO 1; rw [p_mO_inj (by omega) (by omega)]; decide
  | some k =>
    have := hx k rfl
    show ¬ nI (lo + k) = mO 1
    rw [p_eq_mO (by omega) (by omega) (by omega)]; exact id
theorem rp_deals (h : PW M l) (hp : RQ M lo hi wB wA) (hab : RAB lo hi wB wA A B) (hlo : lo ≤ hi + 1) (hhi : hi < 24) (hl : l.length = 0) :
    ∃ M', fX11_deals M = some M' ∧ gFr Dpw M M' ∧ PW M' (l ++ ((List.range (hi + 1 - lo)).filterMap (i0 A B (hi + 1 - lo))).map (rfI lo)) := by
  generalize hlen : hi + 1 - lo = len
  have hs := i_sum A B len
  have hle := fb_ct_le (iU A B) len
  obtain ⟨q, e1, F, R⟩ : ∃ q, gLoop (fun z9 => fX11_deals_l7 z9.1 z9.2.1 z9.2.2) gFu ((0 : Int32), nI lo, M) = some q ∧ gFr Dpw M q ∧ PW q (l ++ ((List.range len).filterMap (i0 A B len)).map (rfI lo)) := by
    refine gLoop_i (fun k s => ∃ M', s = (nI (fb_ct (iU A B) k), nI (lo + k), M') ∧ gFr Dpw M M' ∧ PW M' (l ++ ((List.range k).filterMap (i0 A B len)).map (rfI lo))) _ len ⟨M, rfl, gFr_rf, by simpa using h⟩ (by show len < 4096; omega) ?_
    rintro k s hk ⟨M', rfl, hF, hR⟩
    have hp' := RQ_fr hp hF
    have hkU := fb_ct_mono (iU A B) hk
    rcases Nat.lt_or_ge k len with q | q
    · obtain ⟨x1, x2⟩ := hab.1 k (by omega)
      have hbU : bt (wB ||| wA) (lo + k) = iU A B k := by rw [b_or, x1, x2, Bool.or_comm]; rfl
      have hfl := flen (f := i0 A B len) k
      have hln : (l ++ ((List.range k).filterMap (i0 A B len)).map (rfI lo)).length < 24 := by rw [List.length_append, List.length_map]; omega
      have hR' : ∀ M2 y, i0 A B len k = some y → PW M2 (l ++ ((List.range k).filterMap (i0 A B len)).map (rfI lo) ++ [rfI lo y]) → PW M2 (l ++ ((List.range (k + 1)).filterMap (i0 A B len)).map (rfI lo)) := fun M2 y hy h2 => by
        rw [fmap_succ (mb := fun _ => 0) (wJ := 0), hy, List.map_append, ← List.append_assoc]; exact h2
      cases hu : iU A B k
      · rw [hu] at hbU
        obtain ⟨M2, e2, F2, R2⟩ := rp_adds hR hln (nI (lo + k))
        have hc : fb_ct (iU A B) (k + 1) = fb_ct (iU A B) k := by rw [fb_ct_succ, hu]; rfl
        refine Or.inl ⟨(nI (fb_ct (iU A B) (k + 1)), nI (lo + (k + 1)), M2), ?_, q, M2, rfl, gFr_tr hF F2, hR' M2 (some k) (by unfold i0; rw [if_pos hu]) R2⟩
        rw [hc]
        simp (disch := omega) only [p_bnd, p_nm, p_gSEl, p_gSEr, p_l0, p_l1, p_l2, p_l3, p_l4, p_l5, p_l6, p_l7, p_l8, p_l9, p_l10, p_l14, p_l16, p_l20, p_l22, p_l24, p_l30, p_l31, p_l32, p_l38, p_l40, p_l41, p_l43, p_l48, p_l57, p_l59, p_l60, p_l61, p_l62, p_l63, p_l97, p_l98, p_l101, p_l122, p_l158, p_l201, p_l255, p_l256, p_l374, p_l880, p_l900, p_l1000, p_l2618, p_neg, nI_add, p_mul, p_sub, p_addm, p_addm0, p_subm, p_le, p_lt, p_eq, p_mO_eq, p_eq_mO, p_mO_lt, p_nlt_mO, p_mO_le, p_le_mO, p_rI, p_rL, p_wI, p_wL, p_wF, p_has10, p_has11, p_ib0, p_ib1, p_shl1, p_zv0, p_zv1, p_zvib, p_ibd, p_ibn, if_pos, if_neg, if_true, if_false, ne_eq, not_true, not_false_iff, Decidable.not_not, Nat.not_lt, Nat.not_le, Bool.true_eq_false, Bool.false_eq_true, eq_self, reduceIte, Nat.reduceAdd, Nat.reduceMul, Nat.reduceSub, Nat.reduceEqDiff, Nat.reduceLT, Nat.reduceLeDiff, reduceCtorEq, fX11_deals_l7, fX11_deals_b58, hp'.2.1, hp'.2.2.1, hp'.2.2.2, hbU, e2, Nat.add_assoc]
      · rw [hu] at hbU
        have hc : fb_ct (iU A B) (k + 1) = fb_ct (iU A B) k + 1 := by rw [fb_ct_succ, hu]; rfl
        have hd := rp_dealt hp' hab hlo hhi (k := k) (by omega) hu
        rw [hlen] at hd
        cases hi0 : i0 A B len k with
        | none =>
          rw [hi0] at hd
          refine Or.inl ⟨(nI (fb_ct (iU A B) (k + 1)), nI (lo + (k + 1)), M'), ?_, q, M', rfl, hF, ?_⟩
          · rw [hc]
            simp (disch := omega) only [p_bnd, p_nm, p_gSEl, p_gSEr, p_l0, p_l1, p_l2, p_l3, p_l4, p_l5, p_l6, p_l7, p_l8, p_l9, p_l10, p_l14, p_l16, p_l20, p_l22, p_l24, p_l30, p_l31, p_l32, p_l38, p_l40, p_l41, p_l43, p_l48, p_l57, p_l59, p_l60, p_l61, p_l62, p_l63, p_l97, p_l98, p_l101, p_l122, p_l158, p_l201, p_l255, p_l256, p_l374, p_l880, p_l900, p_l1000, p_l2618, p_neg, nI_add, p_mul, p_sub, p_addm, p_addm0, p_subm, p_le, p_lt, p_eq, p_mO_eq, p_eq_mO, p_mO_lt, p_nlt_mO, p_mO_le, p_le_mO, p_rI, p_rL, p_wI, p_wL, p_wF, p_has10, p_has11, p_ib0, p_ib1, p_shl1, p_zv0, p_zv1, p_zvib, p_ibd, p_ibn, if_pos, if_neg, if_true, if_false, ne_eq, not_true, not_false_iff, Decidable.not_not, Nat.not_lt, Nat.not_le, Bool.true_eq_false, Bool.false_eq_true, eq_self, reduceIte, Nat.reduceAdd, Nat.reduceMul, Nat.reduceSub, Nat.reduceEqDiff, Nat.reduceLT, Nat.reduceLeDiff, reduceCtorEq, fX11_deals_l7, fX11_deals_b58, hp'.2.1, hp'.2.2.1, hp'.2.2.2, hbU, hd, dlt, Nat.add_assoc]
          · rw [fmap_succ (mb := fun _ => 0) (wJ := 0), hi0]; simpa using hR
        | some y =>
          rw [hi0] at hd
          obtain ⟨M2, e2, F2, R2⟩ := rp_adds hR hln (rfI lo y)
          have hy : ¬ rfI lo y = mO 1 := rfI_no fun j hj => by
            subst hj
            have : some j ∈ itL A B len 0 := by
              unfold itL; rw [if_pos rfl]; exact List.mem_filterMap.mpr ⟨k, List.mem_range.mpr q, hi0⟩
            have := (mem_itL_some.mp this).1
            omega
          refine Or.inl ⟨(nI (fb_ct (iU A B) (k + 1)), nI (lo + (k + 1)), M2), ?_, q, M2, rfl, gFr_tr hF F2, hR' M2 y hi0 R2⟩
          rw [hc]
          simp (disch := omega) only [p_bnd, p_nm, p_gSEl, p_gSEr, p_l0, p_l1, p_l2, p_l3, p_l4, p_l5, p_l6, p_l7, p_l8, p_l9, p_l10, p_l14, p_l16, p_l20, p_l22, p_l24, p_l30, p_l31, p_l32, p_l38, p_l40, p_l41, p_l43, p_l48, p_l57, p_l59, p_l60, p_l61, p_l62, p_l63, p_l97, p_l98, p_l101, p_l122, p_l158, p_l201, p_l255, p_l256, p_l374, p_l880, p_l900, p_l1000, p_l2618, p_neg, nI_add, p_mul, p_sub, p_addm, p_addm0, p_subm, p_le, p_lt, p_eq, p_mO_eq, p_eq_mO, p_mO_lt, p_nlt_mO, p_mO_le, p_le_mO, p_rI, p_rL, p_wI, p_wL, p_wF, p_has10, p_has11, p_ib0, p_ib1, p_shl1, p_zv0, p_zv1, p_zvib, p_ibd, p_ibn, if_pos, if_neg, if_true, if_false, ne_eq, not_true, not_false_iff, Decidable.not_not, Nat.not_lt, Nat.not_le, Bool.true_eq_false, Bool.false_eq_true, eq_self, reduceIte, Nat.reduceAdd, Nat.reduceMul, Nat.reduceSub, Nat.reduceEqDiff, Nat.reduceLT, Nat.reduceLeDiff, reduceCtorEq, fX11_deals_l7, fX11_deals_b58, hp'.2.1, hp'.2.2.1, hp'.2.2.2, hbU, hd, dlt, e2, Nat.add_assoc]
    · refine Or.inr ⟨M', by simp (disch := omega) only [p_bnd, p_nm, p_gSEl, p_gSEr, p_l0, p_l1, p_l2, p_l3, p_l4, p_l5, p_l6, p_l7, p_l8, p_l9, p_l10, p_l14, p_l16, p_l20, p_l22, p_l24, p_l30, p_l31, p_l32, p_l38, p_l40, p_l41, p_l43, p_l48, p_l57, p_l59, p_l60, p_l61, p_l62, p_l63, p_l97, p_l98, p_l101, p_l122, p_l158, p_l201, p_l255, p_l256, p_l374, p_l880, p_l900, p_l1000, p_l2618, p_neg, nI_add, p_mul, p_sub, p_addm, p_addm0, p_subm, p_le, p_lt, p_eq, p_mO_eq, p_eq_mO, p_mO_lt, p_nlt_mO, p_mO_le, p_le_mO, p_rI, p_rL, p_wI, p_wL, p_wF, p_has10, p_has11, p_ib0, p_ib1, p_shl1, p_zv0, p_zv1, p_zvib, p_ibd, p_ibn, if_pos, if_neg, if_true, if_false, ne_eq, not_true, not_false_iff, Decidable.not_not, Nat.not_lt, Nat.not_le, Bool.true_eq_false, Bool.false_eq_true, eq_self, reduceIte, Nat.reduceAdd, Nat.reduceMul, Nat.reduceSub, Nat.reduceEqDiff, Nat.reduceLT, Nat.reduceLeDiff, reduceCtorEq, fX11_deals_l7, hp'.2.1], hF, ?_⟩
      have e9 : k = len := by omega
      rw [e9] at hR; exact hR
  refine ⟨q, ?_, F, R⟩
  unfold fX11_deals
  rw [hp.1, p_nm, p_bnd, e1, p_bnd]
end RPT
