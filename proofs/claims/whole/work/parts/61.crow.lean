/-! AN ARROW COMES: the class's row of groups -/
/-- the row at r holds these sets -/
def RW (M : gMem) (r : Nat) (l : List Int32) : Prop := M.1 r 1 = nI l.length ∧ ∀ k v, l[k]? = some v → M.1 (r + 1) k = v
def Drow (r : Nat) (c k : Nat) : Prop := (c = r ∧ k = 1) ∨ c = r + 1
theorem filter_len (f : Nat → Bool) : ∀ n, ((List.range n).filter f).length = fb_ct f n
  | 0 => rfl
  | n + 1 => by
    rw [List.range_succ, List.filter_append, List.length_append, filter_len f n, fb_ct_succ]
    cases h : f n <;> simp [h]
theorem ct_off {x : Int32} {lo len : Nat} {f : Nat → Bool} (h : lo + len ≤ 32) (hb : ∀ k, k < len → bt x (lo + k) = f k) (hz : ∀ p, p < 32 → (p < lo ∨ lo + len ≤ p) → bt x p = false) : fb_ct (bt x) 32 = fb_ct f len := by
  have e1 : fb_ct (bt x) 32 = fb_ct (bt x) (lo + len) + fb_ct (fun k => bt x (lo + len + k)) (32 - (lo + len)) := by
    rw [← fb_ct_split, Nat.add_sub_cancel' h]
  have e2 : fb_ct (fun k => bt x (lo + len + k)) (32 - (lo + len)) = 0 := fb_ct_zero.mpr (fun k hk => hz _ (by omega) (by omega))
  have e3 : fb_ct (bt x) lo = 0 := fb_ct_zero.mpr (fun k hk => hz _ (by omega) (Or.inl hk))
  rw [e1, e2, fb_ct_split, e3, Nat.zero_add, Nat.add_zero]
  exact fb_ct_cong hb
/-- how many stand behind the first d -/
theorem ct_from (f : Nat → Bool) (d : Nat) : ∀ n, fb_ct (fun k => f k && decide (d ≤ fb_ct f k)) n = fb_ct f n - d
  | 0 => by show 0 = 0 - d; omega
  | n + 1 => by
    rw [fb_ct_succ, fb_ct_succ, ct_from f d n]
    cases hf : f n
    · simp
    · by_cases h : d ≤ fb_ct f n
      · simp [h]; omega
      · simp [h]; omega
section CW
variable {M : gMem} {S : gS} {t r : Nat} {l : List Int32}
theorem RW_of {M' : gMem} (h : RW M r l) (e1 : M'.1 r 1 = M.1 r 1) (e2 : M'.1 (r + 1) = M.1 (r + 1)) : RW M' r l := by
  unfold RW; rw [e1, e2]; exact h
theorem cw_put (h : RW M r l) (hl : l.length < 24) (x : Int32) : ∃ M', fX7_put r x M = some M' ∧ gFr (Drow r) M M' ∧ RW M' r (l ++ [x]) := by
  obtain ⟨h1, h2⟩ := h
  refine ⟨gI (gI M (r + 1) l.length x) r 1 (nI (l.length + 1)), ?_, gFr_trI (gFr_I (Or.inr rfl)) (Or.inl ⟨rfl, rfl⟩), ?_, ?_⟩
  · have e : (gI M (r + 1) l.length x).1 r 1 = nI l.length := by rw [p_gI_n (Or.inl (by omega))]; exact h1
    simp (disch := omega) only [p_bnd, p_nm, p_gSEl, p_gSEr, p_l0, p_l1, p_l2, p_l3, p_l4, p_l5, p_l6, p_l7, p_l8, p_l9, p_l10, p_l14, p_l16, p_l20, p_l22, p_l24, p_l30, p_l31, p_l32, p_l38, p_l40, p_l41, p_l43, p_l48, p_l57, p_l59, p_l60, p_l61, p_l62, p_l63, p_l97, p_l98, p_l101, p_l122, p_l158, p_l201, p_l255, p_l256, p_l374, p_l880, p_l900, p_l1000, p_l2618, p_neg, nI_add, p_mul, p_sub, p_addm, p_addm0, p_subm, p_le, p_lt, p_eq, p_mO_eq, p_eq_mO, p_mO_lt, p_nlt_mO, p_mO_le, p_le_mO, p_rI, p_rL, p_wI, p_wL, p_wF, p_has10, p_has11, p_ib0, p_ib1, p_shl1, p_zv0, p_zv1, p_zvib, p_ibd, p_ibn, if_pos, if_neg, if_true, if_false, ne_eq, not_true, not_false_iff, Decidable.not_not, Nat.not_lt, Nat.not_le, Bool.true_eq_false, Bool.false_eq_true, eq_self, reduceIte, Nat.reduceAdd, Nat.reduceMul, Nat.reduceSub, Nat.reduceEqDiff, Nat.reduceLT, Nat.reduceLeDiff, reduceCtorEq, fX7_put, h1, e]
  · rw [p_gI_s, List.length_append]; rfl
  · intro k v hk
    rw [p_gI_n (Or.inl (by omega)), p_gI]
    rcases Nat.lt_or_ge k l.length with q | q
    · rw [List.getElem?_append_left q] at hk
      rw [if_neg (by omega)]
      exact h2 k v hk
    · rw [List.getElem?_append_right q] at hk
      have e : k = l.length := by
        have := (List.getElem?_eq_some_iff.mp hk).1
        simp at this; omega
      subst e
      rw [if_pos ⟨rfl, rfl⟩]
      simpa using hk
theorem cw_putPlaces {mb : Nat → Int32} (h : RW M r l) {f e : Nat} (hfe : f ≤ e) (he : e ≤ 24) (hl : l.length + (e - f) ≤ 24) (ht : t + 7 ≠ r ∧ t + 7 ≠ r + 1) (hmb : ∀ p, f ≤ p → p < e → M.1 (t + 7) p = mb p) :
    ∃ M', fX7_putPlaces r t (nI f) (nI e) M = some M' ∧ gFr (Drow r) M M' ∧ RW M' r (l ++ (List.range' f (e - f)).map mb) := by
  obtain ⟨q, e1, F, R⟩ : ∃ q, gLoop (fun z9 => fX7_putPlaces_l3 r t (nI e) z9.1 z9.2) gFu (nI f, M) = some q ∧ gFr (Drow r) M q ∧ RW q r (l ++ (List.range' f (e - f)).map mb) := by
    refine gLoop_i (fun k s => ∃ M', s = (nI (f + k), M') ∧ gFr (Drow r) M M' ∧ RW M' r (l ++ (List.range' f k).map mb)) _ (e - f) ⟨M, rfl, gFr_rf, by simpa using h⟩ (by show e - f < 4096; omega) ?_
    rintro k s hk ⟨M', rfl, hF, hR⟩
    rcases Nat.lt_or_ge k (e - f) with q | q
    · have em : M'.1 (t + 7) = M.1 (t + 7) := gFr_c1 hF (fun k z => by rcases z with ⟨z, -⟩ | z <;> omega)
      obtain ⟨M2, e2, F2, R2⟩ := cw_put hR (by simp; omega) (mb (f + k))
      refine Or.inl ⟨(nI (f + (k + 1)), M2), ?_, q, M2, rfl, gFr_tr hF F2, ?_⟩
      · simp (disch := omega) only [p_bnd, p_nm, p_gSEl, p_gSEr, p_l0, p_l1, p_l2, p_l3, p_l4, p_l5, p_l6, p_l7, p_l8, p_l9, p_l10, p_l14, p_l16, p_l20, p_l22, p_l24, p_l30, p_l31, p_l32, p_l38, p_l40, p_l41, p_l43, p_l48, p_l57, p_l59, p_l60, p_l61, p_l62, p_l63, p_l97, p_l98, p_l101, p_l122, p_l158, p_l201, p_l255, p_l256, p_l374, p_l880, p_l900, p_l1000, p_l2618, p_neg, nI_add, p_mul, p_sub, p_addm, p_addm0, p_subm, p_le, p_lt, p_eq, p_mO_eq, p_eq_mO, p_mO_lt, p_nlt_mO, p_mO_le, p_le_mO, p_rI, p_rL, p_wI, p_wL, p_wF, p_has10, p_has11, p_ib0, p_ib1, p_shl1, p_zv0, p_zv1, p_zvib, p_ibd, p_ibn, if_pos, if_neg, if_true, if_false, ne_eq, not_true, not_false_iff, Decidable.not_not, Nat.not_lt, Nat.not_le, Bool.true_eq_false, Bool.false_eq_true, eq_self, reduceIte, Nat.reduceAdd, Nat.reduceMul, Nat.reduceSub, Nat.reduceEqDiff, Nat.reduceLT, Nat.reduceLeDiff, reduceCtorEq, fX7_putPlaces_l3, em, hmb (f + k) (by omega) (by omega), e2, Nat.add_assoc]
      · rw [List.range'_concat, List.map_append, ← List.append_assoc]
        simpa using R2
    · refine Or.inr ⟨M', by simp (disch := omega) only [p_bnd, p_nm, p_gSEl, p_gSEr, p_l0, p_l1, p_l2, p_l3, p_l4, p_l5, p_l6, p_l7, p_l8, p_l9, p_l10, p_l14, p_l16, p_l20, p_l22, p_l24, p_l30, p_l31, p_l32, p_l38, p_l40, p_l41, p_l43, p_l48, p_l57, p_l59, p_l60, p_l61, p_l62, p_l63, p_l97, p_l98, p_l101, p_l122, p_l158, p_l201, p_l255, p_l256, p_l374, p_l880, p_l900, p_l1000, p_l2618, p_neg, nI_add, p_mul, p_sub, p_addm, p_addm0, p_subm, p_le, p_lt, p_eq, p_mO_eq, p_eq_mO, p_mO_lt, p_nlt_mO, p_mO_le, p_le_mO, p_rI, p_rL, p_wI, p_wL, p_wF, p_has10, p_has11, p_ib0, p_ib1, p_shl1, p_zv0, p_zv1, p_zvib, p_ibd, p_ibn, if_pos, if_neg, if_true, if_false, ne_eq, not_true, not_false_iff, Decidable.not_not, Nat.not_lt, Nat.not_le, Bool.true_eq_false, Bool.false_eq_true, eq_self, reduceIte, Nat.reduceAdd, Nat.reduceMul, Nat.reduceSub, Nat.reduceEqDiff, Nat.reduceLT, Nat.reduceLeDiff, reduceCtorEq, fX7_putPlaces_l3], hF, ?_⟩
      rw [show e - f = k by omega]; exact hR
  refine ⟨q, ?_, F, R⟩
  unfold fX7_putPlaces
  rw [e1, p_bnd]
theorem cw_putSome (h : RW M r l) (hl : l.length < 24) (x : Int32) : ∃ M', fX7_putSome r x M = some M' ∧ gFr (Drow r) M M' ∧ RW M' r (l ++ (if x = nI 0 then [] else [x])) := by
  by_cases c : x = nI 0
  · refine ⟨M, ?_, gFr_rf, by rw [if_pos c, List.append_nil]; exact h⟩
    unfold fX7_putSome
    exact if_pos c
  · obtain ⟨M', e, F, R⟩ := cw_put h hl x
    refine ⟨M', ?_, F, by rw [if_neg c]; exact R⟩
    unfold fX7_putSome
    refine (if_neg c).trans ?_
    rw [e, p_bnd]
/-- the class's repair, looked at: part, BEHIND, AHEAD, joined -/
def RP (M : gMem) (lo hi : Nat) (wB wA wJ : Int32) : Prop := M.1 41 1 = nI lo ∧ M.1 41 2 = nI hi ∧ M.1 41 3 = wB ∧ M.1 41 4 = wA ∧ M.1 41 5 = wJ
theorem RP_of {M' : gMem} {lo hi : Nat} {wB wA wJ : Int32} (h : RP M lo hi wB wA wJ) (e : M'.1 41 = M.1 41) : RP M' lo hi wB wA wJ := by
  unfold RP; rw [e]; exact h
theorem cw_putThose {mb : Nat → Int32} {lo hi : Nat} {wB wA wJ : Int32} (h : RW M 42 l) (hp : RP M lo hi wB wA wJ) (hlo : lo ≤ hi + 1) (hhi : hi < 24) (ht : t + 7 < 41) (hmb : ∀ p, lo ≤ p → p ≤ hi → M.1 (t + 7) p = mb p) (w : Int32) (hl : l.length + fb_ct (fun k => bt w (lo + k)) (hi + 1 - lo) ≤ 24) :
    ∃ M', fX6_putThose t w M = some M' ∧ gFr (Drow 42) M M' ∧ RW M' 42 (l ++ ((List.range (hi + 1 - lo)).filter (fun k => bt w (lo + k))).map (fun k => mb (lo + k))) := by
  obtain ⟨q, e1, F, R⟩ : ∃ q, gLoop (fun z9 => fX6_putThose_l5 t w z9.1 z9.2) gFu (nI lo, M) = some q ∧ gFr (Drow 42) M q ∧ RW q 42 (l ++ ((List.range (hi + 1 - lo)).filter (fun k => bt w (lo + k))).map (fun k => mb (lo + k))) := by
    refine gLoop_i (fun k s => ∃ M', s = (nI (lo + k), M') ∧ gFr (Drow 42) M M' ∧ RW M' 42 (l ++ ((List.range k).filter (fun k => bt w (lo + k))).map (fun k => mb (lo + k)))) _ (hi + 1 - lo) ⟨M, rfl, gFr_rf, by simpa using h⟩ (by show hi + 1 - lo < 4096; omega) ?_
    rintro k s hk ⟨M', rfl, hF, hR⟩
    have e41 : M'.1 41 = M.1 41 := gFr_c1 hF (fun k z => by rcases z with ⟨z, -⟩ | z <;> omega)
    have hp' := RP_of hp e41
    rcases Nat.lt_or_ge k (hi + 1 - lo) with q | q
    · have em : M'.1 (t + 7) = M.1 (t + 7) := gFr_c1 hF (fun k z => by rcases z with ⟨z, -⟩ | z <;> omega)
      cases hb : bt w (lo + k)
      · refine Or.inl ⟨(nI (lo + (k + 1)), M'), ?_, q, M', rfl, hF, ?_⟩
        · simp (disch := omega) only [p_bnd, p_nm, p_gSEl, p_gSEr, p_l0, p_l1, p_l2, p_l3, p_l4, p_l5, p_l6, p_l7, p_l8, p_l9, p_l10, p_l14, p_l16, p_l20, p_l22, p_l24, p_l30, p_l31, p_l32, p_l38, p_l40, p_l41, p_l43, p_l48, p_l57, p_l59, p_l60, p_l61, p_l62, p_l63, p_l97, p_l98, p_l101, p_l122, p_l158, p_l201, p_l255, p_l256, p_l374, p_l880, p_l900, p_l1000, p_l2618, p_neg, nI_add, p_mul, p_sub, p_addm, p_addm0, p_subm, p_le, p_lt, p_eq, p_mO_eq, p_eq_mO, p_mO_lt, p_nlt_mO, p_mO_le, p_le_mO, p_rI, p_rL, p_wI, p_wL, p_wF, p_has10, p_has11, p_ib0, p_ib1, p_shl1, p_zv0, p_zv1, p_zvib, p_ibd, p_ibn, if_pos, if_neg, if_true, if_false, ne_eq, not_true, not_false_iff, Decidable.not_not, Nat.not_lt, Nat.not_le, Bool.true_eq_false, Bool.false_eq_true, eq_self, reduceIte, Nat.reduceAdd, Nat.reduceMul, Nat.reduceSub, Nat.reduceEqDiff, Nat.reduceLT, Nat.reduceLeDiff, reduceCtorEq, fX6_putThose_l5, fX6_putThose_b34, hp'.2.1, hb, Nat.add_assoc]
        · rw [List.range_succ, List.filter_append]
          simpa [hb] using hR
      · have hm := fb_ct_mono (fun k => bt w (lo + k)) (show k + 1 ≤ hi + 1 - lo from q)
        rw [fb_ct_succ, hb] at hm
        simp at hm
        obtain ⟨M2, e2, F2, R2⟩ := cw_put hR (by rw [List.length_append, List.length_map, filter_len]; omega) (mb (lo + k))
        refine Or.inl ⟨(nI (lo + (k + 1)), M2), ?_, q, M2, rfl, gFr_tr hF F2, ?_⟩
        · simp (disch := omega) only [p_bnd, p_nm, p_gSEl, p_gSEr, p_l0, p_l1, p_l2, p_l3, p_l4, p_l5, p_l6, p_l7, p_l8, p_l9, p_l10, p_l14, p_l16, p_l20, p_l22, p_l24, p_l30, p_l31, p_l32, p_l38, p_l40, p_l41, p_l43, p_l48, p_l57, p_l59, p_l60, p_l61, p_l62, p_l63, p_l97, p_l98, p_l101, p_l122, p_l158, p_l201, p_l255, p_l256, p_l374, p_l880, p_l900, p_l1000, p_l2618, p_neg, nI_add, p_mul, p_sub, p_addm, p_addm0, p_subm, p_le, p_lt, p_eq, p_mO_eq, p_eq_mO, p_mO_lt, p_nlt_mO, p_mO_le, p_le_mO, p_rI, p_rL, p_wI, p_wL, p_wF, p_has10, p_has11, p_ib0, p_ib1, p_shl1, p_zv0, p_zv1, p_zvib, p_ibd, p_ibn, if_pos, if_neg, if_true, if_false, ne_eq, not_true, not_false_iff, Decidable.not_not, Nat.not_lt, Nat.not_le, Bool.true_eq_false, Bool.false_eq_true, eq_self, reduceIte, Nat.reduceAdd, Nat.reduceMul, Nat.reduceSub, Nat.reduceEqDiff, Nat.reduceLT, Nat.reduceLeDiff, reduceCtorEq, fX6_putThose_l5, fX6_putThose_b34, hp'.2.1, hb, em, hmb (lo + k) (by omega) (by omega), e2, Nat.add_assoc]
        · rw [List.range_succ, List.filter_append, List.map_append, ← List.append_assoc]
          simpa [hb] using R2
    · refine Or.inr ⟨M', by simp (disch := omega) only [p_bnd, p_nm, p_gSEl, p_gSEr, p_l0, p_l1, p_l2, p_l3, p_l4, p_l5, p_l6, p_l7, p_l8, p_l9, p_l10, p_l14, p_l16, p_l20, p_l22, p_l24, p_l30, p_l31, p_l32, p_l38, p_l40, p_l41, p_l43, p_l48, p_l57, p_l59, p_l60, p_l61, p_l62, p_l63, p_l97, p_l98, p_l101, p_l122, p_l158, p_l201, p_l255, p_l256, p_l374, p_l880, p_l900, p_l1000, p_l2618, p_neg, nI_add, p_mul, p_sub, p_addm, p_addm0, p_subm, p_le, p_lt, p_eq, p_mO_eq, p_eq_mO, p_mO_lt, p_nlt_mO, p_mO_le, p_le_mO, p_rI, p_rL, p_wI, p_wL, p_wF, p_has10, p_has11, p_ib0, p_ib1, p_shl1, p_zv0, p_zv1, p_zvib, p_ibd, p_ibn, if_pos, if_neg, if_true, if_false, ne_eq, not_true, not_false_iff, Decidable.not_not, Nat.not_lt, Nat.not_le, Bool.true_eq_false, Bool.false_eq_true, eq_self, reduceIte, Nat.reduceAdd, Nat.reduceMul, Nat.reduceSub, Nat.reduceEqDiff, Nat.reduceLT, Nat.reduceLeDiff, reduceCtorEq, fX6_putThose_l5, hp'.2.1], hF, ?_⟩
      rw [show hi + 1 - lo = k by omega]; exact hR
  refine ⟨q, ?_, F, R⟩
  unfold fX6_putThose
  rw [hp.1, p_nm, p_bnd, e1, p_bnd]
end CW
