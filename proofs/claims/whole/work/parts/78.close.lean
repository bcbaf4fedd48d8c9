/-! THE CLASS closes a relation: closeWithout -/
section CC
variable {M : gMem} {t c n : Nat} {E : Nat → Nat → Prop}
theorem cc_1 (x1 : Int32) (h0 : M.1 t 9 = nI n) (hn : n ≤ 24) (hc : c ≠ t) (hc5 : c ≠ t + 5) (hE : ∀ u, u < n → ∀ v, v < 32 → (bt (M.1 (t + 5) u) v = true ↔ E u v)) :
    ∃ r, gLoop (fun z9 => fX2_closeWithout_l2 t c x1 z9.1 z9.2) gFu ((0 : Int32), M) = some r ∧ gFr (fun d _ => d = c) M r ∧ ∀ u, u < n → ∀ v, v < 32 → (bt (r.1 c u) v = true ↔ u = v ∨ E u v) := by
  refine gLoop_i (fun k s => ∃ M', s = (nI k, M') ∧ gFr (fun d _ => d = c) M M' ∧ ∀ u, u < k → ∀ v, v < 32 → (bt (M'.1 c u) v = true ↔ u = v ∨ E u v)) _ n ⟨M, rfl, gFr_rf, fun u hu => absurd hu (Nat.not_lt_zero u)⟩ (by show n < 4096; omega) ?_
  rintro k s hk ⟨M', rfl, hF, hI⟩
  have ht : M'.1 t = M.1 t := gFr_c1 hF (fun _ => by omega)
  have h5 : M'.1 (t + 5) = M.1 (t + 5) := gFr_c1 hF (fun _ => by omega)
  rcases Nat.lt_or_ge k n with q | q
  · refine Or.inl ⟨(nI (k + 1), gI M' c k (M.1 (t + 5) k ||| sb k)), ?_, q, _, rfl, gFr_trI hF rfl, fun u hu v hv => ?_⟩
    · simp (disch := omega) only [p_bnd, p_nm, p_gSEl, p_gSEr, p_l0, p_l1, p_l2, p_l3, p_l4, p_l5, p_l6, p_l7, p_l8, p_l9, p_l10, p_l14, p_l16, p_l20, p_l22, p_l24, p_l30, p_l31, p_l32, p_l38, p_l40, p_l41, p_l43, p_l48, p_l57, p_l59, p_l60, p_l61, p_l62, p_l63, p_l97, p_l98, p_l101, p_l122, p_l158, p_l201, p_l255, p_l256, p_l374, p_l880, p_l900, p_l1000, p_l2618, p_neg, nI_add, p_mul, p_sub, p_addm, p_addm0, p_subm, p_le, p_lt, p_eq, p_mO_eq, p_eq_mO, p_mO_lt, p_nlt_mO, p_mO_le, p_le_mO, p_rI, p_rL, p_wI, p_wL, p_wF, p_has10, p_has11, p_ib0, p_ib1, p_shl1, p_zv0, p_zv1, p_zvib, p_ibd, p_ibn, if_pos, if_neg, if_true, if_false, ne_eq, not_true, not_false_iff, Decidable.not_not, Nat.not_lt, Nat.not_le, Bool.true_eq_false, Bool.false_eq_true, eq_self, reduceIte, Nat.reduceAdd, Nat.reduceMul, Nat.reduceSub, Nat.reduceEqDiff, Nat.reduceLT, Nat.reduceLeDiff, reduceCtorEq, fX2_closeWithout_l2, ht, h5, h0]
    · rw [p_gI]
      by_cases e : u = k
      · subst e
        rw [if_pos ⟨rfl, rfl⟩, b_or, p_sb (by omega), Bool.or_eq_true, hE u q v hv, decide_eq_true_eq]
        exact ⟨fun z => z.elim Or.inr (fun y => Or.inl y.symm), fun z => z.elim (fun y => Or.inr y.symm) Or.inl⟩
      · rw [if_neg (fun z => e z.2)]; exact hI u (by omega) v hv
  · refine Or.inr ⟨M', ?_, hF, fun u hu => hI u (by omega)⟩
    simp (disch := omega) only [p_bnd, p_nm, p_gSEl, p_gSEr, p_l0, p_l1, p_l2, p_l3, p_l4, p_l5, p_l6, p_l7, p_l8, p_l9, p_l10, p_l14, p_l16, p_l20, p_l22, p_l24, p_l30, p_l31, p_l32, p_l38, p_l40, p_l41, p_l43, p_l48, p_l57, p_l59, p_l60, p_l61, p_l62, p_l63, p_l97, p_l98, p_l101, p_l122, p_l158, p_l201, p_l255, p_l256, p_l374, p_l880, p_l900, p_l1000, p_l2618, p_neg, nI_add, p_mul, p_sub, p_addm, p_addm0, p_subm, p_le, p_lt, p_eq, p_mO_eq, p_eq_mO, p_mO_lt, p_nlt_mO, p_mO_le, p_le_mO, p_rI, p_rL, p_wI, p_wL, p_wF, p_has10, p_has11, p_ib0, p_ib1, p_shl1, p_zv0, p_zv1, p_zvib, p_ibd, p_ibn, if_pos, if_neg, if_true, if_false, ne_eq, not_true, not_false_iff, Decidable.not_not, Nat.not_lt, Nat.not_le, Bool.true_eq_false, Bool.false_eq_true, eq_self, reduceIte, Nat.reduceAdd, Nat.reduceMul, Nat.reduceSub, Nat.reduceEqDiff, Nat.reduceLT, Nat.reduceLeDiff, reduceCtorEq, fX2_closeWithout_l2, ht, h0]
theorem cc_3 (h0 : M.1 t 9 = nI n) (hn : n ≤ 24) (hc : c ≠ t) {k : Nat} (hk : k < n) {r : Nat → Nat → Prop} (hr : ∀ u, u < n → ∀ v, v < 32 → (bt (M.1 c u) v = true ↔ r u v)) :
    ∃ q, gLoop (fun z9 => fX2_closeWithout_l73 t c (nI k) (M.1 c k) z9.1 z9.2) gFu ((0 : Int32), M) = some q ∧ gFr (fun d _ => d = c) M q ∧ ∀ u, u < n → ∀ v, v < 32 → (bt (q.1 c u) v = true ↔ gWk k r u v) := by
  refine gLoop_i (fun j s => ∃ M', s = (nI j, M') ∧ gFr (fun d _ => d = c) M M' ∧ (∀ u, u < n → ∀ v, v < 32 → (bt (M'.1 c u) v = true ↔ if u < j then gWk k r u v else r u v))) _ n ⟨M, rfl, gFr_rf, fun u hu v hv => by rw [if_neg (Nat.not_lt_zero u)]; exact hr u hu v hv⟩ (by show n < 4096; omega) ?_
  rintro j s hj ⟨M', rfl, hF, hI⟩
  have ht : M'.1 t = M.1 t := gFr_c1 hF (fun _ => by omega)
  rcases Nat.lt_or_ge j n with q | q
  · have hjr : ∀ v, v < 32 → (bt (M'.1 c j) v = true ↔ r j v) := by
      intro v hv
      rw [hI j q v hv, if_neg (Nat.lt_irrefl j)]
    cases hb : bt (M'.1 c j) k
    · refine Or.inl ⟨(nI (j + 1), M'), ?_, q, _, rfl, hF, ?_⟩
      · simp (disch := omega) only [p_bnd, p_nm, p_gSEl, p_gSEr, p_l0, p_l1, p_l2, p_l3, p_l4, p_l5, p_l6, p_l7, p_l8, p_l9, p_l10, p_l14, p_l16, p_l20, p_l22, p_l24, p_l30, p_l31, p_l32, p_l38, p_l40, p_l41, p_l43, p_l48, p_l57, p_l59, p_l60, p_l61, p_l62, p_l63, p_l97, p_l98, p_l101, p_l122, p_l158, p_l201, p_l255, p_l256, p_l374, p_l880, p_l900, p_l1000, p_l2618, p_neg, nI_add, p_mul, p_sub, p_addm, p_addm0, p_subm, p_le, p_lt, p_eq, p_mO_eq, p_eq_mO, p_mO_lt, p_nlt_mO, p_mO_le, p_le_mO, p_rI, p_rL, p_wI, p_wL, p_wF, p_has10, p_has11, p_ib0, p_ib1, p_shl1, p_zv0, p_zv1, p_zvib, p_ibd, p_ibn, if_pos, if_neg, if_true, if_false, ne_eq, not_true, not_false_iff, Decidable.not_not, Nat.not_lt, Nat.not_le, Bool.true_eq_false, Bool.false_eq_true, eq_self, reduceIte, Nat.reduceAdd, Nat.reduceMul, Nat.reduceSub, Nat.reduceEqDiff, Nat.reduceLT, Nat.reduceLeDiff, reduceCtorEq, fX2_closeWithout_l73, fX2_closeWithout_b102, ht, h0, hb]
      · intro u hu v hv
        by_cases e : u = j
        · rw [hI u hu v hv, e, if_neg (Nat.lt_irrefl j), if_pos (by omega)]
          exact ⟨Or.inl, fun z => z.elim id (fun y => absurd ((hjr k (by omega)).mpr y.1) (by rw [hb]; decide))⟩
        · rw [hI u hu v hv]
          by_cases e2 : u < j
          · rw [if_pos e2, if_pos (by omega)]
          · rw [if_neg e2, if_neg (by omega)]
    · refine Or.inl ⟨(nI (j + 1), gI M' c j (M'.1 c j ||| M.1 c k)), ?_, q, _, rfl, gFr_trI hF rfl, ?_⟩
      · simp (disch := omega) only [p_bnd, p_nm, p_gSEl, p_gSEr, p_l0, p_l1, p_l2, p_l3, p_l4, p_l5, p_l6, p_l7, p_l8, p_l9, p_l10, p_l14, p_l16, p_l20, p_l22, p_l24, p_l30, p_l31, p_l32, p_l38, p_l40, p_l41, p_l43, p_l48, p_l57, p_l59, p_l60, p_l61, p_l62, p_l63, p_l97, p_l98, p_l101, p_l122, p_l158, p_l201, p_l255, p_l256, p_l374, p_l880, p_l900, p_l1000, p_l2618, p_neg, nI_add, p_mul, p_sub, p_addm, p_addm0, p_subm, p_le, p_lt, p_eq, p_mO_eq, p_eq_mO, p_mO_lt, p_nlt_mO, p_mO_le, p_le_mO, p_rI, p_rL, p_wI, p_wL, p_wF, p_has10, p_has11, p_ib0, p_ib1, p_shl1, p_zv0, p_zv1, p_zvib, p_ibd, p_ibn, if_pos, if_neg, if_true, if_false, ne_eq, not_true, not_false_iff, Decidable.not_not, Nat.not_lt, Nat.not_le, Bool.true_eq_false, Bool.false_eq_true, eq_self, reduceIte, Nat.reduceAdd, Nat.reduceMul, Nat.reduceSub, Nat.reduceEqDiff, Nat.reduceLT, Nat.reduceLeDiff, reduceCtorEq, fX2_closeWithout_l73, fX2_closeWithout_b102, ht, h0, hb]
      · intro u hu v hv
        rw [p_gI]
        by_cases e : u = j
        · rw [if_pos ⟨rfl, e⟩, b_or, Bool.or_eq_true, hjr v hv, hr k hk v hv, e, if_pos (by omega)]
          exact ⟨fun z => z.elim Or.inl (fun y => Or.inr ⟨(hjr k (by omega)).mp hb, y⟩), fun z => z.elim Or.inl (fun y => Or.inr y.2)⟩
        · rw [if_neg (fun z => e z.2), hI u hu v hv]
          by_cases e2 : u < j
          · rw [if_pos e2, if_pos (by omega)]
          · rw [if_neg e2, if_neg (by omega)]
  · refine Or.inr ⟨M', ?_, hF, fun u hu v hv => ?_⟩
    · simp (disch := omega) only [p_bnd, p_nm, p_gSEl, p_gSEr, p_l0, p_l1, p_l2, p_l3, p_l4, p_l5, p_l6, p_l7, p_l8, p_l9, p_l10, p_l14, p_l16, p_l20, p_l22, p_l24, p_l30, p_l31, p_l32, p_l38, p_l40, p_l41, p_l43, p_l48, p_l57, p_l59, p_l60, p_l61, p_l62, p_l63, p_l97, p_l98, p_l101, p_l122, p_l158, p_l201, p_l255, p_l256, p_l374, p_l880, p_l900, p_l1000, p_l2618, p_neg, nI_add, p_mul, p_sub, p_addm, p_addm0, p_subm, p_le, p_lt, p_eq, p_mO_eq, p_eq_mO, p_mO_lt, p_nlt_mO, p_mO_le, p_le_mO, p_rI, p_rL, p_wI, p_wL, p_wF, p_has10, p_has11, p_ib0, p_ib1, p_shl1, p_zv0, p_zv1, p_zvib, p_ibd, p_ibn, if_pos, if_neg, if_true, if_false, ne_eq, not_true, not_false_iff, Decidable.not_not, Nat.not_lt, Nat.not_le, Bool.true_eq_false, Bool.false_eq_true, eq_self, reduceIte, Nat.reduceAdd, Nat.reduceMul, Nat.reduceSub, Nat.reduceEqDiff, Nat.reduceLT, Nat.reduceLeDiff, reduceCtorEq, fX2_closeWithout_l73, ht, h0]
    · rw [hI u hu v hv, if_pos (by omega)]
theorem cc_4 (h0 : M.1 t 9 = nI n) (hn : n ≤ 24) (hc : c ≠ t) (hEn : ∀ x y, E x y → y < n) (hr : ∀ u, u < n → ∀ v, v < 32 → (bt (M.1 c u) v = true ↔ u = v ∨ E u v)) :
    ∃ q, fX2_closeWithout_b55 t c M = some q ∧ gFr (fun d _ => d = c) M q ∧ ∀ u, u < n → ∀ v, v < 32 → (bt (q.1 c u) v = true ↔ gRc E u v) := by
  obtain ⟨q, e, F, I⟩ : ∃ q, gLoop (fun z9 => fX2_closeWithout_l57 t c z9.1 z9.2) gFu ((0 : Int32), M) = some q ∧ gFr (fun d _ => d = c) M q ∧ ∀ u, u < n → ∀ v, v < 32 → (bt (q.1 c u) v = true ↔ gWa (fun u v => u = v ∨ E u v) n u v) := by
    refine gLoop_i (fun k s => ∃ M', s = (nI k, M') ∧ gFr (fun d _ => d = c) M M' ∧ (∀ u, u < n → ∀ v, v < 32 → (bt (M'.1 c u) v = true ↔ gWa (fun u v => u = v ∨ E u v) k u v))) _ n ⟨M, rfl, gFr_rf, hr⟩ (by show n < 4096; omega) ?_
    rintro k s hk ⟨M', rfl, hF, hI⟩
    have ht : M'.1 t = M.1 t := gFr_c1 hF (fun _ => by omega)
    rcases Nat.lt_or_ge k n with q | q
    · obtain ⟨M2, e2, F2, I2⟩ := cc_3 (M := M') (t := t) (c := c) (n := n) (by rw [ht]; exact h0) hn hc q hI
      refine Or.inl ⟨(nI (k + 1), M2), ?_, q, _, rfl, gFr_tr hF F2, I2⟩
      simp (disch := omega) only [p_bnd, p_nm, p_gSEl, p_gSEr, p_l0, p_l1, p_l2, p_l3, p_l4, p_l5, p_l6, p_l7, p_l8, p_l9, p_l10, p_l14, p_l16, p_l20, p_l22, p_l24, p_l30, p_l31, p_l32, p_l38, p_l40, p_l41, p_l43, p_l48, p_l57, p_l59, p_l60, p_l61, p_l62, p_l63, p_l97, p_l98, p_l101, p_l122, p_l158, p_l201, p_l255, p_l256, p_l374, p_l880, p_l900, p_l1000, p_l2618, p_neg, nI_add, p_mul, p_sub, p_addm, p_addm0, p_subm, p_le, p_lt, p_eq, p_mO_eq, p_eq_mO, p_mO_lt, p_nlt_mO, p_mO_le, p_le_mO, p_rI, p_rL, p_wI, p_wL, p_wF, p_has10, p_has11, p_ib0, p_ib1, p_shl1, p_zv0, p_zv1, p_zvib, p_ibd, p_ibn, if_pos, if_neg, if_true, if_false, ne_eq, not_true, not_false_iff, Decidable.not_not, Nat.not_lt, Nat.not_le, Bool.true_eq_false, Bool.false_eq_true, eq_self, reduceIte, Nat.reduceAdd, Nat.reduceMul, Nat.reduceSub, Nat.reduceEqDiff, Nat.reduceLT, Nat.reduceLeDiff, reduceCtorEq, fX2_closeWithout_l57, ht, h0]
      rw [show (nI 0, M') = ((0 : Int32), M') from rfl, e2]; rfl
    · refine Or.inr ⟨M', ?_, hF, fun u hu v hv => ?_⟩
      · simp (disch := omega) only [p_bnd, p_nm, p_gSEl, p_gSEr, p_l0, p_l1, p_l2, p_l3, p_l4, p_l5, p_l6, p_l7, p_l8, p_l9, p_l10, p_l14, p_l16, p_l20, p_l22, p_l24, p_l30, p_l31, p_l32, p_l38, p_l40, p_l41, p_l43, p_l48, p_l57, p_l59, p_l60, p_l61, p_l62, p_l63, p_l97, p_l98, p_l101, p_l122, p_l158, p_l201, p_l255, p_l256, p_l374, p_l880, p_l900, p_l1000, p_l2618, p_neg, nI_add, p_mul, p_sub, p_addm, p_addm0, p_subm, p_le, p_lt, p_eq, p_mO_eq, p_eq_mO, p_mO_lt, p_nlt_mO, p_mO_le, p_le_mO, p_rI, p_rL, p_wI, p_wL, p_wF, p_has10, p_has11, p_ib0, p_ib1, p_shl1, p_zv0, p_zv1, p_zvib, p_ibd, p_ibn, if_pos, if_neg, if_true, if_false, ne_eq, not_true, not_false_iff, Decidable.not_not, Nat.not_lt, Nat.not_le, Bool.true_eq_false, Bool.false_eq_true, eq_self, reduceIte, Nat.reduceAdd, Nat.reduceMul, Nat.reduceSub, Nat.reduceEqDiff, Nat.reduceLT, Nat.reduceLeDiff, reduceCtorEq, fX2_closeWithout_l57, ht, h0]
      · rw [hI u hu v hv, show k = n by omega]
  refine ⟨q, ?_, F, fun u hu v hv => (I u hu v hv).trans (gWa_spec hEn (fun _ _ => Iff.rfl) u v)⟩
  unfold fX2_closeWithout_b55
  rw [e, p_bnd]
/-- all arrows -/
theorem cc_none (h0 : M.1 t 9 = nI n) (hn : n ≤ 24) (hc : c ≠ t) (hc5 : c ≠ t + 5) (hEn : ∀ x y, E x y → y < n) (hE : ∀ u, u < n → ∀ v, v < 32 → (bt (M.1 (t + 5) u) v = true ↔ E u v)) :
    ∃ q, fX2_closeWithout t (-1 : Int32) c M = some q ∧ gFr (fun d _ => d = c) M q ∧ ∀ u, u < n → ∀ v, v < 32 → (bt (q.1 c u) v = true ↔ gRc E u v) := by
  obtain ⟨M1, e1, F1, I1⟩ := cc_1 (-1 : Int32) h0 hn hc hc5 hE
  obtain ⟨M2, e2, F2, I2⟩ := cc_4 (M := M1) (by rw [gFr_c1 F1 (fun _ => by omega)]; exact h0) hn hc hEn I1
  refine ⟨M2, ?_, gFr_tr F1 F2, I2⟩
  unfold fX2_closeWithout
  rw [e1, p_bnd, if_pos rfl, e2]
/-- all arrows but one -/
theorem cc_but {a x y : Nat} (h0 : M.1 t 9 = nI n) (hn : n ≤ 24) (hc : c ≠ t) (hc3 : c ≠ t + 3) (hc4 : c ≠ t + 4) (hc5 : c ≠ t + 5) (ha : a < 60) (hx : M.1 (t + 3) a = nI x) (hy : M.1 (t + 4) a = nI y) (hxn : x < n) (hyn : y < n) (hxy : x ≠ y) (hEn : ∀ x y, E x y → y < n) (hE : ∀ u, u < n → ∀ v, v < 32 → (bt (M.1 (t + 5) u) v = true ↔ E u v)) :
    ∃ q, fX2_closeWithout t (nI a) c M = some q ∧ gFr (fun d _ => d = c) M q ∧ ∀ u, u < n → ∀ v, v < 32 → (bt (q.1 c u) v = true ↔ gRc (fun u v => E u v ∧ ¬ (u = x ∧ v = y)) u v) := by
  obtain ⟨M1, e1, F1, I1⟩ := cc_1 (nI a) h0 hn hc hc5 hE
  have k3 : M1.1 (t + 3) = M.1 (t + 3) := gFr_c1 F1 (fun _ => by omega)
  have k4 : M1.1 (t + 4) = M.1 (t + 4) := gFr_c1 F1 (fun _ => by omega)
  obtain ⟨M2, e2, F2, I2⟩ := cc_4 (M := gI M1 c x (M1.1 c x &&& (sb y ^^^ mO 1))) (t := t) (c := c) (n := n) (E := fun u v => E u v ∧ ¬ (u = x ∧ v = y)) (by rw [p_gI_o (show t ≠ c by omega), gFr_c1 F1 (fun _ => by omega)]; exact h0) hn hc (fun x y z => hEn x y z.1) (fun u hu v hv => by
    rw [p_gI]
    by_cases e : u = x
    · rw [if_pos ⟨rfl, e⟩, b_and, p_not _ hv, p_sb (by omega), Bool.and_eq_true, ← e, I1 u hu v hv, Bool.not_eq_true', decide_eq_false_iff_not]
      constructor
      · rintro ⟨z | z, z2⟩
        · exact Or.inl z
        · exact Or.inr ⟨z, fun w => z2 w.2⟩
      · rintro (z | ⟨z, z2⟩)
        · exact ⟨Or.inl z, fun w => hxy (by omega)⟩
        · exact ⟨Or.inr z, fun w => z2 ⟨rfl, w⟩⟩
    · rw [if_neg (fun z => e z.2), I1 u hu v hv]
      exact ⟨fun z => z.elim Or.inl (fun w => Or.inr ⟨w, fun q => e q.1⟩), fun z => z.elim Or.inl (fun w => Or.inr w.1)⟩)
  refine ⟨M2, ?_, gFr_tr (gFr_trI F1 rfl) F2, I2⟩
  unfold fX2_closeWithout
  rw [e1, p_bnd]
  simp (disch := omega) only [p_bnd, p_nm, p_gSEl, p_gSEr, p_l0, p_l1, p_l2, p_l3, p_l4, p_l5, p_l6, p_l7, p_l8, p_l9, p_l10, p_l14, p_l16, p_l20, p_l22, p_l24, p_l30, p_l31, p_l32, p_l38, p_l40, p_l41, p_l43, p_l48, p_l57, p_l59, p_l60, p_l61, p_l62, p_l63, p_l97, p_l98, p_l101, p_l122, p_l158, p_l201, p_l255, p_l256, p_l374, p_l880, p_l900, p_l1000, p_l2618, p_neg, nI_add, p_mul, p_sub, p_addm, p_addm0, p_subm, p_le, p_lt, p_eq, p_mO_eq, p_eq_mO, p_mO_lt, p_nlt_mO, p_mO_le, p_le_mO, p_rI, p_rL, p_wI, p_wL, p_wF, p_has10, p_has11, p_ib0, p_ib1, p_shl1, p_zv0, p_zv1, p_zvib, p_ibd, p_ibn, if_pos, if_neg, if_true, if_false, ne_eq, not_true, not_false_iff, Decidable.not_not, Nat.not_lt, Nat.not_le, Bool.true_eq_false, Bool.false_eq_true, eq_self, reduceIte, Nat.reduceAdd, Nat.reduceMul, Nat.reduceSub, Nat.reduceEqDiff, Nat.reduceLT, Nat.reduceLeDiff, reduceCtorEq, k3, k4, hx, hy, e2]
end CC
