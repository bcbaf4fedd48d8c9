/-! AN ARROW COMES: the class's survey -/
noncomputable def wJn (S : gS) (a b : Nat) : Int32 := mkS (fun v => decide (v < sN S) && (bt (wBh S a b) (sPl S v) && bt (wAh S a b) (sPl S v)))
section SV
variable {M : gMem} {S : gS} {t : Nat}
theorem CS_of {M' : gMem} (h : CS M t S) (e : ∀ j, j < 10 → M'.1 (t + j) = M.1 (t + j) ∧ M'.2.1 (t + j) = M.2.1 (t + j)) : CS M' t S := by
  have e0 := (e 0 (by omega)).1
  rw [Nat.add_zero] at e0
  unfold CS CR
  rw [e0, (e 1 (by omega)).2, (e 2 (by omega)).1, (e 3 (by omega)).1, (e 4 (by omega)).1, (e 5 (by omega)).1, (e 6 (by omega)).1, (e 7 (by omega)).1, (e 8 (by omega)).1, (e 9 (by omega)).2]
  exact h
theorem CS_fr {M' : gMem} {D : Nat → Nat → Prop} (h : CS M t S) (hF : gFr D M M') (hd : ∀ j k, j < 10 → ¬ D (t + j) k) : CS M' t S :=
  CS_of h fun j hj => ⟨gFr_c1 hF (fun k => hd j k hj), gFr_c2 hF (fun k => hd j k hj)⟩
theorem cs_reachedBy (h : CS M t S) {x : Nat} (hx : x < sN S) : fX2_reachedBy t (nI x) M = some (mkS (fun v => cB (v < sN S ∧ sR S v x))) := by
  have hn := h.2.1.1
  have h3 := cs_n h
  have e := gLoop_f (body := fun z9 => fX2_reachedBy_l4 t (nI x) M z9.1 z9.2) (fun k => (gSet (fun v => cB (sR S v x)) k, nI k)) (r := gSet (fun v => cB (sR S v x)) (sN S)) (sN S) gFu (by show sN S < 4096; omega) (fun k hk => by
    have hb : bt (M.1 (t + 6) k) x = cB (sR S k x) := cB_of (cs_rc h hk (by omega))
    cases hc : cB (sR S k x)
    · simp (disch := omega) only [p_bnd, p_nm, p_gSEl, p_gSEr, p_l0, p_l1, p_l2, p_l3, p_l4, p_l5, p_l6, p_l7, p_l8, p_l9, p_l10, p_l14, p_l16, p_l20, p_l22, p_l24, p_l30, p_l31, p_l32, p_l38, p_l40, p_l41, p_l43, p_l48, p_l57, p_l59, p_l60, p_l61, p_l62, p_l63, p_l97, p_l98, p_l101, p_l122, p_l158, p_l201, p_l255, p_l256, p_l374, p_l880, p_l900, p_l1000, p_l2618, p_neg, nI_add, p_mul, p_sub, p_addm, p_addm0, p_subm, p_le, p_lt, p_eq, p_mO_eq, p_eq_mO, p_mO_lt, p_nlt_mO, p_mO_le, p_le_mO, p_rI, p_rL, p_wI, p_wL, p_wF, p_has10, p_has11, p_ib0, p_ib1, p_shl1, p_zv0, p_zv1, p_zvib, p_ibd, p_ibn, if_pos, if_neg, if_true, if_false, ne_eq, not_true, not_false_iff, Decidable.not_not, Nat.not_lt, Nat.not_le, Bool.true_eq_false, Bool.false_eq_true, eq_self, reduceIte, Nat.reduceAdd, Nat.reduceMul, Nat.reduceSub, Nat.reduceEqDiff, Nat.reduceLT, Nat.reduceLeDiff, reduceCtorEq, fX2_reachedBy_l4, fX2_reachedBy_b31, h3, hb, hc, gSet]
      congr 3
      exact b_ext fun v _ => by rw [b_or, p_bt0, Bool.or_false]
    · simp (disch := omega) only [p_bnd, p_nm, p_gSEl, p_gSEr, p_l0, p_l1, p_l2, p_l3, p_l4, p_l5, p_l6, p_l7, p_l8, p_l9, p_l10, p_l14, p_l16, p_l20, p_l22, p_l24, p_l30, p_l31, p_l32, p_l38, p_l40, p_l41, p_l43, p_l48, p_l57, p_l59, p_l60, p_l61, p_l62, p_l63, p_l97, p_l98, p_l101, p_l122, p_l158, p_l201, p_l255, p_l256, p_l374, p_l880, p_l900, p_l1000, p_l2618, p_neg, nI_add, p_mul, p_sub, p_addm, p_addm0, p_subm, p_le, p_lt, p_eq, p_mO_eq, p_eq_mO, p_mO_lt, p_nlt_mO, p_mO_le, p_le_mO, p_rI, p_rL, p_wI, p_wL, p_wF, p_has10, p_has11, p_ib0, p_ib1, p_shl1, p_zv0, p_zv1, p_zvib, p_ibd, p_ibn, if_pos, if_neg, if_true, if_false, ne_eq, not_true, not_false_iff, Decidable.not_not, Nat.not_lt, Nat.not_le, Bool.true_eq_false, Bool.false_eq_true, eq_self, reduceIte, Nat.reduceAdd, Nat.reduceMul, Nat.reduceSub, Nat.reduceEqDiff, Nat.reduceLT, Nat.reduceLeDiff, reduceCtorEq, fX2_reachedBy_l4, fX2_reachedBy_b31, h3, hb, hc, gSet]) (by simp (disch := omega) only [p_bnd, p_nm, p_gSEl, p_gSEr, p_l0, p_l1, p_l2, p_l3, p_l4, p_l5, p_l6, p_l7, p_l8, p_l9, p_l10, p_l14, p_l16, p_l20, p_l22, p_l24, p_l30, p_l31, p_l32, p_l38, p_l40, p_l41, p_l43, p_l48, p_l57, p_l59, p_l60, p_l61, p_l62, p_l63, p_l97, p_l98, p_l101, p_l122, p_l158, p_l201, p_l255, p_l256, p_l374, p_l880, p_l900, p_l1000, p_l2618, p_neg, nI_add, p_mul, p_sub, p_addm, p_addm0, p_subm, p_le, p_lt, p_eq, p_mO_eq, p_eq_mO, p_mO_lt, p_nlt_mO, p_mO_le, p_le_mO, p_rI, p_rL, p_wI, p_wL, p_wF, p_has10, p_has11, p_ib0, p_ib1, p_shl1, p_zv0, p_zv1, p_zvib, p_ibd, p_ibn, if_pos, if_neg, if_true, if_false, ne_eq, not_true, not_false_iff, Decidable.not_not, Nat.not_lt, Nat.not_le, Bool.true_eq_false, Bool.false_eq_true, eq_self, reduceIte, Nat.reduceAdd, Nat.reduceMul, Nat.reduceSub, Nat.reduceEqDiff, Nat.reduceLT, Nat.reduceLeDiff, reduceCtorEq, fX2_reachedBy_l4, h3])
  show (gLoop (fun z9 => fX2_reachedBy_l4 t (nI x) M z9.1 z9.2) gFu ((fun k => (gSet (fun v => cB (sR S v x)) k, nI k)) 0)).bind _ = _
  rw [e, p_bnd, gSet_mkS (by omega)]
  congr 1
  refine mkS_cg fun v _ => cB_of ?_
  rw [Bool.and_eq_true, decide_eq_true_eq, cB_iff]
theorem p_and_z {x : Int32} {f : Nat → Bool} : (x &&& mkS f = nI 0) = ¬ ∃ v, v < 32 ∧ bt x v = true ∧ f v = true := by
  refine propext ?_
  rw [p_z]
  constructor
  · intro h ⟨v, hv, h1, h2⟩
    have := h v hv
    rw [b_and, mkS_bt hv, h1, h2] at this; cases this
  · intro h v hv
    rw [b_and, mkS_bt hv]
    cases h1 : bt x v
    · rfl
    · cases h2 : f v
      · rfl
      · exact absurd ⟨v, hv, h1, h2⟩ h
theorem sv_b (h : CS M t S) {b p : Nat} (hb : b < sN S) (hp : p < sG S) : (M.1 (t + 6) b &&& sMb S p = nI 0) = ¬ sR S b (sHd S p) := by
  have hn := h.2.1.1
  unfold sMb
  rw [p_and_z]
  refine propext (not_congr ?_)
  rw [← sR_hd h.2 hp]
  constructor
  · intro ⟨v, hv, h1, h2⟩
    obtain ⟨h3, h4⟩ := of_decide_eq_true h2
    exact ⟨v, h3, h4, (cs_rc h hb hv).mp h1⟩
  · intro ⟨v, h1, h2, h3⟩
    exact ⟨v, by omega, (cs_rc h hb (by omega)).mpr h3, decide_eq_true ⟨h1, h2⟩⟩
theorem sv_a (h : sW S) {a p : Nat} (hp : p < sG S) : (mkS (fun v => cB (v < sN S ∧ sR S v a)) &&& sMb S p = nI 0) = ¬ sR S (sHd S p) a := by
  have hn := h.1.1
  unfold sMb
  rw [p_and_z]
  refine propext (not_congr ?_)
  rw [← sR_hd' h hp]
  constructor
  · intro ⟨v, hv, h1, h2⟩
    obtain ⟨h3, h4⟩ := of_decide_eq_true h2
    rw [mkS_bt hv, cB_iff] at h1
    exact ⟨v, h3, h4, h1.2⟩
  · intro ⟨v, h1, h2, h3⟩
    exact ⟨v, by omega, by rw [mkS_bt (by omega), cB_iff]; exact ⟨h1, h3⟩, decide_eq_true ⟨h1, h2⟩⟩
/-- a part of BEHIND or AHEAD, and one place more -/
noncomputable def sPt (S : gS) (a b k : Nat) (P : Nat → Prop) : Int32 := mkS (fun p => cB (sPl S b ≤ p ∧ p ≤ sPl S a ∧ p < sPl S b + k ∧ P p))
theorem sPt_yes {a b k : Nat} {P : Nat → Prop} (hk : sPl S b + k < 32) (h1 : sPl S b + k ≤ sPl S a) (h : P (sPl S b + k)) : sPt S a b k P ||| sb (sPl S b + k) = sPt S a b (k + 1) P := by
  refine mkS_of fun v hv => ?_
  unfold sPt
  rw [b_or, mkS_bt hv, p_sb hk]
  refine cB_of ?_
  rw [Bool.or_eq_true, cB_iff, decide_eq_true_eq]
  constructor
  · rintro (⟨a1, a2, a3, a4⟩ | rfl)
    · exact ⟨a1, a2, by omega, a4⟩
    · exact ⟨by omega, h1, by omega, h⟩
  · rintro ⟨a1, a2, a3, a4⟩
    by_cases e : v = sPl S b + k
    · exact Or.inr e
    · exact Or.inl ⟨a1, a2, by omega, a4⟩
theorem sPt_no {a b k : Nat} {P : Nat → Prop} (h : ¬ P (sPl S b + k)) : sPt S a b k P = sPt S a b (k + 1) P := by
  refine mkS_cg fun v _ => cB_cg ⟨fun ⟨a1, a2, a3, a4⟩ => ⟨a1, a2, by omega, a4⟩, fun ⟨a1, a2, a3, a4⟩ => ?_⟩
  refine ⟨a1, a2, ?_, a4⟩
  rcases Nat.lt_or_ge v (sPl S b + k) with q | q
  · exact q
  · have : v = sPl S b + k := by omega
    subst this; exact absurd a4 h
theorem sPt_0 {a b : Nat} {P : Nat → Prop} : nI 0 = sPt S a b 0 P := mkS_of fun v _ => by rw [p_bt0]; symm; rw [cB_no]; omega
theorem sPt_bt {a b k p : Nat} {P : Nat → Prop} (hp : p < 32) : bt (sPt S a b k P) p = true ↔ sPl S b ≤ p ∧ p ≤ sPl S a ∧ p < sPl S b + k ∧ P p := by
  unfold sPt; rw [mkS_bt hp, cB_iff]
theorem sv_loop (h : CS M t S) (ht : t ≤ 21) {a b : Nat} (ha : a < sN S) (hb : b < sN S) (h1 : M.1 41 1 = nI (sPl S b)) (h2 : M.1 41 2 = nI (sPl S a)) (h3 : M.1 41 3 = nI 0) (h4 : M.1 41 4 = nI 0) (h5 : M.1 41 5 = nI 0) :
    ∃ r, gLoop (fun z9 => fX6_survey_l83 t (M.1 (t + 6) b) (mkS (fun v => cB (v < sN S ∧ sR S v a))) z9.1 z9.2) gFu (nI (sPl S b), M) = some r ∧ gFr (fun c k => c = 41 ∧ (k = 3 ∨ k = 4 ∨ k = 5)) M r ∧ r.1 41 3 = wBh S a b ∧ r.1 41 4 = wAh S a b ∧ r.1 41 5 = wJn S a b := by
  have hn := h.2.1.1
  have hg := h.2.1.2.2.1
  have pa := h.2.p ha
  have pb := h.2.p hb
  refine gLoop_i (fun k s => ∃ M', s = (nI (sPl S b + k), M') ∧ gFr (fun c k => c = 41 ∧ (k = 3 ∨ k = 4 ∨ k = 5)) M M' ∧ M'.1 41 3 = sPt S a b k (fun p => sR S b (sHd S p)) ∧ M'.1 41 4 = sPt S a b k (fun p => sR S (sHd S p) a) ∧ M'.1 41 5 = mkS (fun v => cB (v < sN S ∧ sPl S b ≤ sPl S v ∧ sPl S v ≤ sPl S a ∧ sPl S v < sPl S b + k ∧ sR S b (sHd S (sPl S v)) ∧ sR S (sHd S (sPl S v)) a))) _ (sPl S a + 1 - sPl S b) ⟨M, rfl, gFr_rf, h3.trans sPt_0, h4.trans sPt_0, ?_⟩ (by show sPl S a + 1 - sPl S b < 4096; omega) ?_
  · rw [h5]; exact mkS_of fun v _ => by rw [p_bt0]; symm; rw [cB_no]; omega
  rintro k s hk ⟨M', rfl, hF, I1, I2, I3⟩
  have hCS : CS M' t S := CS_fr h hF (fun j k hj z => by omega)
  have e2 : M'.1 41 2 = nI (sPl S a) := by rw [(hF 41 2 (by omega)).1]; exact h2
  have e6 : M'.1 (t + 6) = M.1 (t + 6) := gFr_c1 hF (fun k z => by omega)
  rcases Nat.lt_or_ge (sPl S a) (sPl S b + k) with q | q
  · refine Or.inr ⟨M', by simp (disch := omega) only [p_bnd, p_nm, p_gSEl, p_gSEr, p_l0, p_l1, p_l2, p_l3, p_l4, p_l5, p_l6, p_l7, p_l8, p_l9, p_l10, p_l14, p_l16, p_l20, p_l22, p_l24, p_l30, p_l31, p_l32, p_l38, p_l40, p_l41, p_l43, p_l48, p_l57, p_l59, p_l60, p_l61, p_l62, p_l63, p_l97, p_l98, p_l101, p_l122, p_l158, p_l201, p_l255, p_l256, p_l374, p_l880, p_l900, p_l1000, p_l2618, p_neg, nI_add, p_mul, p_sub, p_addm, p_addm0, p_subm, p_le, p_lt, p_eq, p_mO_eq, p_eq_mO, p_mO_lt, p_nlt_mO, p_mO_le, p_le_mO, p_rI, p_rL, p_wI, p_wL, p_wF, p_has10, p_has11, p_ib0, p_ib1, p_shl1, p_zv0, p_zv1, p_zvib, p_ibd, p_ibn, if_pos, if_neg, if_true, if_false, ne_eq, not_true, not_false_iff, Decidable.not_not, Nat.not_lt, Nat.not_le, Bool.true_eq_false, Bool.false_eq_true, eq_self, reduceIte, Nat.reduceAdd, Nat.reduceMul, Nat.reduceSub, Nat.reduceEqDiff, Nat.reduceLT, Nat.reduceLeDiff, reduceCtorEq, fX6_survey_l83, e2], hF, ?_, ?_, ?_⟩
    · rw [I1]; exact mkS_cg fun v _ => cB_cg ⟨fun ⟨a1, a2, _, a4⟩ => ⟨a1, a2, a4⟩, fun ⟨a1, a2, a4⟩ => ⟨a1, a2, by omega, a4⟩⟩
    · rw [I2]; exact mkS_cg fun v _ => cB_cg ⟨fun ⟨a1, a2, _, a4⟩ => ⟨a1, a2, a4⟩, fun ⟨a1, a2, a4⟩ => ⟨a1, a2, by omega, a4⟩⟩
    · rw [I3]
      unfold wJn
      refine mkS_cg fun v hv => (cB_of ?_).symm
      rw [Bool.and_eq_true, decide_eq_true_eq, Bool.and_eq_true]
      constructor
      · intro ⟨z1, z2, z3⟩
        have hp := h.2.p z1
        unfold wBh at z2
        unfold wAh at z3
        rw [mkS_bt (by omega), cB_iff] at z2 z3
        exact ⟨z1, z2.1, z2.2.1, by omega, z2.2.2, z3.2.2⟩
      · intro ⟨z1, z2, z3, _, z5, z6⟩
        have hp := h.2.p z1
        unfold wBh wAh
        rw [mkS_bt (by omega), mkS_bt (by omega), cB_iff, cB_iff]
        exact ⟨z1, ⟨z2, z3, z5⟩, z2, z3, z6⟩
  · have hp : sPl S b + k < sG S := by omega
    have hmb := cs_mb hCS hp
    -- BEHIND
    obtain ⟨M1, E1, F1, J1⟩ : ∃ M1, fX6_survey_l83 t (M.1 (t + 6) b) (mkS (fun v => cB (v < sN S ∧ sR S v a))) (nI (sPl S b + k)) M' = fX6_survey_b118 t (M.1 (t + 6) b) (mkS (fun v => cB (v < sN S ∧ sR S v a))) (nI (sPl S b + k)) M1 ∧ gFr (fun c k => c = 41 ∧ k = 3) M' M1 ∧ M1.1 41 3 = sPt S a b (k + 1) (fun p => sR S b (sHd S p)) := by
      by_cases c : sR S b (sHd S (sPl S b + k))
      · have c' : ¬ (M.1 (t + 6) b &&& sMb S (sPl S b + k) = nI 0) := by rw [← e6, sv_b hCS hb hp]; exact fun z => z c
        refine ⟨gI M' 41 3 (sPt S a b (k + 1) (fun p => sR S b (sHd S p))), ?_, gFr_I ⟨rfl, rfl⟩, p_gI_s _ _ _ _⟩
        simp (disch := omega) only [p_bnd, p_nm, p_gSEl, p_gSEr, p_l0, p_l1, p_l2, p_l3, p_l4, p_l5, p_l6, p_l7, p_l8, p_l9, p_l10, p_l14, p_l16, p_l20, p_l22, p_l24, p_l30, p_l31, p_l32, p_l38, p_l40, p_l41, p_l43, p_l48, p_l57, p_l59, p_l60, p_l61, p_l62, p_l63, p_l97, p_l98, p_l101, p_l122, p_l158, p_l201, p_l255, p_l256, p_l374, p_l880, p_l900, p_l1000, p_l2618, p_neg, nI_add, p_mul, p_sub, p_addm, p_addm0, p_subm, p_le, p_lt, p_eq, p_mO_eq, p_eq_mO, p_mO_lt, p_nlt_mO, p_mO_le, p_le_mO, p_rI, p_rL, p_wI, p_wL, p_wF, p_has10, p_has11, p_ib0, p_ib1, p_shl1, p_zv0, p_zv1, p_zvib, p_ibd, p_ibn, if_pos, if_neg, if_true, if_false, ne_eq, not_true, not_false_iff, Decidable.not_not, Nat.not_lt, Nat.not_le, Bool.true_eq_false, Bool.false_eq_true, eq_self, reduceIte, Nat.reduceAdd, Nat.reduceMul, Nat.reduceSub, Nat.reduceEqDiff, Nat.reduceLT, Nat.reduceLeDiff, reduceCtorEq, fX6_survey_l83, e2, hmb, if_neg c', I1, sPt_yes (P := fun p => sR S b (sHd S p)) (show sPl S b + k < 32 by omega) q c]
      · have c' : (M.1 (t + 6) b &&& sMb S (sPl S b + k) = nI 0) := by rw [← e6, sv_b hCS hb hp]; exact c
        refine ⟨M', ?_, gFr_rf, I1.trans (sPt_no c)⟩
        simp (disch := omega) only [p_bnd, p_nm, p_gSEl, p_gSEr, p_l0, p_l1, p_l2, p_l3, p_l4, p_l5, p_l6, p_l7, p_l8, p_l9, p_l10, p_l14, p_l16, p_l20, p_l22, p_l24, p_l30, p_l31, p_l32, p_l38, p_l40, p_l41, p_l43, p_l48, p_l57, p_l59, p_l60, p_l61, p_l62, p_l63, p_l97, p_l98, p_l101, p_l122, p_l158, p_l201, p_l255, p_l256, p_l374, p_l880, p_l900, p_l1000, p_l2618, p_neg, nI_add, p_mul, p_sub, p_addm, p_addm0, p_subm, p_le, p_lt, p_eq, p_mO_eq, p_eq_mO, p_mO_lt, p_nlt_mO, p_mO_le, p_le_mO, p_rI, p_rL, p_wI, p_wL, p_wF, p_has10, p_has11, p_ib0, p_ib1, p_shl1, p_zv0, p_zv1, p_zvib, p_ibd, p_ibn, if_pos, if_neg, if_true, if_false, ne_eq, not_true, not_false_iff, Decidable.not_not, Nat.not_lt, Nat.not_le, Bool.true_eq_false, Bool.false_eq_true, eq_self, reduceIte, Nat.reduceAdd, Nat.reduceMul, Nat.reduceSub, Nat.reduceEqDiff, Nat.reduceLT, Nat.reduceLeDiff, reduceCtorEq, fX6_survey_l83, e2, hmb]
        exact if_pos c'
    have hCS1 : CS M1 t S := CS_fr hCS F1 (fun j k hj z => by omega)
    have I2 : M1.1 41 4 = sPt S a b k (fun p => sR S (sHd S p) a) := by rw [(F1 41 4 (by omega)).1]; exact I2
    have I3 := ((F1 41 5 (by omega)).1).trans I3
    have hmb1 := cs_mb hCS1 hp
    -- AHEAD
    obtain ⟨M2, E2, F2, J2⟩ : ∃ M2, fX6_survey_b118 t (M.1 (t + 6) b) (mkS (fun v => cB (v < sN S ∧ sR S v a))) (nI (sPl S b + k)) M1 = fX6_survey_b144 t (M.1 (t + 6) b) (mkS (fun v => cB (v < sN S ∧ sR S v a))) (nI (sPl S b + k)) M2 ∧ gFr (fun c k => c = 41 ∧ k = 4) M1 M2 ∧ M2.1 41 4 = sPt S a b (k + 1) (fun p => sR S (sHd S p) a) := by
      by_cases c : sR S (sHd S (sPl S b + k)) a
      · have c' : ¬ (mkS (fun v => cB (v < sN S ∧ sR S v a)) &&& sMb S (sPl S b + k) = nI 0) := by rw [sv_a h.2 hp]; exact fun z => z c
        refine ⟨gI M1 41 4 (sPt S a b (k + 1) (fun p => sR S (sHd S p) a)), ?_, gFr_I ⟨rfl, rfl⟩, p_gI_s _ _ _ _⟩
        simp (disch := omega) only [p_bnd, p_nm, p_gSEl, p_gSEr, p_l0, p_l1, p_l2, p_l3, p_l4, p_l5, p_l6, p_l7, p_l8, p_l9, p_l10, p_l14, p_l16, p_l20, p_l22, p_l24, p_l30, p_l31, p_l32, p_l38, p_l40, p_l41, p_l43, p_l48, p_l57, p_l59, p_l60, p_l61, p_l62, p_l63, p_l97, p_l98, p_l101, p_l122, p_l158, p_l201, p_l255, p_l256, p_l374, p_l880, p_l900, p_l1000, p_l2618, p_neg, nI_add, p_mul, p_sub, p_addm, p_addm0, p_subm, p_le, p_lt, p_eq, p_mO_eq, p_eq_mO, p_mO_lt, p_nlt_mO, p_mO_le, p_le_mO, p_rI, p_rL, p_wI, p_wL, p_wF, p_has10, p_has11, p_ib0, p_ib1, p_shl1, p_zv0, p_zv1, p_zvib, p_ibd, p_ibn, if_pos, if_neg, if_true, if_false, ne_eq, not_true, not_false_iff, Decidable.not_not, Nat.not_lt, Nat.not_le, Bool.true_eq_false, Bool.false_eq_true, eq_self, reduceIte, Nat.reduceAdd, Nat.reduceMul, Nat.reduceSub, Nat.reduceEqDiff, Nat.reduceLT, Nat.reduceLeDiff, reduceCtorEq, fX6_survey_b118, hmb1, if_neg c', I2, sPt_yes (P := fun p => sR S (sHd S p) a) (show sPl S b + k < 32 by omega) q c]
      · have c' : (mkS (fun v => cB (v < sN S ∧ sR S v a)) &&& sMb S (sPl S b + k) = nI 0) := by rw [sv_a h.2 hp]; exact c
        refine ⟨M1, ?_, gFr_rf, I2.trans (sPt_no c)⟩
        simp (disch := omega) only [p_bnd, p_nm, p_gSEl, p_gSEr, p_l0, p_l1, p_l2, p_l3, p_l4, p_l5, p_l6, p_l7, p_l8, p_l9, p_l10, p_l14, p_l16, p_l20, p_l22, p_l24, p_l30, p_l31, p_l32, p_l38, p_l40, p_l41, p_l43, p_l48, p_l57, p_l59, p_l60, p_l61, p_l62, p_l63, p_l97, p_l98, p_l101, p_l122, p_l158, p_l201, p_l255, p_l256, p_l374, p_l880, p_l900, p_l1000, p_l2618, p_neg, nI_add, p_mul, p_sub, p_addm, p_addm0, p_subm, p_le, p_lt, p_eq, p_mO_eq, p_eq_mO, p_mO_lt, p_nlt_mO, p_mO_le, p_le_mO, p_rI, p_rL, p_wI, p_wL, p_wF, p_has10, p_has11, p_ib0, p_ib1, p_shl1, p_zv0, p_zv1, p_zvib, p_ibd, p_ibn, if_pos, if_neg, if_true, if_false, ne_eq, not_true, not_false_iff, Decidable.not_not, Nat.not_lt, Nat.not_le, Bool.true_eq_false, Bool.false_eq_true, eq_self, reduceIte, Nat.reduceAdd, Nat.reduceMul, Nat.reduceSub, Nat.reduceEqDiff, Nat.reduceLT, Nat.reduceLeDiff, reduceCtorEq, fX6_survey_b118, hmb1]
        exact if_pos c'
    have hCS2 : CS M2 t S := CS_fr hCS1 F2 (fun j k hj z => by omega)
    have J1 : M2.1 41 3 = sPt S a b (k + 1) (fun p => sR S b (sHd S p)) := by rw [(F2 41 3 (by omega)).1]; exact J1
    have I3 := ((F2 41 5 (by omega)).1).trans I3
    have hmb2 := cs_mb hCS2 hp
    have hb3 : bt (M2.1 41 3 &&& M2.1 41 4) (sPl S b + k) = cB (sR S b (sHd S (sPl S b + k)) ∧ sR S (sHd S (sPl S b + k)) a) := by
      refine cB_of ?_
      rw [b_and, Bool.and_eq_true, J1, J2, sPt_bt (by omega), sPt_bt (by omega)]
      exact ⟨fun ⟨z1, z2⟩ => ⟨z1.2.2.2, z2.2.2.2⟩, fun ⟨z1, z2⟩ => ⟨⟨by omega, q, by omega, z1⟩, by omega, q, by omega, z2⟩⟩
    -- the joined
    obtain ⟨M3, E3, F3, J3⟩ : ∃ M3, fX6_survey_b144 t (M.1 (t + 6) b) (mkS (fun v => cB (v < sN S ∧ sR S v a))) (nI (sPl S b + k)) M2 = some (.inl (nI (sPl S b + k) + nI 1, M3)) ∧ gFr (fun c k => c = 41 ∧ k = 5) M2 M3 ∧ M3.1 41 5 = mkS (fun v => cB (v < sN S ∧ sPl S b ≤ sPl S v ∧ sPl S v ≤ sPl S a ∧ sPl S v < sPl S b + (k + 1) ∧ sR S b (sHd S (sPl S v)) ∧ sR S (sHd S (sPl S v)) a)) := by
      by_cases c : sR S b (sHd S (sPl S b + k)) ∧ sR S (sHd S (sPl S b + k)) a
      · have c' : bt (M2.1 41 3 &&& M2.1 41 4) (sPl S b + k) = true := by rw [hb3, cB_iff]; exact c
        refine ⟨gI M2 41 5 (M2.1 41 5 ||| sMb S (sPl S b + k)), ?_, gFr_I ⟨rfl, rfl⟩, ?_⟩
        · simp (disch := omega) only [p_bnd, p_nm, p_gSEl, p_gSEr, p_l0, p_l1, p_l2, p_l3, p_l4, p_l5, p_l6, p_l7, p_l8, p_l9, p_l10, p_l14, p_l16, p_l20, p_l22, p_l24, p_l30, p_l31, p_l32, p_l38, p_l40, p_l41, p_l43, p_l48, p_l57, p_l59, p_l60, p_l61, p_l62, p_l63, p_l97, p_l98, p_l101, p_l122, p_l158, p_l201, p_l255, p_l256, p_l374, p_l880, p_l900, p_l1000, p_l2618, p_neg, nI_add, p_mul, p_sub, p_addm, p_addm0, p_subm, p_le, p_lt, p_eq, p_mO_eq, p_eq_mO, p_mO_lt, p_nlt_mO, p_mO_le, p_le_mO, p_rI, p_rL, p_wI, p_wL, p_wF, p_has10, p_has11, p_ib0, p_ib1, p_shl1, p_zv0, p_zv1, p_zvib, p_ibd, p_ibn, if_pos, if_neg, if_true, if_false, ne_eq, not_true, not_false_iff, Decidable.not_not, Nat.not_lt, Nat.not_le, Bool.true_eq_false, Bool.false_eq_true, eq_self, reduceIte, Nat.reduceAdd, Nat.reduceMul, Nat.reduceSub, Nat.reduceEqDiff, Nat.reduceLT, Nat.reduceLeDiff, reduceCtorEq, fX6_survey_b144, fX6_survey_b177, hmb2, c']
        · rw [p_gI_s, I3]
          refine mkS_of fun v hv => ?_
          rw [b_or, mkS_bt hv, sMb_bt hv]
          refine cB_of ?_
          rw [Bool.or_eq_true, cB_iff, decide_eq_true_eq]
          constructor
          · rintro (⟨z1, z2, z3, z4, z5⟩ | ⟨z1, z2⟩)
            · exact ⟨z1, z2, z3, by omega, z5⟩
            · exact ⟨z1, by omega, by omega, by omega, by rw [z2]; exact c⟩
          · rintro ⟨z1, z2, z3, z4, z5⟩
            by_cases e : sPl S v = sPl S b + k
            · exact Or.inr ⟨z1, e⟩
            · exact Or.inl ⟨z1, z2, z3, by omega, z5⟩
      · have c' : bt (M2.1 41 3 &&& M2.1 41 4) (sPl S b + k) = false := by rw [hb3, cB_no]; exact c
        refine ⟨M2, ?_, gFr_rf, ?_⟩
        · simp (disch := omega) only [p_bnd, p_nm, p_gSEl, p_gSEr, p_l0, p_l1, p_l2, p_l3, p_l4, p_l5, p_l6, p_l7, p_l8, p_l9, p_l10, p_l14, p_l16, p_l20, p_l22, p_l24, p_l30, p_l31, p_l32, p_l38, p_l40, p_l41, p_l43, p_l48, p_l57, p_l59, p_l60, p_l61, p_l62, p_l63, p_l97, p_l98, p_l101, p_l122, p_l158, p_l201, p_l255, p_l256, p_l374, p_l880, p_l900, p_l1000, p_l2618, p_neg, nI_add, p_mul, p_sub, p_addm, p_addm0, p_subm, p_le, p_lt, p_eq, p_mO_eq, p_eq_mO, p_mO_lt, p_nlt_mO, p_mO_le, p_le_mO, p_rI, p_rL, p_wI, p_wL, p_wF, p_has10, p_has11, p_ib0, p_ib1, p_shl1, p_zv0, p_zv1, p_zvib, p_ibd, p_ibn, if_pos, if_neg, if_true, if_false, ne_eq, not_true, not_false_iff, Decidable.not_not, Nat.not_lt, Nat.not_le, Bool.true_eq_false, Bool.false_eq_true, eq_self, reduceIte, Nat.reduceAdd, Nat.reduceMul, Nat.reduceSub, Nat.reduceEqDiff, Nat.reduceLT, Nat.reduceLeDiff, reduceCtorEq, fX6_survey_b144, fX6_survey_b177, c']
        · rw [I3]
          refine mkS_cg fun v _ => cB_cg ⟨fun ⟨z1, z2, z3, z4, z5⟩ => ⟨z1, z2, z3, by omega, z5⟩, fun ⟨z1, z2, z3, z4, z5⟩ => ⟨z1, z2, z3, ?_, z5⟩⟩
          rcases Nat.lt_or_ge (sPl S v) (sPl S b + k) with y | y
          · exact y
          · have : sPl S v = sPl S b + k := by omega
            rw [this] at z5; exact absurd z5 c
    refine Or.inl ⟨(nI (sPl S b + (k + 1)), M3), ?_, by omega, M3, rfl, gFr_tr hF (gFr_tr (gFr_mo F1 (fun c k z => by omega)) (gFr_tr (gFr_mo F2 (fun c k z => by omega)) (gFr_mo F3 (fun c k z => by omega)))), ?_, ?_, J3⟩
    · show fX6_survey_l83 t (M.1 (t + 6) b) (mkS (fun v => cB (v < sN S ∧ sR S v a))) (nI (sPl S b + k)) M' = _
      rw [E1, E2, E3, nI_add, Nat.add_assoc]
    · rw [(F3 41 3 (by omega)).1, J1]
    · rw [(F3 41 4 (by omega)).1, J2]
theorem cs_countLooked (h : CS M t S) (ht : t ≤ 21) {a b : Nat} (h3 : M.1 41 3 = wBh S a b) (h4 : M.1 41 4 = wAh S a b) (h6 : M.1 41 6 = nI 0) : ∃ r, fX6_countLooked t M = some r ∧ gFr (fun c k => c = 41 ∧ k = 6) M r ∧ r.1 41 6 = nI (sLk S a b) := by
  have hn := h.2.1.1
  have hm := h.2.1.2.1
  have hg := h.2.1.2.2.1
  obtain ⟨r, e, F, L⟩ : ∃ r, gLoop (fun z9 => fX6_countLooked_l2 t z9.1 z9.2) gFu ((0 : Int32), M) = some r ∧ gFr (fun c k => c = 41 ∧ k = 6) M r ∧ r.1 41 6 = nI (sLk S a b) := by
    refine gLoop_i (fun k s => ∃ M', s = (nI k, M') ∧ gFr (fun c k => c = 41 ∧ k = 6) M M' ∧ M'.1 41 6 = nI (fb_sm (fun i => lk1 S (wBh S a b) i + lk2 S (wAh S a b) i) k)) _ (sM S) ⟨M, rfl, gFr_rf, h6⟩ (by show sM S < 4096; omega) ?_
    rintro k s hk ⟨M', rfl, hF, I1⟩
    have hCS : CS M' t S := CS_fr h hF (fun j k hj z => by omega)
    have e3 : M'.1 41 3 = wBh S a b := by rw [(hF 41 3 (by omega)).1]; exact h3
    have e4 : M'.1 41 4 = wAh S a b := by rw [(hF 41 4 (by omega)).1]; exact h4
    have em := cs_m hCS
    rcases Nat.lt_or_ge k (sM S) with q | q
    · obtain ⟨b1, b2, b3, b4, -, -, -⟩ := sW_ar h.2 q
      have g5 : ∀ x, CS (gI M' 41 6 x) t S := fun x => CS_fr hCS (D := fun c k => c = 41) (gFr_I rfl) (fun j k hj z => by omega)
      have g3 : ∀ x, (gI M' 41 6 x).1 41 4 = M'.1 41 4 := fun x => p_gI_n (Or.inr (by decide))
      have g4 : ∀ x, (gI M' 41 6 x).1 41 6 = x := fun x => p_gI_s _ _ _ _
      have bB : sPl S (sFr S k) < 32 := by omega
      have bA : sPl S (sTo S k) < 32 := by omega
      cases hi : sIn S k
      · cases hB : bt (wBh S a b) (sPl S (sFr S k)) <;> cases hA : bt (wAh S a b) (sPl S (sTo S k))
        · refine Or.inl ⟨(nI (k + 1), M'), ?_, q, M', rfl, hF, by rw [I1, fb_sm_succ, lk1, lk2, hi, hB, hA]; rfl⟩
          simp (disch := omega) only [p_bnd, p_nm, p_gSEl, p_gSEr, p_l0, p_l1, p_l2, p_l3, p_l4, p_l5, p_l6, p_l7, p_l8, p_l9, p_l10, p_l14, p_l16, p_l20, p_l22, p_l24, p_l30, p_l31, p_l32, p_l38, p_l40, p_l41, p_l43, p_l48, p_l57, p_l59, p_l60, p_l61, p_l62, p_l63, p_l97, p_l98, p_l101, p_l122, p_l158, p_l201, p_l255, p_l256, p_l374, p_l880, p_l900, p_l1000, p_l2618, p_neg, nI_add, p_mul, p_sub, p_addm, p_addm0, p_subm, p_le, p_lt, p_eq, p_mO_eq, p_eq_mO, p_mO_lt, p_nlt_mO, p_mO_le, p_le_mO, p_rI, p_rL, p_wI, p_wL, p_wF, p_has10, p_has11, p_ib0, p_ib1, p_shl1, p_zv0, p_zv1, p_zvib, p_ibd, p_ibn, if_pos, if_neg, if_true, if_false, ne_eq, not_true, not_false_iff, Decidable.not_not, Nat.not_lt, Nat.not_le, Bool.true_eq_false, Bool.false_eq_true, eq_self, reduceIte, Nat.reduceAdd, Nat.reduceMul, Nat.reduceSub, Nat.reduceEqDiff, Nat.reduceLT, Nat.reduceLeDiff, reduceCtorEq, fX6_countLooked_l2, fX6_countLooked_b49, fX6_countLooked_b80, em, cs_isInner hCS q, hi, cs_fr hCS q, cs_to hCS q, cs_pl hCS b1, cs_pl hCS b2, e3, e4, hB, hA]
        · refine Or.inl ⟨(nI (k + 1), gI M' 41 6 (nI (fb_sm (fun i => lk1 S (wBh S a b) i + lk2 S (wAh S a b) i) (k + 1)))), ?_, q, _, rfl, gFr_trI hF ⟨rfl, rfl⟩, p_gI_s _ _ _ _⟩
          simp (disch := omega) only [p_bnd, p_nm, p_gSEl, p_gSEr, p_l0, p_l1, p_l2, p_l3, p_l4, p_l5, p_l6, p_l7, p_l8, p_l9, p_l10, p_l14, p_l16, p_l20, p_l22, p_l24, p_l30, p_l31, p_l32, p_l38, p_l40, p_l41, p_l43, p_l48, p_l57, p_l59, p_l60, p_l61, p_l62, p_l63, p_l97, p_l98, p_l101, p_l122, p_l158, p_l201, p_l255, p_l256, p_l374, p_l880, p_l900, p_l1000, p_l2618, p_neg, nI_add, p_mul, p_sub, p_addm, p_addm0, p_subm, p_le, p_lt, p_eq, p_mO_eq, p_eq_mO, p_mO_lt, p_nlt_mO, p_mO_le, p_le_mO, p_rI, p_rL, p_wI, p_wL, p_wF, p_has10, p_has11, p_ib0, p_ib1, p_shl1, p_zv0, p_zv1, p_zvib, p_ibd, p_ibn, if_pos, if_neg, if_true, if_false, ne_eq, not_true, not_false_iff, Decidable.not_not, Nat.not_lt, Nat.not_le, Bool.true_eq_false, Bool.false_eq_true, eq_self, reduceIte, Nat.reduceAdd, Nat.reduceMul, Nat.reduceSub, Nat.reduceEqDiff, Nat.reduceLT, Nat.reduceLeDiff, reduceCtorEq, fX6_countLooked_l2, fX6_countLooked_b49, fX6_countLooked_b80, em, cs_isInner hCS q, hi, cs_fr hCS q, cs_to hCS q, cs_pl hCS b1, cs_pl hCS b2, e3, e4, hB, hA, I1, fb_sm_succ, lk1, lk2, Bool.not_false, Bool.and_true, Bool.and_false, Bool.true_and, Nat.zero_add]
        · refine Or.inl ⟨(nI (k + 1), gI M' 41 6 (nI (fb_sm (fun i => lk1 S (wBh S a b) i + lk2 S (wAh S a b) i) (k + 1)))), ?_, q, _, rfl, gFr_trI hF ⟨rfl, rfl⟩, p_gI_s _ _ _ _⟩
          simp (disch := omega) only [p_bnd, p_nm, p_gSEl, p_gSEr, p_l0, p_l1, p_l2, p_l3, p_l4, p_l5, p_l6, p_l7, p_l8, p_l9, p_l10, p_l14, p_l16, p_l20, p_l22, p_l24, p_l30, p_l31, p_l32, p_l38, p_l40, p_l41, p_l43, p_l48, p_l57, p_l59, p_l60, p_l61, p_l62, p_l63, p_l97, p_l98, p_l101, p_l122, p_l158, p_l201, p_l255, p_l256, p_l374, p_l880, p_l900, p_l1000, p_l2618, p_neg, nI_add, p_mul, p_sub, p_addm, p_addm0, p_subm, p_le, p_lt, p_eq, p_mO_eq, p_eq_mO, p_mO_lt, p_nlt_mO, p_mO_le, p_le_mO, p_rI, p_rL, p_wI, p_wL, p_wF, p_has10, p_has11, p_ib0, p_ib1, p_shl1, p_zv0, p_zv1, p_zvib, p_ibd, p_ibn, if_pos, if_neg, if_true, if_false, ne_eq, not_true, not_false_iff, Decidable.not_not, Nat.not_lt, Nat.not_le, Bool.true_eq_false, Bool.false_eq_true, eq_self, reduceIte, Nat.reduceAdd, Nat.reduceMul, Nat.reduceSub, Nat.reduceEqDiff, Nat.reduceLT, Nat.reduceLeDiff, reduceCtorEq, fX6_countLooked_l2, fX6_countLooked_b49, fX6_countLooked_b80, em, cs_isInner hCS q, hi, cs_fr hCS q, cs_to hCS q, cs_pl hCS b1, cs_pl hCS b2, cs_to (g5 _) q, cs_pl (g5 _) b2, g3, e3, e4, hB, hA, I1, fb_sm_succ, lk1, lk2, Bool.not_false, Bool.and_true, Bool.and_false, Bool.true_and, Nat.add_zero]
        · refine Or.inl ⟨(nI (k + 1), gI (gI M' 41 6 (nI (fb_sm (fun i => lk1 S (wBh S a b) i + lk2 S (wAh S a b) i) k + 1))) 41 6 (nI (fb_sm (fun i => lk1 S (wBh S a b) i + lk2 S (wAh S a b) i) (k + 1)))), ?_, q, _, rfl, gFr_trI (gFr_trI hF ⟨rfl, rfl⟩) ⟨rfl, rfl⟩, p_gI_s _ _ _ _⟩
          simp (disch := omega) only [p_bnd, p_nm, p_gSEl, p_gSEr, p_l0, p_l1, p_l2, p_l3, p_l4, p_l5, p_l6, p_l7, p_l8, p_l9, p_l10, p_l14, p_l16, p_l20, p_l22, p_l24, p_l30, p_l31, p_l32, p_l38, p_l40, p_l41, p_l43, p_l48, p_l57, p_l59, p_l60, p_l61, p_l62, p_l63, p_l97, p_l98, p_l101, p_l122, p_l158, p_l201, p_l255, p_l256, p_l374, p_l880, p_l900, p_l1000, p_l2618, p_neg, nI_add, p_mul, p_sub, p_addm, p_addm0, p_subm, p_le, p_lt, p_eq, p_mO_eq, p_eq_mO, p_mO_lt, p_nlt_mO, p_mO_le, p_le_mO, p_rI, p_rL, p_wI, p_wL, p_wF, p_has10, p_has11, p_ib0, p_ib1, p_shl1, p_zv0, p_zv1, p_zvib, p_ibd, p_ibn, if_pos, if_neg, if_true, if_false, ne_eq, not_true, not_false_iff, Decidable.not_not, Nat.not_lt, Nat.not_le, Bool.true_eq_false, Bool.false_eq_true, eq_self, reduceIte, Nat.reduceAdd, Nat.reduceMul, Nat.reduceSub, Nat.reduceEqDiff, Nat.reduceLT, Nat.reduceLeDiff, reduceCtorEq, fX6_countLooked_l2, fX6_countLooked_b49, fX6_countLooked_b80, em, cs_isInner hCS q, hi, cs_fr hCS q, cs_to hCS q, cs_pl hCS b1, cs_pl hCS b2, cs_to (g5 _) q, cs_pl (g5 _) b2, g3, g4, e3, e4, hB, hA, I1, fb_sm_succ, lk1, lk2, Bool.not_false, Bool.and_true, Bool.and_false, Bool.true_and, Nat.add_assoc]
      · refine Or.inl ⟨(nI (k + 1), M'), ?_, q, M', rfl, hF, by rw [I1, fb_sm_succ, lk1, lk2, hi]; rfl⟩
        simp (disch := omega) only [p_bnd, p_nm, p_gSEl, p_gSEr, p_l0, p_l1, p_l2, p_l3, p_l4, p_l5, p_l6, p_l7, p_l8, p_l9, p_l10, p_l14, p_l16, p_l20, p_l22, p_l24, p_l30, p_l31, p_l32, p_l38, p_l40, p_l41, p_l43, p_l48, p_l57, p_l59, p_l60, p_l61, p_l62, p_l63, p_l97, p_l98, p_l101, p_l122, p_l158, p_l201, p_l255, p_l256, p_l374, p_l880, p_l900, p_l1000, p_l2618, p_neg, nI_add, p_mul, p_sub, p_addm, p_addm0, p_subm, p_le, p_lt, p_eq, p_mO_eq, p_eq_mO, p_mO_lt, p_nlt_mO, p_mO_le, p_le_mO, p_rI, p_rL, p_wI, p_wL, p_wF, p_has10, p_has11, p_ib0, p_ib1, p_shl1, p_zv0, p_zv1, p_zvib, p_ibd, p_ibn, if_pos, if_neg, if_true, if_false, ne_eq, not_true, not_false_iff, Decidable.not_not, Nat.not_lt, Nat.not_le, Bool.true_eq_false, Bool.false_eq_true, eq_self, reduceIte, Nat.reduceAdd, Nat.reduceMul, Nat.reduceSub, Nat.reduceEqDiff, Nat.reduceLT, Nat.reduceLeDiff, reduceCtorEq, fX6_countLooked_l2, fX6_countLooked_b80, em, cs_isInner hCS q, hi]
    · refine Or.inr ⟨M', ?_, hF, ?_⟩
      · simp (disch := omega) only [p_bnd, p_nm, p_gSEl, p_gSEr, p_l0, p_l1, p_l2, p_l3, p_l4, p_l5, p_l6, p_l7, p_l8, p_l9, p_l10, p_l14, p_l16, p_l20, p_l22, p_l24, p_l30, p_l31, p_l32, p_l38, p_l40, p_l41, p_l43, p_l48, p_l57, p_l59, p_l60, p_l61, p_l62, p_l63, p_l97, p_l98, p_l101, p_l122, p_l158, p_l201, p_l255, p_l256, p_l374, p_l880, p_l900, p_l1000, p_l2618, p_neg, nI_add, p_mul, p_sub, p_addm, p_addm0, p_subm, p_le, p_lt, p_eq, p_mO_eq, p_eq_mO, p_mO_lt, p_nlt_mO, p_mO_le, p_le_mO, p_rI, p_rL, p_wI, p_wL, p_wF, p_has10, p_has11, p_ib0, p_ib1, p_shl1, p_zv0, p_zv1, p_zvib, p_ibd, p_ibn, if_pos, if_neg, if_true, if_false, ne_eq, not_true, not_false_iff, Decidable.not_not, Nat.not_lt, Nat.not_le, Bool.true_eq_false, Bool.false_eq_true, eq_self, reduceIte, Nat.reduceAdd, Nat.reduceMul, Nat.reduceSub, Nat.reduceEqDiff, Nat.reduceLT, Nat.reduceLeDiff, reduceCtorEq, fX6_countLooked_l2, em]
      · rw [I1, show k = sM S by omega]; rfl
  refine ⟨r, ?_, F, L⟩
  unfold fX6_countLooked
  rw [e, p_bnd]
/-- the class's survey, where there is something to repair -/
theorem cs_survey (h : CS M t S) (ht : t ≤ 21) {a b : Nat} (ha : a < sN S) (hb : b < sN S) (hlt : sPl S b < sPl S a) : ∃ r, fX6_survey t (nI a) (nI b) M = some r ∧ gFr (fun c k => c = 41 ∧ 1 ≤ k ∧ k ≤ 6) M r ∧ r.1 41 1 = nI (sPl S b) ∧ r.1 41 2 = nI (sPl S a) ∧ r.1 41 3 = wBh S a b ∧ r.1 41 4 = wAh S a b ∧ r.1 41 5 = wJn S a b ∧ r.1 41 6 = nI (sLk S a b) := by
  have hn := h.2.1.1
  have hg := h.2.1.2.2.1
  have pa := h.2.p ha
  have pb := h.2.p hb
  generalize hM8 : gI (gI (gI (gI (gI (gI M 41 1 (nI (sPl S b))) 41 2 (nI (sPl S a))) 41 3 (nI 0)) 41 4 (nI 0)) 41 5 (nI 0)) 41 6 (nI 0) = M8
  have F8 : gFr (fun c k => c = 41 ∧ 1 ≤ k ∧ k ≤ 6) M M8 := by
    rw [← hM8]; exact gFr_trI (gFr_trI (gFr_trI (gFr_trI (gFr_trI (gFr_I (by omega)) (by omega)) (by omega)) (by omega)) (by omega)) (by omega)
  have h8 : CS M8 t S := CS_fr h F8 (fun j k hj z => by omega)
  have e1 : M8.1 41 1 = nI (sPl S b) := by rw [← hM8]; simp [p_gI]
  have e2 : M8.1 41 2 = nI (sPl S a) := by rw [← hM8]; simp [p_gI]
  have e3 : M8.1 41 3 = nI 0 := by rw [← hM8]; simp [p_gI]
  have e4 : M8.1 41 4 = nI 0 := by rw [← hM8]; simp [p_gI]
  have e5 : M8.1 41 5 = nI 0 := by rw [← hM8]; simp [p_gI]
  have e6 : M8.1 41 6 = nI 0 := by rw [← hM8]; simp [p_gI]
  obtain ⟨M9, E9, F9, B9, A9, J9⟩ := sv_loop h8 ht ha hb e1 e2 e3 e4 e5
  have h9 : CS M9 t S := CS_fr h8 F9 (fun j k hj z => by omega)
  obtain ⟨Ma, Ea, Fa, La⟩ := cs_countLooked h9 ht B9 A9 (by rw [(F9 41 6 (by omega)).1]; exact e6)
  refine ⟨Ma, ?_, gFr_tr F8 (gFr_tr (gFr_mo F9 (fun c k z => by omega)) (gFr_mo Fa (fun c k z => by omega))), ?_, ?_, ?_, ?_, ?_, La⟩
  · have g1 : (gI M 41 1 (nI (sPl S b))).1 (t + 8) = M.1 (t + 8) := p_gI_o (by omega)
    unfold fX6_survey
    rw [p_rI (by omega) (by omega), p_bnd, cs_pl h hb, p_wF, p_bnd, p_rI (by omega) (by omega), p_bnd, g1, cs_pl h ha, p_wF, p_bnd, show (0 : Int32) = nI 0 from rfl, p_wF, p_bnd, p_wF, p_bnd, p_wF, p_bnd, p_wF, p_bnd, hM8, e1, e2, if_pos (by rw [p_lt (by omega) (by omega)]; exact hlt), p_rI (by omega) (by omega), p_bnd, cs_reachedBy h8 ha, p_bnd, p_nm, p_bnd, E9, p_bnd, Ea, p_bnd]
  · rw [(Fa 41 1 (by omega)).1, (F9 41 1 (by omega)).1, e1]
  · rw [(Fa 41 2 (by omega)).1, (F9 41 2 (by omega)).1, e2]
  · rw [(Fa 41 3 (by omega)).1, B9]
  · rw [(Fa 41 4 (by omega)).1, A9]
  · rw [(Fa 41 5 (by omega)).1, J9]
/-- .. and where there is nothing to repair -/
theorem cs_survey0 (h : CS M t S) (ht : t ≤ 21) {a b : Nat} (ha : a < sN S) (hb : b < sN S) (hge : sPl S a ≤ sPl S b) : ∃ r, fX6_survey t (nI a) (nI b) M = some r ∧ gFr (fun c k => c = 41 ∧ 1 ≤ k ∧ k ≤ 6) M r ∧ r.1 41 1 = nI (sPl S b) ∧ r.1 41 2 = nI (sPl S b) - nI 1 ∧ r.1 41 3 = nI 0 ∧ r.1 41 4 = nI 0 ∧ r.1 41 5 = nI 0 ∧ r.1 41 6 = nI 0 := by
  have hn := h.2.1.1
  have hg := h.2.1.2.2.1
  have pa := h.2.p ha
  have pb := h.2.p hb
  generalize hM8 : gI (gI (gI (gI (gI (gI M 41 1 (nI (sPl S b))) 41 2 (nI (sPl S a))) 41 3 (nI 0)) 41 4 (nI 0)) 41 5 (nI 0)) 41 6 (nI 0) = M8
  have F8 : gFr (fun c k => c = 41 ∧ 1 ≤ k ∧ k ≤ 6) M M8 := by
    rw [← hM8]; exact gFr_trI (gFr_trI (gFr_trI (gFr_trI (gFr_trI (gFr_I (by omega)) (by omega)) (by omega)) (by omega)) (by omega)) (by omega)
  have e1 : M8.1 41 1 = nI (sPl S b) := by rw [← hM8]; simp [p_gI]
  have e2 : M8.1 41 2 = nI (sPl S a) := by rw [← hM8]; simp [p_gI]
  have g1 : (gI M 41 1 (nI (sPl S b))).1 (t + 8) = M.1 (t + 8) := p_gI_o (by omega)
  refine ⟨gI M8 41 2 (nI (sPl S b) - nI 1), ?_, gFr_trI F8 (by omega), ?_, p_gI_s _ _ _ _, ?_, ?_, ?_, ?_⟩
  · unfold fX6_survey
    rw [p_rI (by omega) (by omega), p_bnd, cs_pl h hb, p_wF, p_bnd, p_rI (by omega) (by omega), p_bnd, g1, cs_pl h ha, p_wF, p_bnd, show (0 : Int32) = nI 0 from rfl, p_wF, p_bnd, p_wF, p_bnd, p_wF, p_bnd, p_wF, p_bnd, hM8, e1, e2, if_neg (by rw [p_lt (by omega) (by omega)]; omega)]
    rfl
  · rw [p_gI_n (Or.inr (by decide)), e1]
  · rw [p_gI_n (Or.inr (by decide)), ← hM8]; simp [p_gI]
  · rw [p_gI_n (Or.inr (by decide)), ← hM8]; simp [p_gI]
  · rw [p_gI_n (Or.inr (by decide)), ← hM8]; simp [p_gI]
  · rw [p_gI_n (Or.inr (by decide)), ← hM8]; simp [p_gI]
end SV
