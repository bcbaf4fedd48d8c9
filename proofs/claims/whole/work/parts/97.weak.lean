/-! THE WEAKEST ARROW: both sides -/
def wk9 (f : Nat → Nat) (m : Nat) : Nat → Nat × Nat
  | 0 => (m, 1)
  | i + 1 => if (wk9 f m i).2 < f i then (i, f i) else wk9 f m i
theorem wk_yes {f : Nat → Nat} {m i : Nat} (h : (wk9 f m i).2 < f i) : wk9 f m (i + 1) = (i, f i) := if_pos h
theorem wk_no {f : Nat → Nat} {m i : Nat} (h : ¬ (wk9 f m i).2 < f i) : wk9 f m (i + 1) = wk9 f m i := if_neg h
theorem wk_1 {f : Nat → Nat} {m : Nat} : ∀ i, 1 ≤ (wk9 f m i).2
  | 0 => Nat.le_refl 1
  | i + 1 => by
    have := wk_1 (f := f) (m := m) i
    by_cases c : (wk9 f m i).2 < f i
    · rw [wk_yes c]; show 1 ≤ f i; omega
    · rw [wk_no c]; exact this
theorem wk_le {f : Nat → Nat} {m b : Nat} (hb : 1 ≤ b) (hf : ∀ i, f i ≤ b) : ∀ i, (wk9 f m i).2 ≤ b
  | 0 => hb
  | i + 1 => by
    by_cases c : (wk9 f m i).2 < f i
    · rw [wk_yes c]; exact hf i
    · rw [wk_no c]; exact wk_le hb hf i
theorem wk_at {f : Nat → Nat} {m : Nat} : ∀ i, i ≤ m → (wk9 f m i).1 = m ∨ (wk9 f m i).1 < i
  | 0, _ => Or.inl rfl
  | i + 1, h => by
    by_cases c : (wk9 f m i).2 < f i
    · rw [wk_yes c]; exact Or.inr (Nat.lt_succ_self i)
    · rw [wk_no c]
      rcases wk_at (f := f) (m := m) i (by omega) with q | q
      · exact Or.inl q
      · exact Or.inr (by omega)
section WE
variable {M : gMem} {S : gS} {t a : Nat}
theorem xN_le (S : gS) (a : Nat) : xN S a ≤ sN S := by
  unfold xN
  split
  · unfold xL; rw [gHs_ct]; exact fb_ct_le _ _
  · exact Nat.zero_le _
/-- an arrow that another way stands for parts no group -/
theorem xN_need (h : sW S) (ha : a < sM S) (hn : nS S a = true) : xN S a ≤ 1 := by
  unfold xN
  split
  · have hr : gRc (sX S a) (sFr S a) (sTo S a) := cB_iff.mp hn
    have up : ∀ {u v : Nat}, sR S u v → sR (sLess S a) u v := fun {u v} z => gRc.ind (E := sE S) (fun x => sR (sLess S a) x v) gRc.rf (fun x y h1 _ ih => by
      by_cases c : x = sFr S a ∧ y = sTo S a
      · have r2 : sR (sLess S a) (sFr S a) (sTo S a) := gRc.mono (fun _ _ z => (sLess_X ha).mpr z) hr
        rw [c.1]; rw [c.2] at ih; exact r2.tr ih
      · exact gRc.cons ((sLess_E h.2.1 ha).mpr ⟨h1, c⟩) ih) z
    have h1 : ∀ x y, x ∈ xL S a → y ∈ xL S a → x = y := fun x y hx hy => by
      obtain ⟨x1, x2, x3⟩ := xL_mem.mp hx
      obtain ⟨y1, y2, y3⟩ := xL_mem.mp hy
      rw [← x3, ← y3]
      exact (xR_eq x1 y1).mpr ⟨up (h.2.2.2.1.2 x y x1 y1 (by omega)), up (h.2.2.2.1.2 y x y1 x1 (by omega))⟩
    refine Classical.byContradiction fun q => ?_
    have g0 := getD_mem (l := xL S a) (i := 0) (by omega)
    have g1 := getD_mem (l := xL S a) (i := 1) (by omega)
    have sd : (xL S a).Pairwise (fun x y => x < y) := by unfold xL; exact gHs_sorted
    have := sd_inj sd (i := 0) (j := 1) (by omega) (by omega) (h1 _ _ g0 g1)
    omega
  · exact Nat.zero_le _
theorem cs_partsWithout (h : CS M t S) (ht : t ≤ 21) (ha : a < sM S) (hin : sIn S a = true) : ∃ r, fX8_partsWithout t (nI a) M = some (nI (xN S a), r) ∧ gFr (fun c _ => c = 45 ∨ c = 46 ∨ c = 49) M r := by
  obtain ⟨b1, b2, b3⟩ := h.2.2.1.1 a ha
  have hn := h.2.1.1
  have hm := h.2.1.2.1
  have hpo : xO S a < sG S := h.2.p b1
  obtain ⟨M1, e1, F1, I1⟩ := cc_but (M := M) (t := t) (c := 49) (n := sN S) (E := sE S) (a := a) (x := sFr S a) (y := sTo S a) (cs_n h) hn (by omega) (by omega) (by omega) (by omega) (by omega) (cs_fr h ha) (cs_to h ha) b1 b2 b3 (fun x y z => (sE.lt h.2.2.1 z).2) (fun u hu v hv => cs_nx h hu hv)
  have F2 : gFr (fun c _ => c = 45 ∨ c = 49) M (gI M1 45 1 (nI 0)) := gFr_trI (gFr_mo F1 (fun c k z => Or.inr z)) (Or.inl rfl)
  have h2 : CS (gI M1 45 1 (nI 0)) t S := CS_fr h F2 (fun j k hj z => by omega)
  have hW := cs_mb h2 hpo
  have hR : ∀ u, u < sN S → ∀ v, v < 32 → (bt ((gI M1 45 1 (nI 0)).1 49 u) v = true ↔ sR (sLess S a) u v) := fun u hu v hv => by
    rw [p_gI_o (by decide), I1 u hu v hv]
    exact (sLess_R h.2.2.1 ha).symm
  obtain ⟨M3, e3, F3, -⟩ := cp_putParts (R := sR (sLess S a)) (n := sN S) (w := t) (c := 49) (G := fun u => decide (sPl S u = xO S a)) (x := sMb S (xO S a)) (l := []) (fun _ => gRc.rf) (fun _ _ _ => gRc.tr) (xG_cl h.2 ha) (cs_n h2) hn (by omega) ⟨by omega, by omega⟩ (fun v hv => by
    rw [sMb_bt hv, decide_eq_true_eq]
    show _ ↔ v < sN S ∧ decide (sPl S v = xO S a) = true
    rw [decide_eq_true_eq]) hR ⟨p_gI_s _ _ _ _, fun k v z => by simp at z⟩ (by
    have : (gHs (hdR (sR (sLess S a)) (sN S)) (sN S) (fun u => decide (sPl S u = xO S a))).length ≤ sN S := by rw [gHs_ct]; exact fb_ct_le _ _
    show 0 + _ ≤ 24
    omega) (by omega)
  refine ⟨M3, ?_, gFr_tr (gFr_mo F2 (fun c k z => by omega)) (gFr_mo F3 (fun c k z => by unfold Drow at z; omega))⟩
  have exN : nI (xN S a) = nI (gHs (hdR (sR (sLess S a)) (sN S)) (sN S) (fun u => decide (sPl S u = xO S a))).length := by
    unfold xN; rw [if_pos hin]; rfl
  unfold fX8_partsWithout
  rw [exN, e1, p_bnd, show (0 : Int32) = nI 0 from rfl, p_wF, p_bnd, p_rI (by omega) (by omega), p_bnd, cs_fr h2 ha, p_rI (by omega) (by omega), p_bnd, cs_pl h2 b1, p_rI (show sPl S (sFr S a) < 24 by have := h.2.1.2.2.1; unfold xO at hpo; omega) (by omega), p_bnd]
  have hW : (gI M1 45 1 (nI 0)).1 (t + 7) (sPl S (sFr S a)) = sMb S (xO S a) := hW
  rw [hW, e3, p_bnd]
noncomputable def wkA (S : gS) : Int32 := gNo (wk9 (xN S) (sM S) (sM S)).1 (sM S)
theorem cs_weakest (h : CS M 1 S) : ∃ r, fX10_weakest M = some (wkA S, r) ∧ gFr (fun c _ => c = 45 ∨ c = 46 ∨ c = 49) M r := by
  have hn := h.2.1.1
  have hm := h.2.1.2.1
  obtain ⟨r, e, e2, F⟩ : ∃ r, gLoop (fun z9 => fX10_weakest_l6 z9.1 z9.2.1 z9.2.2.1 z9.2.2.2) gFu (mO 1, nI 1, nI 0, M) = some r ∧ r.1 = wkA S ∧ gFr (fun c _ => c = 45 ∨ c = 46 ∨ c = 49) M r.2 := by
    refine gLoop_i (fun k s => ∃ M', s = (gNo (wk9 (xN S) (sM S) k).1 (sM S), nI (wk9 (xN S) (sM S) k).2, nI k, M') ∧ gFr (fun c _ => c = 45 ∨ c = 46 ∨ c = 49) M M') _ (sM S) ⟨M, by
      show _ = (gNo (sM S) (sM S), _)
      unfold gNo; rw [if_neg (Nat.lt_irrefl _)]; rfl, gFr_rf⟩ (by show sM S < 4096; omega) ?_
    rintro k s hk ⟨M', rfl, hF⟩
    have h' : CS M' 1 S := CS_fr h hF (fun j k hj z => by omega)
    have m1 : M'.1 1 10 = nI (sM S) := cs_m h'
    rcases Nat.lt_or_ge k (sM S) with q | q
    · have i1 := cs_isInner h' q
      have i2 := cs_isNeedless h' q
      have w1 := wk_1 (f := xN S) (m := sM S) k
      have w2 := wk_le (f := xN S) (m := sM S) (b := 24) (by decide) (fun i => Nat.le_trans (xN_le S i) hn) k
      have keep : ¬ (wk9 (xN S) (sM S) k).2 < xN S k → wk9 (xN S) (sM S) (k + 1) = wk9 (xN S) (sM S) k := fun z => wk_no z
      cases hin : sIn S k
      · have x0 : xN S k = 0 := by unfold xN; rw [hin, if_neg (by decide)]
        refine Or.inl ⟨(gNo (wk9 (xN S) (sM S) (k + 1)).1 (sM S), nI (wk9 (xN S) (sM S) (k + 1)).2, nI (k + 1), M'), ?_, q, M', rfl, hF⟩
        rw [keep (by omega)]
        simp (disch := omega) only [p_bnd, p_nm, p_gSEl, p_gSEr, p_l0, p_l1, p_l2, p_l3, p_l4, p_l5, p_l6, p_l7, p_l8, p_l9, p_l10, p_l14, p_l16, p_l20, p_l22, p_l24, p_l30, p_l31, p_l32, p_l38, p_l40, p_l41, p_l43, p_l48, p_l57, p_l59, p_l60, p_l61, p_l62, p_l63, p_l97, p_l98, p_l101, p_l122, p_l158, p_l201, p_l255, p_l256, p_l374, p_l880, p_l900, p_l1000, p_l2618, p_neg, nI_add, p_mul, p_sub, p_addm, p_addm0, p_subm, p_le, p_lt, p_eq, p_mO_eq, p_eq_mO, p_mO_lt, p_nlt_mO, p_mO_le, p_le_mO, p_rI, p_rL, p_wI, p_wL, p_wF, p_has10, p_has11, p_ib0, p_ib1, p_shl1, p_zv0, p_zv1, p_zvib, p_ibd, p_ibn, if_pos, if_neg, if_true, if_false, ne_eq, not_true, not_false_iff, Decidable.not_not, Nat.not_lt, Nat.not_le, Bool.true_eq_false, Bool.false_eq_true, eq_self, reduceIte, Nat.reduceAdd, Nat.reduceMul, Nat.reduceSub, Nat.reduceEqDiff, Nat.reduceLT, Nat.reduceLeDiff, reduceCtorEq, fX10_weakest_l6, fX10_weakest_b64, m1, i1, hin, ibF]
      · cases hnd : nS S k
        · obtain ⟨M2, e3, F3⟩ := cs_partsWithout h' (by decide) q hin
          have x24 := xN_le S k
          by_cases c : (wk9 (xN S) (sM S) k).2 < xN S k
          · refine Or.inl ⟨(gNo (wk9 (xN S) (sM S) (k + 1)).1 (sM S), nI (wk9 (xN S) (sM S) (k + 1)).2, nI (k + 1), M2), ?_, q, M2, rfl, gFr_tr hF F3⟩
            rw [wk_yes c]
            unfold gNo
            generalize wk9 (xN S) (sM S) k = y at c w1 w2
            simp (disch := omega) only [p_bnd, p_nm, p_gSEl, p_gSEr, p_l0, p_l1, p_l2, p_l3, p_l4, p_l5, p_l6, p_l7, p_l8, p_l9, p_l10, p_l14, p_l16, p_l20, p_l22, p_l24, p_l30, p_l31, p_l32, p_l38, p_l40, p_l41, p_l43, p_l48, p_l57, p_l59, p_l60, p_l61, p_l62, p_l63, p_l97, p_l98, p_l101, p_l122, p_l158, p_l201, p_l255, p_l256, p_l374, p_l880, p_l900, p_l1000, p_l2618, p_neg, nI_add, p_mul, p_sub, p_addm, p_addm0, p_subm, p_le, p_lt, p_eq, p_mO_eq, p_eq_mO, p_mO_lt, p_nlt_mO, p_mO_le, p_le_mO, p_rI, p_rL, p_wI, p_wL, p_wF, p_has10, p_has11, p_ib0, p_ib1, p_shl1, p_zv0, p_zv1, p_zvib, p_ibd, p_ibn, if_pos, if_neg, if_true, if_false, ne_eq, not_true, not_false_iff, Decidable.not_not, Nat.not_lt, Nat.not_le, Bool.true_eq_false, Bool.false_eq_true, eq_self, reduceIte, Nat.reduceAdd, Nat.reduceMul, Nat.reduceSub, Nat.reduceEqDiff, Nat.reduceLT, Nat.reduceLeDiff, reduceCtorEq, fX10_weakest_l6, fX10_weakest_b64, m1, i1, i2, hin, hnd, ibF, ibT, e3]
          · refine Or.inl ⟨(gNo (wk9 (xN S) (sM S) (k + 1)).1 (sM S), nI (wk9 (xN S) (sM S) (k + 1)).2, nI (k + 1), M2), ?_, q, M2, rfl, gFr_tr hF F3⟩
            rw [wk_no c]
            generalize wk9 (xN S) (sM S) k = y at c w1 w2
            simp (disch := omega) only [p_bnd, p_nm, p_gSEl, p_gSEr, p_l0, p_l1, p_l2, p_l3, p_l4, p_l5, p_l6, p_l7, p_l8, p_l9, p_l10, p_l14, p_l16, p_l20, p_l22, p_l24, p_l30, p_l31, p_l32, p_l38, p_l40, p_l41, p_l43, p_l48, p_l57, p_l59, p_l60, p_l61, p_l62, p_l63, p_l97, p_l98, p_l101, p_l122, p_l158, p_l201, p_l255, p_l256, p_l374, p_l880, p_l900, p_l1000, p_l2618, p_neg, nI_add, p_mul, p_sub, p_addm, p_addm0, p_subm, p_le, p_lt, p_eq, p_mO_eq, p_eq_mO, p_mO_lt, p_nlt_mO, p_mO_le, p_le_mO, p_rI, p_rL, p_wI, p_wL, p_wF, p_has10, p_has11, p_ib0, p_ib1, p_shl1, p_zv0, p_zv1, p_zvib, p_ibd, p_ibn, if_pos, if_neg, if_true, if_false, ne_eq, not_true, not_false_iff, Decidable.not_not, Nat.not_lt, Nat.not_le, Bool.true_eq_false, Bool.false_eq_true, eq_self, reduceIte, Nat.reduceAdd, Nat.reduceMul, Nat.reduceSub, Nat.reduceEqDiff, Nat.reduceLT, Nat.reduceLeDiff, reduceCtorEq, fX10_weakest_l6, fX10_weakest_b64, m1, i1, i2, hin, hnd, ibF, ibT, e3]
        · have x1 := xN_need h.2 q hnd
          refine Or.inl ⟨(gNo (wk9 (xN S) (sM S) (k + 1)).1 (sM S), nI (wk9 (xN S) (sM S) (k + 1)).2, nI (k + 1), M'), ?_, q, M', rfl, hF⟩
          rw [keep (by omega)]
          simp (disch := omega) only [p_bnd, p_nm, p_gSEl, p_gSEr, p_l0, p_l1, p_l2, p_l3, p_l4, p_l5, p_l6, p_l7, p_l8, p_l9, p_l10, p_l14, p_l16, p_l20, p_l22, p_l24, p_l30, p_l31, p_l32, p_l38, p_l40, p_l41, p_l43, p_l48, p_l57, p_l59, p_l60, p_l61, p_l62, p_l63, p_l97, p_l98, p_l101, p_l122, p_l158, p_l201, p_l255, p_l256, p_l374, p_l880, p_l900, p_l1000, p_l2618, p_neg, nI_add, p_mul, p_sub, p_addm, p_addm0, p_subm, p_le, p_lt, p_eq, p_mO_eq, p_eq_mO, p_mO_lt, p_nlt_mO, p_mO_le, p_le_mO, p_rI, p_rL, p_wI, p_wL, p_wF, p_has10, p_has11, p_ib0, p_ib1, p_shl1, p_zv0, p_zv1, p_zvib, p_ibd, p_ibn, if_pos, if_neg, if_true, if_false, ne_eq, not_true, not_false_iff, Decidable.not_not, Nat.not_lt, Nat.not_le, Bool.true_eq_false, Bool.false_eq_true, eq_self, reduceIte, Nat.reduceAdd, Nat.reduceMul, Nat.reduceSub, Nat.reduceEqDiff, Nat.reduceLT, Nat.reduceLeDiff, reduceCtorEq, fX10_weakest_l6, fX10_weakest_b64, m1, i1, i2, hin, hnd, ibF, ibT]
    · have e9 : k = sM S := by omega
      refine Or.inr ⟨(gNo (wk9 (xN S) (sM S) k).1 (sM S), M'), by simp (disch := omega) only [p_bnd, p_nm, p_gSEl, p_gSEr, p_l0, p_l1, p_l2, p_l3, p_l4, p_l5, p_l6, p_l7, p_l8, p_l9, p_l10, p_l14, p_l16, p_l20, p_l22, p_l24, p_l30, p_l31, p_l32, p_l38, p_l40, p_l41, p_l43, p_l48, p_l57, p_l59, p_l60, p_l61, p_l62, p_l63, p_l97, p_l98, p_l101, p_l122, p_l158, p_l201, p_l255, p_l256, p_l374, p_l880, p_l900, p_l1000, p_l2618, p_neg, nI_add, p_mul, p_sub, p_addm, p_addm0, p_subm, p_le, p_lt, p_eq, p_mO_eq, p_eq_mO, p_mO_lt, p_nlt_mO, p_mO_le, p_le_mO, p_rI, p_rL, p_wI, p_wL, p_wF, p_has10, p_has11, p_ib0, p_ib1, p_shl1, p_zv0, p_zv1, p_zvib, p_ibd, p_ibn, if_pos, if_neg, if_true, if_false, ne_eq, not_true, not_false_iff, Decidable.not_not, Nat.not_lt, Nat.not_le, Bool.true_eq_false, Bool.false_eq_true, eq_self, reduceIte, Nat.reduceAdd, Nat.reduceMul, Nat.reduceSub, Nat.reduceEqDiff, Nat.reduceLT, Nat.reduceLeDiff, reduceCtorEq, fX10_weakest_l6, m1], by rw [e9]; rfl, hF⟩
  refine ⟨r.2, ?_, F⟩
  unfold fX10_weakest
  rw [show gLoop (fun z9 => fX10_weakest_l6 z9.1 z9.2.1 z9.2.2.1 z9.2.2.2) gFu ((-1 : Int32), (1 : Int32), (0 : Int32), M) = some r from e, p_bnd, e2]
theorem rs_groupsBy (h : RS M S) (ha : a < sM S) : ∃ r, fX11_groupsBy (nI a) M = some (nI (xN S a), r) ∧ gFr (fun c _ => c = 1 ∨ c = 2 ∨ c = 6 ∨ c = 11) M r ∧ RS r S := by
  obtain ⟨M1, e1, F1, I1⟩ := r_goesAside M
  have h1 : RS M1 S := RS_of h (gFr_c1 F1 (fun _ => by omega))
  obtain ⟨M2, e2, F2, R2⟩ := rs_cuts h1 ha
  obtain ⟨M3, e3, F3, I3⟩ := r_comesBack M2 (nI (xN S a))
  refine ⟨M3, ?_, gFr_tr (gFr_mo F1 (fun c k z => by omega)) (gFr_tr (gFr_mo F2 (fun c k z => by unfold Dcu at z; omega)) (gFr_mo F3 (fun c k z => by omega))), RR_ew h.1 h.2 fun k hk => ?_, h.2⟩
  · unfold fX11_groupsBy
    rw [e1, p_bnd, e2, p_bnd, e3, p_bnd]
  · rw [I3 k hk, (F2 2 k (by unfold Dcu; omega)).1]; exact I1 k hk
theorem rs_weakest (h : RS M S) : ∃ r, fX11_weakest M = some (wkA S, r) ∧ gFr (fun c k => c = 1 ∨ c = 2 ∨ c = 6 ∨ c = 11 ∨ (c = 0 ∧ k = 0)) M r ∧ r.1 0 0 = nI 0 ∧ RS r S := by
  have hn := h.2.1.1
  have hm := h.2.1.2.1
  obtain ⟨r, e, e2, F, R⟩ : ∃ r, gLoop (fun z9 => fX11_weakest_l11 z9.1 z9.2.1 z9.2.2.1 z9.2.2.2) gFu (mO 1, nI 1, nI 0, gI M 0 0 (nI 0)) = some r ∧ r.1 = wkA S ∧ gFr (fun c _ => c = 1 ∨ c = 2 ∨ c = 6 ∨ c = 11) (gI M 0 0 (nI 0)) r.2 ∧ RS r.2 S := by
    refine gLoop_i (fun k s => ∃ M', s = (gNo (wk9 (xN S) (sM S) k).1 (sM S), nI (wk9 (xN S) (sM S) k).2, nI k, M') ∧ gFr (fun c _ => c = 1 ∨ c = 2 ∨ c = 6 ∨ c = 11) (gI M 0 0 (nI 0)) M' ∧ RS M' S) _ (sM S) ⟨gI M 0 0 (nI 0), by
      show _ = (gNo (sM S) (sM S), _)
      unfold gNo; rw [if_neg (Nat.lt_irrefl _)]; rfl, gFr_rf, RS_of h (p_gI_o (by decide))⟩ (by show sM S < 4096; omega) ?_
    rintro k s hk ⟨M', rfl, hF, h'⟩
    have m1 : M'.1 1 1 = nI (sM S) := h'.1.1.2.1
    rcases Nat.lt_or_ge k (sM S) with q | q
    · have w1 := wk_1 (f := xN S) (m := sM S) k
      have w2 := wk_le (f := xN S) (m := sM S) (b := 24) (by decide) (fun i => Nat.le_trans (xN_le S i) hn) k
      obtain ⟨M2, e3, F3, R3⟩ := rs_groupsBy h' q
      have x24 := xN_le S k
      by_cases c : (wk9 (xN S) (sM S) k).2 < xN S k
      · refine Or.inl ⟨(gNo (wk9 (xN S) (sM S) (k + 1)).1 (sM S), nI (wk9 (xN S) (sM S) (k + 1)).2, nI (k + 1), M2), ?_, q, M2, rfl, gFr_tr hF F3, R3⟩
        rw [wk_yes c]
        unfold gNo
        generalize wk9 (xN S) (sM S) k = y at c w1 w2
        simp (disch := omega) only [p_bnd, p_nm, p_gSEl, p_gSEr, p_l0, p_l1, p_l2, p_l3, p_l4, p_l5, p_l6, p_l7, p_l8, p_l9, p_l10, p_l14, p_l16, p_l20, p_l22, p_l24, p_l30, p_l31, p_l32, p_l38, p_l40, p_l41, p_l43, p_l48, p_l57, p_l59, p_l60, p_l61, p_l62, p_l63, p_l97, p_l98, p_l101, p_l122, p_l158, p_l201, p_l255, p_l256, p_l374, p_l880, p_l900, p_l1000, p_l2618, p_neg, nI_add, p_mul, p_sub, p_addm, p_addm0, p_subm, p_le, p_lt, p_eq, p_mO_eq, p_eq_mO, p_mO_lt, p_nlt_mO, p_mO_le, p_le_mO, p_rI, p_rL, p_wI, p_wL, p_wF, p_has10, p_has11, p_ib0, p_ib1, p_shl1, p_zv0, p_zv1, p_zvib, p_ibd, p_ibn, if_pos, if_neg, if_true, if_false, ne_eq, not_true, not_false_iff, Decidable.not_not, Nat.not_lt, Nat.not_le, Bool.true_eq_false, Bool.false_eq_true, eq_self, reduceIte, Nat.reduceAdd, Nat.reduceMul, Nat.reduceSub, Nat.reduceEqDiff, Nat.reduceLT, Nat.reduceLeDiff, reduceCtorEq, fX11_weakest_l11, m1, e3]
      · refine Or.inl ⟨(gNo (wk9 (xN S) (sM S) (k + 1)).1 (sM S), nI (wk9 (xN S) (sM S) (k + 1)).2, nI (k + 1), M2), ?_, q, M2, rfl, gFr_tr hF F3, R3⟩
        rw [wk_no c]
        generalize wk9 (xN S) (sM S) k = y at c w1 w2
        simp (disch := omega) only [p_bnd, p_nm, p_gSEl, p_gSEr, p_l0, p_l1, p_l2, p_l3, p_l4, p_l5, p_l6, p_l7, p_l8, p_l9, p_l10, p_l14, p_l16, p_l20, p_l22, p_l24, p_l30, p_l31, p_l32, p_l38, p_l40, p_l41, p_l43, p_l48, p_l57, p_l59, p_l60, p_l61, p_l62, p_l63, p_l97, p_l98, p_l101, p_l122, p_l158, p_l201, p_l255, p_l256, p_l374, p_l880, p_l900, p_l1000, p_l2618, p_neg, nI_add, p_mul, p_sub, p_addm, p_addm0, p_subm, p_le, p_lt, p_eq, p_mO_eq, p_eq_mO, p_mO_lt, p_nlt_mO, p_mO_le, p_le_mO, p_rI, p_rL, p_wI, p_wL, p_wF, p_has10, p_has11, p_ib0, p_ib1, p_shl1, p_zv0, p_zv1, p_zvib, p_ibd, p_ibn, if_pos, if_neg, if_true, if_false, ne_eq, not_true, not_false_iff, Decidable.not_not, Nat.not_lt, Nat.not_le, Bool.true_eq_false, Bool.false_eq_true, eq_self, reduceIte, Nat.reduceAdd, Nat.reduceMul, Nat.reduceSub, Nat.reduceEqDiff, Nat.reduceLT, Nat.reduceLeDiff, reduceCtorEq, fX11_weakest_l11, m1, e3]
    · have e9 : k = sM S := by omega
      refine Or.inr ⟨(gNo (wk9 (xN S) (sM S) k).1 (sM S), M'), by simp (disch := omega) only [p_bnd, p_nm, p_gSEl, p_gSEr, p_l0, p_l1, p_l2, p_l3, p_l4, p_l5, p_l6, p_l7, p_l8, p_l9, p_l10, p_l14, p_l16, p_l20, p_l22, p_l24, p_l30, p_l31, p_l32, p_l38, p_l40, p_l41, p_l43, p_l48, p_l57, p_l59, p_l60, p_l61, p_l62, p_l63, p_l97, p_l98, p_l101, p_l122, p_l158, p_l201, p_l255, p_l256, p_l374, p_l880, p_l900, p_l1000, p_l2618, p_neg, nI_add, p_mul, p_sub, p_addm, p_addm0, p_subm, p_le, p_lt, p_eq, p_mO_eq, p_eq_mO, p_mO_lt, p_nlt_mO, p_mO_le, p_le_mO, p_rI, p_rL, p_wI, p_wL, p_wF, p_has10, p_has11, p_ib0, p_ib1, p_shl1, p_zv0, p_zv1, p_zvib, p_ibd, p_ibn, if_pos, if_neg, if_true, if_false, ne_eq, not_true, not_false_iff, Decidable.not_not, Nat.not_lt, Nat.not_le, Bool.true_eq_false, Bool.false_eq_true, eq_self, reduceIte, Nat.reduceAdd, Nat.reduceMul, Nat.reduceSub, Nat.reduceEqDiff, Nat.reduceLT, Nat.reduceLeDiff, reduceCtorEq, fX11_weakest_l11, m1], by rw [e9]; rfl, hF, h'⟩
  refine ⟨r.2, ?_, gFr_tr (gFr_I (by omega)) (gFr_mo F (fun c k z => by omega)), by rw [(F 0 0 (by omega)).1, p_gI_s], R⟩
  unfold fX11_weakest
  rw [show (0 : Int32) = nI 0 from rfl, p_wF, p_bnd]
  rw [show gLoop (fun z9 => fX11_weakest_l11 z9.1 z9.2.1 z9.2.2.1 z9.2.2.2) gFu ((-1 : Int32), (1 : Int32), nI 0, gI M 0 0 (nI 0)) = some r from e, p_bnd, e2]
end WE
