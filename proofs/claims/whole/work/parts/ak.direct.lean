/-! STEPS without errors: undo, save, what is asked of the whole -/
section DI
variable {M N M' N' : gMem} {c : Nat} {S : gS} {P : List gS}
def SD (c : Nat) (x y : Option (Int32 × gMem)) : Prop := ∃ v M' N', x = some (v, M') ∧ y = some (v, N') ∧ REL c M' N'
theorem rel_r1 (h1 : rNow c S M N) (h2 : rPast c P M N) (h3 : rKept c M N) (h4 : rText M N) (h5 : rErr M N) (h6 : rOut M N) (F : gFr scD M M') (G : gFr (fun c k => srD c k ∨ c = 1) N N') (hr : RS N' S) : REL c M' N' :=
  ⟨S, P, ⟨CS_fr h1.1 F (fun j k hj z => by unfold scD at z; omega), hr, h1.2.2⟩, rPast_fr h2 F G (fun c k a z => by unfold scD at z; omega) (fun c k a z => by unfold srD at z; omega), rKept_fr h3 F G (fun c k a z => by unfold scD at z; omega) (fun c k a z => by unfold srD at z; omega), rText_fr h4 F G (fun c k a z => by unfold scD at z; omega) (fun c k a z => by unfold srD at z; omega), rErr_fr h5 F G (fun k a b z => by unfold scD at z; omega) (fun k a b z => by unfold srD at z; omega), rOut_fr h6 F G (fun c k a z => by unfold scD at z; omega) (fun c k a z => by unfold srD at z; omega)⟩
theorem rN_g (h : rNow c S M N) : 0 < sG S := by
  have := h.1.2.p (t := 0) (by have := h.2.2.2; omega)
  omega
theorem st_errorCode (h : REL c M N) : SD c ((fX10_errorCode M).bind fun v => some (v, M)) (fX11_errorCode N) := by
  obtain ⟨S, P, h1, h2, h3, h4, h5, h6⟩ := id h
  refine ⟨M.1 32 4, M, gI N 0 0 (nI 0), rfl, ?_, REL_sc h gFr_rf (gFr_I (by unfold srD; omega))⟩
  unfold fX11_errorCode
  rw [show (0 : Int32) = nI 0 from rfl, p_wF, p_bnd, p_gI_n (Or.inr (by decide)), h5.1]
theorem st_errorPosition (h : REL c M N) : SD c ((fX10_errorPosition M).bind fun v => some (v, M)) (fX11_errorPosition N) := by
  obtain ⟨S, P, h1, h2, h3, h4, h5, h6⟩ := id h
  refine ⟨M.1 32 5, M, gI N 0 0 (nI 0), rfl, ?_, REL_sc h gFr_rf (gFr_I (by unfold srD; omega))⟩
  unfold fX11_errorPosition
  rw [show (0 : Int32) = nI 0 from rfl, p_wF, p_bnd, p_gI_n (Or.inr (by decide)), h5.2]
theorem st_undo (h : REL c M N) : SD c (fX10_undo M) (fX11_undo N) := by
  obtain ⟨S, P, h1, h2, h3, h4, h5, h6⟩ := id h
  rcases List.eq_nil_or_concat P with rfl | ⟨Q, T, rfl⟩
  · exact ⟨mO 1, M, gI N 0 0 (nI 0), c_undo0 h2.1, r_undo0 h2.2.1, REL_sc h gFr_rf (gFr_I (by unfold srD; omega))⟩
  · rw [List.concat_eq_append] at h2
    obtain ⟨a1, a2, a3⟩ := h2
    obtain ⟨M1, e1, F1, p1, c1⟩ := c_undo a1
    obtain ⟨N1, g1, G1, q1, r1, -⟩ := r_undo a2
    obtain ⟨b1, b2⟩ := a3 T (List.mem_append_right _ (List.mem_singleton.mpr rfl))
    exact ⟨_, M1, N1, e1, g1, T, Q, ⟨c1, r1, b1, b2⟩, ⟨p1, q1, fun X hX => a3 X (List.mem_append_left _ hX)⟩, rKept_fr h3 F1 G1 (fun c k a z => by omega) (fun c k a z => by omega), rText_fr h4 F1 G1 (fun c k a z => by omega) (fun c k a z => by omega), rErr_fr h5 F1 G1 (fun k a b z => by omega) (fun k a b z => by omega), rOut_fr h6 F1 G1 (fun c k a z => by omega) (fun c k a z => by omega)⟩
theorem st_save (h : REL c M N) : SD c (fX10_save M) (fX11_save N) := by
  obtain ⟨S, P, h1, h2, h3, h4, h5, h6⟩ := id h
  obtain ⟨M1, e1, F1, c1⟩ := cs_copy (t := 21) h1.1 (Or.inr (by decide))
  have hn := h1.1.2.1
  obtain ⟨r, e, F, I⟩ := cpy (M := gI N 0 0 (nI 0)) (body := fun z9 => fX11_save_l7 z9.1 z9.2) (a := 0) (b := 0) (c1 := 1) (c2 := 4) (N := 374) (by decide) (Or.inl (by decide)) (fun k M' hk _ => by simp (disch := omega) only [p_bnd, p_nm, p_gSEl, p_gSEr, p_l0, p_l1, p_l2, p_l3, p_l4, p_l5, p_l6, p_l7, p_l8, p_l9, p_l10, p_l14, p_l16, p_l20, p_l22, p_l24, p_l30, p_l31, p_l32, p_l38, p_l40, p_l41, p_l43, p_l48, p_l57, p_l59, p_l60, p_l61, p_l62, p_l63, p_l97, p_l98, p_l101, p_l122, p_l158, p_l201, p_l255, p_l256, p_l374, p_l880, p_l900, p_l1000, p_l2618, p_neg, nI_add, p_mul, p_sub, p_addm, p_addm0, p_subm, p_le, p_lt, p_eq, p_mO_eq, p_eq_mO, p_mO_lt, p_nlt_mO, p_mO_le, p_le_mO, p_rI, p_rL, p_wI, p_wL, p_wF, p_has10, p_has11, p_ib0, p_ib1, p_shl1, p_zv0, p_zv1, p_zvib, p_ibd, p_ibn, if_pos, if_neg, if_true, if_false, ne_eq, not_true, not_false_iff, Decidable.not_not, Nat.not_lt, Nat.not_le, Bool.true_eq_false, Bool.false_eq_true, eq_self, reduceIte, Nat.reduceAdd, Nat.reduceMul, Nat.reduceSub, Nat.reduceEqDiff, Nat.reduceLT, Nat.reduceLeDiff, reduceCtorEq, fX11_save_l7, Nat.zero_add]) (fun M' _ => by simp (disch := omega) only [p_bnd, p_nm, p_gSEl, p_gSEr, p_l0, p_l1, p_l2, p_l3, p_l4, p_l5, p_l6, p_l7, p_l8, p_l9, p_l10, p_l14, p_l16, p_l20, p_l22, p_l24, p_l30, p_l31, p_l32, p_l38, p_l40, p_l41, p_l43, p_l48, p_l57, p_l59, p_l60, p_l61, p_l62, p_l63, p_l97, p_l98, p_l101, p_l122, p_l158, p_l201, p_l255, p_l256, p_l374, p_l880, p_l900, p_l1000, p_l2618, p_neg, nI_add, p_mul, p_sub, p_addm, p_addm0, p_subm, p_le, p_lt, p_eq, p_mO_eq, p_eq_mO, p_mO_lt, p_nlt_mO, p_mO_le, p_le_mO, p_rI, p_rL, p_wI, p_wL, p_wF, p_has10, p_has11, p_ib0, p_ib1, p_shl1, p_zv0, p_zv1, p_zvib, p_ibd, p_ibn, if_pos, if_neg, if_true, if_false, ne_eq, not_true, not_false_iff, Decidable.not_not, Nat.not_lt, Nat.not_le, Bool.true_eq_false, Bool.false_eq_true, eq_self, reduceIte, Nat.reduceAdd, Nat.reduceMul, Nat.reduceSub, Nat.reduceEqDiff, Nat.reduceLT, Nat.reduceLeDiff, reduceCtorEq, fX11_save_l7])
  have I' : ∀ k, k < 374 → r.1 4 k = N.1 1 k := fun k hk => by have := I k hk; rw [Nat.zero_add, p_gI_n (Or.inl (by decide))] at this; exact this
  have FA : gFr (fun c k => (21 ≤ c ∧ c ≤ 30) ∨ (c = 0 ∧ k = 3)) M (gI M1 0 3 (nI 1)) := gFr_trI (gFr_mo F1 (fun c k z => by omega)) (by omega)
  have GA : gFr (fun c k => c = 4 ∨ (c = 0 ∧ (k = 0 ∨ k = 7))) N (gI r 0 7 (nI 1)) := gFr_trI (gFr_tr (gFr_I (by omega)) (gFr_mo F (fun c k z => by omega))) (by omega)
  refine ⟨nI (sM S), gI M1 0 3 (nI 1), gI r 0 7 (nI 1), ?_, ?_, S, P, rNow_fr h1 FA GA (fun c k a b z => by omega) (fun k z => by omega), rPast_fr h2 FA GA (fun c k a z => by omega) (fun c k a z => by omega), Or.inr ⟨S, p_gI_s _ _ _ _, p_gI_s _ _ _ _, CS_fr c1 (gFr_I (D := fun c _ => c = 0) rfl) (fun j k hj z => by omega), ?_, h1.2.2⟩, rText_fr h4 FA GA (fun c k a z => by omega) (fun c k a z => by omega), rErr_fr h5 FA GA (fun k a b z => by omega) (fun k a b z => by omega), rOut_fr h6 FA GA (fun c k a z => by omega) (fun c k a z => by omega)⟩
  · unfold fX10_save
    rw [e1, p_bnd]
    show (some (gI M1 0 3 (nI 1))).bind _ = _
    rw [p_bnd, (FA 1 10 (by omega)).1, cs_m h1.1]
  · unfold fX11_save
    rw [show (0 : Int32) = nI 0 from rfl, p_wF, p_bnd]
    show ((gLoop (fun z9 => fX11_save_l7 z9.1 z9.2) gFu ((0 : Int32), gI N 0 0 (nI 0))).bind _) = _
    rw [e, p_bnd]
    show (some (gI r 0 7 (nI 1))).bind _ = _
    rw [p_bnd, show (1 : Int32) = nI 1 from rfl, p_rI (by omega) (by omega), p_bnd, (GA 1 1 (by omega)).1, h1.2.1.1.1.2.1]
  · exact RR_ew h1.2.1.1 h1.2.1.2 (fun k hk => by rw [p_gI_n (Or.inl (by decide))]; exact I' k hk)
theorem st_restore (h : REL c M N) : STL c (fL_restore M) (fX11_restore N) := by
  obtain ⟨S, P, h1, h2, h3, h4, h5, h6⟩ := id h
  rcases h3 with ⟨k1, k2⟩ | ⟨K, k1, k2, kc, kr, kb, kn⟩
  · refine STL_no (k := 1) (M' := M) (N' := gI N 0 0 (nI 1)) (b := nI 0) ?_ ?_ (by omega) (by omega) (p_gI_s _ _ _ _) (REL_sc h gFr_rf (gFr_I (by unfold srD; omega)))
    · unfold fL_restore fX10_restore
      rw [k1, if_pos (show nI 0 = (0 : Int32) from rfl)]; rfl
    · unfold fX11_restore
      rw [k2, if_pos (show nI 0 = (0 : Int32) from rfl), show (1 : Int32) = nI 1 from rfl, r_wr1, p_bnd]; rfl
  · obtain ⟨M1, e1, F1, c1⟩ := cs_copy (t := 1) kc (Or.inl (by decide))
    obtain ⟨r, e, F, I⟩ := cpy (M := gI N 0 0 (nI 0)) (body := fun z9 => fX11_restore_l23 z9.1 z9.2) (a := 0) (b := 0) (c1 := 4) (c2 := 1) (N := 374) (by decide) (Or.inl (by decide)) (fun k M' hk _ => by simp (disch := omega) only [p_bnd, p_nm, p_gSEl, p_gSEr, p_l0, p_l1, p_l2, p_l3, p_l4, p_l5, p_l6, p_l7, p_l8, p_l9, p_l10, p_l14, p_l16, p_l20, p_l22, p_l24, p_l30, p_l31, p_l32, p_l38, p_l40, p_l41, p_l43, p_l48, p_l57, p_l59, p_l60, p_l61, p_l62, p_l63, p_l97, p_l98, p_l101, p_l122, p_l158, p_l201, p_l255, p_l256, p_l374, p_l880, p_l900, p_l1000, p_l2618, p_neg, nI_add, p_mul, p_sub, p_addm, p_addm0, p_subm, p_le, p_lt, p_eq, p_mO_eq, p_eq_mO, p_mO_lt, p_nlt_mO, p_mO_le, p_le_mO, p_rI, p_rL, p_wI, p_wL, p_wF, p_has10, p_has11, p_ib0, p_ib1, p_shl1, p_zv0, p_zv1, p_zvib, p_ibd, p_ibn, if_pos, if_neg, if_true, if_false, ne_eq, not_true, not_false_iff, Decidable.not_not, Nat.not_lt, Nat.not_le, Bool.true_eq_false, Bool.false_eq_true, eq_self, reduceIte, Nat.reduceAdd, Nat.reduceMul, Nat.reduceSub, Nat.reduceEqDiff, Nat.reduceLT, Nat.reduceLeDiff, reduceCtorEq, fX11_restore_l23, Nat.zero_add]) (fun M' _ => by simp (disch := omega) only [p_bnd, p_nm, p_gSEl, p_gSEr, p_l0, p_l1, p_l2, p_l3, p_l4, p_l5, p_l6, p_l7, p_l8, p_l9, p_l10, p_l14, p_l16, p_l20, p_l22, p_l24, p_l30, p_l31, p_l32, p_l38, p_l40, p_l41, p_l43, p_l48, p_l57, p_l59, p_l60, p_l61, p_l62, p_l63, p_l97, p_l98, p_l101, p_l122, p_l158, p_l201, p_l255, p_l256, p_l374, p_l880, p_l900, p_l1000, p_l2618, p_neg, nI_add, p_mul, p_sub, p_addm, p_addm0, p_subm, p_le, p_lt, p_eq, p_mO_eq, p_eq_mO, p_mO_lt, p_nlt_mO, p_mO_le, p_le_mO, p_rI, p_rL, p_wI, p_wL, p_wF, p_has10, p_has11, p_ib0, p_ib1, p_shl1, p_zv0, p_zv1, p_zvib, p_ibd, p_ibn, if_pos, if_neg, if_true, if_false, ne_eq, not_true, not_false_iff, Decidable.not_not, Nat.not_lt, Nat.not_le, Bool.true_eq_false, Bool.false_eq_true, eq_self, reduceIte, Nat.reduceAdd, Nat.reduceMul, Nat.reduceSub, Nat.reduceEqDiff, Nat.reduceLT, Nat.reduceLeDiff, reduceCtorEq, fX11_restore_l23])
    have I' : ∀ k, k < 374 → r.1 1 k = N.1 4 k := fun k hk => by have := I k hk; rw [Nat.zero_add, p_gI_n (Or.inl (by decide))] at this; exact this
    have FA : gFr (fun c k => (1 ≤ c ∧ c ≤ 10) ∨ (c = 0 ∧ k = 5)) M (gI M1 0 5 (nI 0)) := gFr_trI (gFr_mo F1 (fun c k z => by omega)) (by omega)
    have GA : gFr (fun c k => c = 1 ∨ (c = 0 ∧ (k = 0 ∨ k = 6))) N (gI r 0 6 (nI 0)) := gFr_trI (gFr_tr (gFr_I (by omega)) (gFr_mo F (fun c k z => by omega))) (by omega)
    have C2 : CS (gI M1 0 5 (nI 0)) 1 K := CS_fr c1 (gFr_I (D := fun c _ => c = 0) rfl) (fun j k hj z => by omega)
    have R2 : RS (gI r 0 6 (nI 0)) K := ⟨RR_ew kr kc.2 (fun k hk => by rw [p_gI_n (Or.inl (by decide))]; exact I' k hk), kc.2⟩
    obtain ⟨-, -, pm, hp, -⟩ := h2.1
    refine STL_ok (M' := gI M1 0 5 (nI 0)) (N' := gI r 0 6 (nI 0)) (b := nI (sM K)) ?_ ?_ ?_ ⟨K, [], ⟨C2, R2, kb, kn⟩, ⟨⟨Nat.zero_le _, p_gI_s _ _ _ _, pm, ⟨fun j hj => ?_, hp.2⟩, fun j T z => by cases j <;> cases z⟩, ⟨Nat.zero_le _, p_gI_s _ _ _ _, fun j T z => by cases j <;> cases z⟩, fun T z => by cases z⟩, Or.inr ⟨K, (FA 0 3 (by omega)).1.trans k1, (GA 0 7 (by omega)).1.trans k2, CS_fr kc FA (fun j k hj z => by omega), by rw [gFr_c1 GA fun k z => by omega]; exact kr, kb, kn⟩, rText_fr h4 FA GA (fun c k a z => by omega) (fun c k a z => by omega), rErr_fr h5 FA GA (fun k a b z => by omega) (fun k a b z => by omega), rOut_fr h6 FA GA (fun c k a z => by omega) (fun c k a z => by omega)⟩
    · refine fl_ok ?_ _
      unfold fX10_restore
      rw [k1, if_neg (show ¬ nI 1 = (0 : Int32) by decide), e1, p_bnd, show (0 : Int32) = nI 0 from rfl, p_wF, p_bnd, cs_m C2]
    · unfold fX11_restore
      rw [k2, if_neg (show ¬ nI 1 = (0 : Int32) by decide), show (0 : Int32) = nI 0 from rfl, r_wr0, p_bnd]
      dsimp only
      rw [if_pos rfl]
      show ((gLoop (fun z9 => fX11_restore_l23 z9.1 z9.2) gFu ((0 : Int32), gI N 0 0 (nI 0))).bind _) = _
      rw [e, p_bnd, p_wF, p_bnd, show (1 : Int32) = nI 1 from rfl, p_rI (by omega) (by omega), p_bnd, R2.1.1.2.1]
    · rw [p_gI_n (Or.inr (by decide)), (F 0 0 (by omega)).1, p_gI_s]
    · rw [(FA 31 j (by omega)).2.2]; exact hp.1 j hj
theorem st_turned (h : REL c M N) : SD c (fX10_turned M) (fX11_turned N) := by
  obtain ⟨S, P, h1, h2, h3, h4, h5, h6⟩ := id h
  obtain ⟨M1, e1, F1, -, c1⟩ := cs_sortAll h1.1 (by decide)
  obtain ⟨N1, g1, G1, -⟩ := rs_turned h1.2.1
  have F1' : gFr scD M M1 := gFr_mo F1 (fun c k z => by unfold Dso at z; unfold scD; omega)
  have g1g : M1.1 1 11 = nI (sG S) := by rw [(F1' 1 11 (by unfold scD; omega)).1]; exact cs_g h1.1
  have e2 := cs_turnedPairs (t := 1) g1g h1.1.2 c1
  refine ⟨nI (tpL (fF S) (sG S)), M1, N1, ?_, by rw [g1, tp_eq], REL_sc h F1' (gFr_mo G1 (fun c k z => by unfold srD; omega))⟩
  unfold fX10_turned
  rw [e1, p_bnd, e2, p_bnd]
theorem st_length (h : REL c M N) : SD c (fX10_length M) (fX11_length N) := by
  obtain ⟨S, P, h1, h2, h3, h4, h5, h6⟩ := id h
  obtain ⟨M1, e1, F1, m1, -⟩ := cs_measure h1.1 (by decide) (rN_g h1)
  obtain ⟨N1, g1, G1, n1, -⟩ := rs_laysChains (RS_of h1.2.1 (M' := gI N 0 0 (nI 0)) (p_gI_o (by decide))) (rN_g h1)
  refine ⟨nI (cLg S), M1, N1, ?_, ?_, REL_sc h (gFr_mo F1 (fun c k z => by unfold scD; omega)) (gFr_tr (gFr_I (by unfold srD; omega)) (gFr_mo G1 (fun c k z => by unfold srD; omega)))⟩
  · unfold fX10_length
    rw [e1, p_bnd, m1]
  · unfold fX11_length
    rw [show (0 : Int32) = nI 0 from rfl, p_wF, p_bnd, g1, p_bnd, n1]
theorem st_tight (h : REL c M N) : SD c (fX10_tight M) (fX11_tight N) := by
  obtain ⟨S, P, h1, h2, h3, h4, h5, h6⟩ := id h
  obtain ⟨M1, e1, F1⟩ := cs_tight h1.1 (rN_g h1)
  obtain ⟨N1, g1, G1, -⟩ := rs_tight h1.2.1 (rN_g h1)
  exact ⟨_, M1, N1, e1, g1, REL_sc h (gFr_mo F1 (fun c k z => by unfold scD; omega)) (gFr_mo G1 (fun c k z => by unfold srD; omega))⟩
theorem st_gap (h : REL c M N) : SD c ((fX10_gap M).bind fun v => some (v, M)) (fX11_gap N) := by
  obtain ⟨S, P, h1, h2, h3, h4, h5, h6⟩ := id h
  obtain ⟨N1, g1, G1, -⟩ := rs_gap h1.2.1
  exact ⟨nI 0, M, N1, by rw [cs_gap h1.1, p_bnd], g1, REL_sc h gFr_rf (gFr_mo G1 (fun c k z => by unfold srD; omega))⟩
theorem st_needless (h : REL c M N) : SD c ((fX10_needless M).bind fun v => some (v, M)) (fX11_needless N) := by
  obtain ⟨S, P, h1, h2, h3, h4, h5, h6⟩ := id h
  obtain ⟨N1, g1, G1, -⟩ := rs_needless h1.2.1
  exact ⟨_, M, N1, by rw [cs_needless h1.1, p_bnd], g1, REL_sc h gFr_rf (gFr_mo G1 (fun c k z => by unfold srD; omega))⟩
theorem st_weakest (h : REL c M N) : SD c (fX10_weakest M) (fX11_weakest N) := by
  obtain ⟨S, P, h1, h2, h3, h4, h5, h6⟩ := id h
  obtain ⟨M1, e1, F1⟩ := cs_weakest h1.1
  obtain ⟨N1, g1, G1, -, r1⟩ := rs_weakest h1.2.1
  exact ⟨_, M1, N1, e1, g1, rel_r1 h1 h2 h3 h4 h5 h6 (gFr_mo F1 (fun c k z => by unfold scD; omega)) (gFr_mo G1 (fun c k z => by unfold srD; omega)) r1⟩
end DI
