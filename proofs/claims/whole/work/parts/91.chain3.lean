/-! CHAINS: the reference's laysChains, whole -/
section RC
variable {M : gMem} {S : gS}
theorem cRs_at {p : Nat} (hp : p < sG S) : cRs S p = gMx (fun i => if sLd S p (p + 1 + i) = true then cRs S (p + 1 + i) + sHo S (p + 1 + i) else 0) (sG S - 1 - p) := by
  have e : cRs S p = gMx (fun o => if ldB S o (sG S - 1 - p) = true then cBk S o + sHo S (sG S - 1 - o) else 0) (sG S - 1 - p) := cBk_at
  rw [e, ← gMx_rev]
  refine gMx_cg fun i hi => ?_
  have e1 : sG S - 1 - (sG S - 1 - p) = p := by omega
  have e2 : sG S - 1 - (sG S - 1 - p - 1 - i) = p + 1 + i := by omega
  have e3 : sG S - 1 - (p + 1 + i) = sG S - 1 - p - 1 - i := by omega
  unfold ldB cRs
  rw [e1, e2, e3, decide_eq_true (show sG S - 1 - p - 1 - i < sG S - 1 - p by omega), Bool.and_true]
theorem rc_inner (h : RS M S) {k : Nat} (hk : k < sG S) (h17 : ∀ p, p < k → M.1 17 p = nI (sHo S p)) (h14 : ∀ p, p < k → M.1 14 p = nI (cLv S p)) (h15 : ∀ p, p < k → M.1 15 p = nI (cBg S p)) (z14 : M.1 14 k = nI 0) (z15 : M.1 15 k = nI 0) :
    ∃ r, gLoop (fun z9 => fX11_laysChains_l48 (nI k) z9.1 z9.2) gFu ((0 : Int32), M) = some r ∧ gFr (fun c j => (c = 14 ∨ c = 15) ∧ j = k) M r ∧ r.1 14 k = nI (cLv S k) ∧ r.1 15 k = nI (cBg S k) := by
  have hn := h.2.1.1
  have hg : sG S ≤ 24 := Nat.le_trans h.2.1.2.2.1 h.2.1.1
  refine gLoop_i (fun j s => ∃ M', s = (nI j, M') ∧ gFr (fun c j => (c = 14 ∨ c = 15) ∧ j = k) M M' ∧ M'.1 14 k = nI (gMx (fun o => if ldF S o k = true then cLv S o + 1 else 0) j) ∧ M'.1 15 k = nI (gMx (fun o => if ldF S o k = true then cBg S o + sHo S o else 0) j)) _ k ⟨M, rfl, gFr_rf, z14, z15⟩ (by show k < 4096; omega) ?_
  rintro j s hj ⟨M', rfl, hF, i14, i15⟩
  have h' : RS M' S := RS_of h (gFr_c1 hF (fun _ => by omega))
  rcases Nat.lt_or_ge j k with q | q
  · have m1 := rs_membersAt h' (show j < sG S by omega)
    have m2 := rs_membersAt h' hk
    have m3 := rs_leads h' (p := j) (q := k)
    have x14 : M'.1 14 j = nI (cLv S j) := by rw [(hF 14 j (by omega)).1]; exact h14 j q
    have x15 : M'.1 15 j = nI (cBg S j) := by rw [(hF 15 j (by omega)).1]; exact h15 j q
    have x17 : M'.1 17 j = nI (sHo S j) := by rw [(hF 17 j (by omega)).1]; exact h17 j q
    have u1 := cLv_le S (q := j) (by omega)
    have u2 := cBg_le h.2 (q := j) (by omega)
    have u3 := sHo_le h.2 j
    have u4 := gLv_le (S := S) (q := k) (n := j) (by omega)
    have u5 := gBg_le h.2 (q := k) (n := j) (by omega)
    have el : ldF S j k = sLd S j k := by unfold ldF; rw [decide_eq_true q, Bool.and_true]
    cases hb : sLd S j k
    · refine Or.inl ⟨(nI (j + 1), M'), ?_, q, M', rfl, hF, ?_, ?_⟩
      · simp (disch := omega) only [p_bnd, p_nm, p_gSEl, p_gSEr, p_l0, p_l1, p_l2, p_l3, p_l4, p_l5, p_l6, p_l7, p_l8, p_l9, p_l10, p_l14, p_l16, p_l20, p_l22, p_l24, p_l30, p_l31, p_l32, p_l38, p_l40, p_l41, p_l43, p_l48, p_l57, p_l59, p_l60, p_l61, p_l62, p_l63, p_l97, p_l98, p_l101, p_l122, p_l158, p_l201, p_l255, p_l256, p_l374, p_l880, p_l900, p_l1000, p_l2618, p_neg, nI_add, p_mul, p_sub, p_addm, p_addm0, p_subm, p_le, p_lt, p_eq, p_mO_eq, p_eq_mO, p_mO_lt, p_nlt_mO, p_mO_le, p_le_mO, p_rI, p_rL, p_wI, p_wL, p_wF, p_has10, p_has11, p_ib0, p_ib1, p_shl1, p_zv0, p_zv1, p_zvib, p_ibd, p_ibn, if_pos, if_neg, if_true, if_false, ne_eq, not_true, not_false_iff, Decidable.not_not, Nat.not_lt, Nat.not_le, Bool.true_eq_false, Bool.false_eq_true, eq_self, reduceIte, Nat.reduceAdd, Nat.reduceMul, Nat.reduceSub, Nat.reduceEqDiff, Nat.reduceLT, Nat.reduceLeDiff, reduceCtorEq, fX11_laysChains_l48, fX11_laysChains_b121, m1, m2, m3, hb, ibF]
      · rw [gMx_s, el, hb, if_neg (by decide), mx_0]; exact i14
      · rw [gMx_s, el, hb, if_neg (by decide), mx_0]; exact i15
    · have o15 : ∀ (j : Nat) (v : Int32), (gI M' 14 j v).1 15 = M'.1 15 := fun _ _ => p_gI_o (by decide)
      have o17 : ∀ (j : Nat) (v : Int32), (gI M' 14 j v).1 17 = M'.1 17 := fun _ _ => p_gI_o (by decide)
      refine Or.inl ⟨(nI (j + 1), gI (gI M' 14 k (nI (gMx (fun o => if ldF S o k = true then cLv S o + 1 else 0) (j + 1)))) 15 k (nI (gMx (fun o => if ldF S o k = true then cBg S o + sHo S o else 0) (j + 1)))), ?_, q, _, rfl, gFr_trI (gFr_trI hF ⟨Or.inl rfl, rfl⟩) ⟨Or.inr rfl, rfl⟩, by rw [p_gI_o (by decide), p_gI_s], by rw [p_gI_s]⟩
      rw [gMx_s, gMx_s, el, hb, if_pos rfl, if_pos rfl]
      generalize gMx (fun o => if ldF S o k = true then cLv S o + 1 else 0) j = a1 at i14 u4
      generalize gMx (fun o => if ldF S o k = true then cBg S o + sHo S o else 0) j = a2 at i15 u5
      simp (disch := omega) only [p_bnd, p_nm, p_gSEl, p_gSEr, p_l0, p_l1, p_l2, p_l3, p_l4, p_l5, p_l6, p_l7, p_l8, p_l9, p_l10, p_l14, p_l16, p_l20, p_l22, p_l24, p_l30, p_l31, p_l32, p_l38, p_l40, p_l41, p_l43, p_l48, p_l57, p_l59, p_l60, p_l61, p_l62, p_l63, p_l97, p_l98, p_l101, p_l122, p_l158, p_l201, p_l255, p_l256, p_l374, p_l880, p_l900, p_l1000, p_l2618, p_neg, nI_add, p_mul, p_sub, p_addm, p_addm0, p_subm, p_le, p_lt, p_eq, p_mO_eq, p_eq_mO, p_mO_lt, p_nlt_mO, p_mO_le, p_le_mO, p_rI, p_rL, p_wI, p_wL, p_wF, p_has10, p_has11, p_ib0, p_ib1, p_shl1, p_zv0, p_zv1, p_zvib, p_ibd, p_ibn, if_pos, if_neg, if_true, if_false, ne_eq, not_true, not_false_iff, Decidable.not_not, Nat.not_lt, Nat.not_le, Bool.true_eq_false, Bool.false_eq_true, eq_self, reduceIte, Nat.reduceAdd, Nat.reduceMul, Nat.reduceSub, Nat.reduceEqDiff, Nat.reduceLT, Nat.reduceLeDiff, reduceCtorEq, fX11_laysChains_l48, fX11_laysChains_b121, m1, m2, m3, hb, ibT, i14, i15, x14, x15, x17, o15, o17, mx_if]
  · have e : j = k := by omega
    refine Or.inr ⟨M', by simp (disch := omega) only [p_bnd, p_nm, p_gSEl, p_gSEr, p_l0, p_l1, p_l2, p_l3, p_l4, p_l5, p_l6, p_l7, p_l8, p_l9, p_l10, p_l14, p_l16, p_l20, p_l22, p_l24, p_l30, p_l31, p_l32, p_l38, p_l40, p_l41, p_l43, p_l48, p_l57, p_l59, p_l60, p_l61, p_l62, p_l63, p_l97, p_l98, p_l101, p_l122, p_l158, p_l201, p_l255, p_l256, p_l374, p_l880, p_l900, p_l1000, p_l2618, p_neg, nI_add, p_mul, p_sub, p_addm, p_addm0, p_subm, p_le, p_lt, p_eq, p_mO_eq, p_eq_mO, p_mO_lt, p_nlt_mO, p_mO_le, p_le_mO, p_rI, p_rL, p_wI, p_wL, p_wF, p_has10, p_has11, p_ib0, p_ib1, p_shl1, p_zv0, p_zv1, p_zvib, p_ibd, p_ibn, if_pos, if_neg, if_true, if_false, ne_eq, not_true, not_false_iff, Decidable.not_not, Nat.not_lt, Nat.not_le, Bool.true_eq_false, Bool.false_eq_true, eq_self, reduceIte, Nat.reduceAdd, Nat.reduceMul, Nat.reduceSub, Nat.reduceEqDiff, Nat.reduceLT, Nat.reduceLeDiff, reduceCtorEq, fX11_laysChains_l48], hF, ?_, ?_⟩
    · rw [i14, cLv_end (by omega)]
    · rw [i15, cBg_end (by omega)]
theorem rc_fwd (h : RS M S) (h38 : M.1 0 38 = nI 0) : ∃ r, gLoop (fun z9 => fX11_laysChains_l7 z9.1 z9.2) gFu ((0 : Int32), M) = some r ∧ gFr (fun c k => (c = 0 ∧ k = 38) ∨ c = 14 ∨ c = 15 ∨ c = 17) M r ∧ r.1 0 38 = nI (cLg S) ∧ ∀ p, p < sG S → r.1 17 p = nI (sHo S p) ∧ r.1 14 p = nI (cLv S p) ∧ r.1 15 p = nI (cBg S p) := by
  have hn := h.2.1.1
  have hg : sG S ≤ 24 := Nat.le_trans h.2.1.2.2.1 h.2.1.1
  refine gLoop_i (fun k s => ∃ M', s = (nI k, M') ∧ gFr (fun c k => (c = 0 ∧ k = 38) ∨ c = 14 ∨ c = 15 ∨ c = 17) M M' ∧ M'.1 0 38 = nI (gMx (fun p => cBg S p + sHo S p) k) ∧ ∀ p, p < k → M'.1 17 p = nI (sHo S p) ∧ M'.1 14 p = nI (cLv S p) ∧ M'.1 15 p = nI (cBg S p)) _ (sG S) ⟨M, rfl, gFr_rf, h38, fun p z => absurd z (Nat.not_lt_zero _)⟩ (by show sG S < 4096; omega) ?_
  rintro k s hk ⟨M', rfl, hF, h5, hI⟩
  have h' : RS M' S := RS_of h (gFr_c1 hF (fun _ => by omega))
  have g2 : M'.1 1 2 = nI (sG S) := h'.1.1.2.2.1
  rcases Nat.lt_or_ge k (sG S) with q | q
  · have m1 := rs_membersAt h' q
    have m2 := rs_hoursOf h' (p := k)
    have F8 : gFr (fun c j => (c = 14 ∨ c = 15 ∨ c = 17) ∧ j = k) M' (gI (gI (gI M' 17 k (nI (sHo S k))) 14 k (nI 0)) 15 k (nI 0)) := gFr_trI (gFr_trI (gFr_I ⟨by omega, rfl⟩) ⟨by omega, rfl⟩) ⟨by omega, rfl⟩
    have a17 : (gI (gI (gI M' 17 k (nI (sHo S k))) 14 k (nI 0)) 15 k (nI 0)).1 17 k = nI (sHo S k) := by rw [p_gI_o (by decide), p_gI_o (by decide), p_gI_s]
    have a14 : (gI (gI (gI M' 17 k (nI (sHo S k))) 14 k (nI 0)) 15 k (nI 0)).1 14 k = nI 0 := by rw [p_gI_o (by decide), p_gI_s]
    have a15 : (gI (gI (gI M' 17 k (nI (sHo S k))) 14 k (nI 0)) 15 k (nI 0)).1 15 k = nI 0 := by rw [p_gI_s]
    generalize hM8 : gI (gI (gI M' 17 k (nI (sHo S k))) 14 k (nI 0)) 15 k (nI 0) = M8 at F8 a17 a14 a15
    have h8 : RS M8 S := RS_of h' (gFr_c1 F8 (fun _ => by omega))
    obtain ⟨M9, e9, F9, b14, b15⟩ := rc_inner h8 q (fun p hp => by rw [(F8 17 p (by omega)).1]; exact (hI p hp).1) (fun p hp => by rw [(F8 14 p (by omega)).1]; exact (hI p hp).2.1) (fun p hp => by rw [(F8 15 p (by omega)).1]; exact (hI p hp).2.2) a14 a15
    have b17 : M9.1 17 k = nI (sHo S k) := by rw [(F9 17 k (by omega)).1]; exact a17
    have b38 : M9.1 0 38 = nI (gMx (fun p => cBg S p + sHo S p) k) := by rw [(F9 0 38 (by omega)).1, (F8 0 38 (by omega)).1]; exact h5
    have u1 := gLg_le h.2 (n := k) (by omega)
    have u2 := cBg_le h.2 (q := k) (by omega)
    have u3 := sHo_le h.2 k
    have e9' : gLoop (fun z9 => fX11_laysChains_l48 (nI k) z9.1 z9.2) gFu (nI 0, M8) = some M9 := e9
    refine Or.inl ⟨(nI (k + 1), gI M9 0 38 (nI (gMx (fun p => cBg S p + sHo S p) (k + 1)))), ?_, q, _, rfl, gFr_trI (gFr_tr hF (gFr_tr (gFr_mo F8 (fun c k z => by omega)) (gFr_mo F9 (fun c k z => by omega)))) (Or.inl ⟨rfl, rfl⟩), p_gI_s _ _ _ _, fun p hp => ?_⟩
    · rw [gMx_s]
      generalize gMx (fun p => cBg S p + sHo S p) k = g0 at b38 u1
      simp (disch := omega) only [p_bnd, p_nm, p_gSEl, p_gSEr, p_l0, p_l1, p_l2, p_l3, p_l4, p_l5, p_l6, p_l7, p_l8, p_l9, p_l10, p_l14, p_l16, p_l20, p_l22, p_l24, p_l30, p_l31, p_l32, p_l38, p_l40, p_l41, p_l43, p_l48, p_l57, p_l59, p_l60, p_l61, p_l62, p_l63, p_l97, p_l98, p_l101, p_l122, p_l158, p_l201, p_l255, p_l256, p_l374, p_l880, p_l900, p_l1000, p_l2618, p_neg, nI_add, p_mul, p_sub, p_addm, p_addm0, p_subm, p_le, p_lt, p_eq, p_mO_eq, p_eq_mO, p_mO_lt, p_nlt_mO, p_mO_le, p_le_mO, p_rI, p_rL, p_wI, p_wL, p_wF, p_has10, p_has11, p_ib0, p_ib1, p_shl1, p_zv0, p_zv1, p_zvib, p_ibd, p_ibn, if_pos, if_neg, if_true, if_false, ne_eq, not_true, not_false_iff, Decidable.not_not, Nat.not_lt, Nat.not_le, Bool.true_eq_false, Bool.false_eq_true, eq_self, reduceIte, Nat.reduceAdd, Nat.reduceMul, Nat.reduceSub, Nat.reduceEqDiff, Nat.reduceLT, Nat.reduceLeDiff, reduceCtorEq, fX11_laysChains_l7, g2, m1, m2, hM8, e9', b15, b17, b38, mx_if]
    · rw [p_gI_n (Or.inl (by decide)), p_gI_n (Or.inl (by decide)), p_gI_n (Or.inl (by decide))]
      by_cases e : p = k
      · rw [e]; exact ⟨b17, b14, b15⟩
      · obtain ⟨c1, c2, c3⟩ := hI p (by omega)
        rw [(F9 17 p (by omega)).1, (F9 14 p (by omega)).1, (F9 15 p (by omega)).1, (F8 17 p (by omega)).1, (F8 14 p (by omega)).1, (F8 15 p (by omega)).1]
        exact ⟨c1, c2, c3⟩
  · have e9 : k = sG S := by omega
    exact Or.inr ⟨M', by simp (disch := omega) only [p_bnd, p_nm, p_gSEl, p_gSEr, p_l0, p_l1, p_l2, p_l3, p_l4, p_l5, p_l6, p_l7, p_l8, p_l9, p_l10, p_l14, p_l16, p_l20, p_l22, p_l24, p_l30, p_l31, p_l32, p_l38, p_l40, p_l41, p_l43, p_l48, p_l57, p_l59, p_l60, p_l61, p_l62, p_l63, p_l97, p_l98, p_l101, p_l122, p_l158, p_l201, p_l255, p_l256, p_l374, p_l880, p_l900, p_l1000, p_l2618, p_neg, nI_add, p_mul, p_sub, p_addm, p_addm0, p_subm, p_le, p_lt, p_eq, p_mO_eq, p_eq_mO, p_mO_lt, p_nlt_mO, p_mO_le, p_le_mO, p_rI, p_rL, p_wI, p_wL, p_wF, p_has10, p_has11, p_ib0, p_ib1, p_shl1, p_zv0, p_zv1, p_zvib, p_ibd, p_ibn, if_pos, if_neg, if_true, if_false, ne_eq, not_true, not_false_iff, Decidable.not_not, Nat.not_lt, Nat.not_le, Bool.true_eq_false, Bool.false_eq_true, eq_self, reduceIte, Nat.reduceAdd, Nat.reduceMul, Nat.reduceSub, Nat.reduceEqDiff, Nat.reduceLT, Nat.reduceLeDiff, reduceCtorEq, fX11_laysChains_l7, g2], hF, by rw [h5, e9]; rfl, fun p hp => hI p (by omega)⟩
theorem rc_back1 (h : RS M S) {p : Nat} (hp : p < sG S) (h17 : ∀ o, o < sG S → M.1 17 o = nI (sHo S o)) (h16 : ∀ o, p < o → o < sG S → M.1 16 o = nI (cRs S o)) (z16 : M.1 16 p = nI 0) :
    ∃ r, gLoop (fun z9 => fX11_laysChains_l181 (nI p) z9.1 z9.2) gFu (nI (p + 1), M) = some r ∧ gFr (fun c j => c = 16 ∧ j = p) M r ∧ r.1 16 p = nI (cRs S p) := by
  have hn := h.2.1.1
  have hg : sG S ≤ 24 := Nat.le_trans h.2.1.2.2.1 h.2.1.1
  refine gLoop_i (fun i s => ∃ M', s = (nI (p + 1 + i), M') ∧ gFr (fun c j => c = 16 ∧ j = p) M M' ∧ M'.1 16 p = nI (gMx (fun i => if sLd S p (p + 1 + i) = true then cRs S (p + 1 + i) + sHo S (p + 1 + i) else 0) i)) _ (sG S - 1 - p) ⟨M, rfl, gFr_rf, z16⟩ (by show sG S - 1 - p < 4096; omega) ?_
  rintro i s hi ⟨M', rfl, hF, i16⟩
  have h' : RS M' S := RS_of h (gFr_c1 hF (fun _ => by omega))
  have g2 : M'.1 1 2 = nI (sG S) := h'.1.1.2.2.1
  rcases Nat.lt_or_ge i (sG S - 1 - p) with q | q
  · have m1 := rs_membersAt h' hp
    have m2 := rs_membersAt h' (show p + 1 + i < sG S by omega)
    have m3 := rs_leads h' (p := p) (q := p + 1 + i)
    have x16 : M'.1 16 (p + 1 + i) = nI (cRs S (p + 1 + i)) := by rw [(hF 16 _ (by omega)).1]; exact h16 _ (by omega) (by omega)
    have x17 : M'.1 17 (p + 1 + i) = nI (sHo S (p + 1 + i)) := by rw [(hF 17 _ (by omega)).1]; exact h17 _ (by omega)
    have u1 := cBk_le h.2 (q := sG S - 1 - (p + 1 + i)) (by omega)
    have u1' : cRs S (p + 1 + i) ≤ 5184 := u1
    have u2 := sHo_le h.2 (p + 1 + i)
    have u3 : gMx (fun i => if sLd S p (p + 1 + i) = true then cRs S (p + 1 + i) + sHo S (p + 1 + i) else 0) i ≤ 10000 := gMx_ub fun k hk => by
      have v1 := cBk_le h.2 (q := sG S - 1 - (p + 1 + k)) (by omega)
      have v1' : cRs S (p + 1 + k) ≤ 5184 := v1
      have v2 := sHo_le h.2 (p + 1 + k)
      show (if sLd S p (p + 1 + k) = true then cRs S (p + 1 + k) + sHo S (p + 1 + k) else 0) ≤ 10000
      split <;> omega
    cases hb : sLd S p (p + 1 + i)
    · refine Or.inl ⟨(nI (p + 1 + i + 1), M'), ?_, q, M', rfl, hF, ?_⟩
      · simp (disch := omega) only [p_bnd, p_nm, p_gSEl, p_gSEr, p_l0, p_l1, p_l2, p_l3, p_l4, p_l5, p_l6, p_l7, p_l8, p_l9, p_l10, p_l14, p_l16, p_l20, p_l22, p_l24, p_l30, p_l31, p_l32, p_l38, p_l40, p_l41, p_l43, p_l48, p_l57, p_l59, p_l60, p_l61, p_l62, p_l63, p_l97, p_l98, p_l101, p_l122, p_l158, p_l201, p_l255, p_l256, p_l374, p_l880, p_l900, p_l1000, p_l2618, p_neg, nI_add, p_mul, p_sub, p_addm, p_addm0, p_subm, p_le, p_lt, p_eq, p_mO_eq, p_eq_mO, p_mO_lt, p_nlt_mO, p_mO_le, p_le_mO, p_rI, p_rL, p_wI, p_wL, p_wF, p_has10, p_has11, p_ib0, p_ib1, p_shl1, p_zv0, p_zv1, p_zvib, p_ibd, p_ibn, if_pos, if_neg, if_true, if_false, ne_eq, not_true, not_false_iff, Decidable.not_not, Nat.not_lt, Nat.not_le, Bool.true_eq_false, Bool.false_eq_true, eq_self, reduceIte, Nat.reduceAdd, Nat.reduceMul, Nat.reduceSub, Nat.reduceEqDiff, Nat.reduceLT, Nat.reduceLeDiff, reduceCtorEq, fX11_laysChains_l181, fX11_laysChains_b236, g2, m1, m2, m3, hb, ibF]
      · rw [gMx_s, hb, if_neg (by decide), mx_0]; exact i16
    · refine Or.inl ⟨(nI (p + 1 + i + 1), gI M' 16 p (nI (gMx (fun i => if sLd S p (p + 1 + i) = true then cRs S (p + 1 + i) + sHo S (p + 1 + i) else 0) (i + 1)))), ?_, q, _, rfl, gFr_trI hF ⟨rfl, rfl⟩, by rw [p_gI_s]⟩
      rw [gMx_s, hb, if_pos rfl]
      generalize gMx (fun i => if sLd S p (p + 1 + i) = true then cRs S (p + 1 + i) + sHo S (p + 1 + i) else 0) i = a1 at i16 u3
      simp (disch := omega) only [p_bnd, p_nm, p_gSEl, p_gSEr, p_l0, p_l1, p_l2, p_l3, p_l4, p_l5, p_l6, p_l7, p_l8, p_l9, p_l10, p_l14, p_l16, p_l20, p_l22, p_l24, p_l30, p_l31, p_l32, p_l38, p_l40, p_l41, p_l43, p_l48, p_l57, p_l59, p_l60, p_l61, p_l62, p_l63, p_l97, p_l98, p_l101, p_l122, p_l158, p_l201, p_l255, p_l256, p_l374, p_l880, p_l900, p_l1000, p_l2618, p_neg, nI_add, p_mul, p_sub, p_addm, p_addm0, p_subm, p_le, p_lt, p_eq, p_mO_eq, p_eq_mO, p_mO_lt, p_nlt_mO, p_mO_le, p_le_mO, p_rI, p_rL, p_wI, p_wL, p_wF, p_has10, p_has11, p_ib0, p_ib1, p_shl1, p_zv0, p_zv1, p_zvib, p_ibd, p_ibn, if_pos, if_neg, if_true, if_false, ne_eq, not_true, not_false_iff, Decidable.not_not, Nat.not_lt, Nat.not_le, Bool.true_eq_false, Bool.false_eq_true, eq_self, reduceIte, Nat.reduceAdd, Nat.reduceMul, Nat.reduceSub, Nat.reduceEqDiff, Nat.reduceLT, Nat.reduceLeDiff, reduceCtorEq, fX11_laysChains_l181, fX11_laysChains_b236, g2, m1, m2, m3, hb, ibT, i16, x16, x17, mx_if]
  · have e : p + 1 + i = sG S := by omega
    rw [e]
    refine Or.inr ⟨M', by simp (disch := omega) only [p_bnd, p_nm, p_gSEl, p_gSEr, p_l0, p_l1, p_l2, p_l3, p_l4, p_l5, p_l6, p_l7, p_l8, p_l9, p_l10, p_l14, p_l16, p_l20, p_l22, p_l24, p_l30, p_l31, p_l32, p_l38, p_l40, p_l41, p_l43, p_l48, p_l57, p_l59, p_l60, p_l61, p_l62, p_l63, p_l97, p_l98, p_l101, p_l122, p_l158, p_l201, p_l255, p_l256, p_l374, p_l880, p_l900, p_l1000, p_l2618, p_neg, nI_add, p_mul, p_sub, p_addm, p_addm0, p_subm, p_le, p_lt, p_eq, p_mO_eq, p_eq_mO, p_mO_lt, p_nlt_mO, p_mO_le, p_le_mO, p_rI, p_rL, p_wI, p_wL, p_wF, p_has10, p_has11, p_ib0, p_ib1, p_shl1, p_zv0, p_zv1, p_zvib, p_ibd, p_ibn, if_pos, if_neg, if_true, if_false, ne_eq, not_true, not_false_iff, Decidable.not_not, Nat.not_lt, Nat.not_le, Bool.true_eq_false, Bool.false_eq_true, eq_self, reduceIte, Nat.reduceAdd, Nat.reduceMul, Nat.reduceSub, Nat.reduceEqDiff, Nat.reduceLT, Nat.reduceLeDiff, reduceCtorEq, fX11_laysChains_l181, g2], hF, ?_⟩
    rw [i16, cRs_at hp, show i = sG S - 1 - p by omega]
theorem rc_back (h : RS M S) (hg1 : 0 < sG S) (h17 : ∀ o, o < sG S → M.1 17 o = nI (sHo S o)) :
    ∃ r, gLoop (fun z9 => fX11_laysChains_l166 z9.1 z9.2) gFu (nI (sG S - 1), M) = some r ∧ gFr (fun c _ => c = 16) M r ∧ ∀ q, q < sG S → r.1 16 q = nI (cRs S q) := by
  have hg : sG S ≤ 24 := Nat.le_trans h.2.1.2.2.1 h.2.1.1
  refine gLoop_i (fun k s => ∃ M', s = (if k < sG S then nI (sG S - 1 - k) else mO 1, M') ∧ gFr (fun c _ => c = 16) M M' ∧ ∀ q, q < sG S → sG S ≤ q + k → M'.1 16 q = nI (cRs S q)) _ (sG S) ⟨M, by rw [if_pos hg1, Nat.sub_zero], gFr_rf, fun q h1 h2 => by omega⟩ (by show sG S < 4096; omega) ?_
  rintro k s hk ⟨M', rfl, hF, hI⟩
  have h' : RS M' S := RS_of h (gFr_c1 hF (fun _ => by omega))
  rcases Nat.lt_or_ge k (sG S) with q | q
  · rw [if_pos q]
    obtain ⟨y, hy⟩ : ∃ y, y = sG S - 1 - k := ⟨_, rfl⟩
    have h'' : RS (gI M' 16 y (nI 0)) S := RS_of h' (p_gI_o (by decide))
    obtain ⟨M2, e2, F2, I2⟩ := rc_back1 h'' (p := y) (by omega) (fun o ho => by rw [p_gI_o (by decide), (hF 17 o (by omega)).1]; exact h17 o ho) (fun o h1 h2 => by rw [p_gI_n (Or.inr (by omega))]; exact hI o h2 (by omega)) (p_gI_s _ _ _ _)
    refine Or.inl ⟨(if k + 1 < sG S then nI (sG S - 1 - (k + 1)) else mO 1, M2), ?_, q, M2, rfl, gFr_tr (gFr_trI hF rfl) (gFr_mo F2 (fun c j z => z.1)), fun o h1 h2 => ?_⟩
    · by_cases c : k + 1 < sG S
      · rw [if_pos c, show sG S - 1 - (k + 1) = y - 1 by omega, ← hy]
        simp (disch := omega) only [p_bnd, p_nm, p_gSEl, p_gSEr, p_l0, p_l1, p_l2, p_l3, p_l4, p_l5, p_l6, p_l7, p_l8, p_l9, p_l10, p_l14, p_l16, p_l20, p_l22, p_l24, p_l30, p_l31, p_l32, p_l38, p_l40, p_l41, p_l43, p_l48, p_l57, p_l59, p_l60, p_l61, p_l62, p_l63, p_l97, p_l98, p_l101, p_l122, p_l158, p_l201, p_l255, p_l256, p_l374, p_l880, p_l900, p_l1000, p_l2618, p_neg, nI_add, p_mul, p_sub, p_addm, p_addm0, p_subm, p_le, p_lt, p_eq, p_mO_eq, p_eq_mO, p_mO_lt, p_nlt_mO, p_mO_le, p_le_mO, p_rI, p_rL, p_wI, p_wL, p_wF, p_has10, p_has11, p_ib0, p_ib1, p_shl1, p_zv0, p_zv1, p_zvib, p_ibd, p_ibn, if_pos, if_neg, if_true, if_false, ne_eq, not_true, not_false_iff, Decidable.not_not, Nat.not_lt, Nat.not_le, Bool.true_eq_false, Bool.false_eq_true, eq_self, reduceIte, Nat.reduceAdd, Nat.reduceMul, Nat.reduceSub, Nat.reduceEqDiff, Nat.reduceLT, Nat.reduceLeDiff, reduceCtorEq, fX11_laysChains_l166, e2]
      · rw [if_neg c]
        have ey : y = 0 := by omega
        rw [← hy]
        rw [ey] at e2 ⊢
        simp (disch := omega) only [p_bnd, p_nm, p_gSEl, p_gSEr, p_l0, p_l1, p_l2, p_l3, p_l4, p_l5, p_l6, p_l7, p_l8, p_l9, p_l10, p_l14, p_l16, p_l20, p_l22, p_l24, p_l30, p_l31, p_l32, p_l38, p_l40, p_l41, p_l43, p_l48, p_l57, p_l59, p_l60, p_l61, p_l62, p_l63, p_l97, p_l98, p_l101, p_l122, p_l158, p_l201, p_l255, p_l256, p_l374, p_l880, p_l900, p_l1000, p_l2618, p_neg, nI_add, p_mul, p_sub, p_addm, p_addm0, p_subm, p_le, p_lt, p_eq, p_mO_eq, p_eq_mO, p_mO_lt, p_nlt_mO, p_mO_le, p_le_mO, p_rI, p_rL, p_wI, p_wL, p_wF, p_has10, p_has11, p_ib0, p_ib1, p_shl1, p_zv0, p_zv1, p_zvib, p_ibd, p_ibn, if_pos, if_neg, if_true, if_false, ne_eq, not_true, not_false_iff, Decidable.not_not, Nat.not_lt, Nat.not_le, Bool.true_eq_false, Bool.false_eq_true, eq_self, reduceIte, Nat.reduceAdd, Nat.reduceMul, Nat.reduceSub, Nat.reduceEqDiff, Nat.reduceLT, Nat.reduceLeDiff, reduceCtorEq, fX11_laysChains_l166, e2]
    · by_cases e : o = y
      · rw [e]; exact I2
      · rw [(F2 16 o (by omega)).1, p_gI_n (Or.inr e)]; exact hI o h1 (by omega)
  · rw [if_neg (by omega)]
    exact Or.inr ⟨M', by simp (disch := omega) only [p_bnd, p_nm, p_gSEl, p_gSEr, p_l0, p_l1, p_l2, p_l3, p_l4, p_l5, p_l6, p_l7, p_l8, p_l9, p_l10, p_l14, p_l16, p_l20, p_l22, p_l24, p_l30, p_l31, p_l32, p_l38, p_l40, p_l41, p_l43, p_l48, p_l57, p_l59, p_l60, p_l61, p_l62, p_l63, p_l97, p_l98, p_l101, p_l122, p_l158, p_l201, p_l255, p_l256, p_l374, p_l880, p_l900, p_l1000, p_l2618, p_neg, nI_add, p_mul, p_sub, p_addm, p_addm0, p_subm, p_le, p_lt, p_eq, p_mO_eq, p_eq_mO, p_mO_lt, p_nlt_mO, p_mO_le, p_le_mO, p_rI, p_rL, p_wI, p_wL, p_wF, p_has10, p_has11, p_ib0, p_ib1, p_shl1, p_zv0, p_zv1, p_zvib, p_ibd, p_ibn, if_pos, if_neg, if_true, if_false, ne_eq, not_true, not_false_iff, Decidable.not_not, Nat.not_lt, Nat.not_le, Bool.true_eq_false, Bool.false_eq_true, eq_self, reduceIte, Nat.reduceAdd, Nat.reduceMul, Nat.reduceSub, Nat.reduceEqDiff, Nat.reduceLT, Nat.reduceLeDiff, reduceCtorEq, fX11_laysChains_l166], hF, fun o ho => hI o ho (by omega)⟩
theorem rs_laysChains (h : RS M S) (hg1 : 0 < sG S) : ∃ M', fX11_laysChains M = some M' ∧ gFr (fun c k => (c = 0 ∧ k = 38) ∨ (14 ≤ c ∧ c ≤ 17)) M M' ∧ M'.1 0 38 = nI (cLg S) ∧ ∀ p, p < sG S → M'.1 17 p = nI (sHo S p) ∧ M'.1 14 p = nI (cLv S p) ∧ M'.1 15 p = nI (cBg S p) ∧ M'.1 16 p = nI (cRs S p) := by
  have hg : sG S ≤ 24 := Nat.le_trans h.2.1.2.2.1 h.2.1.1
  have h0 : RS (gI M 0 38 (nI 0)) S := RS_of h (p_gI_o (by decide))
  obtain ⟨M1, e1, F1, L1, I1⟩ := rc_fwd h0 (p_gI_s _ _ _ _)
  have h1 : RS M1 S := RS_of h0 (gFr_c1 F1 (fun _ => by omega))
  have g2 : M1.1 1 2 = nI (sG S) := h1.1.1.2.2.1
  obtain ⟨M2, e2, F2, I2⟩ := rc_back h1 hg1 (fun o ho => (I1 o ho).1)
  refine ⟨M2, ?_, gFr_tr (gFr_I (Or.inl ⟨rfl, rfl⟩)) (gFr_tr (gFr_mo F1 (fun c k z => by omega)) (gFr_mo F2 (fun c k z => by omega))), by rw [(F2 0 38 (by omega)).1]; exact L1, fun p hp => ⟨by rw [(F2 17 p (by omega)).1]; exact (I1 p hp).1, by rw [(F2 14 p (by omega)).1]; exact (I1 p hp).2.1, by rw [(F2 15 p (by omega)).1]; exact (I1 p hp).2.2, I2 p hp⟩⟩
  unfold fX11_laysChains
  rw [show (0 : Int32) = nI 0 from rfl, p_wF, p_bnd]
  rw [show gLoop (fun z9 => fX11_laysChains_l7 z9.1 z9.2) gFu (nI 0, gI M 0 38 (nI 0)) = some M1 from e1, p_bnd, show (2 : Int32) = nI 2 from rfl, p_rI (by omega) (by omega), p_bnd, g2, show (1 : Int32) = nI 1 from rfl, p_sub (show 1 ≤ sG S by omega), p_nm, p_bnd, e2, p_bnd]
theorem rs_slack (hm : M.1 0 38 = nI (cLg S)) {p : Nat} (hp : p < 24) (h17 : M.1 17 p = nI (sHo S p)) (h15 : M.1 15 p = nI (cBg S p)) (h16 : M.1 16 p = nI (cRs S p)) : fX11_slack (nI p) M = some (nI (cLg S) - nI (cBg S p) - nI (sHo S p) - nI (cRs S p)) := by
  unfold fX11_slack
  rw [p_rI hp (by omega), p_bnd, p_rI hp (by omega), p_bnd, p_rI hp (by omega), p_bnd, hm, h15, h17, h16]
end RC
