/-! CHAINS: the class's measure, whole -/
section CM
variable {M : gMem} {S : gS} {t : Nat}
theorem gMx_st {f : Nat → Nat} {n : Nat} (hz : ∀ k, n ≤ k → f k = 0) : ∀ d, gMx f (n + d) = gMx f n
  | 0 => rfl
  | d + 1 => by
    rw [← Nat.add_assoc, gMx_s, hz (n + d) (by omega), mx_0, gMx_st hz d]
theorem cLv_at {k : Nat} : cLv S k = gMx (fun o => if ldF S o k = true then cLv S o + 1 else 0) k := vV_eq k
theorem cBg_at {k : Nat} : cBg S k = gMx (fun o => if ldF S o k = true then cBg S o + sHo S o else 0) k := vV_eq k
theorem cBk_at {k : Nat} : cBk S k = gMx (fun o => if ldB S o k = true then cBk S o + sHo S (sG S - 1 - o) else 0) k := vV_eq k
theorem cLv_end {k n : Nat} (hk : k ≤ n) : gMx (fun o => if ldF S o k = true then cLv S o + 1 else 0) n = cLv S k := by
  rw [cLv_at, show n = k + (n - k) by omega]
  exact gMx_st (fun j hj => if_neg (by unfold ldF; rw [decide_eq_false (show ¬ j < k by omega), Bool.and_false]; decide)) _
theorem cBg_end {k n : Nat} (hk : k ≤ n) : gMx (fun o => if ldF S o k = true then cBg S o + sHo S o else 0) n = cBg S k := by
  rw [cBg_at, show n = k + (n - k) by omega]
  exact gMx_st (fun j hj => if_neg (by unfold ldF; rw [decide_eq_false (show ¬ j < k by omega), Bool.and_false]; decide)) _
theorem cBk_end {k n : Nat} (hk : k ≤ n) : gMx (fun o => if ldB S o k = true then cBk S o + sHo S (sG S - 1 - o) else 0) n = cBk S k := by
  rw [cBk_at, show n = k + (n - k) by omega]
  exact gMx_st (fun j hj => if_neg (by unfold ldB; rw [decide_eq_false (show ¬ j < k by omega), Bool.and_false]; decide)) _
theorem gLv_le {q n : Nat} (hn : n ≤ 24) : gMx (fun o => if ldF S o q = true then cLv S o + 1 else 0) n ≤ 10000 := gMx_ub fun k hk => by
  have := cLv_le S (q := k) (by omega)
  show (if ldF S k q = true then cLv S k + 1 else 0) ≤ 10000
  split <;> omega
theorem gBg_le (h : sW S) {q n : Nat} (hn : n ≤ 24) : gMx (fun o => if ldF S o q = true then cBg S o + sHo S o else 0) n ≤ 10000 := gMx_ub fun k hk => by
  have := cBg_le h (q := k) (by omega)
  have := sHo_le h k
  show (if ldF S k q = true then cBg S k + sHo S k else 0) ≤ 10000
  split <;> omega
theorem gBk_le (h : sW S) {q n : Nat} (hn : n ≤ 24) : gMx (fun o => if ldB S o q = true then cBk S o + sHo S (sG S - 1 - o) else 0) n ≤ 10000 := gMx_ub fun k hk => by
  have := cBk_le h (q := k) (by omega)
  have := sHo_le h (sG S - 1 - k)
  show (if ldB S k q = true then cBk S k + sHo S (sG S - 1 - k) else 0) ≤ 10000
  split <;> omega
theorem gLg_le (h : sW S) {n : Nat} (hn : n ≤ 24) : gMx (fun p => cBg S p + sHo S p) n ≤ 10000 := gMx_ub fun k hk => by
  have := cBg_le h (q := k) (by omega)
  have := sHo_le h k
  show cBg S k + sHo S k ≤ 10000
  omega
theorem cm_hours (h : CS M t S) (ht : t ≤ 21) (hz : ∀ p, p < 24 → M.1 51 p = nI 0) : ∃ r, gLoop (fun z9 => fX0_measure_l34 t z9.1 z9.2) gFu ((0 : Int32), M) = some r ∧ gFr (fun c _ => c = 51) M r ∧ ∀ p, p < 24 → r.1 51 p = nI (sHo S p) := by
  have hn := h.2.1.1
  have hg : sG S ≤ 24 := Nat.le_trans h.2.1.2.2.1 h.2.1.1
  refine gLoop_i (fun k s => ∃ M', s = (nI k, M') ∧ gFr (fun c _ => c = 51) M M' ∧ ∀ p, p < 24 → M'.1 51 p = nI (fb_sm (fun u => if sPl S u = p then sHr S u else 0) k)) _ (sN S) ⟨M, rfl, gFr_rf, fun p hp => hz p hp⟩ (by show sN S < 4096; omega) ?_
  rintro k s hk ⟨M', rfl, hF, hI⟩
  have h' : CS M' t S := CS_fr h hF (fun j k hj z => by omega)
  have hn' := cs_n h'
  rcases Nat.lt_or_ge k (sN S) with q | q
  · have p1 := cs_pl h' q
    have p2 := cs_hr h' q
    have p3 := h.2.p q
    have i1 := hI _ (show sPl S k < 24 by omega)
    refine Or.inl ⟨(nI (k + 1), gI M' 51 (sPl S k) (nI (fb_sm (fun u => if sPl S u = sPl S k then sHr S u else 0) k + sHr S k))), ?_, q, _, rfl, gFr_trI hF rfl, fun p hp => ?_⟩
    · simp (disch := omega) only [p_bnd, p_nm, p_gSEl, p_gSEr, p_l0, p_l1, p_l2, p_l3, p_l4, p_l5, p_l6, p_l7, p_l8, p_l9, p_l10, p_l14, p_l16, p_l20, p_l22, p_l24, p_l30, p_l31, p_l32, p_l38, p_l40, p_l41, p_l43, p_l48, p_l57, p_l59, p_l60, p_l61, p_l62, p_l63, p_l97, p_l98, p_l101, p_l122, p_l158, p_l201, p_l255, p_l256, p_l374, p_l880, p_l900, p_l1000, p_l2618, p_neg, nI_add, p_mul, p_sub, p_addm, p_addm0, p_subm, p_le, p_lt, p_eq, p_mO_eq, p_eq_mO, p_mO_lt, p_nlt_mO, p_mO_le, p_le_mO, p_rI, p_rL, p_wI, p_wL, p_wF, p_has10, p_has11, p_ib0, p_ib1, p_shl1, p_zv0, p_zv1, p_zvib, p_ibd, p_ibn, if_pos, if_neg, if_true, if_false, ne_eq, not_true, not_false_iff, Decidable.not_not, Nat.not_lt, Nat.not_le, Bool.true_eq_false, Bool.false_eq_true, eq_self, reduceIte, Nat.reduceAdd, Nat.reduceMul, Nat.reduceSub, Nat.reduceEqDiff, Nat.reduceLT, Nat.reduceLeDiff, reduceCtorEq, fX0_measure_l34, hn', p1, p2, i1]
    · rw [p_gI, fb_sm_succ]
      by_cases e : p = sPl S k
      · rw [if_pos ⟨rfl, e⟩, e, if_pos rfl]
      · rw [if_neg (fun z => e z.2), if_neg (fun z => e z.symm), Nat.add_zero]; exact hI p hp
  · exact Or.inr ⟨M', by simp (disch := omega) only [p_bnd, p_nm, p_gSEl, p_gSEr, p_l0, p_l1, p_l2, p_l3, p_l4, p_l5, p_l6, p_l7, p_l8, p_l9, p_l10, p_l14, p_l16, p_l20, p_l22, p_l24, p_l30, p_l31, p_l32, p_l38, p_l40, p_l41, p_l43, p_l48, p_l57, p_l59, p_l60, p_l61, p_l62, p_l63, p_l97, p_l98, p_l101, p_l122, p_l158, p_l201, p_l255, p_l256, p_l374, p_l880, p_l900, p_l1000, p_l2618, p_neg, nI_add, p_mul, p_sub, p_addm, p_addm0, p_subm, p_le, p_lt, p_eq, p_mO_eq, p_eq_mO, p_mO_lt, p_nlt_mO, p_mO_le, p_le_mO, p_rI, p_rL, p_wI, p_wL, p_wF, p_has10, p_has11, p_ib0, p_ib1, p_shl1, p_zv0, p_zv1, p_zvib, p_ibd, p_ibn, if_pos, if_neg, if_true, if_false, ne_eq, not_true, not_false_iff, Decidable.not_not, Nat.not_lt, Nat.not_le, Bool.true_eq_false, Bool.false_eq_true, eq_self, reduceIte, Nat.reduceAdd, Nat.reduceMul, Nat.reduceSub, Nat.reduceEqDiff, Nat.reduceLT, Nat.reduceLeDiff, reduceCtorEq, fX0_measure_l34, hn'], hF, fun p hp => by rw [hI p hp, show k = sN S by omega]; rfl⟩
theorem cm_fwd (h : CS M t S) (ht : t ≤ 21) (h50 : M.1 50 4 = nI 0) (h51 : ∀ p, p < 24 → M.1 51 p = nI (sHo S p)) (h52 : ∀ p, p < 24 → M.1 52 p = nI 0) (h53 : ∀ p, p < 24 → M.1 53 p = nI 0) :
    ∃ r, gLoop (fun z9 => fX0_measure_l75 t z9.1 z9.2) gFu ((0 : Int32), M) = some r ∧ gFr (fun c k => (c = 50 ∧ k = 4) ∨ c = 52 ∨ c = 53) M r ∧ r.1 50 4 = nI (cLg S) ∧ ∀ q, q < sG S → r.1 52 q = nI (cLv S q) ∧ r.1 53 q = nI (cBg S q) := by
  have hg : sG S ≤ 24 := Nat.le_trans h.2.1.2.2.1 h.2.1.1
  refine gLoop_i (fun k s => ∃ M', s = (nI k, M') ∧ gFr (fun c k => (c = 50 ∧ k = 4) ∨ c = 52 ∨ c = 53) M M' ∧ M'.1 50 4 = nI (gMx (fun p => cBg S p + sHo S p) k) ∧ ∀ q, q < sG S → M'.1 52 q = nI (gMx (fun o => if ldF S o q = true then cLv S o + 1 else 0) k) ∧ M'.1 53 q = nI (gMx (fun o => if ldF S o q = true then cBg S o + sHo S o else 0) k)) _ (sG S) ⟨M, rfl, gFr_rf, h50, fun q hq => ⟨h52 q (by omega), h53 q (by omega)⟩⟩ (by show sG S < 4096; omega) ?_
  rintro k s hk ⟨M', rfl, hF, h5, hI⟩
  have h' : CS M' t S := CS_fr h hF (fun j k hj z => by omega)
  have hg' := cs_g h'
  rcases Nat.lt_or_ge k (sG S) with q | q
  · have x51 : M'.1 51 k = nI (sHo S k) := by rw [(hF 51 k (by omega)).1]; exact h51 k (by omega)
    have xle := sHo_le h.2 k
    obtain ⟨M2, e2, F2, I2⟩ := cg_goOn h' ht q (L := fun q => gMx (fun o => if ldF S o q = true then cLv S o + 1 else 0) k) (B := fun q => gMx (fun o => if ldF S o q = true then cBg S o + sHo S o else 0) k) (fun q hq => ⟨(hI q hq).1, gLv_le (by omega)⟩) (fun q hq => ⟨(hI q hq).2, gBg_le h.2 (by omega)⟩) x51 (by omega)
    have I3 : ∀ q, q < sG S → M2.1 52 q = nI (gMx (fun o => if ldF S o q = true then cLv S o + 1 else 0) (k + 1)) ∧ M2.1 53 q = nI (gMx (fun o => if ldF S o q = true then cBg S o + sHo S o else 0) (k + 1)) := fun q hq => by
      obtain ⟨a, b⟩ := I2 q hq
      have a : M2.1 52 q = nI (mx2 (gMx (fun o => if ldF S o q = true then cLv S o + 1 else 0) k) (if ldF S k q = true then gMx (fun o => if ldF S o k = true then cLv S o + 1 else 0) k + 1 else 0)) := a
      have b : M2.1 53 q = nI (mx2 (gMx (fun o => if ldF S o q = true then cBg S o + sHo S o else 0) k) (if ldF S k q = true then gMx (fun o => if ldF S o k = true then cBg S o + sHo S o else 0) k + sHo S k else 0)) := b
      rw [← cLv_at] at a
      rw [← cBg_at] at b
      exact ⟨a, b⟩
    have x53 : M2.1 53 k = nI (cBg S k) := by rw [(I3 k q).2, cBg_end (by omega)]
    have x51' : M2.1 51 k = nI (sHo S k) := by rw [(F2 51 k (by omega)).1]; exact x51
    have x50 : M2.1 50 4 = nI (gMx (fun p => cBg S p + sHo S p) k) := by rw [(F2 50 4 (by omega)).1]; exact h5
    have u1 := gLg_le h.2 (n := k) (by omega)
    have u2 := cBg_le h.2 (q := k) (by omega)
    refine Or.inl ⟨(nI (k + 1), gI M2 50 4 (nI (gMx (fun p => cBg S p + sHo S p) (k + 1)))), ?_, q, _, rfl, gFr_trI (gFr_tr hF (gFr_mo F2 (fun c k z => Or.inr z))) (Or.inl ⟨rfl, rfl⟩), p_gI_s _ _ _ _, fun q hq => ?_⟩
    · rw [gMx_s]
      generalize gMx (fun p => cBg S p + sHo S p) k = g0 at x50 u1
      simp (disch := omega) only [p_bnd, p_nm, p_gSEl, p_gSEr, p_l0, p_l1, p_l2, p_l3, p_l4, p_l5, p_l6, p_l7, p_l8, p_l9, p_l10, p_l14, p_l16, p_l20, p_l22, p_l24, p_l30, p_l31, p_l32, p_l38, p_l40, p_l41, p_l43, p_l48, p_l57, p_l59, p_l60, p_l61, p_l62, p_l63, p_l97, p_l98, p_l101, p_l122, p_l158, p_l201, p_l255, p_l256, p_l374, p_l880, p_l900, p_l1000, p_l2618, p_neg, nI_add, p_mul, p_sub, p_addm, p_addm0, p_subm, p_le, p_lt, p_eq, p_mO_eq, p_eq_mO, p_mO_lt, p_nlt_mO, p_mO_le, p_le_mO, p_rI, p_rL, p_wI, p_wL, p_wF, p_has10, p_has11, p_ib0, p_ib1, p_shl1, p_zv0, p_zv1, p_zvib, p_ibd, p_ibn, if_pos, if_neg, if_true, if_false, ne_eq, not_true, not_false_iff, Decidable.not_not, Nat.not_lt, Nat.not_le, Bool.true_eq_false, Bool.false_eq_true, eq_self, reduceIte, Nat.reduceAdd, Nat.reduceMul, Nat.reduceSub, Nat.reduceEqDiff, Nat.reduceLT, Nat.reduceLeDiff, reduceCtorEq, fX0_measure_l75, hg', e2, x53, x51', x50, mx_if]
    · rw [p_gI_n (Or.inl (by decide)), p_gI_n (Or.inl (by decide))]; exact I3 q hq
  · have e9 : k = sG S := by omega
    refine Or.inr ⟨M', by simp (disch := omega) only [p_bnd, p_nm, p_gSEl, p_gSEr, p_l0, p_l1, p_l2, p_l3, p_l4, p_l5, p_l6, p_l7, p_l8, p_l9, p_l10, p_l14, p_l16, p_l20, p_l22, p_l24, p_l30, p_l31, p_l32, p_l38, p_l40, p_l41, p_l43, p_l48, p_l57, p_l59, p_l60, p_l61, p_l62, p_l63, p_l97, p_l98, p_l101, p_l122, p_l158, p_l201, p_l255, p_l256, p_l374, p_l880, p_l900, p_l1000, p_l2618, p_neg, nI_add, p_mul, p_sub, p_addm, p_addm0, p_subm, p_le, p_lt, p_eq, p_mO_eq, p_eq_mO, p_mO_lt, p_nlt_mO, p_mO_le, p_le_mO, p_rI, p_rL, p_wI, p_wL, p_wF, p_has10, p_has11, p_ib0, p_ib1, p_shl1, p_zv0, p_zv1, p_zvib, p_ibd, p_ibn, if_pos, if_neg, if_true, if_false, ne_eq, not_true, not_false_iff, Decidable.not_not, Nat.not_lt, Nat.not_le, Bool.true_eq_false, Bool.false_eq_true, eq_self, reduceIte, Nat.reduceAdd, Nat.reduceMul, Nat.reduceSub, Nat.reduceEqDiff, Nat.reduceLT, Nat.reduceLeDiff, reduceCtorEq, fX0_measure_l75, hg'], hF, by rw [h5, e9]; rfl, fun q hq => ?_⟩
    obtain ⟨a, b⟩ := hI q hq
    rw [a, b, cLv_end (by omega), cBg_end (by omega)]
    exact ⟨rfl, rfl⟩
theorem cm_back (h : CS M t S) (ht : t ≤ 21) (hg1 : 0 < sG S) (h51 : ∀ p, p < 24 → M.1 51 p = nI (sHo S p)) (h54 : ∀ p, p < 24 → M.1 54 p = nI 0) :
    ∃ r, gLoop (fun z9 => fX0_measure_l126 t z9.1 z9.2) gFu (nI (sG S - 1), M) = some r ∧ gFr (fun c _ => c = 54) M r ∧ ∀ q, q < sG S → r.1 54 q = nI (cRs S q) := by
  have hg : sG S ≤ 24 := Nat.le_trans h.2.1.2.2.1 h.2.1.1
  refine gLoop_i (fun k s => ∃ M', s = (if k < sG S then nI (sG S - 1 - k) else mO 1, M') ∧ gFr (fun c _ => c = 54) M M' ∧ ∀ q, q < sG S → M'.1 54 q = nI (gMx (fun o => if ldB S o (sG S - 1 - q) = true then cBk S o + sHo S (sG S - 1 - o) else 0) k)) _ (sG S) ⟨M, by rw [if_pos hg1, Nat.sub_zero], gFr_rf, fun q hq => h54 q (by omega)⟩ (by show sG S < 4096; omega) ?_
  rintro k s hk ⟨M', rfl, hF, hI⟩
  have h' : CS M' t S := CS_fr h hF (fun j k hj z => by omega)
  rcases Nat.lt_or_ge k (sG S) with q | q
  · rw [if_pos q]
    have x51 : M'.1 51 (sG S - 1 - k) = nI (sHo S (sG S - 1 - k)) := by rw [(hF 51 _ (by omega)).1]; exact h51 _ (by omega)
    have xle := sHo_le h.2 (sG S - 1 - k)
    obtain ⟨M2, e2, F2, I2⟩ := cg_goBack h' ht (show sG S - 1 - k < sG S by omega) (B := fun q => gMx (fun o => if ldB S o (sG S - 1 - q) = true then cBk S o + sHo S (sG S - 1 - o) else 0) k) (fun q hq => ⟨hI q hq, gBk_le h.2 (by omega)⟩) x51 (by omega)
    have I3 : ∀ q, q < sG S → M2.1 54 q = nI (gMx (fun o => if ldB S o (sG S - 1 - q) = true then cBk S o + sHo S (sG S - 1 - o) else 0) (k + 1)) := fun q hq => by
      have a : M2.1 54 q = nI (mx2 (gMx (fun o => if ldB S o (sG S - 1 - q) = true then cBk S o + sHo S (sG S - 1 - o) else 0) k) (if ldB S (sG S - 1 - (sG S - 1 - k)) (sG S - 1 - q) = true then gMx (fun o => if ldB S o (sG S - 1 - (sG S - 1 - k)) = true then cBk S o + sHo S (sG S - 1 - o) else 0) k + sHo S (sG S - 1 - k) else 0)) := I2 q hq
      rw [show sG S - 1 - (sG S - 1 - k) = k by omega, ← cBk_at] at a
      exact a
    refine Or.inl ⟨(if k + 1 < sG S then nI (sG S - 1 - (k + 1)) else mO 1, M2), ?_, q, M2, rfl, gFr_tr hF F2, I3⟩
    by_cases c : k + 1 < sG S
    · rw [if_pos c, show sG S - 1 - (k + 1) = sG S - 1 - k - 1 by omega]
      obtain ⟨y, hy⟩ : ∃ y, y = sG S - 1 - k := ⟨_, rfl⟩
      rw [← hy] at e2 ⊢
      simp (disch := omega) only [p_bnd, p_nm, p_gSEl, p_gSEr, p_l0, p_l1, p_l2, p_l3, p_l4, p_l5, p_l6, p_l7, p_l8, p_l9, p_l10, p_l14, p_l16, p_l20, p_l22, p_l24, p_l30, p_l31, p_l32, p_l38, p_l40, p_l41, p_l43, p_l48, p_l57, p_l59, p_l60, p_l61, p_l62, p_l63, p_l97, p_l98, p_l101, p_l122, p_l158, p_l201, p_l255, p_l256, p_l374, p_l880, p_l900, p_l1000, p_l2618, p_neg, nI_add, p_mul, p_sub, p_addm, p_addm0, p_subm, p_le, p_lt, p_eq, p_mO_eq, p_eq_mO, p_mO_lt, p_nlt_mO, p_mO_le, p_le_mO, p_rI, p_rL, p_wI, p_wL, p_wF, p_has10, p_has11, p_ib0, p_ib1, p_shl1, p_zv0, p_zv1, p_zvib, p_ibd, p_ibn, if_pos, if_neg, if_true, if_false, ne_eq, not_true, not_false_iff, Decidable.not_not, Nat.not_lt, Nat.not_le, Bool.true_eq_false, Bool.false_eq_true, eq_self, reduceIte, Nat.reduceAdd, Nat.reduceMul, Nat.reduceSub, Nat.reduceEqDiff, Nat.reduceLT, Nat.reduceLeDiff, reduceCtorEq, fX0_measure_l126, e2]
    · rw [if_neg c]
      have ey : sG S - 1 - k = 0 := by omega
      rw [ey] at e2 ⊢
      simp (disch := omega) only [p_bnd, p_nm, p_gSEl, p_gSEr, p_l0, p_l1, p_l2, p_l3, p_l4, p_l5, p_l6, p_l7, p_l8, p_l9, p_l10, p_l14, p_l16, p_l20, p_l22, p_l24, p_l30, p_l31, p_l32, p_l38, p_l40, p_l41, p_l43, p_l48, p_l57, p_l59, p_l60, p_l61, p_l62, p_l63, p_l97, p_l98, p_l101, p_l122, p_l158, p_l201, p_l255, p_l256, p_l374, p_l880, p_l900, p_l1000, p_l2618, p_neg, nI_add, p_mul, p_sub, p_addm, p_addm0, p_subm, p_le, p_lt, p_eq, p_mO_eq, p_eq_mO, p_mO_lt, p_nlt_mO, p_mO_le, p_le_mO, p_rI, p_rL, p_wI, p_wL, p_wF, p_has10, p_has11, p_ib0, p_ib1, p_shl1, p_zv0, p_zv1, p_zvib, p_ibd, p_ibn, if_pos, if_neg, if_true, if_false, ne_eq, not_true, not_false_iff, Decidable.not_not, Nat.not_lt, Nat.not_le, Bool.true_eq_false, Bool.false_eq_true, eq_self, reduceIte, Nat.reduceAdd, Nat.reduceMul, Nat.reduceSub, Nat.reduceEqDiff, Nat.reduceLT, Nat.reduceLeDiff, reduceCtorEq, fX0_measure_l126, e2]
  · rw [if_neg (by omega)]
    refine Or.inr ⟨M', by simp (disch := omega) only [p_bnd, p_nm, p_gSEl, p_gSEr, p_l0, p_l1, p_l2, p_l3, p_l4, p_l5, p_l6, p_l7, p_l8, p_l9, p_l10, p_l14, p_l16, p_l20, p_l22, p_l24, p_l30, p_l31, p_l32, p_l38, p_l40, p_l41, p_l43, p_l48, p_l57, p_l59, p_l60, p_l61, p_l62, p_l63, p_l97, p_l98, p_l101, p_l122, p_l158, p_l201, p_l255, p_l256, p_l374, p_l880, p_l900, p_l1000, p_l2618, p_neg, nI_add, p_mul, p_sub, p_addm, p_addm0, p_subm, p_le, p_lt, p_eq, p_mO_eq, p_eq_mO, p_mO_lt, p_nlt_mO, p_mO_le, p_le_mO, p_rI, p_rL, p_wI, p_wL, p_wF, p_has10, p_has11, p_ib0, p_ib1, p_shl1, p_zv0, p_zv1, p_zvib, p_ibd, p_ibn, if_pos, if_neg, if_true, if_false, ne_eq, not_true, not_false_iff, Decidable.not_not, Nat.not_lt, Nat.not_le, Bool.true_eq_false, Bool.false_eq_true, eq_self, reduceIte, Nat.reduceAdd, Nat.reduceMul, Nat.reduceSub, Nat.reduceEqDiff, Nat.reduceLT, Nat.reduceLeDiff, reduceCtorEq, fX0_measure_l126], hF, fun q hq => ?_⟩
    rw [hI q hq, cBk_end (by omega)]; rfl
theorem cs_measure (h : CS M t S) (ht : t ≤ 21) (hg1 : 0 < sG S) : ∃ M', fX0_measure t M = some M' ∧ gFr (fun c k => (c = 50 ∧ k = 4) ∨ (51 ≤ c ∧ c ≤ 54)) M M' ∧ M'.1 50 4 = nI (cLg S) ∧ ∀ p, p < sG S → M'.1 51 p = nI (sHo S p) ∧ M'.1 52 p = nI (cLv S p) ∧ M'.1 53 p = nI (cBg S p) ∧ M'.1 54 p = nI (cRs S p) := by
  have hg : sG S ≤ 24 := Nat.le_trans h.2.1.2.2.1 h.2.1.1
  obtain ⟨M1, e1, F1, Z1⟩ := c_fill (M := M) (c := 51) (n := 24) (by omega) (nI 0)
  obtain ⟨M2, e2, F2, Z2⟩ := c_fill (M := M1) (c := 52) (n := 24) (by omega) (nI 0)
  obtain ⟨M3, e3, F3, Z3⟩ := c_fill (M := M2) (c := 53) (n := 24) (by omega) (nI 0)
  obtain ⟨M4, e4, F4, Z4⟩ := c_fill (M := M3) (c := 54) (n := 24) (by omega) (nI 0)
  have G4 : gFr (fun c k => (c = 50 ∧ k = 4) ∨ (51 ≤ c ∧ c ≤ 54)) M M4 := gFr_tr (gFr_mo F1 (fun c k z => by omega)) (gFr_tr (gFr_mo F2 (fun c k z => by omega)) (gFr_tr (gFr_mo F3 (fun c k z => by omega)) (gFr_mo F4 (fun c k z => by omega))))
  have h4 : CS M4 t S := CS_fr h G4 (fun j k hj z => by omega)
  obtain ⟨M5, e5, F5, Z5⟩ := cm_hours h4 ht (fun p hp => by rw [(F4 51 p (by omega)).1, (F3 51 p (by omega)).1, (F2 51 p (by omega)).1]; exact Z1 p hp)
  have G6 : gFr (fun c k => (c = 50 ∧ k = 4) ∨ (51 ≤ c ∧ c ≤ 54)) M (gI M5 50 4 (nI 0)) := gFr_trI (gFr_tr G4 (gFr_mo F5 (fun c k z => by omega))) (Or.inl ⟨rfl, rfl⟩)
  have h6 : CS (gI M5 50 4 (nI 0)) t S := CS_fr h G6 (fun j k hj z => by omega)
  have o6 : ∀ {c k : Nat}, c ≠ 50 → c ≠ 51 → (gI M5 50 4 (nI 0)).1 c k = M4.1 c k := fun {c k} c1 c2 => by rw [p_gI_n (Or.inl c1), (F5 c k (by omega)).1]
  obtain ⟨M7, e7, F7, L7, I7⟩ := cm_fwd h6 ht (p_gI_s _ _ _ _) (fun p hp => by rw [p_gI_n (Or.inl (by decide))]; exact Z5 p hp) (fun p hp => by rw [o6 (by decide) (by decide), (F4 52 p (by omega)).1, (F3 52 p (by omega)).1]; exact Z2 p hp) (fun p hp => by rw [o6 (by decide) (by decide), (F4 53 p (by omega)).1]; exact Z3 p hp)
  have G7 : gFr (fun c k => (c = 50 ∧ k = 4) ∨ (51 ≤ c ∧ c ≤ 54)) M M7 := gFr_tr G6 (gFr_mo F7 (fun c k z => by omega))
  have h7 : CS M7 t S := CS_fr h G7 (fun j k hj z => by omega)
  have z51 : ∀ p, p < 24 → M7.1 51 p = nI (sHo S p) := fun p hp => by rw [(F7 51 p (by omega)).1, p_gI_n (Or.inl (by decide))]; exact Z5 p hp
  obtain ⟨M8, e8, F8, I8⟩ := cm_back h7 ht hg1 z51 (fun p hp => by rw [(F7 54 p (by omega)).1, o6 (by decide) (by decide)]; exact Z4 p hp)
  refine ⟨M8, ?_, gFr_tr G7 (gFr_mo F8 (fun c k z => by omega)), by rw [(F8 50 4 (by omega)).1]; exact L7, fun p hp => ⟨by rw [(F8 51 p (by omega)).1]; exact z51 p (by omega), by rw [(F8 52 p (by omega)).1]; exact (I7 p hp).1, by rw [(F8 53 p (by omega)).1]; exact (I7 p hp).2, I8 p hp⟩⟩
  unfold fX0_measure
  rw [show (0 : Int32) = nI 0 from rfl, e1, p_bnd, e2, p_bnd, e3, p_bnd, e4, p_bnd]
  rw [show gLoop (fun z9 => fX0_measure_l34 t z9.1 z9.2) gFu (nI 0, M4) = some M5 from e5, p_bnd, p_wF, p_bnd]
  rw [show gLoop (fun z9 => fX0_measure_l75 t z9.1 z9.2) gFu (nI 0, gI M5 50 4 (nI 0)) = some M7 from e7, p_bnd, cs_g h7, show (1 : Int32) = nI 1 from rfl, p_sub (show 1 ≤ sG S by omega), p_nm, p_bnd, e8, p_bnd]
theorem cs_slackAt (hm : M.1 50 4 = nI (cLg S)) {p : Nat} (hp : p < 24) (h51 : M.1 51 p = nI (sHo S p)) (h53 : M.1 53 p = nI (cBg S p)) (h54 : M.1 54 p = nI (cRs S p)) : fX0_slackAt (nI p) M = some (nI (cLg S) - nI (cBg S p) - nI (sHo S p) - nI (cRs S p)) := by
  unfold fX0_slackAt
  rw [p_rI hp (by omega), p_bnd, p_rI hp (by omega), p_bnd, p_rI hp (by omega), p_bnd, hm, h51, h53, h54]
end CM
