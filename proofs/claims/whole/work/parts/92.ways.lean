/-! SHORTEST WAYS: how far it is; the class's measure -/
theorem ff_of {p : Nat → Bool} {n k : Nat} (hk : k < n) (h : p k = true) (hl : ∀ j, j < k → p j = false) : fa_first p n = k := by
  have h1 : fa_first p n ≤ k := Classical.byContradiction fun q => by
    have := fa_first_no p n k (by omega)
    rw [h] at this; cases this
  rcases Nat.lt_or_ge (fa_first p n) k with q | q
  · have := fa_first_yes p n (by omega)
    rw [hl _ q] at this; cases this
  · omega
theorem ff_no {p : Nat → Bool} {n : Nat} (h : ∀ j, j < n → p j = false) : fa_first p n = n := by
  have h1 := fa_first_le p n
  rcases Nat.lt_or_ge (fa_first p n) n with q | q
  · have := fa_first_yes p n q
    rw [h _ q] at this; cases this
  · omega
theorem ff_le {p : Nat → Bool} {n k : Nat} (h : p k = true) : fa_first p n ≤ k := Classical.byContradiction fun q => by
  have := fa_first_no p n k (by omega)
  rw [h] at this; cases this
theorem ff_add {p q : Nat → Bool} {n v : Nat} (hv : v < n) (hq : ∀ w, q w = (p w || decide (w = v))) : fa_first q n = if v < fa_first p n then v else fa_first p n := by
  by_cases c : v < fa_first p n
  · rw [if_pos c]
    refine ff_of hv (by rw [hq]; simp) fun j hj => ?_
    rw [hq, fa_first_no p n j (by omega), decide_eq_false (by omega)]; rfl
  · rw [if_neg c]
    refine ff_of (by omega) (by rw [hq, fa_first_yes p n (by omega)]; rfl) fun j hj => ?_
    rw [hq, fa_first_no p n j hj, decide_eq_false (by omega)]; rfl
/-- how far it is to e -/
noncomputable def wD (S : gS) (e t : Nat) : Nat := fa_first (fun k => cB (gSt (sE S) k t e)) (sN S)
section WD
variable {S : gS} {e t u v d k : Nat}
theorem wD_n : wD S e t ≤ sN S := fa_first_le _ _
theorem wD_way (h : wD S e t < sN S) : gSt (sE S) (wD S e t) t e := cB_iff.mp (fa_first_yes (fun k => cB (gSt (sE S) k t e)) (sN S) h)
theorem wD_le (h : gSt (sE S) k t e) : wD S e t ≤ k := ff_le (p := fun k => cB (gSt (sE S) k t e)) (cB_iff.mpr h)
theorem wD_e : wD S e e = 0 := Nat.le_zero.mp (wD_le (k := 0) rfl)
theorem wD_0 (hn : 0 < sN S) (h : wD S e t = 0) : t = e := by
  have := wD_way (S := S) (e := e) (t := t) (by omega)
  rw [h] at this; exact this
theorem wD_step (he : sE S t v) (hv : wD S e v < sN S) : wD S e t ≤ wD S e v + 1 := wD_le ⟨v, he, wD_way hv⟩
theorem wD_pred (h : wD S e t = d + 1) (hd : d + 1 < sN S) : ∃ v, sE S t v ∧ wD S e v = d := by
  have w := wD_way (S := S) (e := e) (t := t) (by omega)
  rw [h] at w
  obtain ⟨v, v1, v2⟩ := w
  have l1 := wD_le v2
  have l2 := wD_step v1 (show wD S e v < sN S by omega)
  exact ⟨v, v1, by omega⟩
/-- whoever is reached at all is reached in fewer steps than there are tasks -/
theorem wD_fin (h : sW1 S) (he : e < sN S) : ∀ K t, t < sN S → gSt (sE S) K t e → (∀ i, i < K → ¬ gSt (sE S) i t e) → ∀ j, j ≤ K → ∃ u, u < sN S ∧ gSt (sE S) j u e ∧ ∀ i, i < j → ¬ gSt (sE S) i u e
  | 0, t, ht, h1, h2, j, hj => by
    have e0 : j = 0 := by omega
    rw [e0]; exact ⟨t, ht, h1, h2⟩
  | K + 1, t, ht, h1, h2, j, hj => by
    by_cases c : j = K + 1
    · rw [c]; exact ⟨t, ht, h1, h2⟩
    · obtain ⟨v, v1, v2⟩ := h1
      exact wD_fin h he K v (sE.lt h v1).2 v2 (fun i hi z => h2 (i + 1) (by omega) ⟨v, v1, z⟩) j (by omega)
theorem gSt_min : ∀ K, gSt (sE S) K t e → ∃ k, gSt (sE S) k t e ∧ ∀ i, i < k → ¬ gSt (sE S) i t e := fun K hK => by
  have h1 : fa_first (fun k => cB (gSt (sE S) k t e)) (K + 1) ≤ K := ff_le (p := fun k => cB (gSt (sE S) k t e)) (cB_iff.mpr hK)
  refine ⟨_, cB_iff.mp (fa_first_yes (fun k => cB (gSt (sE S) k t e)) (K + 1) (by omega)), fun i hi z => ?_⟩
  have := fa_first_no (fun k => cB (gSt (sE S) k t e)) (K + 1) i hi
  rw [cB_no] at this; exact this z
theorem wD_rc (h : sW1 S) (ht : t < sN S) (he : e < sN S) (hr : sR S t e) : wD S e t < sN S := by
  obtain ⟨K0, hK⟩ := hr
  obtain ⟨K, h1, h2⟩ := gSt_min K0 hK
  have hw := wD_fin h he K t ht h1 h2
  have : K + 1 ≤ sN S := by
    refine fb_holes (sN S) (K + 1) (fun j => if c : j ≤ K then (hw j c).choose else 0) (fun j hj => ?_) (fun i j hij hj z => ?_)
    · show (if c : j ≤ K then (hw j c).choose else 0) < sN S
      rw [dif_pos (by omega)]; exact (hw j (by omega)).choose_spec.1
    · have z : (if c : i ≤ K then (hw i c).choose else 0) = (if c : j ≤ K then (hw j c).choose else 0) := z
      rw [dif_pos (by omega), dif_pos (by omega)] at z
      have a := (hw i (by omega)).choose_spec.2.1
      have b := (hw j (by omega)).choose_spec.2.2
      rw [z] at a
      exact b i hij a
  have := wD_le h1
  omega
theorem wD_ex (h : sW1 S) (hd : wD S e t < sN S) (ht : t < sN S) : k ≤ wD S e t → ∃ v, v < sN S ∧ wD S e v = k := by
  generalize hq : wD S e t = q at hd
  intro hk
  induction q generalizing t with
  | zero => exact ⟨t, ht, by omega⟩
  | succ q ih =>
    by_cases c : k = q + 1
    · exact ⟨t, ht, by omega⟩
    · obtain ⟨v, v1, v2⟩ := wD_pred hq hd
      exact ih (sE.lt h v1).2 v2 (by omega) (by omega)
end WD
section WM
variable {M : gMem} {S : gS} {t e : Nat}
/-- what is known at round k -/
noncomputable def wV (S : gS) (e k u : Nat) : Int32 := if wD S e u < k then nI (wD S e u) else mO 1
noncomputable def wEd (S : gS) (e k : Nat) : Int32 := mkS (fun v => decide (v < sN S ∧ wD S e v = k))
theorem wm_inner (h : CS M t S) (ht : t ≤ 21) {a : Nat} (ha1 : 0 < a) (ha : a < sN S) (hI : ∀ u, u < sN S → M.1 56 u = wV S e a u) :
    ∃ r, gLoop (fun z9 => fX9_measure_l41 t (wEd S e (a - 1)) (nI a) z9.1 z9.2.1 z9.2.2) gFu ((0 : Int32), (0 : Int32), M) = some r ∧ r.1 = wEd S e a ∧ gFr (fun c _ => c = 56) M r.2 ∧ ∀ u, u < sN S → r.2.1 56 u = wV S e (a + 1) u := by
  have hn := h.2.1.1
  refine gLoop_i (fun j s => ∃ M', s = (mkS (fun v => decide (v < j ∧ wD S e v = a)), nI j, M') ∧ gFr (fun c _ => c = 56) M M' ∧ ∀ u, u < sN S → M'.1 56 u = if u < j then wV S e (a + 1) u else wV S e a u) _ (sN S) ⟨M, by
      congr 1
      exact mkS_of fun v _ => by
        rw [show (0 : Int32) = nI 0 from rfl, p_bt0]; symm; rw [decide_eq_false_iff_not]; omega, gFr_rf, fun u hu => by rw [if_neg (by omega)]; exact hI u hu⟩ (by show sN S < 4096; omega) ?_
  rintro j s hj ⟨M', rfl, hF, hJ⟩
  have h' : CS M' t S := CS_fr h hF (fun j k hj z => by omega)
  have hn' := cs_n h'
  rcases Nat.lt_or_ge j (sN S) with q | q
  · have j1 := hJ j q
    rw [if_neg (by omega)] at j1
    have hd := wD_n (S := S) (e := e) (t := j)
    rcases Nat.lt_or_ge (wD S e j) a with c | c
    · have j2 : M'.1 56 j = nI (wD S e j) := by rw [j1]; unfold wV; rw [if_pos c]
      refine Or.inl ⟨(mkS (fun v => decide (v < j + 1 ∧ wD S e v = a)), nI (j + 1), M'), ?_, q, M', rfl, hF, fun u hu => ?_⟩
      · have e1 : mkS (fun v => decide (v < j + 1 ∧ wD S e v = a)) = mkS (fun v => decide (v < j ∧ wD S e v = a)) := mkS_cg fun v _ => decide_eq_decide.mpr ⟨fun z => by
          refine ⟨?_, z.2⟩
          by_cases e9 : v = j
          · rw [e9] at z; omega
          · omega, fun z => ⟨by omega, z.2⟩⟩
        rw [e1]
        simp (disch := omega) only [p_bnd, p_nm, p_gSEl, p_gSEr, p_l0, p_l1, p_l2, p_l3, p_l4, p_l5, p_l6, p_l7, p_l8, p_l9, p_l10, p_l14, p_l16, p_l20, p_l22, p_l24, p_l30, p_l31, p_l32, p_l38, p_l40, p_l41, p_l43, p_l48, p_l57, p_l59, p_l60, p_l61, p_l62, p_l63, p_l97, p_l98, p_l101, p_l122, p_l158, p_l201, p_l255, p_l256, p_l374, p_l880, p_l900, p_l1000, p_l2618, p_neg, nI_add, p_mul, p_sub, p_addm, p_addm0, p_subm, p_le, p_lt, p_eq, p_mO_eq, p_eq_mO, p_mO_lt, p_nlt_mO, p_mO_le, p_le_mO, p_rI, p_rL, p_wI, p_wL, p_wF, p_has10, p_has11, p_ib0, p_ib1, p_shl1, p_zv0, p_zv1, p_zvib, p_ibd, p_ibn, if_pos, if_neg, if_true, if_false, ne_eq, not_true, not_false_iff, Decidable.not_not, Nat.not_lt, Nat.not_le, Bool.true_eq_false, Bool.false_eq_true, eq_self, reduceIte, Nat.reduceAdd, Nat.reduceMul, Nat.reduceSub, Nat.reduceEqDiff, Nat.reduceLT, Nat.reduceLeDiff, reduceCtorEq, fX9_measure_l41, fX9_measure_b91, hn', j2]
      · rw [hJ u hu]
        by_cases e9 : u = j
        · rw [e9, if_neg (by omega), if_pos (by omega)]; unfold wV; rw [if_pos c, if_pos (by omega)]
        · by_cases d : u < j
          · rw [if_pos d, if_pos (by omega)]
          · rw [if_neg d, if_neg (by omega)]
    · have j2 : M'.1 56 j = mO 1 := by rw [j1]; unfold wV; rw [if_neg (by omega)]
      have hz : (M'.1 (t + 5) j &&& wEd S e (a - 1) = nI 0) = ¬ wD S e j = a := by
        unfold wEd
        rw [p_and_z]
        refine propext (not_congr ⟨?_, fun z => ?_⟩)
        · rintro ⟨v, v1, v2, v3⟩
          have v3 := of_decide_eq_true v3
          have v4 := wD_step (e := e) ((cs_nx h' q v1).mp v2) (by omega)
          omega
        · obtain ⟨v, v1, v2⟩ := wD_pred (S := S) (e := e) (t := j) (d := a - 1) (by omega) (by omega)
          have v3 := (sE.lt h.2.2.1 v1).2
          exact ⟨v, by omega, (cs_nx h' q (by omega)).mpr v1, decide_eq_true ⟨v3, v2⟩⟩
      by_cases d : wD S e j = a
      · have d2 : ¬ (M'.1 (t + 5) j &&& wEd S e (a - 1) = nI 0) := by rw [hz]; exact fun z => z d
        refine Or.inl ⟨(mkS (fun v => decide (v < j ∧ wD S e v = a)) ||| sb j, nI (j + 1), gI M' 56 j (nI a)), ?_, q, gI M' 56 j (nI a), ?_, gFr_trI hF rfl, fun u hu => ?_⟩
        · simp (disch := omega) only [p_bnd, p_nm, p_gSEl, p_gSEr, p_l0, p_l1, p_l2, p_l3, p_l4, p_l5, p_l6, p_l7, p_l8, p_l9, p_l10, p_l14, p_l16, p_l20, p_l22, p_l24, p_l30, p_l31, p_l32, p_l38, p_l40, p_l41, p_l43, p_l48, p_l57, p_l59, p_l60, p_l61, p_l62, p_l63, p_l97, p_l98, p_l101, p_l122, p_l158, p_l201, p_l255, p_l256, p_l374, p_l880, p_l900, p_l1000, p_l2618, p_neg, nI_add, p_mul, p_sub, p_addm, p_addm0, p_subm, p_le, p_lt, p_eq, p_mO_eq, p_eq_mO, p_mO_lt, p_nlt_mO, p_mO_le, p_le_mO, p_rI, p_rL, p_wI, p_wL, p_wF, p_has10, p_has11, p_ib0, p_ib1, p_shl1, p_zv0, p_zv1, p_zvib, p_ibd, p_ibn, if_pos, if_neg, if_true, if_false, ne_eq, not_true, not_false_iff, Decidable.not_not, Nat.not_lt, Nat.not_le, Bool.true_eq_false, Bool.false_eq_true, eq_self, reduceIte, Nat.reduceAdd, Nat.reduceMul, Nat.reduceSub, Nat.reduceEqDiff, Nat.reduceLT, Nat.reduceLeDiff, reduceCtorEq, fX9_measure_l41, fX9_measure_b91, hn', j2, if_neg d2]
        · congr 1
          refine mkS_of fun v hv => ?_
          rw [b_or, mkS_bt hv, p_sb (by omega)]
          by_cases e9 : v = j
          · rw [e9, decide_eq_true (show j = j from rfl), Bool.or_true, decide_eq_true ⟨by omega, d⟩]
          · rw [decide_eq_false e9, Bool.or_false]; exact decide_eq_decide.mpr ⟨fun z => ⟨by omega, z.2⟩, fun z => ⟨by omega, z.2⟩⟩
        · rw [p_gI]
          by_cases e9 : u = j
          · rw [if_pos ⟨rfl, e9⟩, e9, if_pos (by omega)]; unfold wV; rw [if_pos (by omega), d]
          · rw [if_neg (fun z => e9 z.2), hJ u hu]
            by_cases d : u < j
            · rw [if_pos d, if_pos (by omega)]
            · rw [if_neg d, if_neg (by omega)]
      · have d2 : (M'.1 (t + 5) j &&& wEd S e (a - 1) = nI 0) := by rw [hz]; exact d
        refine Or.inl ⟨(mkS (fun v => decide (v < j ∧ wD S e v = a)), nI (j + 1), M'), ?_, q, M', ?_, hF, fun u hu => ?_⟩
        · simp (disch := omega) only [p_bnd, p_nm, p_gSEl, p_gSEr, p_l0, p_l1, p_l2, p_l3, p_l4, p_l5, p_l6, p_l7, p_l8, p_l9, p_l10, p_l14, p_l16, p_l20, p_l22, p_l24, p_l30, p_l31, p_l32, p_l38, p_l40, p_l41, p_l43, p_l48, p_l57, p_l59, p_l60, p_l61, p_l62, p_l63, p_l97, p_l98, p_l101, p_l122, p_l158, p_l201, p_l255, p_l256, p_l374, p_l880, p_l900, p_l1000, p_l2618, p_neg, nI_add, p_mul, p_sub, p_addm, p_addm0, p_subm, p_le, p_lt, p_eq, p_mO_eq, p_eq_mO, p_mO_lt, p_nlt_mO, p_mO_le, p_le_mO, p_rI, p_rL, p_wI, p_wL, p_wF, p_has10, p_has11, p_ib0, p_ib1, p_shl1, p_zv0, p_zv1, p_zvib, p_ibd, p_ibn, if_pos, if_neg, if_true, if_false, ne_eq, not_true, not_false_iff, Decidable.not_not, Nat.not_lt, Nat.not_le, Bool.true_eq_false, Bool.false_eq_true, eq_self, reduceIte, Nat.reduceAdd, Nat.reduceMul, Nat.reduceSub, Nat.reduceEqDiff, Nat.reduceLT, Nat.reduceLeDiff, reduceCtorEq, fX9_measure_l41, fX9_measure_b91, hn', j2, if_pos d2]
        · congr 1
          exact mkS_cg fun v _ => decide_eq_decide.mpr ⟨fun z => ⟨by omega, z.2⟩, fun z => by
            refine ⟨?_, z.2⟩
            by_cases e9 : v = j
            · rw [e9] at z; exact absurd z.2 d
            · omega⟩
        · rw [hJ u hu]
          by_cases e9 : u = j
          · rw [e9, if_neg (by omega), if_pos (by omega)]; unfold wV; rw [if_neg (by omega), if_neg (by omega)]
          · by_cases d : u < j
            · rw [if_pos d, if_pos (by omega)]
            · rw [if_neg d, if_neg (by omega)]
  · have e9 : j = sN S := by omega
    refine Or.inr ⟨(mkS (fun v => decide (v < j ∧ wD S e v = a)), M'), by simp (disch := omega) only [p_bnd, p_nm, p_gSEl, p_gSEr, p_l0, p_l1, p_l2, p_l3, p_l4, p_l5, p_l6, p_l7, p_l8, p_l9, p_l10, p_l14, p_l16, p_l20, p_l22, p_l24, p_l30, p_l31, p_l32, p_l38, p_l40, p_l41, p_l43, p_l48, p_l57, p_l59, p_l60, p_l61, p_l62, p_l63, p_l97, p_l98, p_l101, p_l122, p_l158, p_l201, p_l255, p_l256, p_l374, p_l880, p_l900, p_l1000, p_l2618, p_neg, nI_add, p_mul, p_sub, p_addm, p_addm0, p_subm, p_le, p_lt, p_eq, p_mO_eq, p_eq_mO, p_mO_lt, p_nlt_mO, p_mO_le, p_le_mO, p_rI, p_rL, p_wI, p_wL, p_wF, p_has10, p_has11, p_ib0, p_ib1, p_shl1, p_zv0, p_zv1, p_zvib, p_ibd, p_ibn, if_pos, if_neg, if_true, if_false, ne_eq, not_true, not_false_iff, Decidable.not_not, Nat.not_lt, Nat.not_le, Bool.true_eq_false, Bool.false_eq_true, eq_self, reduceIte, Nat.reduceAdd, Nat.reduceMul, Nat.reduceSub, Nat.reduceEqDiff, Nat.reduceLT, Nat.reduceLeDiff, reduceCtorEq, fX9_measure_l41, hn'], by rw [e9]; rfl, hF, fun u hu => by rw [hJ u hu, if_pos (by omega)]⟩
noncomputable def wX (S : gS) (e u : Nat) : Int32 := wV S e (sN S) u
theorem cs_ways (h : CS M t S) (ht : t ≤ 21) (he : e < sN S) : ∃ M', fX9_measure t (nI e) M = some M' ∧ gFr (fun c _ => c = 56) M M' ∧ ∀ u, u < sN S → M'.1 56 u = wX S e u := by
  have hn := h.2.1.1
  obtain ⟨M1, e1, F1, Z1⟩ := c_fill (M := M) (c := 56) (n := 24) (by omega) (mO 1)
  have h2 : CS (gI M1 56 e (nI 0)) t S := CS_fr h (gFr_trI F1 rfl) (fun j k hj z => by omega)
  have i2 : ∀ u, u < sN S → (gI M1 56 e (nI 0)).1 56 u = wV S e 1 u := fun u hu => by
    rw [p_gI]
    unfold wV
    by_cases c : u = e
    · rw [if_pos ⟨rfl, c⟩, c, wD_e, if_pos (by omega)]
    · rw [if_neg (fun z => c z.2), if_neg (fun (z : wD S e u < 1) => c (wD_0 (by omega) (Nat.lt_one_iff.mp z)))]
      exact Z1 u (by omega)
  have hE : wEd S e 0 = sb e := by
    symm
    refine mkS_of fun v hv => ?_
    rw [p_sb (by omega)]
    exact decide_eq_decide.mpr ⟨fun z => ⟨by omega, by rw [z]; exact wD_e⟩, fun z => wD_0 (by omega) z.2⟩
  obtain ⟨r, e3, F3, I3⟩ : ∃ r, gLoop (fun z9 => fX9_measure_l22 t z9.1 z9.2.1 z9.2.2) gFu (sb e, nI 1, gI M1 56 e (nI 0)) = some r ∧ gFr (fun c _ => c = 56) M r ∧ ∀ u, u < sN S → r.1 56 u = wX S e u := by
    refine gLoop_i (fun k s => k < sN S ∧ ∃ M', s = (wEd S e k, nI (k + 1), M') ∧ gFr (fun c _ => c = 56) M M' ∧ ∀ u, u < sN S → M'.1 56 u = wV S e (k + 1) u) _ (sN S) ⟨by omega, _, by rw [hE], gFr_trI F1 rfl, i2⟩ (by show sN S < 4096; omega) ?_
    rintro k s hk ⟨hkn, M', rfl, hF, hI⟩
    have h' : CS M' t S := CS_fr h hF (fun j k hj z => by omega)
    have hn' := cs_n h'
    rcases Nat.lt_or_ge (k + 1) (sN S) with q | q
    · by_cases c : wEd S e k = nI 0
      · refine Or.inr ⟨M', by simp (disch := omega) only [p_bnd, p_nm, p_gSEl, p_gSEr, p_l0, p_l1, p_l2, p_l3, p_l4, p_l5, p_l6, p_l7, p_l8, p_l9, p_l10, p_l14, p_l16, p_l20, p_l22, p_l24, p_l30, p_l31, p_l32, p_l38, p_l40, p_l41, p_l43, p_l48, p_l57, p_l59, p_l60, p_l61, p_l62, p_l63, p_l97, p_l98, p_l101, p_l122, p_l158, p_l201, p_l255, p_l256, p_l374, p_l880, p_l900, p_l1000, p_l2618, p_neg, nI_add, p_mul, p_sub, p_addm, p_addm0, p_subm, p_le, p_lt, p_eq, p_mO_eq, p_eq_mO, p_mO_lt, p_nlt_mO, p_mO_le, p_le_mO, p_rI, p_rL, p_wI, p_wL, p_wF, p_has10, p_has11, p_ib0, p_ib1, p_shl1, p_zv0, p_zv1, p_zvib, p_ibd, p_ibn, if_pos, if_neg, if_true, if_false, ne_eq, not_true, not_false_iff, Decidable.not_not, Nat.not_lt, Nat.not_le, Bool.true_eq_false, Bool.false_eq_true, eq_self, reduceIte, Nat.reduceAdd, Nat.reduceMul, Nat.reduceSub, Nat.reduceEqDiff, Nat.reduceLT, Nat.reduceLeDiff, reduceCtorEq, fX9_measure_l22, hn', c], hF, fun u hu => ?_⟩
        rw [hI u hu]
        unfold wX wV
        by_cases d : wD S e u < k + 1
        · rw [if_pos d, if_pos (by omega)]
        · rw [if_neg d, if_neg]
          intro z
          obtain ⟨v, v1, v2⟩ := wD_ex h.2.2.1 z hu (show k ≤ wD S e u by omega)
          have := p_z.mp c v (by omega)
          unfold wEd at this
          rw [mkS_bt (by omega), decide_eq_true ⟨v1, v2⟩] at this
          cases this
      · obtain ⟨r, e4, e5, F5, I5⟩ := wm_inner h' ht (a := k + 1) (by omega) q hI
        rw [Nat.add_sub_cancel] at e4
        have e4' : gLoop (fun z9 => fX9_measure_l41 t (wEd S e k) (nI (k + 1)) z9.1 z9.2.1 z9.2.2) gFu (nI 0, nI 0, M') = some r := e4
        refine Or.inl ⟨(wEd S e (k + 1), nI (k + 1 + 1), r.2), ?_, by omega, by omega, r.2, rfl, gFr_tr hF F5, I5⟩
        simp (disch := omega) only [p_bnd, p_nm, p_gSEl, p_gSEr, p_l0, p_l1, p_l2, p_l3, p_l4, p_l5, p_l6, p_l7, p_l8, p_l9, p_l10, p_l14, p_l16, p_l20, p_l22, p_l24, p_l30, p_l31, p_l32, p_l38, p_l40, p_l41, p_l43, p_l48, p_l57, p_l59, p_l60, p_l61, p_l62, p_l63, p_l97, p_l98, p_l101, p_l122, p_l158, p_l201, p_l255, p_l256, p_l374, p_l880, p_l900, p_l1000, p_l2618, p_neg, nI_add, p_mul, p_sub, p_addm, p_addm0, p_subm, p_le, p_lt, p_eq, p_mO_eq, p_eq_mO, p_mO_lt, p_nlt_mO, p_mO_le, p_le_mO, p_rI, p_rL, p_wI, p_wL, p_wF, p_has10, p_has11, p_ib0, p_ib1, p_shl1, p_zv0, p_zv1, p_zvib, p_ibd, p_ibn, if_pos, if_neg, if_true, if_false, ne_eq, not_true, not_false_iff, Decidable.not_not, Nat.not_lt, Nat.not_le, Bool.true_eq_false, Bool.false_eq_true, eq_self, reduceIte, Nat.reduceAdd, Nat.reduceMul, Nat.reduceSub, Nat.reduceEqDiff, Nat.reduceLT, Nat.reduceLeDiff, reduceCtorEq, fX9_measure_l22, hn', if_neg c, e4', e5]
    · have e9 : k + 1 = sN S := by omega
      refine Or.inr ⟨M', by simp (disch := omega) only [p_bnd, p_nm, p_gSEl, p_gSEr, p_l0, p_l1, p_l2, p_l3, p_l4, p_l5, p_l6, p_l7, p_l8, p_l9, p_l10, p_l14, p_l16, p_l20, p_l22, p_l24, p_l30, p_l31, p_l32, p_l38, p_l40, p_l41, p_l43, p_l48, p_l57, p_l59, p_l60, p_l61, p_l62, p_l63, p_l97, p_l98, p_l101, p_l122, p_l158, p_l201, p_l255, p_l256, p_l374, p_l880, p_l900, p_l1000, p_l2618, p_neg, nI_add, p_mul, p_sub, p_addm, p_addm0, p_subm, p_le, p_lt, p_eq, p_mO_eq, p_eq_mO, p_mO_lt, p_nlt_mO, p_mO_le, p_le_mO, p_rI, p_rL, p_wI, p_wL, p_wF, p_has10, p_has11, p_ib0, p_ib1, p_shl1, p_zv0, p_zv1, p_zvib, p_ibd, p_ibn, if_pos, if_neg, if_true, if_false, ne_eq, not_true, not_false_iff, Decidable.not_not, Nat.not_lt, Nat.not_le, Bool.true_eq_false, Bool.false_eq_true, eq_self, reduceIte, Nat.reduceAdd, Nat.reduceMul, Nat.reduceSub, Nat.reduceEqDiff, Nat.reduceLT, Nat.reduceLeDiff, reduceCtorEq, fX9_measure_l22, hn'], hF, fun u hu => ?_⟩
      rw [hI u hu, e9]; rfl
  refine ⟨r, ?_, F3, I3⟩
  unfold fX9_measure
  rw [show (-1 : Int32) = mO 1 from rfl, e1, p_bnd, show (0 : Int32) = nI 0 from rfl, p_wI (by omega) (by omega), p_bnd, p_nm, p_bnd]
  rw [show gLoop (fun z9 => fX9_measure_l22 t z9.1 z9.2.1 z9.2.2) gFu ((1 : Int32) <<< (nI e &&& 31), (1 : Int32), gI M1 56 e (nI 0)) = some r from e3, p_bnd]
end WM
