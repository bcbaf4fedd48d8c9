/-! NEEDLESS ARROWS, the weakest arrow: both sides -/
noncomputable def nS (S : gS) (i : Nat) : Bool := cB (gRc (sX S i) (sFr S i) (sTo S i))
section ND
variable {M : gMem} {S : gS} {t a : Nat}
theorem sX_E (h : sW1 S) (ha : a < sM S) {u v : Nat} : sX S a u v ↔ sE S u v ∧ ¬ (u = sFr S a ∧ v = sTo S a) := (sLess_X ha).symm.trans (sLess_E h ha)
theorem nl_found (h : CS M t S) (ed x3 x4 x6 : Int32) : ∃ r, gLoop (fun z9 => fX2_isNeedless_l72 t x3 x4 ed x6 M z9.1 z9.2) gFu (nI 0, nI 0) = some r ∧ ∀ v, v < 32 → (bt r v = true ↔ ∃ u, u < sN S ∧ bt ed u = true ∧ sE S u v) := by
  have hn := h.2.1.1
  have hn1 := cs_n h
  refine gLoop_i (fun j s => ∃ f, s = (f, nI j) ∧ ∀ v, v < 32 → (bt f v = true ↔ ∃ u, u < j ∧ bt ed u = true ∧ sE S u v)) _ (sN S) ⟨nI 0, rfl, fun v _ => by
    rw [p_bt0]; exact ⟨fun z => (by cases z), fun ⟨u, z, _⟩ => absurd z (Nat.not_lt_zero _)⟩⟩ (by show sN S < 4096; omega) ?_
  rintro j s hj ⟨f, rfl, hf⟩
  rcases Nat.lt_or_ge j (sN S) with q | q
  · cases hb : bt ed j
    · refine Or.inl ⟨(f, nI (j + 1)), ?_, q, f, rfl, fun v hv => ?_⟩
      · simp (disch := omega) only [p_bnd, p_nm, p_gSEl, p_gSEr, p_l0, p_l1, p_l2, p_l3, p_l4, p_l5, p_l6, p_l7, p_l8, p_l9, p_l10, p_l14, p_l16, p_l20, p_l22, p_l24, p_l30, p_l31, p_l32, p_l38, p_l40, p_l41, p_l43, p_l48, p_l57, p_l59, p_l60, p_l61, p_l62, p_l63, p_l97, p_l98, p_l101, p_l122, p_l158, p_l201, p_l255, p_l256, p_l374, p_l880, p_l900, p_l1000, p_l2618, p_neg, nI_add, p_mul, p_sub, p_addm, p_addm0, p_subm, p_le, p_lt, p_eq, p_mO_eq, p_eq_mO, p_mO_lt, p_nlt_mO, p_mO_le, p_le_mO, p_rI, p_rL, p_wI, p_wL, p_wF, p_has10, p_has11, p_ib0, p_ib1, p_shl1, p_zv0, p_zv1, p_zvib, p_ibd, p_ibn, if_pos, if_neg, if_true, if_false, ne_eq, not_true, not_false_iff, Decidable.not_not, Nat.not_lt, Nat.not_le, Bool.true_eq_false, Bool.false_eq_true, eq_self, reduceIte, Nat.reduceAdd, Nat.reduceMul, Nat.reduceSub, Nat.reduceEqDiff, Nat.reduceLT, Nat.reduceLeDiff, reduceCtorEq, fX2_isNeedless_l72, fX2_isNeedless_b103, hn1, hb]
      · rw [hf v hv]
        constructor
        · rintro ⟨u, u1, u2⟩; exact ⟨u, by omega, u2⟩
        · rintro ⟨u, u1, u2, u3⟩
          by_cases e : u = j
          · rw [e, hb] at u2; cases u2
          · exact ⟨u, by omega, u2, u3⟩
    · refine Or.inl ⟨(f ||| M.1 (t + 5) j, nI (j + 1)), ?_, q, _, rfl, fun v hv => ?_⟩
      · simp (disch := omega) only [p_bnd, p_nm, p_gSEl, p_gSEr, p_l0, p_l1, p_l2, p_l3, p_l4, p_l5, p_l6, p_l7, p_l8, p_l9, p_l10, p_l14, p_l16, p_l20, p_l22, p_l24, p_l30, p_l31, p_l32, p_l38, p_l40, p_l41, p_l43, p_l48, p_l57, p_l59, p_l60, p_l61, p_l62, p_l63, p_l97, p_l98, p_l101, p_l122, p_l158, p_l201, p_l255, p_l256, p_l374, p_l880, p_l900, p_l1000, p_l2618, p_neg, nI_add, p_mul, p_sub, p_addm, p_addm0, p_subm, p_le, p_lt, p_eq, p_mO_eq, p_eq_mO, p_mO_lt, p_nlt_mO, p_mO_le, p_le_mO, p_rI, p_rL, p_wI, p_wL, p_wF, p_has10, p_has11, p_ib0, p_ib1, p_shl1, p_zv0, p_zv1, p_zvib, p_ibd, p_ibn, if_pos, if_neg, if_true, if_false, ne_eq, not_true, not_false_iff, Decidable.not_not, Nat.not_lt, Nat.not_le, Bool.true_eq_false, Bool.false_eq_true, eq_self, reduceIte, Nat.reduceAdd, Nat.reduceMul, Nat.reduceSub, Nat.reduceEqDiff, Nat.reduceLT, Nat.reduceLeDiff, reduceCtorEq, fX2_isNeedless_l72, fX2_isNeedless_b103, hn1, hb]
      · rw [b_or, Bool.or_eq_true, hf v hv, cs_nx h q hv]
        constructor
        · rintro (⟨u, u1, u2⟩ | z)
          · exact ⟨u, by omega, u2⟩
          · exact ⟨j, by omega, hb, z⟩
        · rintro ⟨u, u1, u2, u3⟩
          by_cases e : u = j
          · rw [e] at u3; exact Or.inr u3
          · exact Or.inl ⟨u, by omega, u2, u3⟩
  · have e : j = sN S := by omega
    rw [e] at hf ⊢
    exact Or.inr ⟨f, by simp (disch := omega) only [p_bnd, p_nm, p_gSEl, p_gSEr, p_l0, p_l1, p_l2, p_l3, p_l4, p_l5, p_l6, p_l7, p_l8, p_l9, p_l10, p_l14, p_l16, p_l20, p_l22, p_l24, p_l30, p_l31, p_l32, p_l38, p_l40, p_l41, p_l43, p_l48, p_l57, p_l59, p_l60, p_l61, p_l62, p_l63, p_l97, p_l98, p_l101, p_l122, p_l158, p_l201, p_l255, p_l256, p_l374, p_l880, p_l900, p_l1000, p_l2618, p_neg, nI_add, p_mul, p_sub, p_addm, p_addm0, p_subm, p_le, p_lt, p_eq, p_mO_eq, p_eq_mO, p_mO_lt, p_nlt_mO, p_mO_le, p_le_mO, p_rI, p_rL, p_wI, p_wL, p_wF, p_has10, p_has11, p_ib0, p_ib1, p_shl1, p_zv0, p_zv1, p_zvib, p_ibd, p_ibn, if_pos, if_neg, if_true, if_false, ne_eq, not_true, not_false_iff, Decidable.not_not, Nat.not_lt, Nat.not_le, Bool.true_eq_false, Bool.false_eq_true, eq_self, reduceIte, Nat.reduceAdd, Nat.reduceMul, Nat.reduceSub, Nat.reduceEqDiff, Nat.reduceLT, Nat.reduceLeDiff, reduceCtorEq, fX2_isNeedless_l72, hn1], hf⟩
/-- seen, edge behind k rounds -/
def NLI (S : gS) (a k : Nat) (se ed : Int32) : Prop :=
  bt se (sFr S a) = true ∧ (∀ v, v < 32 → bt se v = true → v < sN S ∧ gRc (sX S a) (sFr S a) v) ∧ (∀ v, v < 32 → bt ed v = true → v < sN S ∧ bt se v = false ∧ gRc (sX S a) (sFr S a) v) ∧ (∀ u v, u < 32 → v < 32 → bt se u = true → sX S a u v → bt se v = true ∨ bt ed v = true) ∧ k + 1 ≤ fb_ct (bt se) (sN S)
theorem NLI_0 (h : CS M t S) (ha : a < sM S) : NLI S a 0 (sb (sFr S a)) (M.1 (t + 5) (sFr S a) &&& (sb (sTo S a) ^^^ mO 1)) := by
  obtain ⟨b1, b2, b3⟩ := h.2.2.1.1 a ha
  have hn := h.2.1.1
  have ed : ∀ v, v < 32 → (bt (M.1 (t + 5) (sFr S a) &&& (sb (sTo S a) ^^^ mO 1)) v = true ↔ sX S a (sFr S a) v) := fun v hv => by
    rw [b_and, p_not _ hv, p_sb (by omega), Bool.and_eq_true, cs_nx h b1 hv, sX_E h.2.2.1 ha, Bool.not_eq_true', decide_eq_false_iff_not]
    exact ⟨fun z => ⟨z.1, fun w => z.2 w.2⟩, fun z => ⟨z.1, fun w => z.2 ⟨rfl, w⟩⟩⟩
  refine ⟨by rw [p_sb (by omega)]; simp, fun v hv z => ?_, fun v hv z => ?_, fun u v hu hv z1 z2 => ?_, ?_⟩
  · rw [p_sb (by omega)] at z
    rw [of_decide_eq_true z]; exact ⟨b1, gRc.rf⟩
  · have z := (ed v hv).mp z
    have z2 := ((sX_E h.2.2.1 ha).mp z).1
    refine ⟨(sE.lt h.2.2.1 z2).2, ?_, gRc.one z⟩
    rw [p_sb (by omega), decide_eq_false_iff_not]
    intro e
    obtain ⟨i, i1, i2, i3⟩ := z2
    have := (h.2.2.1.1 i i1).2.2
    rw [i2, i3, e] at this
    exact this rfl
  · rw [p_sb (by omega)] at z1
    rw [of_decide_eq_true z1] at z2
    exact Or.inr ((ed v hv).mpr z2)
  · have : 0 < fb_ct (bt (sb (sFr S a))) (sN S) := fb_ct_pos.mpr ⟨sFr S a, b1, by rw [p_sb (by omega)]; simp⟩
    omega
theorem NLI_s (h : sW1 S) (hn : sN S ≤ 24) (ha : a < sM S) {k : Nat} {se ed f : Int32} (hI : NLI S a k se ed) (hne : ¬ ed = nI 0) (hf : ∀ v, v < 32 → (bt f v = true ↔ ∃ u, u < sN S ∧ bt ed u = true ∧ sE S u v)) : NLI S a (k + 1) (se ||| ed) (f &&& ((se ||| ed) ^^^ mO 1)) := by
  obtain ⟨b1, b2, b3⟩ := h.1 a ha
  obtain ⟨h1, h2, h3, h4, h5⟩ := hI
  refine ⟨by rw [b_or, h1]; rfl, fun v hv z => ?_, fun v hv z => ?_, fun u v hu hv z1 z2 => ?_, ?_⟩
  · rw [b_or, Bool.or_eq_true] at z
    rcases z with z | z
    · exact h2 v hv z
    · obtain ⟨c1, c2, c3⟩ := h3 v hv z; exact ⟨c1, c3⟩
  · rw [b_and, p_not _ hv, Bool.and_eq_true, Bool.not_eq_true', hf v hv] at z
    obtain ⟨⟨u, u1, u2, u3⟩, z2⟩ := z
    obtain ⟨c1, c2, c3⟩ := h3 u (by omega) u2
    refine ⟨(sE.lt h u3).2, z2, c3.snoc ((sX_E h ha).mpr ⟨u3, fun w => ?_⟩)⟩
    rw [w.1, h1] at c2; cases c2
  · rw [b_or, Bool.or_eq_true] at z1
    rcases z1 with z1 | z1
    · rcases h4 u v hu hv z1 z2 with w | w
      · exact Or.inl (by rw [b_or, w]; rfl)
      · exact Or.inl (by rw [b_or, w, Bool.or_true])
    · have hE := ((sX_E h ha).mp z2).1
      have hb : bt f v = true := (hf v hv).mpr ⟨u, (sE.lt h hE).1, z1, hE⟩
      cases hs : bt (se ||| ed) v
      · exact Or.inr (by rw [b_and, p_not _ hv, hb, hs]; rfl)
      · exact Or.inl rfl
  · obtain ⟨j, j1, j2⟩ := p_nz.mp hne
    obtain ⟨c1, c2, c3⟩ := h3 j j1 j2
    have := fb_less (f := bt se) (g := bt (se ||| ed)) (n := sN S) (h := j) (fun v _ z => by rw [b_or, z]; rfl) c1 c2 (by rw [b_or, j2, Bool.or_true])
    omega
theorem NLI_e {k : Nat} {se ed : Int32} (h : sW1 S) (hn : sN S ≤ 24) (ha : a < sM S) (hI : NLI S a k se ed) (he : ed = nI 0 ∨ bt se (sTo S a) = true) : bt se (sTo S a) = nS S a := by
  obtain ⟨b1, b2, b3⟩ := h.1 a ha
  obtain ⟨h1, h2, h3, h4, h5⟩ := hI
  refine cB_of ⟨fun z => (h2 _ (by omega) z).2, fun z => ?_⟩
  rcases he with he | he
  · have hc : ∀ u v, sX S a u v → (u < sN S ∧ bt se u = true) → (v < sN S ∧ bt se v = true) := fun u v hE hu => by
      have hv := (sE.lt h ((sX_E h ha).mp hE).1).2
      rcases h4 u v (by omega) (by omega) hu.2 hE with w | w
      · exact ⟨hv, w⟩
      · rw [he, p_bt0] at w; cases w
    exact (gRc.fwd (fun x => x < sN S ∧ bt se x = true) hc z ⟨b1, h1⟩).2
  · exact he
theorem cs_isNeedless (h : CS M t S) (ha : a < sM S) : fX2_isNeedless t (nI a) M = some (ib (nS S a)) := by
  obtain ⟨b1, b2, b3⟩ := h.2.2.1.1 a ha
  have hn := h.2.1.1
  have hm := h.2.1.2.1
  have hn1 := cs_n h
  obtain ⟨r, e, R⟩ : ∃ r, gLoop (fun z9 => fX2_isNeedless_l36 t (nI (sTo S a)) M z9.1 z9.2.1 z9.2.2) gFu (sb (sFr S a), M.1 (t + 5) (sFr S a) &&& (sb (sTo S a) ^^^ mO 1), nI 0) = some r ∧ bt r (sTo S a) = nS S a := by
    refine gLoop_i (fun k s => ∃ se ed, s = (se, ed, nI k) ∧ NLI S a k se ed) _ (sN S) ⟨_, _, rfl, NLI_0 h ha⟩ (by show sN S < 4096; omega) ?_
    rintro k s hk ⟨se, ed, rfl, hI⟩
    rcases Nat.lt_or_ge k (sN S) with q | q
    · by_cases c : ed = nI 0
      · exact Or.inr ⟨se, by simp (disch := omega) only [p_bnd, p_nm, p_gSEl, p_gSEr, p_l0, p_l1, p_l2, p_l3, p_l4, p_l5, p_l6, p_l7, p_l8, p_l9, p_l10, p_l14, p_l16, p_l20, p_l22, p_l24, p_l30, p_l31, p_l32, p_l38, p_l40, p_l41, p_l43, p_l48, p_l57, p_l59, p_l60, p_l61, p_l62, p_l63, p_l97, p_l98, p_l101, p_l122, p_l158, p_l201, p_l255, p_l256, p_l374, p_l880, p_l900, p_l1000, p_l2618, p_neg, nI_add, p_mul, p_sub, p_addm, p_addm0, p_subm, p_le, p_lt, p_eq, p_mO_eq, p_eq_mO, p_mO_lt, p_nlt_mO, p_mO_le, p_le_mO, p_rI, p_rL, p_wI, p_wL, p_wF, p_has10, p_has11, p_ib0, p_ib1, p_shl1, p_zv0, p_zv1, p_zvib, p_ibd, p_ibn, if_pos, if_neg, if_true, if_false, ne_eq, not_true, not_false_iff, Decidable.not_not, Nat.not_lt, Nat.not_le, Bool.true_eq_false, Bool.false_eq_true, eq_self, reduceIte, Nat.reduceAdd, Nat.reduceMul, Nat.reduceSub, Nat.reduceEqDiff, Nat.reduceLT, Nat.reduceLeDiff, reduceCtorEq, fX2_isNeedless_l36, hn1, if_pos c], NLI_e h.2.2.1 hn ha hI (Or.inl c)⟩
      · cases hb : bt se (sTo S a)
        · obtain ⟨f, e1, hf⟩ := nl_found h ed (nI (sTo S a)) (se ||| ed) (nI k)
          refine Or.inl ⟨(se ||| ed, f &&& ((se ||| ed) ^^^ mO 1), nI (k + 1)), ?_, q, _, _, rfl, NLI_s h.2.2.1 hn ha hI c hf⟩
          simp (disch := omega) only [p_bnd, p_nm, p_gSEl, p_gSEr, p_l0, p_l1, p_l2, p_l3, p_l4, p_l5, p_l6, p_l7, p_l8, p_l9, p_l10, p_l14, p_l16, p_l20, p_l22, p_l24, p_l30, p_l31, p_l32, p_l38, p_l40, p_l41, p_l43, p_l48, p_l57, p_l59, p_l60, p_l61, p_l62, p_l63, p_l97, p_l98, p_l101, p_l122, p_l158, p_l201, p_l255, p_l256, p_l374, p_l880, p_l900, p_l1000, p_l2618, p_neg, nI_add, p_mul, p_sub, p_addm, p_addm0, p_subm, p_le, p_lt, p_eq, p_mO_eq, p_eq_mO, p_mO_lt, p_nlt_mO, p_mO_le, p_le_mO, p_rI, p_rL, p_wI, p_wL, p_wF, p_has10, p_has11, p_ib0, p_ib1, p_shl1, p_zv0, p_zv1, p_zvib, p_ibd, p_ibn, if_pos, if_neg, if_true, if_false, ne_eq, not_true, not_false_iff, Decidable.not_not, Nat.not_lt, Nat.not_le, Bool.true_eq_false, Bool.false_eq_true, eq_self, reduceIte, Nat.reduceAdd, Nat.reduceMul, Nat.reduceSub, Nat.reduceEqDiff, Nat.reduceLT, Nat.reduceLeDiff, reduceCtorEq, fX2_isNeedless_l36, hn1, if_neg c, hb, e1]
        · exact Or.inr ⟨se, by simp (disch := omega) only [p_bnd, p_nm, p_gSEl, p_gSEr, p_l0, p_l1, p_l2, p_l3, p_l4, p_l5, p_l6, p_l7, p_l8, p_l9, p_l10, p_l14, p_l16, p_l20, p_l22, p_l24, p_l30, p_l31, p_l32, p_l38, p_l40, p_l41, p_l43, p_l48, p_l57, p_l59, p_l60, p_l61, p_l62, p_l63, p_l97, p_l98, p_l101, p_l122, p_l158, p_l201, p_l255, p_l256, p_l374, p_l880, p_l900, p_l1000, p_l2618, p_neg, nI_add, p_mul, p_sub, p_addm, p_addm0, p_subm, p_le, p_lt, p_eq, p_mO_eq, p_eq_mO, p_mO_lt, p_nlt_mO, p_mO_le, p_le_mO, p_rI, p_rL, p_wI, p_wL, p_wF, p_has10, p_has11, p_ib0, p_ib1, p_shl1, p_zv0, p_zv1, p_zvib, p_ibd, p_ibn, if_pos, if_neg, if_true, if_false, ne_eq, not_true, not_false_iff, Decidable.not_not, Nat.not_lt, Nat.not_le, Bool.true_eq_false, Bool.false_eq_true, eq_self, reduceIte, Nat.reduceAdd, Nat.reduceMul, Nat.reduceSub, Nat.reduceEqDiff, Nat.reduceLT, Nat.reduceLeDiff, reduceCtorEq, fX2_isNeedless_l36, hn1, if_neg c, hb], NLI_e h.2.2.1 hn ha hI (Or.inr hb)⟩
    · have := fb_ct_le (bt se) (sN S)
      have := hI.2.2.2.2
      omega
  have e1 := cs_fr h ha
  have e2 := cs_to h ha
  unfold fX2_isNeedless fX2_isNeedless_b124
  rw [p_rI (by omega) (by omega), p_bnd, e1, p_rI (by omega) (by omega), p_bnd, e2, p_nm, p_bnd, p_rI (by omega) (by omega), p_bnd, p_nm, p_bnd]
  rw [show gLoop (fun z9 => fX2_isNeedless_l36 t (nI (sTo S a)) M z9.1 z9.2.1 z9.2.2) gFu ((1 : Int32) <<< (nI (sFr S a) &&& 31), M.1 (t + 5) (sFr S a) &&& (((1 : Int32) <<< (nI (sTo S a) &&& 31)) ^^^ (-1 : Int32)), (0 : Int32)) = some r from e, p_bnd, p_has10 (by omega), p_bnd, p_zvib, p_bnd, R]
theorem cs_needless (h : CS M 1 S) : fX10_needless M = some (nI (fb_ct (nS S) (sM S))) := by
  have hm := h.2.1.2.1
  have hm1 := cs_m h
  have hm1 : M.1 1 10 = nI (sM S) := hm1
  have e := gLoop_f (body := fun z9 => fX10_needless_l4 M z9.1 z9.2) (fun k => (nI (fb_ct (nS S) k), nI k)) (r := nI (fb_ct (nS S) (sM S))) (sM S) gFu (by show sM S < 4096; omega) (fun k hk => by
    have e1 := cs_isNeedless h hk
    cases hb : nS S k
    · simp (disch := omega) only [p_bnd, p_nm, p_gSEl, p_gSEr, p_l0, p_l1, p_l2, p_l3, p_l4, p_l5, p_l6, p_l7, p_l8, p_l9, p_l10, p_l14, p_l16, p_l20, p_l22, p_l24, p_l30, p_l31, p_l32, p_l38, p_l40, p_l41, p_l43, p_l48, p_l57, p_l59, p_l60, p_l61, p_l62, p_l63, p_l97, p_l98, p_l101, p_l122, p_l158, p_l201, p_l255, p_l256, p_l374, p_l880, p_l900, p_l1000, p_l2618, p_neg, nI_add, p_mul, p_sub, p_addm, p_addm0, p_subm, p_le, p_lt, p_eq, p_mO_eq, p_eq_mO, p_mO_lt, p_nlt_mO, p_mO_le, p_le_mO, p_rI, p_rL, p_wI, p_wL, p_wF, p_has10, p_has11, p_ib0, p_ib1, p_shl1, p_zv0, p_zv1, p_zvib, p_ibd, p_ibn, if_pos, if_neg, if_true, if_false, ne_eq, not_true, not_false_iff, Decidable.not_not, Nat.not_lt, Nat.not_le, Bool.true_eq_false, Bool.false_eq_true, eq_self, reduceIte, Nat.reduceAdd, Nat.reduceMul, Nat.reduceSub, Nat.reduceEqDiff, Nat.reduceLT, Nat.reduceLeDiff, reduceCtorEq, fX10_needless_l4, fX10_needless_b29, hm1, e1, hb, fb_ct_succ, Nat.add_zero]
    · simp (disch := omega) only [p_bnd, p_nm, p_gSEl, p_gSEr, p_l0, p_l1, p_l2, p_l3, p_l4, p_l5, p_l6, p_l7, p_l8, p_l9, p_l10, p_l14, p_l16, p_l20, p_l22, p_l24, p_l30, p_l31, p_l32, p_l38, p_l40, p_l41, p_l43, p_l48, p_l57, p_l59, p_l60, p_l61, p_l62, p_l63, p_l97, p_l98, p_l101, p_l122, p_l158, p_l201, p_l255, p_l256, p_l374, p_l880, p_l900, p_l1000, p_l2618, p_neg, nI_add, p_mul, p_sub, p_addm, p_addm0, p_subm, p_le, p_lt, p_eq, p_mO_eq, p_eq_mO, p_mO_lt, p_nlt_mO, p_mO_le, p_le_mO, p_rI, p_rL, p_wI, p_wL, p_wF, p_has10, p_has11, p_ib0, p_ib1, p_shl1, p_zv0, p_zv1, p_zvib, p_ibd, p_ibn, if_pos, if_neg, if_true, if_false, ne_eq, not_true, not_false_iff, Decidable.not_not, Nat.not_lt, Nat.not_le, Bool.true_eq_false, Bool.false_eq_true, eq_self, reduceIte, Nat.reduceAdd, Nat.reduceMul, Nat.reduceSub, Nat.reduceEqDiff, Nat.reduceLT, Nat.reduceLeDiff, reduceCtorEq, fX10_needless_l4, fX10_needless_b29, hm1, e1, hb, fb_ct_succ]) (by simp (disch := omega) only [p_bnd, p_nm, p_gSEl, p_gSEr, p_l0, p_l1, p_l2, p_l3, p_l4, p_l5, p_l6, p_l7, p_l8, p_l9, p_l10, p_l14, p_l16, p_l20, p_l22, p_l24, p_l30, p_l31, p_l32, p_l38, p_l40, p_l41, p_l43, p_l48, p_l57, p_l59, p_l60, p_l61, p_l62, p_l63, p_l97, p_l98, p_l101, p_l122, p_l158, p_l201, p_l255, p_l256, p_l374, p_l880, p_l900, p_l1000, p_l2618, p_neg, nI_add, p_mul, p_sub, p_addm, p_addm0, p_subm, p_le, p_lt, p_eq, p_mO_eq, p_eq_mO, p_mO_lt, p_nlt_mO, p_mO_le, p_le_mO, p_rI, p_rL, p_wI, p_wL, p_wF, p_has10, p_has11, p_ib0, p_ib1, p_shl1, p_zv0, p_zv1, p_zvib, p_ibd, p_ibn, if_pos, if_neg, if_true, if_false, ne_eq, not_true, not_false_iff, Decidable.not_not, Nat.not_lt, Nat.not_le, Bool.true_eq_false, Bool.false_eq_true, eq_self, reduceIte, Nat.reduceAdd, Nat.reduceMul, Nat.reduceSub, Nat.reduceEqDiff, Nat.reduceLT, Nat.reduceLeDiff, reduceCtorEq, fX10_needless_l4, hm1])
  unfold fX10_needless
  rw [show gLoop (fun z9 => fX10_needless_l4 M z9.1 z9.2) gFu ((0 : Int32), (0 : Int32)) = some (nI (fb_ct (nS S) (sM S))) from e, p_bnd]
theorem rs_needless (h : RS M S) : ∃ r, fX11_needless M = some (nI (fb_ct (nS S) (sM S)), r) ∧ gFr (fun c k => c = 6 ∨ (c = 0 ∧ k = 0)) M r ∧ r.1 0 0 = nI 0 := by
  have hm := h.2.1.2.1
  have hn := h.2.1.1
  obtain ⟨r, e, e2, F⟩ : ∃ r, gLoop (fun z9 => fX11_needless_l9 z9.1 z9.2.1 z9.2.2) gFu (nI 0, nI 0, gI M 0 0 (nI 0)) = some r ∧ r.1 = nI (fb_ct (nS S) (sM S)) ∧ gFr (fun c _ => c = 6) (gI M 0 0 (nI 0)) r.2 := by
    refine gLoop_i (fun k s => ∃ M', s = (nI (fb_ct (nS S) k), nI k, M') ∧ gFr (fun c _ => c = 6) (gI M 0 0 (nI 0)) M') _ (sM S) ⟨_, rfl, gFr_rf⟩ (by show sM S < 4096; omega) ?_
    rintro k s hk ⟨M', rfl, hF⟩
    have h' : RS M' S := RS_of h ((gFr_c1 hF (fun _ => by omega)).trans (p_gI_o (by decide)))
    have m2 : M'.1 1 1 = nI (sM S) := h'.1.1.2.1
    rcases Nat.lt_or_ge k (sM S) with q | q
    · obtain ⟨b1, b2, -⟩ := h.2.2.1.1 k q
      obtain ⟨M2, e1, F2, I2⟩ := r_laysReach h'.a (b := nI k) (a := k) (fun i hi => p_eq (by omega) (by omega))
      have h2 : RS M2 S := RS_of h' (gFr_c1 F2 (fun _ => by omega))
      obtain ⟨f1, f2⟩ := h2.1.2.2.2.1 k q
      have hb2 : bt (M2.1 6 (sFr S k)) (sTo S k) = nS S k := cB_of (I2 _ b1 _ (by omega))
      refine Or.inl ⟨(nI (fb_ct (nS S) (k + 1)), nI (k + 1), M2), ?_, q, M2, rfl, gFr_tr hF F2⟩
      cases hb : nS S k
      · rw [hb] at hb2
        simp (disch := omega) only [p_bnd, p_nm, p_gSEl, p_gSEr, p_l0, p_l1, p_l2, p_l3, p_l4, p_l5, p_l6, p_l7, p_l8, p_l9, p_l10, p_l14, p_l16, p_l20, p_l22, p_l24, p_l30, p_l31, p_l32, p_l38, p_l40, p_l41, p_l43, p_l48, p_l57, p_l59, p_l60, p_l61, p_l62, p_l63, p_l97, p_l98, p_l101, p_l122, p_l158, p_l201, p_l255, p_l256, p_l374, p_l880, p_l900, p_l1000, p_l2618, p_neg, nI_add, p_mul, p_sub, p_addm, p_addm0, p_subm, p_le, p_lt, p_eq, p_mO_eq, p_eq_mO, p_mO_lt, p_nlt_mO, p_mO_le, p_le_mO, p_rI, p_rL, p_wI, p_wL, p_wF, p_has10, p_has11, p_ib0, p_ib1, p_shl1, p_zv0, p_zv1, p_zvib, p_ibd, p_ibn, if_pos, if_neg, if_true, if_false, ne_eq, not_true, not_false_iff, Decidable.not_not, Nat.not_lt, Nat.not_le, Bool.true_eq_false, Bool.false_eq_true, eq_self, reduceIte, Nat.reduceAdd, Nat.reduceMul, Nat.reduceSub, Nat.reduceEqDiff, Nat.reduceLT, Nat.reduceLeDiff, reduceCtorEq, fX11_needless_l9, m2, e1, f1, f2, hb2, hb, ibF, decide_true, Bool.not_true, fb_ct_succ, Nat.add_zero]
      · rw [hb] at hb2
        simp (disch := omega) only [p_bnd, p_nm, p_gSEl, p_gSEr, p_l0, p_l1, p_l2, p_l3, p_l4, p_l5, p_l6, p_l7, p_l8, p_l9, p_l10, p_l14, p_l16, p_l20, p_l22, p_l24, p_l30, p_l31, p_l32, p_l38, p_l40, p_l41, p_l43, p_l48, p_l57, p_l59, p_l60, p_l61, p_l62, p_l63, p_l97, p_l98, p_l101, p_l122, p_l158, p_l201, p_l255, p_l256, p_l374, p_l880, p_l900, p_l1000, p_l2618, p_neg, nI_add, p_mul, p_sub, p_addm, p_addm0, p_subm, p_le, p_lt, p_eq, p_mO_eq, p_eq_mO, p_mO_lt, p_nlt_mO, p_mO_le, p_le_mO, p_rI, p_rL, p_wI, p_wL, p_wF, p_has10, p_has11, p_ib0, p_ib1, p_shl1, p_zv0, p_zv1, p_zvib, p_ibd, p_ibn, if_pos, if_neg, if_true, if_false, ne_eq, not_true, not_false_iff, Decidable.not_not, Nat.not_lt, Nat.not_le, Bool.true_eq_false, Bool.false_eq_true, eq_self, reduceIte, Nat.reduceAdd, Nat.reduceMul, Nat.reduceSub, Nat.reduceEqDiff, Nat.reduceLT, Nat.reduceLeDiff, reduceCtorEq, fX11_needless_l9, m2, e1, f1, f2, hb2, hb, ibT, decide_false, Bool.not_false, fb_ct_succ]
    · have e9 : k = sM S := by omega
      exact Or.inr ⟨(nI (fb_ct (nS S) k), M'), by simp (disch := omega) only [p_bnd, p_nm, p_gSEl, p_gSEr, p_l0, p_l1, p_l2, p_l3, p_l4, p_l5, p_l6, p_l7, p_l8, p_l9, p_l10, p_l14, p_l16, p_l20, p_l22, p_l24, p_l30, p_l31, p_l32, p_l38, p_l40, p_l41, p_l43, p_l48, p_l57, p_l59, p_l60, p_l61, p_l62, p_l63, p_l97, p_l98, p_l101, p_l122, p_l158, p_l201, p_l255, p_l256, p_l374, p_l880, p_l900, p_l1000, p_l2618, p_neg, nI_add, p_mul, p_sub, p_addm, p_addm0, p_subm, p_le, p_lt, p_eq, p_mO_eq, p_eq_mO, p_mO_lt, p_nlt_mO, p_mO_le, p_le_mO, p_rI, p_rL, p_wI, p_wL, p_wF, p_has10, p_has11, p_ib0, p_ib1, p_shl1, p_zv0, p_zv1, p_zvib, p_ibd, p_ibn, if_pos, if_neg, if_true, if_false, ne_eq, not_true, not_false_iff, Decidable.not_not, Nat.not_lt, Nat.not_le, Bool.true_eq_false, Bool.false_eq_true, eq_self, reduceIte, Nat.reduceAdd, Nat.reduceMul, Nat.reduceSub, Nat.reduceEqDiff, Nat.reduceLT, Nat.reduceLeDiff, reduceCtorEq, fX11_needless_l9, m2], by rw [e9], hF⟩
  refine ⟨r.2, ?_, gFr_tr (gFr_I (Or.inr ⟨rfl, rfl⟩)) (gFr_mo F (fun c k z => Or.inl z)), by rw [(F 0 0 (by omega)).1, p_gI_s]⟩
  unfold fX11_needless
  rw [show (0 : Int32) = nI 0 from rfl, p_wF, p_bnd, e, p_bnd, e2]
end ND
