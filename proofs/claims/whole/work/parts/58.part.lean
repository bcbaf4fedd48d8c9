/-! AN ARROW COMES: the affected part, BEHIND, AHEAD, LOOKED, by both sides -/
noncomputable def cB (P : Prop) : Bool := @decide P (Classical.propDecidable P)
theorem cB_iff {P : Prop} : cB P = true ↔ P := @decide_eq_true_iff P (Classical.propDecidable P)
theorem cB_no {P : Prop} : cB P = false ↔ ¬ P := @decide_eq_false_iff_not P (Classical.propDecidable P)
theorem cB_cg {P Q : Prop} (h : P ↔ Q) : cB P = cB Q := by
  cases hb : cB Q
  · rw [cB_no] at hb ⊢; exact fun z => hb (h.mp z)
  · rw [cB_iff] at hb ⊢; exact h.mpr hb
theorem cB_of {b : Bool} {P : Prop} (h : b = true ↔ P) : b = cB P := by
  cases b
  · symm; rw [cB_no]; intro z; exact absurd (h.mpr z) (by decide)
  · symm; rw [cB_iff]; exact h.mp rfl
noncomputable def wBh (S : gS) (a b : Nat) : Int32 := mkS (fun p => cB (sPl S b ≤ p ∧ p ≤ sPl S a ∧ sR S b (sHd S p)))
noncomputable def wAh (S : gS) (a b : Nat) : Int32 := mkS (fun p => cB (sPl S b ≤ p ∧ p ≤ sPl S a ∧ sR S (sHd S p) a))
def lk1 (S : gS) (w : Int32) (i : Nat) : Nat := if (!sIn S i && bt w (sPl S (sFr S i))) = true then 1 else 0
def lk2 (S : gS) (w : Int32) (i : Nat) : Nat := if (!sIn S i && bt w (sPl S (sTo S i))) = true then 1 else 0
noncomputable def sLk (S : gS) (a b : Nat) : Nat := fb_sm (fun i => lk1 S (wBh S a b) i + lk2 S (wAh S a b) i) (sM S)
section PT
variable {M : gMem} {S : gS} {t : Nat}
theorem lk_le {w w' : Int32} : ∀ k, fb_sm (fun i => lk1 S w i + lk2 S w' i) k ≤ 2 * k := fun k => by
  have := fb_sm_bound (f := fun i => lk1 S w i + lk2 S w' i) (c := 2) (n := k) (fun i _ => by
    show lk1 S w i + lk2 S w' i ≤ 2
    unfold lk1 lk2
    split <;> split <;> omega)
  omega
theorem sR_hd (h : sW S) {u p : Nat} (hp : p < sG S) : (∃ v, v < sN S ∧ sPl S v = p ∧ sR S u v) ↔ sR S u (sHd S p) := by
  obtain ⟨h1, h2⟩ := sHd_ok h.2.2.1 hp
  constructor
  · intro ⟨v, hv, e, hr⟩
    exact hr.tr (h.2.2.2.1.2 v (sHd S p) hv h1 (by rw [e, h2]))
  · intro hr; exact ⟨_, h1, h2, hr⟩
theorem sR_hd' (h : sW S) {u p : Nat} (hp : p < sG S) : (∃ v, v < sN S ∧ sPl S v = p ∧ sR S v u) ↔ sR S (sHd S p) u := by
  obtain ⟨h1, h2⟩ := sHd_ok h.2.2.1 hp
  constructor
  · intro ⟨v, hv, e, hr⟩
    exact (h.2.2.2.1.2 (sHd S p) v h1 hv (by rw [e, h2])).tr hr
  · intro hr; exact ⟨_, h1, h2, hr⟩
/-- the reference's needsRepair -/
theorem rs_needs (h : RS M S) {a b : Nat} (ha : a < sN S) (hb : b < sN S) : fX11_needsRepair (nI a) (nI b) M = some (ib (decide (sPl S b < sPl S a))) := by
  have h1 := h.2.1.1
  have h2 := h.2.1.2.2.1
  have c1 := sHd_lt h.2 ha
  have c2 := sHd_lt h.2 hb
  have c3 := h.2.p ha
  have c4 := h.2.p hb
  by_cases e : sPl S a = sPl S b
  · simp (disch := omega) only [p_bnd, p_nm, p_gSEl, p_gSEr, p_l0, p_l1, p_l2, p_l3, p_l4, p_l5, p_l6, p_l7, p_l8, p_l9, p_l10, p_l14, p_l16, p_l20, p_l22, p_l24, p_l30, p_l31, p_l32, p_l38, p_l40, p_l41, p_l43, p_l48, p_l57, p_l59, p_l60, p_l61, p_l62, p_l63, p_l97, p_l98, p_l101, p_l122, p_l158, p_l201, p_l255, p_l256, p_l374, p_l880, p_l900, p_l1000, p_l2618, p_neg, nI_add, p_mul, p_sub, p_addm, p_addm0, p_subm, p_le, p_lt, p_eq, p_mO_eq, p_eq_mO, p_mO_lt, p_nlt_mO, p_mO_le, p_le_mO, p_rI, p_rL, p_wI, p_wL, p_wF, p_has10, p_has11, p_ib0, p_ib1, p_shl1, p_zv0, p_zv1, p_zvib, p_ibd, p_ibn, if_pos, if_neg, if_true, if_false, ne_eq, not_true, not_false_iff, Decidable.not_not, Nat.not_lt, Nat.not_le, Bool.true_eq_false, Bool.false_eq_true, eq_self, reduceIte, Nat.reduceAdd, Nat.reduceMul, Nat.reduceSub, Nat.reduceEqDiff, Nat.reduceLT, Nat.reduceLeDiff, reduceCtorEq, fX11_needsRepair, rs_hd h ha, rs_hd h hb, sHd_eq h.2 ha hb, if_pos e]
    rw [decide_eq_false (by omega)]; rfl
  · by_cases e2 : sPl S b < sPl S a
    · simp (disch := omega) only [p_bnd, p_nm, p_gSEl, p_gSEr, p_l0, p_l1, p_l2, p_l3, p_l4, p_l5, p_l6, p_l7, p_l8, p_l9, p_l10, p_l14, p_l16, p_l20, p_l22, p_l24, p_l30, p_l31, p_l32, p_l38, p_l40, p_l41, p_l43, p_l48, p_l57, p_l59, p_l60, p_l61, p_l62, p_l63, p_l97, p_l98, p_l101, p_l122, p_l158, p_l201, p_l255, p_l256, p_l374, p_l880, p_l900, p_l1000, p_l2618, p_neg, nI_add, p_mul, p_sub, p_addm, p_addm0, p_subm, p_le, p_lt, p_eq, p_mO_eq, p_eq_mO, p_mO_lt, p_nlt_mO, p_mO_le, p_le_mO, p_rI, p_rL, p_wI, p_wL, p_wF, p_has10, p_has11, p_ib0, p_ib1, p_shl1, p_zv0, p_zv1, p_zvib, p_ibd, p_ibn, if_pos, if_neg, if_true, if_false, ne_eq, not_true, not_false_iff, Decidable.not_not, Nat.not_lt, Nat.not_le, Bool.true_eq_false, Bool.false_eq_true, eq_self, reduceIte, Nat.reduceAdd, Nat.reduceMul, Nat.reduceSub, Nat.reduceEqDiff, Nat.reduceLT, Nat.reduceLeDiff, reduceCtorEq, fX11_needsRepair, rs_hd h ha, rs_hd h hb, sHd_eq h.2 ha hb, if_neg e, rs_placeOf h ha, rs_placeOf h hb]
      rw [decide_eq_true e2]; rfl
    · simp (disch := omega) only [p_bnd, p_nm, p_gSEl, p_gSEr, p_l0, p_l1, p_l2, p_l3, p_l4, p_l5, p_l6, p_l7, p_l8, p_l9, p_l10, p_l14, p_l16, p_l20, p_l22, p_l24, p_l30, p_l31, p_l32, p_l38, p_l40, p_l41, p_l43, p_l48, p_l57, p_l59, p_l60, p_l61, p_l62, p_l63, p_l97, p_l98, p_l101, p_l122, p_l158, p_l201, p_l255, p_l256, p_l374, p_l880, p_l900, p_l1000, p_l2618, p_neg, nI_add, p_mul, p_sub, p_addm, p_addm0, p_subm, p_le, p_lt, p_eq, p_mO_eq, p_eq_mO, p_mO_lt, p_nlt_mO, p_mO_le, p_le_mO, p_rI, p_rL, p_wI, p_wL, p_wF, p_has10, p_has11, p_ib0, p_ib1, p_shl1, p_zv0, p_zv1, p_zvib, p_ibd, p_ibn, if_pos, if_neg, if_true, if_false, ne_eq, not_true, not_false_iff, Decidable.not_not, Nat.not_lt, Nat.not_le, Bool.true_eq_false, Bool.false_eq_true, eq_self, reduceIte, Nat.reduceAdd, Nat.reduceMul, Nat.reduceSub, Nat.reduceEqDiff, Nat.reduceLT, Nat.reduceLeDiff, reduceCtorEq, fX11_needsRepair, rs_hd h ha, rs_hd h hb, sHd_eq h.2 ha hb, if_neg e, rs_placeOf h ha, rs_placeOf h hb]
      rw [decide_eq_false e2]; rfl
/-- one place more -/
theorem mkS_or {f g : Nat → Bool} {k : Nat} (hk : k < 32) (hg : ∀ p, p < 32 → g p = (f p || (decide (p = k) && g k))) {c : Bool} (hc : c = g k) : (mkS f ||| (if c = true then sb k else nI 0)) = mkS g := by
  subst hc
  refine mkS_of fun v hv => ?_
  rw [b_or, mkS_bt hv, hg v hv]
  congr 1
  by_cases e : g k = true
  · rw [if_pos e, p_sb hk, e, Bool.and_true]
  · rw [if_neg e, p_bt0]; rw [Bool.not_eq_true] at e; rw [e, Bool.and_false]
theorem r_part1 (h : RS M S) {a b : Nat} (ha : a < sN S) (hb : b < sN S) (hr : ∀ t, t < sN S → ∀ v, v < 32 → (bt (M.1 6 t) v = true ↔ sR S t v)) (hlo : M.1 0 10 = nI (sPl S b)) (hhi : M.1 0 11 = nI (sPl S a)) (h12 : M.1 0 12 = nI 0) (h13 : M.1 0 13 = nI 0) :
    ∃ r, gLoop (fun z9 => fX11_laysPart_l38 (nI a) (nI b) z9.1 z9.2) gFu (nI (sPl S b), M) = some r ∧ gFr (fun c k => c = 0 ∧ (k = 12 ∨ k = 13)) M r ∧ r.1 0 12 = wBh S a b ∧ r.1 0 13 = wAh S a b := by
  have hn := h.2.1.1
  have hg := h.2.1.2.2.1
  have pa := h.2.p ha
  have pb := h.2.p hb
  refine gLoop_i (fun k s => ∃ M', s = (nI (sPl S b + k), M') ∧ gFr (fun c k => c = 0 ∧ (k = 12 ∨ k = 13)) M M' ∧ M'.1 0 12 = mkS (fun p => cB (sPl S b ≤ p ∧ p ≤ sPl S a ∧ p < sPl S b + k ∧ sR S b (sHd S p))) ∧ M'.1 0 13 = mkS (fun p => cB (sPl S b ≤ p ∧ p ≤ sPl S a ∧ p < sPl S b + k ∧ sR S (sHd S p) a))) _ (sPl S a + 1 - sPl S b) ⟨M, rfl, gFr_rf, ?_, ?_⟩ (by show sPl S a + 1 - sPl S b < 4096; omega) ?_
  · rw [h12]; exact mkS_of fun v _ => by rw [p_bt0]; symm; rw [cB_no]; omega
  · rw [h13]; exact mkS_of fun v _ => by rw [p_bt0]; symm; rw [cB_no]; omega
  rintro k s hk ⟨M', rfl, hF, I1, I2⟩
  have hc : M'.1 1 = M.1 1 := gFr_c1 hF (fun k z => by omega)
  have h6 : M'.1 6 = M.1 6 := gFr_c1 hF (fun k z => by omega)
  have e10 : M'.1 0 10 = nI (sPl S b) := by rw [(hF 0 10 (by omega)).1]; exact hlo
  have e11 : M'.1 0 11 = nI (sPl S a) := by rw [(hF 0 11 (by omega)).1]; exact hhi
  have hRS := RS_of h hc
  rcases Nat.lt_or_ge (sPl S a) (sPl S b + k) with q | q
  · refine Or.inr ⟨M', ?_, hF, ?_, ?_⟩
    · simp (disch := omega) only [p_bnd, p_nm, p_gSEl, p_gSEr, p_l0, p_l1, p_l2, p_l3, p_l4, p_l5, p_l6, p_l7, p_l8, p_l9, p_l10, p_l14, p_l16, p_l20, p_l22, p_l24, p_l30, p_l31, p_l32, p_l38, p_l40, p_l41, p_l43, p_l48, p_l57, p_l59, p_l60, p_l61, p_l62, p_l63, p_l97, p_l98, p_l101, p_l122, p_l158, p_l201, p_l255, p_l256, p_l374, p_l880, p_l900, p_l1000, p_l2618, p_neg, nI_add, p_mul, p_sub, p_addm, p_addm0, p_subm, p_le, p_lt, p_eq, p_mO_eq, p_eq_mO, p_mO_lt, p_nlt_mO, p_mO_le, p_le_mO, p_rI, p_rL, p_wI, p_wL, p_wF, p_has10, p_has11, p_ib0, p_ib1, p_shl1, p_zv0, p_zv1, p_zvib, p_ibd, p_ibn, if_pos, if_neg, if_true, if_false, ne_eq, not_true, not_false_iff, Decidable.not_not, Nat.not_lt, Nat.not_le, Bool.true_eq_false, Bool.false_eq_true, eq_self, reduceIte, Nat.reduceAdd, Nat.reduceMul, Nat.reduceSub, Nat.reduceEqDiff, Nat.reduceLT, Nat.reduceLeDiff, reduceCtorEq, fX11_laysPart_l38, e11]
    · rw [I1]; exact mkS_cg fun v _ => cB_cg ⟨fun ⟨a1, a2, _, a4⟩ => ⟨a1, a2, a4⟩, fun ⟨a1, a2, a4⟩ => ⟨a1, a2, by omega, a4⟩⟩
    · rw [I2]; exact mkS_cg fun v _ => cB_cg ⟨fun ⟨a1, a2, _, a4⟩ => ⟨a1, a2, a4⟩, fun ⟨a1, a2, a4⟩ => ⟨a1, a2, by omega, a4⟩⟩
  · have hp : sPl S b + k < sG S := by omega
    obtain ⟨c1, c2⟩ := sHd_ok h.2.2.2.1 hp
    have b1 : bt (M.1 6 b) (sHd S (sPl S b + k)) = cB (sR S b (sHd S (sPl S b + k))) := cB_of (hr b hb _ (by omega))
    have b2 : bt (M.1 6 (sHd S (sPl S b + k))) a = cB (sR S (sHd S (sPl S b + k)) a) := cB_of (hr _ c1 _ (by omega))
    have key : ∀ (P : Nat → Prop), (mkS (fun p => cB (sPl S b ≤ p ∧ p ≤ sPl S a ∧ p < sPl S b + k ∧ P p)) ||| (if cB (P (sPl S b + k)) = true then sb (sPl S b + k) else nI 0)) = mkS (fun p => cB (sPl S b ≤ p ∧ p ≤ sPl S a ∧ p < sPl S b + (k + 1) ∧ P p)) := by
      intro P
      refine mkS_or (by omega) (fun p _ => ?_) (cB_cg ⟨fun z => ⟨by omega, by omega, by omega, z⟩, fun z => z.2.2.2⟩)
      by_cases e : p = sPl S b + k
      · subst e
        rw [decide_eq_true rfl, Bool.true_and, (cB_no (P := sPl S b ≤ sPl S b + k ∧ sPl S b + k ≤ sPl S a ∧ sPl S b + k < sPl S b + k ∧ P (sPl S b + k))).mpr (by omega), Bool.false_or]
      · rw [decide_eq_false e, Bool.false_and, Bool.or_false]
        exact cB_cg ⟨fun ⟨a1, a2, a3, a4⟩ => ⟨a1, a2, by omega, a4⟩, fun ⟨a1, a2, a3, a4⟩ => ⟨a1, a2, by omega, a4⟩⟩
    have k1 := key (fun p => sR S b (sHd S p))
    have k2 := key (fun p => sR S (sHd S p) a)
    refine Or.inl ⟨(nI (sPl S b + (k + 1)), gI (gI M' 0 12 (mkS (fun p => cB (sPl S b ≤ p ∧ p ≤ sPl S a ∧ p < sPl S b + (k + 1) ∧ sR S b (sHd S p))))) 0 13 (mkS (fun p => cB (sPl S b ≤ p ∧ p ≤ sPl S a ∧ p < sPl S b + (k + 1) ∧ sR S (sHd S p) a)))), ?_, by omega, _, rfl, gFr_trI (gFr_trI hF ⟨rfl, Or.inl rfl⟩) ⟨rfl, Or.inr rfl⟩, ?_, ?_⟩
    · have e6 : ∀ x, (gI M' 0 12 x).1 6 = M.1 6 := fun x => by rw [p_gI_o (by decide), h6]
      have e13 : ∀ x, (gI M' 0 12 x).1 0 13 = M'.1 0 13 := fun x => p_gI_n (Or.inr (by decide))
      have hq : (if cB (sR S b (sHd S (sPl S b + k))) = true then sb (sPl S b + k) else nI 0) = (if ib (cB (sR S b (sHd S (sPl S b + k)))) = nI 0 then nI 0 else sb (sPl S b + k)) := by
        cases cB (sR S b (sHd S (sPl S b + k))) <;> rfl
      have hq2 : (if cB (sR S (sHd S (sPl S b + k)) a) = true then sb (sPl S b + k) else nI 0) = (if ib (cB (sR S (sHd S (sPl S b + k)) a)) = nI 0 then nI 0 else sb (sPl S b + k)) := by
        cases cB (sR S (sHd S (sPl S b + k)) a) <;> rfl
      rw [← k1, ← k2, hq, hq2]
      unfold fX11_laysPart_l38
      rw [e11, if_neg (by rw [p_lt (by omega) (by omega)]; omega)]
      simp (disch := omega) only [p_bnd, p_nm, p_gSEl, p_gSEr, p_l0, p_l1, p_l2, p_l3, p_l4, p_l5, p_l6, p_l7, p_l8, p_l9, p_l10, p_l14, p_l16, p_l20, p_l22, p_l24, p_l30, p_l31, p_l32, p_l38, p_l40, p_l41, p_l43, p_l48, p_l57, p_l59, p_l60, p_l61, p_l62, p_l63, p_l97, p_l98, p_l101, p_l122, p_l158, p_l201, p_l255, p_l256, p_l374, p_l880, p_l900, p_l1000, p_l2618, p_neg, nI_add, p_mul, p_sub, p_addm, p_addm0, p_subm, p_le, p_lt, p_eq, p_mO_eq, p_eq_mO, p_mO_lt, p_nlt_mO, p_mO_le, p_le_mO, p_rI, p_rL, p_wI, p_wL, p_wF, p_has10, p_has11, p_ib0, p_ib1, p_shl1, p_zv0, p_zv1, p_zvib, p_ibd, p_ibn, if_pos, if_neg, if_true, if_false, ne_eq, not_true, not_false_iff, Decidable.not_not, Nat.not_lt, Nat.not_le, Bool.true_eq_false, Bool.false_eq_true, eq_self, reduceIte, Nat.reduceAdd, Nat.reduceMul, Nat.reduceSub, Nat.reduceEqDiff, Nat.reduceLT, Nat.reduceLeDiff, reduceCtorEq, rs_or hRS hp, h6, b1, e6, b2, e13, I1, I2]
      rw [Nat.add_assoc]
    · rw [p_gI_n (Or.inr (by decide)), p_gI_s]
    · rw [p_gI_s]
theorem r_part2 (h : RS M S) {a b : Nat} (h12 : M.1 0 12 = wBh S a b) (h13 : M.1 0 13 = wAh S a b) (h14 : M.1 0 14 = nI 0) :
    ∃ r, gLoop (fun z9 => fX11_laysPart_l130 z9.1 z9.2) gFu ((0 : Int32), M) = some r ∧ gFr (fun c k => c = 0 ∧ k = 14) M r ∧ r.1 0 14 = nI (sLk S a b) := by
  have hn := h.2.1.1
  have hm := h.2.1.2.1
  have hg := h.2.1.2.2.1
  refine gLoop_i (fun k s => ∃ M', s = (nI k, M') ∧ gFr (fun c k => c = 0 ∧ k = 14) M M' ∧ M'.1 0 14 = nI (fb_sm (fun i => lk1 S (wBh S a b) i + lk2 S (wAh S a b) i) k)) _ (sM S) ⟨M, rfl, gFr_rf, h14⟩ (by show sM S < 4096; omega) ?_
  rintro k s hk ⟨M', rfl, hF, I1⟩
  have hc : M'.1 1 = M.1 1 := gFr_c1 hF (fun k z => by omega)
  have e12 : M'.1 0 12 = wBh S a b := by rw [(hF 0 12 (by omega)).1]; exact h12
  have e13 : M'.1 0 13 = wAh S a b := by rw [(hF 0 13 (by omega)).1]; exact h13
  have hRS := RS_of h hc
  have em : M'.1 1 1 = nI (sM S) := hRS.1.1.2.1
  rcases Nat.lt_or_ge k (sM S) with q | q
  · obtain ⟨b1, b2, b3, b4, -, -, -⟩ := sW_ar h.2 q
    have f1 := (hRS.1.2.2.2.1 k q).1
    have f2 := (hRS.1.2.2.2.1 k q).2
    refine Or.inl ⟨(nI (k + 1), gI (gI M' 0 14 (nI (fb_sm (fun i => lk1 S (wBh S a b) i + lk2 S (wAh S a b) i) k + lk1 S (wBh S a b) k))) 0 14 (nI (fb_sm (fun i => lk1 S (wBh S a b) i + lk2 S (wAh S a b) i) (k + 1)))), ?_, q, _, rfl, gFr_trI (gFr_trI hF ⟨rfl, rfl⟩) ⟨rfl, rfl⟩, by rw [p_gI_s]⟩
    have g1 : ∀ x, (gI M' 0 14 x).1 1 = M'.1 1 := fun x => p_gI_o (by decide)
    have g2 : ∀ x, RS (gI M' 0 14 x) S := fun x => RS_of hRS (g1 x)
    have g3 : ∀ x, (gI M' 0 14 x).1 0 13 = M'.1 0 13 := fun x => p_gI_n (Or.inr (by decide))
    have g4 : ∀ x, (gI M' 0 14 x).1 0 14 = x := fun x => p_gI_s _ _ _ _
    have bB : sPl S (sFr S k) < 32 := by omega
    have bA : sPl S (sTo S k) < 32 := by omega
    cases hi : sIn S k
    · cases hB : bt (wBh S a b) (sPl S (sFr S k)) <;> cases hA : bt (wAh S a b) (sPl S (sTo S k)) <;>
        simp (disch := omega) only [p_bnd, p_nm, p_gSEl, p_gSEr, p_l0, p_l1, p_l2, p_l3, p_l4, p_l5, p_l6, p_l7, p_l8, p_l9, p_l10, p_l14, p_l16, p_l20, p_l22, p_l24, p_l30, p_l31, p_l32, p_l38, p_l40, p_l41, p_l43, p_l48, p_l57, p_l59, p_l60, p_l61, p_l62, p_l63, p_l97, p_l98, p_l101, p_l122, p_l158, p_l201, p_l255, p_l256, p_l374, p_l880, p_l900, p_l1000, p_l2618, p_neg, nI_add, p_mul, p_sub, p_addm, p_addm0, p_subm, p_le, p_lt, p_eq, p_mO_eq, p_eq_mO, p_mO_lt, p_nlt_mO, p_mO_le, p_le_mO, p_rI, p_rL, p_wI, p_wL, p_wF, p_has10, p_has11, p_ib0, p_ib1, p_shl1, p_zv0, p_zv1, p_zvib, p_ibd, p_ibn, if_pos, if_neg, if_true, if_false, ne_eq, not_true, not_false_iff, Decidable.not_not, Nat.not_lt, Nat.not_le, Bool.true_eq_false, Bool.false_eq_true, eq_self, reduceIte, Nat.reduceAdd, Nat.reduceMul, Nat.reduceSub, Nat.reduceEqDiff, Nat.reduceLT, Nat.reduceLeDiff, reduceCtorEq, fX11_laysPart_l130, fX11_laysPart_b181, fX11_laysPart_b180, fX11_laysPart_b226, fX11_laysPart_b225, em, rs_isInner hRS q, rs_isInner (g2 _) q, hi, f1, f2, g1, rs_placeOf hRS b1, rs_placeOf (g2 _) b2, e12, e13, hB, hA, g3, g4, I1, fb_sm_succ, lk1, lk2, Bool.not_false, Bool.and_true, Bool.true_and, Bool.and_false, Bool.false_and, Nat.add_assoc, Nat.add_zero]
    · simp (disch := omega) only [p_bnd, p_nm, p_gSEl, p_gSEr, p_l0, p_l1, p_l2, p_l3, p_l4, p_l5, p_l6, p_l7, p_l8, p_l9, p_l10, p_l14, p_l16, p_l20, p_l22, p_l24, p_l30, p_l31, p_l32, p_l38, p_l40, p_l41, p_l43, p_l48, p_l57, p_l59, p_l60, p_l61, p_l62, p_l63, p_l97, p_l98, p_l101, p_l122, p_l158, p_l201, p_l255, p_l256, p_l374, p_l880, p_l900, p_l1000, p_l2618, p_neg, nI_add, p_mul, p_sub, p_addm, p_addm0, p_subm, p_le, p_lt, p_eq, p_mO_eq, p_eq_mO, p_mO_lt, p_nlt_mO, p_mO_le, p_le_mO, p_rI, p_rL, p_wI, p_wL, p_wF, p_has10, p_has11, p_ib0, p_ib1, p_shl1, p_zv0, p_zv1, p_zvib, p_ibd, p_ibn, if_pos, if_neg, if_true, if_false, ne_eq, not_true, not_false_iff, Decidable.not_not, Nat.not_lt, Nat.not_le, Bool.true_eq_false, Bool.false_eq_true, eq_self, reduceIte, Nat.reduceAdd, Nat.reduceMul, Nat.reduceSub, Nat.reduceEqDiff, Nat.reduceLT, Nat.reduceLeDiff, reduceCtorEq, fX11_laysPart_l130, fX11_laysPart_b181, fX11_laysPart_b180, fX11_laysPart_b226, fX11_laysPart_b225, em, rs_isInner hRS q, rs_isInner (g2 _) q, hi, f1, f2, g1, e12, e13, g3, g4, I1, fb_sm_succ, lk1, lk2, Bool.not_true, Bool.and_true, Bool.true_and, Bool.and_false, Bool.false_and, Nat.add_zero]
  · refine Or.inr ⟨M', ?_, hF, ?_⟩
    · simp (disch := omega) only [p_bnd, p_nm, p_gSEl, p_gSEr, p_l0, p_l1, p_l2, p_l3, p_l4, p_l5, p_l6, p_l7, p_l8, p_l9, p_l10, p_l14, p_l16, p_l20, p_l22, p_l24, p_l30, p_l31, p_l32, p_l38, p_l40, p_l41, p_l43, p_l48, p_l57, p_l59, p_l60, p_l61, p_l62, p_l63, p_l97, p_l98, p_l101, p_l122, p_l158, p_l201, p_l255, p_l256, p_l374, p_l880, p_l900, p_l1000, p_l2618, p_neg, nI_add, p_mul, p_sub, p_addm, p_addm0, p_subm, p_le, p_lt, p_eq, p_mO_eq, p_eq_mO, p_mO_lt, p_nlt_mO, p_mO_le, p_le_mO, p_rI, p_rL, p_wI, p_wL, p_wF, p_has10, p_has11, p_ib0, p_ib1, p_shl1, p_zv0, p_zv1, p_zvib, p_ibd, p_ibn, if_pos, if_neg, if_true, if_false, ne_eq, not_true, not_false_iff, Decidable.not_not, Nat.not_lt, Nat.not_le, Bool.true_eq_false, Bool.false_eq_true, eq_self, reduceIte, Nat.reduceAdd, Nat.reduceMul, Nat.reduceSub, Nat.reduceEqDiff, Nat.reduceLT, Nat.reduceLeDiff, reduceCtorEq, fX11_laysPart_l130, em]
    · rw [I1, show k = sM S by omega]; rfl
/-- the reference's laysPart -/
theorem rs_laysPart (h : RS M S) {a b : Nat} (ha : a < sN S) (hb : b < sN S) : ∃ r, fX11_laysPart (nI a) (nI b) M = some r ∧ gFr (fun c k => c = 6 ∨ (c = 0 ∧ 10 ≤ k ∧ k ≤ 14)) M r ∧ r.1 0 10 = nI (sPl S b) ∧ r.1 0 11 = nI (sPl S a) ∧ r.1 0 12 = wBh S a b ∧ r.1 0 13 = wAh S a b ∧ r.1 0 14 = nI (sLk S a b) := by
  obtain ⟨M1, e1, F1, R1⟩ := r_laysReach0 h.a
  have h1 := RS_of h (gFr_c1 F1 (fun k => by decide))
  have h2 : RS (gI M1 0 10 (nI (sPl S b))) S := RS_of h1 (p_gI_o (by decide))
  generalize hM2 : gI (gI (gI (gI M1 0 10 (nI (sPl S b))) 0 11 (nI (sPl S a))) 0 12 (nI 0)) 0 13 (nI 0) = M2
  have h3 : RS M2 S := by
    rw [← hM2]; exact RS_of h1 (by rw [p_gI_o (by decide), p_gI_o (by decide), p_gI_o (by decide), p_gI_o (by decide)])
  have r6 : M2.1 6 = M1.1 6 := by rw [← hM2, p_gI_o (by decide), p_gI_o (by decide), p_gI_o (by decide), p_gI_o (by decide)]
  have e10 : M2.1 0 10 = nI (sPl S b) := by rw [← hM2, p_gI_n (Or.inr (by decide)), p_gI_n (Or.inr (by decide)), p_gI_n (Or.inr (by decide)), p_gI_s]
  have e11 : M2.1 0 11 = nI (sPl S a) := by rw [← hM2, p_gI_n (Or.inr (by decide)), p_gI_n (Or.inr (by decide)), p_gI_s]
  have e12 : M2.1 0 12 = nI 0 := by rw [← hM2, p_gI_n (Or.inr (by decide)), p_gI_s]
  have e13 : M2.1 0 13 = nI 0 := by rw [← hM2, p_gI_s]
  obtain ⟨M3, e3, F3, B3, A3⟩ := r_part1 h3 ha hb (by rw [r6]; exact R1) e10 e11 e12 e13
  have h4 : RS (gI M3 0 14 (nI 0)) S := RS_of h3 (by rw [p_gI_o (by decide)]; exact gFr_c1 F3 (fun k z => by omega))
  obtain ⟨M4, e4, F4, L4⟩ := r_part2 (a := a) (b := b) h4 (by rw [p_gI_n (Or.inr (by decide))]; exact B3) (by rw [p_gI_n (Or.inr (by decide))]; exact A3) (p_gI_s _ _ _ _)
  have F2 : gFr (fun c k => c = 6 ∨ (c = 0 ∧ 10 ≤ k ∧ k ≤ 14)) M1 M2 := by
    rw [← hM2]; exact gFr_trI (gFr_trI (gFr_trI (gFr_trI gFr_rf (by omega)) (by omega)) (by omega)) (by omega)
  have Fq : gFr (fun c k => c = 0 ∧ (k = 12 ∨ k = 13 ∨ k = 14)) M2 M4 := gFr_tr (gFr_trI (gFr_mo F3 (fun c k z => by omega)) (by omega)) (gFr_mo F4 (fun c k z => by omega))
  refine ⟨M4, ?_, gFr_tr (gFr_mo F1 (fun c k z => Or.inl z)) (gFr_tr F2 (gFr_mo Fq (fun c k z => by omega))), ?_, ?_, ?_, ?_, L4⟩
  · unfold fX11_laysPart
    rw [e1, p_bnd, rs_placeOf h1 hb, p_bnd, p_wF, p_bnd, rs_placeOf h2 ha, p_bnd, p_wF, p_bnd]
    rw [show (0 : Int32) = nI 0 from rfl, p_wF, p_bnd, p_wF, p_bnd, hM2, p_nm, p_bnd, e10, e3, p_bnd, p_wF, p_bnd]
    rw [show (nI 0, gI M3 0 14 (nI 0)) = ((0 : Int32), gI M3 0 14 (nI 0)) from rfl, e4, p_bnd]
  · rw [(Fq 0 10 (by omega)).1, e10]
  · rw [(Fq 0 11 (by omega)).1, e11]
  · rw [(F4 0 12 (by omega)).1, p_gI_n (Or.inr (by decide)), B3]
  · rw [(F4 0 13 (by omega)).1, p_gI_n (Or.inr (by decide)), A3]
end PT
