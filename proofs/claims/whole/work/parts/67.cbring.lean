/-! AN ARROW COMES: the class does it -/
section CB
variable {M : gMem} {S : gS} {t a b n m : Nat}
theorem cp_putArrow {R : Nat → Nat → Prop} (h9 : M.1 t 9 = nI n) (h10 : M.1 t 10 = nI m) (hn : n ≤ 24) (hm : m < 60) (ha : a < n) (hb : b < n) (hr : ∀ u, u < n → ∀ v, v < 32 → (bt (M.1 (t + 6) u) v = true ↔ R u v)) :
    ∃ M', fX2_putArrow t (nI a) (nI b) M = some M' ∧ gFr (fun c k => (c = t + 3 ∧ k = m) ∨ (c = t + 4 ∧ k = m) ∨ (c = t ∧ k = 10) ∨ (c = t + 5 ∧ k = a) ∨ c = t + 6) M M' ∧ M'.1 (t + 3) m = nI a ∧ M'.1 (t + 4) m = nI b ∧ M'.1 t 10 = nI (m + 1) ∧ M'.1 (t + 5) a = M.1 (t + 5) a ||| sb b ∧ ∀ u, u < n → ∀ v, v < 32 → (bt (M'.1 (t + 6) u) v = true ↔ R u v ∨ (R u a ∧ R b v)) := by
  generalize hM6 : gI (gI (gI (gI M (t + 3) m (nI a)) (t + 4) m (nI b)) t 10 (nI (m + 1))) (t + 5) a (M.1 (t + 5) a ||| sb b) = M6
  have F6 : gFr (fun c k => (c = t + 3 ∧ k = m) ∨ (c = t + 4 ∧ k = m) ∨ (c = t ∧ k = 10) ∨ (c = t + 5 ∧ k = a)) M M6 := by
    rw [← hM6]; exact gFr_trI (gFr_trI (gFr_trI (gFr_I (by omega)) (by omega)) (by omega)) (by omega)
  have e6 : M6.1 (t + 6) = M.1 (t + 6) := gFr_c1 F6 (fun k z => by omega)
  obtain ⟨q, e, F, I⟩ : ∃ q, gLoop (fun z9 => fX2_putArrow_l54 t (nI a) (nI b) z9.1 z9.2) gFu ((0 : Int32), M6) = some q ∧ gFr (fun c _ => c = t + 6) M6 q ∧ ∀ u, u < n → ∀ v, v < 32 → (bt (q.1 (t + 6) u) v = true ↔ R u v ∨ (R u a ∧ R b v)) := by
    refine gLoop_i (fun j s => ∃ M', s = (nI j, M') ∧ gFr (fun c _ => c = t + 6) M6 M' ∧ ∀ u, u < n → ∀ v, v < 32 → (bt (M'.1 (t + 6) u) v = true ↔ R u v ∨ (u < j ∧ R u a ∧ R b v))) _ n ⟨M6, rfl, gFr_rf, fun u hu v hv => by rw [e6, hr u hu v hv]; exact ⟨Or.inl, fun z => z.elim id (fun y => absurd y.1 (Nat.not_lt_zero _))⟩⟩ (by show n < 4096; omega) ?_
    rintro j s hj ⟨M', rfl, hF, hI⟩
    have e9 : M'.1 t 9 = nI n := by rw [(hF t 9 (by omega)).1, (F6 t 9 (by omega)).1]; exact h9
    rcases Nat.lt_or_ge j n with q | q
    · have hja : bt (M'.1 (t + 6) j) a = true ↔ R j a := by
        rw [hI j q a (by omega)]
        exact ⟨fun z => z.elim id (fun y => absurd y.1 (Nat.lt_irrefl _)), Or.inl⟩
      have hbv : ∀ v, v < 32 → (bt (M'.1 (t + 6) b) v = true ↔ R b v) := fun v hv => by
        rw [hI b hb v hv]
        exact ⟨fun z => z.elim id (fun y => y.2.2), Or.inl⟩
      cases hc : bt (M'.1 (t + 6) j) a
      · refine Or.inl ⟨(nI (j + 1), M'), ?_, q, M', rfl, hF, fun u hu v hv => ?_⟩
        · simp (disch := omega) only [p_bnd, p_nm, p_gSEl, p_gSEr, p_l0, p_l1, p_l2, p_l3, p_l4, p_l5, p_l6, p_l7, p_l8, p_l9, p_l10, p_l14, p_l16, p_l20, p_l22, p_l24, p_l30, p_l31, p_l32, p_l38, p_l40, p_l41, p_l43, p_l48, p_l57, p_l59, p_l60, p_l61, p_l62, p_l63, p_l97, p_l98, p_l101, p_l122, p_l158, p_l201, p_l255, p_l256, p_l374, p_l880, p_l900, p_l1000, p_l2618, p_neg, nI_add, p_mul, p_sub, p_addm, p_addm0, p_subm, p_le, p_lt, p_eq, p_mO_eq, p_eq_mO, p_mO_lt, p_nlt_mO, p_mO_le, p_le_mO, p_rI, p_rL, p_wI, p_wL, p_wF, p_has10, p_has11, p_ib0, p_ib1, p_shl1, p_zv0, p_zv1, p_zvib, p_ibd, p_ibn, if_pos, if_neg, if_true, if_false, ne_eq, not_true, not_false_iff, Decidable.not_not, Nat.not_lt, Nat.not_le, Bool.true_eq_false, Bool.false_eq_true, eq_self, reduceIte, Nat.reduceAdd, Nat.reduceMul, Nat.reduceSub, Nat.reduceEqDiff, Nat.reduceLT, Nat.reduceLeDiff, reduceCtorEq, fX2_putArrow_l54, fX2_putArrow_b90, e9, hc]
        · rw [hI u hu v hv]
          refine or_congr Iff.rfl ⟨fun z => ⟨by omega, z.2⟩, fun z => ⟨?_, z.2⟩⟩
          rcases Nat.lt_or_ge u j with y | y
          · exact y
          · have : u = j := by omega
            rw [this] at z
            rw [hja.mpr z.2.1] at hc; cases hc
      · refine Or.inl ⟨(nI (j + 1), gI M' (t + 6) j (M'.1 (t + 6) j ||| M'.1 (t + 6) b)), ?_, q, _, rfl, gFr_trI hF rfl, fun u hu v hv => ?_⟩
        · simp (disch := omega) only [p_bnd, p_nm, p_gSEl, p_gSEr, p_l0, p_l1, p_l2, p_l3, p_l4, p_l5, p_l6, p_l7, p_l8, p_l9, p_l10, p_l14, p_l16, p_l20, p_l22, p_l24, p_l30, p_l31, p_l32, p_l38, p_l40, p_l41, p_l43, p_l48, p_l57, p_l59, p_l60, p_l61, p_l62, p_l63, p_l97, p_l98, p_l101, p_l122, p_l158, p_l201, p_l255, p_l256, p_l374, p_l880, p_l900, p_l1000, p_l2618, p_neg, nI_add, p_mul, p_sub, p_addm, p_addm0, p_subm, p_le, p_lt, p_eq, p_mO_eq, p_eq_mO, p_mO_lt, p_nlt_mO, p_mO_le, p_le_mO, p_rI, p_rL, p_wI, p_wL, p_wF, p_has10, p_has11, p_ib0, p_ib1, p_shl1, p_zv0, p_zv1, p_zvib, p_ibd, p_ibn, if_pos, if_neg, if_true, if_false, ne_eq, not_true, not_false_iff, Decidable.not_not, Nat.not_lt, Nat.not_le, Bool.true_eq_false, Bool.false_eq_true, eq_self, reduceIte, Nat.reduceAdd, Nat.reduceMul, Nat.reduceSub, Nat.reduceEqDiff, Nat.reduceLT, Nat.reduceLeDiff, reduceCtorEq, fX2_putArrow_l54, fX2_putArrow_b90, e9, hc]
        · rw [p_gI]
          by_cases y : u = j
          · rw [if_pos ⟨rfl, y⟩, b_or, Bool.or_eq_true, hI j q v hv, hbv v hv, y]
            constructor
            · rintro ((z | z) | z)
              · exact Or.inl z
              · exact absurd z.1 (Nat.lt_irrefl _)
              · exact Or.inr ⟨by omega, hja.mp hc, z⟩
            · rintro (z | z)
              · exact Or.inl (Or.inl z)
              · exact Or.inr z.2.2
          · rw [if_neg (fun z => y z.2), hI u hu v hv]
            exact or_congr Iff.rfl ⟨fun z => ⟨by omega, z.2⟩, fun z => ⟨by omega, z.2⟩⟩
    · refine Or.inr ⟨M', by simp (disch := omega) only [p_bnd, p_nm, p_gSEl, p_gSEr, p_l0, p_l1, p_l2, p_l3, p_l4, p_l5, p_l6, p_l7, p_l8, p_l9, p_l10, p_l14, p_l16, p_l20, p_l22, p_l24, p_l30, p_l31, p_l32, p_l38, p_l40, p_l41, p_l43, p_l48, p_l57, p_l59, p_l60, p_l61, p_l62, p_l63, p_l97, p_l98, p_l101, p_l122, p_l158, p_l201, p_l255, p_l256, p_l374, p_l880, p_l900, p_l1000, p_l2618, p_neg, nI_add, p_mul, p_sub, p_addm, p_addm0, p_subm, p_le, p_lt, p_eq, p_mO_eq, p_eq_mO, p_mO_lt, p_nlt_mO, p_mO_le, p_le_mO, p_rI, p_rL, p_wI, p_wL, p_wF, p_has10, p_has11, p_ib0, p_ib1, p_shl1, p_zv0, p_zv1, p_zvib, p_ibd, p_ibn, if_pos, if_neg, if_true, if_false, ne_eq, not_true, not_false_iff, Decidable.not_not, Nat.not_lt, Nat.not_le, Bool.true_eq_false, Bool.false_eq_true, eq_self, reduceIte, Nat.reduceAdd, Nat.reduceMul, Nat.reduceSub, Nat.reduceEqDiff, Nat.reduceLT, Nat.reduceLeDiff, reduceCtorEq, fX2_putArrow_l54, e9], hF, fun u hu v hv => ?_⟩
      rw [hI u hu v hv]
      exact or_congr Iff.rfl ⟨fun z => z.2, fun z => ⟨by omega, z⟩⟩
  refine ⟨q, ?_, gFr_tr (gFr_mo F6 (fun c k z => by omega)) (gFr_mo F (fun c k z => by omega)), ?_, ?_, ?_, ?_, I⟩
  · unfold fX2_putArrow
    have g1 : (gI M (t + 3) m (nI a)).1 t 10 = nI m := by rw [p_gI_n (Or.inl (by omega))]; exact h10
    have g2 : ∀ x y, (gI (gI M (t + 3) m x) (t + 4) m y).1 t 10 = nI m := fun x y => by rw [p_gI_n (Or.inl (by omega)), p_gI_n (Or.inl (by omega))]; exact h10
    have g3 : ∀ x y z, (gI (gI (gI M (t + 3) m x) (t + 4) m y) t 10 z).1 (t + 5) a = M.1 (t + 5) a := fun x y z => by rw [p_gI_n (Or.inl (by omega)), p_gI_n (Or.inl (by omega)), p_gI_n (Or.inl (by omega))]
    rw [h10, if_pos (by rw [show (60 : Int32) = nI 60 from rfl, p_lt (by omega) (by omega)]; exact hm), p_wI hm (by omega), p_bnd, g1, p_wI hm (by omega), p_bnd, g2, show nI m + (1 : Int32) = nI (m + 1) from nI_1 m, p_wF, p_bnd, p_rI (by omega) (by omega), p_bnd, g3, p_wI (by omega) (by omega), p_bnd]
    rw [show (1 : Int32) <<< (nI b &&& 31) = sb b from rfl, hM6, e, p_bnd]
  · rw [(F (t + 3) m (by omega)).1, ← hM6, p_gI_n (Or.inl (by omega)), p_gI_n (Or.inl (by omega)), p_gI_n (Or.inl (by omega)), p_gI_s]
  · rw [(F (t + 4) m (by omega)).1, ← hM6, p_gI_n (Or.inl (by omega)), p_gI_n (Or.inl (by omega)), p_gI_s]
  · rw [(F t 10 (by omega)).1, ← hM6, p_gI_n (Or.inl (by omega)), p_gI_s]
  · rw [(F (t + 5) a (by omega)).1, ← hM6, p_gI_s]
/-- the joined places, counted -/
theorem cJ (h : sW S) (ha : a < sN S) (hb : b < sN S) : fb_ct (bt (wBh S a b &&& wAh S a b)) 32 = fb_ct (iJ (pA S a b) (pB S a b)) (pLn S a b) := by
  have hn := h.1.1
  have hg := h.1.2.2.1
  have := h.p ha
  have := h.p hb
  by_cases c : sPl S b ≤ sPl S a + 1
  · refine ct_off (lo := sPl S b) (by unfold pLn; omega) (fun k hk => ?_) (fun p p1 p2 => ?_)
    · rw [b_and, Bool.and_comm]; rfl
    · unfold pLn at p2
      rw [b_and, (w_out (S := S) (a := a) (b := b) p1 (by omega)).1, Bool.and_false]
  · have e : pLn S a b = 0 := by unfold pLn; omega
    rw [e]
    refine fb_ct_zero.mpr (fun k hk => ?_)
    rw [b_and, (w_out (S := S) (a := a) (b := b) hk (by omega)).1, Bool.and_false]
/-- the groups behind the repair, by their sets -/
theorem pL_bits (h : sW S) (ha : a < sN S) (hb : b < sN S) (hlt : sPl S b < sPl S a) {mode p : Nat} {x : Int32} (hx : ((pL S a b mode).map (mbA S a b))[p]? = some x) {v : Nat} (hv : v < 32) : bt x v = true ↔ v < sN S ∧ nPl S a b mode v = p := by
  rw [List.getElem?_map] at hx
  obtain ⟨y, hy, rfl⟩ := Option.map_eq_some_iff.mp hx
  have hi := idx_nd (pL_nd hlt) hy
  have hym : y ∈ pL S a b mode := List.mem_of_getElem? hy
  have key : (v < sN S ∧ nPl S a b mode v = p) ↔ v < sN S ∧ pKey S a b v = y := by
    constructor
    · intro ⟨z1, z2⟩
      refine ⟨z1, ?_⟩
      have := idx_at (pKey_mem (mode := mode) h ha hb hlt z1)
      rw [show (pL S a b mode).idxOf (pKey S a b v) = p from z2, hy] at this
      exact (Option.some.inj this).symm
    · intro ⟨z1, z2⟩
      refine ⟨z1, ?_⟩
      unfold nPl; rw [z2, hi]
  rw [key]
  cases y with
  | none =>
    show bt (wJn S a b) v = true ↔ _
    unfold wJn
    rw [mkS_bt hv, Bool.and_eq_true, decide_eq_true_eq, Bool.and_eq_true, pKey_none]
  | some q =>
    show bt (sMb S q) v = true ↔ _
    rw [sMb_bt hv, decide_eq_true_eq, pKey_some]
    refine and_congr_right fun hvn => ⟨fun e => ⟨e, fun z => ?_⟩, fun z => z.1⟩
    rcases mem_pL.mp hym with ⟨p', e', h1⟩ | (⟨k, e', h1, h2⟩ | ⟨e', -⟩) | ⟨p', e', h1, h2⟩
    · cases e'
      have hn := h.1.1
      have hg := h.1.2.2.1
      have := h.p hb
      rw [(w_out (S := S) (a := a) (b := b) (p := q) (by omega) (Or.inl h1)).1] at z; cases z.2
    · have e2 := Option.some.inj e'
      rw [e2] at z
      unfold iJ pA pB at h2
      rw [z.1, z.2] at h2; cases h2
    · cases e'
    · cases e'
      have hn := h.1.1
      have hg := h.1.2.2.1
      rw [(w_out (S := S) (a := a) (b := b) (p := q) (by omega) (Or.inr h1)).1] at z; cases z.2
end CB
