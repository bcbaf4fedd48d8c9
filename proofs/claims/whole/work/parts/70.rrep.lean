/-! AN ARROW COMES: the reference repairs: the new heads' row -/
section RR1
variable {M : gMem} {S : gS} {a b mode : Nat}
/-- the HEAD of the joined group; of an item -/
noncomputable def jHd (S : gS) (a b : Nat) : Nat := fa_first (fun v => bt (wBh S a b) (sPl S v) && bt (wAh S a b) (sPl S v)) (sN S)
noncomputable def hdN (S : gS) (a b : Nat) (x : Option Nat) : Nat := match x with | some q => sHd S q | none => jHd S a b
/-- the state with its groups repaired, without the arrow -/
noncomputable def sMid (S : gS) (a b mode : Nat) : gS := (upN S.1 2 (pL S a b mode).length, sFr S, sTo S, nPl S a b mode, sHr S, sAc S, sNm S)
theorem hd_item (h : sW S) (ha : a < sN S) (hb : b < sN S) (hlt : sPl S b < sPl S a) {p : Nat} {x : Option Nat} (hx : (pL S a b mode)[p]? = some x) : sHd (sMid S a b mode) p = hdN S a b x := by
  have hi := idx_nd (pL_nd hlt) hx
  have hxm : x ∈ pL S a b mode := List.mem_of_getElem? hx
  have key : ∀ t, t < sN S → (nPl S a b mode t = p ↔ pKey S a b t = x) := fun t ht => by
    constructor
    · intro z
      have := idx_at (pKey_mem (mode := mode) h ha hb hlt ht)
      rw [show (pL S a b mode).idxOf (pKey S a b t) = p from z, hx] at this
      exact (Option.some.inj this).symm
    · intro z; unfold nPl; rw [z, hi]
  have hn := h.1.1
  have hg := h.1.2.2.1
  have hpb := h.p hb
  cases x with
  | none =>
    show fa_first (fun t => decide (nPl S a b mode t = p)) (sN S) = fa_first _ (sN S)
    refine fa_first_cg fun t ht => ?_
    have e1 : decide (nPl S a b mode t = p) = cB (pKey S a b t = none) := cB_of (by rw [decide_eq_true_eq]; exact key t ht)
    refine e1.trans ?_
    symm
    refine cB_of ?_
    rw [pKey_none, Bool.and_eq_true]
  | some q =>
    show fa_first (fun t => decide (nPl S a b mode t = p)) (sN S) = fa_first (fun t => decide (sPl S t = q)) (sN S)
    refine fa_first_cg fun t ht => decide_eq_decide.mpr ?_
    rw [key t ht, pKey_some]
    refine ⟨fun z => z.1, fun z => ⟨z, fun w => ?_⟩⟩
    rcases mem_pL.mp hxm with ⟨p', e', h1⟩ | (⟨k, e', h1, h2⟩ | ⟨e', -⟩) | ⟨p', e', h1, h2⟩
    · cases e'
      rw [(w_out (S := S) (a := a) (b := b) (p := q) (by omega) (Or.inl h1)).1] at w; cases w.2
    · have e2 := Option.some.inj e'
      rw [e2] at w
      unfold iJ pA pB at h2
      rw [w.1, w.2] at h2; cases h2
    · cases e'
    · cases e'
      rw [(w_out (S := S) (a := a) (b := b) (p := q) (by omega) (Or.inr h1)).1] at w; cases w.2
theorem jHd_ok (h : sW S) (ha : a < sN S) (hb : b < sN S) {p : Nat} (hp : p < sG S) (h1 : bt (wBh S a b) p = true) (h2 : bt (wAh S a b) p = true) : jHd S a b < sN S ∧ (bt (wBh S a b) (sPl S (jHd S a b)) = true ∧ bt (wAh S a b) (sPl S (jHd S a b)) = true) ∧ jHd S a b ≤ sHd S p := by
  obtain ⟨y1, y2⟩ := sHd_ok h.2.2.1 hp
  have hle : jHd S a b ≤ sHd S p := by
    refine Classical.byContradiction fun q => ?_
    have := fa_first_no (fun v => bt (wBh S a b) (sPl S v) && bt (wAh S a b) (sPl S v)) (sN S) (sHd S p) (show sHd S p < jHd S a b by omega)
    rw [y2, h1, h2] at this; cases this
  have hlt : jHd S a b < sN S := by omega
  have := fa_first_yes (fun v => bt (wBh S a b) (sPl S v) && bt (wAh S a b) (sPl S v)) (sN S) hlt
  rw [Bool.and_eq_true] at this
  exact ⟨hlt, this, hle⟩
theorem rp_leastHead (h : RS M S) (ha : a < sN S) (hb : b < sN S) (hlt : sPl S b < sPl S a) (hp : RQ M (sPl S b) (sPl S a) (wBh S a b) (wAh S a b)) (hJ : ¬ (wBh S a b &&& wAh S a b = nI 0)) : fX11_leastHead (wBh S a b &&& wAh S a b) M = some (nI (jHd S a b)) := by
  have hn := h.2.1.1
  have hg := h.2.1.2.2.1
  have pa := h.2.p ha
  obtain ⟨p0, z1, z2⟩ := p_nz.mp hJ
  rw [b_and, Bool.and_eq_true] at z2
  have w0 := (wBh_bt (S := S) z1).mp z2.1
  obtain ⟨r, e, x, ex, hx1, hx2, hx3⟩ : ∃ r, gLoop (fun z9 => fX11_leastHead_l8 (wBh S a b &&& wAh S a b) M z9.1 z9.2) gFu (nI 24, nI (sPl S b)) = some r ∧ ∃ x, r = nI x ∧ x ≤ 24 ∧ (∀ j, j < pLn S a b → bt (wBh S a b &&& wAh S a b) (sPl S b + j) = true → x ≤ sHd S (sPl S b + j)) ∧ (x = 24 ∨ ∃ j, j < pLn S a b ∧ bt (wBh S a b &&& wAh S a b) (sPl S b + j) = true ∧ x = sHd S (sPl S b + j)) := by
    refine gLoop_i (fun k s => ∃ x, s = (nI x, nI (sPl S b + k)) ∧ x ≤ 24 ∧ (∀ j, j < k → bt (wBh S a b &&& wAh S a b) (sPl S b + j) = true → x ≤ sHd S (sPl S b + j)) ∧ (x = 24 ∨ ∃ j, j < k ∧ bt (wBh S a b &&& wAh S a b) (sPl S b + j) = true ∧ x = sHd S (sPl S b + j))) _ (pLn S a b) ⟨24, rfl, by omega, fun j hj => absurd hj (Nat.not_lt_zero _), Or.inl rfl⟩ (by unfold pLn; show _ < 4096; omega) ?_
    rintro k s hk ⟨x, rfl, i1, i2, i3⟩
    unfold pLn at hk
    rcases Nat.lt_or_ge k (sPl S a + 1 - sPl S b) with q | q
    · obtain ⟨y1, y2⟩ := sHd_ok h.2.2.2.1 (p := sPl S b + k) (by omega)
      have hor := rs_or h (p := sPl S b + k) (by omega)
      cases hc : bt (wBh S a b &&& wAh S a b) (sPl S b + k)
      · refine Or.inl ⟨(nI x, nI (sPl S b + (k + 1))), ?_, q, x, rfl, i1, fun j hj hb => ?_, i3.elim Or.inl (fun ⟨j, j1, j2⟩ => Or.inr ⟨j, by omega, j2⟩)⟩
        · simp (disch := omega) only [p_bnd, p_nm, p_gSEl, p_gSEr, p_l0, p_l1, p_l2, p_l3, p_l4, p_l5, p_l6, p_l7, p_l8, p_l9, p_l10, p_l14, p_l16, p_l20, p_l22, p_l24, p_l30, p_l31, p_l32, p_l38, p_l40, p_l41, p_l43, p_l48, p_l57, p_l59, p_l60, p_l61, p_l62, p_l63, p_l97, p_l98, p_l101, p_l122, p_l158, p_l201, p_l255, p_l256, p_l374, p_l880, p_l900, p_l1000, p_l2618, p_neg, nI_add, p_mul, p_sub, p_addm, p_addm0, p_subm, p_le, p_lt, p_eq, p_mO_eq, p_eq_mO, p_mO_lt, p_nlt_mO, p_mO_le, p_le_mO, p_rI, p_rL, p_wI, p_wL, p_wF, p_has10, p_has11, p_ib0, p_ib1, p_shl1, p_zv0, p_zv1, p_zvib, p_ibd, p_ibn, if_pos, if_neg, if_true, if_false, ne_eq, not_true, not_false_iff, Decidable.not_not, Nat.not_lt, Nat.not_le, Bool.true_eq_false, Bool.false_eq_true, eq_self, reduceIte, Nat.reduceAdd, Nat.reduceMul, Nat.reduceSub, Nat.reduceEqDiff, Nat.reduceLT, Nat.reduceLeDiff, reduceCtorEq, fX11_leastHead_l8, fX11_leastHead_b41, hp.2.1, hc, Nat.add_assoc]
        · rcases Nat.lt_or_ge j k with y | y
          · exact i2 j y hb
          · have : j = k := by omega
            rw [this, hc] at hb; cases hb
      · by_cases c : sHd S (sPl S b + k) < x
        · refine Or.inl ⟨(nI (sHd S (sPl S b + k)), nI (sPl S b + (k + 1))), ?_, q, _, rfl, by omega, fun j hj hb => ?_, Or.inr ⟨k, by omega, hc, rfl⟩⟩
          · simp (disch := omega) only [p_bnd, p_nm, p_gSEl, p_gSEr, p_l0, p_l1, p_l2, p_l3, p_l4, p_l5, p_l6, p_l7, p_l8, p_l9, p_l10, p_l14, p_l16, p_l20, p_l22, p_l24, p_l30, p_l31, p_l32, p_l38, p_l40, p_l41, p_l43, p_l48, p_l57, p_l59, p_l60, p_l61, p_l62, p_l63, p_l97, p_l98, p_l101, p_l122, p_l158, p_l201, p_l255, p_l256, p_l374, p_l880, p_l900, p_l1000, p_l2618, p_neg, nI_add, p_mul, p_sub, p_addm, p_addm0, p_subm, p_le, p_lt, p_eq, p_mO_eq, p_eq_mO, p_mO_lt, p_nlt_mO, p_mO_le, p_le_mO, p_rI, p_rL, p_wI, p_wL, p_wF, p_has10, p_has11, p_ib0, p_ib1, p_shl1, p_zv0, p_zv1, p_zvib, p_ibd, p_ibn, if_pos, if_neg, if_true, if_false, ne_eq, not_true, not_false_iff, Decidable.not_not, Nat.not_lt, Nat.not_le, Bool.true_eq_false, Bool.false_eq_true, eq_self, reduceIte, Nat.reduceAdd, Nat.reduceMul, Nat.reduceSub, Nat.reduceEqDiff, Nat.reduceLT, Nat.reduceLeDiff, reduceCtorEq, fX11_leastHead_l8, fX11_leastHead_b41, hp.2.1, hc, hor, Nat.add_assoc]
          · rcases Nat.lt_or_ge j k with y | y
            · have := i2 j y hb; omega
            · have : j = k := by omega
              rw [this]; exact Nat.le_refl _
        · refine Or.inl ⟨(nI x, nI (sPl S b + (k + 1))), ?_, q, x, rfl, i1, fun j hj hb => ?_, i3.elim Or.inl (fun ⟨j, j1, j2⟩ => Or.inr ⟨j, by omega, j2⟩)⟩
          · simp (disch := omega) only [p_bnd, p_nm, p_gSEl, p_gSEr, p_l0, p_l1, p_l2, p_l3, p_l4, p_l5, p_l6, p_l7, p_l8, p_l9, p_l10, p_l14, p_l16, p_l20, p_l22, p_l24, p_l30, p_l31, p_l32, p_l38, p_l40, p_l41, p_l43, p_l48, p_l57, p_l59, p_l60, p_l61, p_l62, p_l63, p_l97, p_l98, p_l101, p_l122, p_l158, p_l201, p_l255, p_l256, p_l374, p_l880, p_l900, p_l1000, p_l2618, p_neg, nI_add, p_mul, p_sub, p_addm, p_addm0, p_subm, p_le, p_lt, p_eq, p_mO_eq, p_eq_mO, p_mO_lt, p_nlt_mO, p_mO_le, p_le_mO, p_rI, p_rL, p_wI, p_wL, p_wF, p_has10, p_has11, p_ib0, p_ib1, p_shl1, p_zv0, p_zv1, p_zvib, p_ibd, p_ibn, if_pos, if_neg, if_true, if_false, ne_eq, not_true, not_false_iff, Decidable.not_not, Nat.not_lt, Nat.not_le, Bool.true_eq_false, Bool.false_eq_true, eq_self, reduceIte, Nat.reduceAdd, Nat.reduceMul, Nat.reduceSub, Nat.reduceEqDiff, Nat.reduceLT, Nat.reduceLeDiff, reduceCtorEq, fX11_leastHead_l8, fX11_leastHead_b41, hp.2.1, hc, hor, Nat.add_assoc]
          · rcases Nat.lt_or_ge j k with y | y
            · exact i2 j y hb
            · have : j = k := by omega
              rw [this]; omega
    · have e9 : k = pLn S a b := by unfold pLn; omega
      refine Or.inr ⟨nI x, by simp (disch := omega) only [p_bnd, p_nm, p_gSEl, p_gSEr, p_l0, p_l1, p_l2, p_l3, p_l4, p_l5, p_l6, p_l7, p_l8, p_l9, p_l10, p_l14, p_l16, p_l20, p_l22, p_l24, p_l30, p_l31, p_l32, p_l38, p_l40, p_l41, p_l43, p_l48, p_l57, p_l59, p_l60, p_l61, p_l62, p_l63, p_l97, p_l98, p_l101, p_l122, p_l158, p_l201, p_l255, p_l256, p_l374, p_l880, p_l900, p_l1000, p_l2618, p_neg, nI_add, p_mul, p_sub, p_addm, p_addm0, p_subm, p_le, p_lt, p_eq, p_mO_eq, p_eq_mO, p_mO_lt, p_nlt_mO, p_mO_le, p_le_mO, p_rI, p_rL, p_wI, p_wL, p_wF, p_has10, p_has11, p_ib0, p_ib1, p_shl1, p_zv0, p_zv1, p_zvib, p_ibd, p_ibn, if_pos, if_neg, if_true, if_false, ne_eq, not_true, not_false_iff, Decidable.not_not, Nat.not_lt, Nat.not_le, Bool.true_eq_false, Bool.false_eq_true, eq_self, reduceIte, Nat.reduceAdd, Nat.reduceMul, Nat.reduceSub, Nat.reduceEqDiff, Nat.reduceLT, Nat.reduceLeDiff, reduceCtorEq, fX11_leastHead_l8, hp.2.1], x, rfl, i1, ?_, ?_⟩
      · rw [← e9]; exact i2
      · rw [← e9]; exact i3
  have e1 : x = jHd S a b := by
    have k0 : sPl S b + (p0 - sPl S b) = p0 := by omega
    have hx4 := hx2 (p0 - sPl S b) (by unfold pLn; omega) (by rw [k0, b_and, z2.1, z2.2]; rfl)
    obtain ⟨y1, y2⟩ := sHd_ok h.2.2.2.1 (p := p0) (by omega)
    rw [k0] at hx4
    rcases hx3 with rfl | ⟨j, j1, j2, rfl⟩
    · omega
    · unfold pLn at j1
      rw [b_and, Bool.and_eq_true] at j2
      obtain ⟨u1, u2, u3⟩ := jHd_ok h.2 ha hb (p := sPl S b + j) (by omega) j2.1 j2.2
      have w1 := (wBh_bt (S := S) (a := a) (b := b) (p := sPl S (jHd S a b)) (by have := h.2.p u1; omega)).mp u2.1
      have u4 := hx2 (sPl S (jHd S a b) - sPl S b) (by unfold pLn; omega) (by rw [Nat.add_sub_cancel' w1.1, b_and, u2.1, u2.2]; rfl)
      rw [Nat.add_sub_cancel' w1.1] at u4
      have u5 := sHd_le (S := S) u1 rfl
      omega
  unfold fX11_leastHead
  rw [hp.1, p_nm, p_bnd, show (24 : Int32) = nI 24 from rfl, e, p_bnd, ex, e1]
/-- the reference's row of new heads -/
def OW (M : gMem) (l : List Int32) : Prop := ∀ k v, l[k]? = some v → M.1 9 k = v
theorem OW_put {l : List Int32} (h : OW M l) (x : Int32) : OW (gI M 9 l.length x) (l ++ [x]) := by
  intro k v hk
  rw [p_gI]
  rcases Nat.lt_or_ge k l.length with q | q
  · rw [List.getElem?_append_left q] at hk
    rw [if_neg (by omega)]; exact h k v hk
  · rw [List.getElem?_append_right q] at hk
    have e : k = l.length := by
      have := (List.getElem?_eq_some_iff.mp hk).1
      simp at this; omega
    subst e
    rw [if_pos ⟨rfl, rfl⟩]; simpa using hk
noncomputable def hdW (S : gS) (a b : Nat) (x : Option Nat) : Int32 := nI (hdN S a b x)
theorem rp_in {x lo hi : Nat} (hx : x < 24) (hlo : lo < 24) (hhi : hi < 24) : fX11_in (nI x) (nI lo) (nI hi) = some (ib (decide (lo ≤ x ∧ x ≤ hi))) := by
  unfold fX11_in
  by_cases c1 : x < lo
  · rw [if_pos (by rw [p_lt (by omega) (by omega)]; exact c1), decide_eq_false (by omega)]; rfl
  · rw [if_neg (by rw [p_lt (by omega) (by omega)]; exact c1)]
    by_cases c2 : hi < x
    · rw [if_pos (by rw [p_lt (by omega) (by omega)]; exact c2), decide_eq_false (by omega)]; rfl
    · rw [if_neg (by rw [p_lt (by omega) (by omega)]; exact c2), decide_eq_true (by omega)]; rfl
theorem rp_inner (h : RS M S) (hlt : sPl S b < sPl S a) (hpa : sPl S a < sG S) (h11 : M.1 0 11 = nI (sPl S a)) {w1 hw : Int32} (hhw : none ∈ pIt S a b mode → hw = nI (jHd S a b)) (hP : PW M ((pIt S a b mode).map (rfI (sPl S b)))) {l : List Int32} (hO : OW M l) (hl : l.length + (pIt S a b mode).length ≤ 24) :
    ∃ M', gLoop (fun z9 => fX11_repairs_l115 w1 hw (nI (sPl S a)) z9.1 z9.2.1 z9.2.2) gFu (nI l.length, (0 : Int32), M) = some (nI (l.length + (pIt S a b mode).length), M') ∧ gFr (fun c _ => c = 9) M M' ∧ OW M' (l ++ (pIt S a b mode).map (fun x => hdW S a b (Option.map (fun k => sPl S b + k) x))) := by
  have hn := h.2.1.1
  have hg := h.2.1.2.2.1
  obtain ⟨r, e, M', er, F, O⟩ : ∃ r, gLoop (fun z9 => fX11_repairs_l115 w1 hw (nI (sPl S a)) z9.1 z9.2.1 z9.2.2) gFu (nI l.length, (0 : Int32), M) = some r ∧ ∃ M', r = (nI (l.length + (pIt S a b mode).length), M') ∧ gFr (fun c _ => c = 9) M M' ∧ OW M' (l ++ (pIt S a b mode).map (fun x => hdW S a b (Option.map (fun k => sPl S b + k) x))) := by
    refine gLoop_i (fun k s => ∃ M', s = (nI (l.length + k), nI k, M') ∧ gFr (fun c _ => c = 9) M M' ∧ OW M' (l ++ ((pIt S a b mode).take k).map (fun x => hdW S a b (Option.map (fun k => sPl S b + k) x)))) _ (pIt S a b mode).length ⟨M, rfl, gFr_rf, by simpa using hO⟩ (by show _ < 4096; omega) ?_
    rintro k s hk ⟨M', rfl, hF, hI⟩
    have e16 : M'.1 0 16 = nI (pIt S a b mode).length := by rw [(hF 0 16 (by omega)).1, hP.1, List.length_map]
    have e11 : M'.1 0 11 = nI (sPl S a) := by rw [(hF 0 11 (by omega)).1]; exact h11
    have e8 : M'.1 8 = M.1 8 := gFr_c1 hF (fun k z => by omega)
    have hRS : RS M' S := RS_of h (gFr_c1 hF (fun k z => by omega))
    rcases Nat.lt_or_ge k (pIt S a b mode).length with q | q
    · obtain ⟨x, hx⟩ : ∃ x, (pIt S a b mode)[k]? = some x := ⟨_, List.getElem?_eq_getElem q⟩
      have hpx := hP.2 k _ (by rw [List.getElem?_map, hx]; rfl)
      have htk : ((pIt S a b mode).take (k + 1)).map (fun x => hdW S a b (Option.map (fun k => sPl S b + k) x)) = ((pIt S a b mode).take k).map (fun x => hdW S a b (Option.map (fun k => sPl S b + k) x)) ++ [hdW S a b (Option.map (fun k => sPl S b + k) x)] := by
        rw [List.take_succ, hx, List.map_append]; rfl
      have hlen : (l ++ ((pIt S a b mode).take k).map (fun x => hdW S a b (Option.map (fun k => sPl S b + k) x))).length = l.length + k := by
        rw [List.length_append, List.length_map, List.length_take]; omega
      have hput := OW_put hI (hdW S a b (Option.map (fun k => sPl S b + k) x))
      rw [hlen, List.append_assoc, ← htk] at hput
      refine Or.inl ⟨(nI (l.length + (k + 1)), nI (k + 1), gI M' 9 (l.length + k) (hdW S a b (Option.map (fun k => sPl S b + k) x))), ?_, q, _, rfl, gFr_trI hF rfl, hput⟩
      have hmem : x ∈ pIt S a b mode := List.mem_of_getElem? hx
      cases x with
      | none =>
        have hpx' : M'.1 8 k = mO 2 := by rw [e8]; exact hpx
        have hw' := hhw hmem
        have e2 : (mO 2 : Int32) = -2 := rfl
        simp (disch := omega) only [p_bnd, p_nm, p_gSEl, p_gSEr, p_l0, p_l1, p_l2, p_l3, p_l4, p_l5, p_l6, p_l7, p_l8, p_l9, p_l10, p_l14, p_l16, p_l20, p_l22, p_l24, p_l30, p_l31, p_l32, p_l38, p_l40, p_l41, p_l43, p_l48, p_l57, p_l59, p_l60, p_l61, p_l62, p_l63, p_l97, p_l98, p_l101, p_l122, p_l158, p_l201, p_l255, p_l256, p_l374, p_l880, p_l900, p_l1000, p_l2618, p_neg, nI_add, p_mul, p_sub, p_addm, p_addm0, p_subm, p_le, p_lt, p_eq, p_mO_eq, p_eq_mO, p_mO_lt, p_nlt_mO, p_mO_le, p_le_mO, p_rI, p_rL, p_wI, p_wL, p_wF, p_has10, p_has11, p_ib0, p_ib1, p_shl1, p_zv0, p_zv1, p_zvib, p_ibd, p_ibn, if_pos, if_neg, if_true, if_false, ne_eq, not_true, not_false_iff, Decidable.not_not, Nat.not_lt, Nat.not_le, Bool.true_eq_false, Bool.false_eq_true, eq_self, reduceIte, Nat.reduceAdd, Nat.reduceMul, Nat.reduceSub, Nat.reduceEqDiff, Nat.reduceLT, Nat.reduceLeDiff, reduceCtorEq, fX11_repairs_l115, fX11_repairs_b169, e16, e11, hpx', p_mO_inj, hw', Nat.add_assoc]
        rfl
      | some j =>
        have hj := (mem_itL_some.mp hmem).1
        unfold pLn at hj
        have hpx' : M'.1 8 k = nI (sPl S b + j) := by rw [e8]; exact hpx
        have hor := rs_or hRS (p := sPl S b + j) (by omega)
        simp (disch := omega) only [p_bnd, p_nm, p_gSEl, p_gSEr, p_l0, p_l1, p_l2, p_l3, p_l4, p_l5, p_l6, p_l7, p_l8, p_l9, p_l10, p_l14, p_l16, p_l20, p_l22, p_l24, p_l30, p_l31, p_l32, p_l38, p_l40, p_l41, p_l43, p_l48, p_l57, p_l59, p_l60, p_l61, p_l62, p_l63, p_l97, p_l98, p_l101, p_l122, p_l158, p_l201, p_l255, p_l256, p_l374, p_l880, p_l900, p_l1000, p_l2618, p_neg, nI_add, p_mul, p_sub, p_addm, p_addm0, p_subm, p_le, p_lt, p_eq, p_mO_eq, p_eq_mO, p_mO_lt, p_nlt_mO, p_mO_le, p_le_mO, p_rI, p_rL, p_wI, p_wL, p_wF, p_has10, p_has11, p_ib0, p_ib1, p_shl1, p_zv0, p_zv1, p_zvib, p_ibd, p_ibn, if_pos, if_neg, if_true, if_false, ne_eq, not_true, not_false_iff, Decidable.not_not, Nat.not_lt, Nat.not_le, Bool.true_eq_false, Bool.false_eq_true, eq_self, reduceIte, Nat.reduceAdd, Nat.reduceMul, Nat.reduceSub, Nat.reduceEqDiff, Nat.reduceLT, Nat.reduceLeDiff, reduceCtorEq, fX11_repairs_l115, fX11_repairs_b169, e16, e11, hpx', hor, Nat.add_assoc]
        rfl
    · have e9 : k = (pIt S a b mode).length := by omega
      refine Or.inr ⟨(nI (l.length + k), M'), by simp (disch := omega) only [p_bnd, p_nm, p_gSEl, p_gSEr, p_l0, p_l1, p_l2, p_l3, p_l4, p_l5, p_l6, p_l7, p_l8, p_l9, p_l10, p_l14, p_l16, p_l20, p_l22, p_l24, p_l30, p_l31, p_l32, p_l38, p_l40, p_l41, p_l43, p_l48, p_l57, p_l59, p_l60, p_l61, p_l62, p_l63, p_l97, p_l98, p_l101, p_l122, p_l158, p_l201, p_l255, p_l256, p_l374, p_l880, p_l900, p_l1000, p_l2618, p_neg, nI_add, p_mul, p_sub, p_addm, p_addm0, p_subm, p_le, p_lt, p_eq, p_mO_eq, p_eq_mO, p_mO_lt, p_nlt_mO, p_mO_le, p_le_mO, p_rI, p_rL, p_wI, p_wL, p_wF, p_has10, p_has11, p_ib0, p_ib1, p_shl1, p_zv0, p_zv1, p_zvib, p_ibd, p_ibn, if_pos, if_neg, if_true, if_false, ne_eq, not_true, not_false_iff, Decidable.not_not, Nat.not_lt, Nat.not_le, Bool.true_eq_false, Bool.false_eq_true, eq_self, reduceIte, Nat.reduceAdd, Nat.reduceMul, Nat.reduceSub, Nat.reduceEqDiff, Nat.reduceLT, Nat.reduceLeDiff, reduceCtorEq, fX11_repairs_l115, e16], M', by rw [e9], hF, ?_⟩
      rw [e9, List.take_length] at hI; exact hI
  exact ⟨M', by rw [e, er], F, O⟩
end RR1
