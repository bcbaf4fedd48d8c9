/-! AN ARROW COMES: the reference's comes, whole -/
section RC2
variable {M : gMem} {S : gS} {a b mode : Nat}
def Drp (c k : Nat) : Prop := c = 1 ∨ c = 8 ∨ c = 9 ∨ c = 10 ∨ (c = 0 ∧ k = 16)
theorem rp_repairs (h : RS M S) (ha : a < sN S) (hb : b < sN S) (hlt : sPl S b < sPl S a) (hp : RQ M (sPl S b) (sPl S a) (wBh S a b) (wAh S a b)) (hm : sMo S = mode) :
    ∃ M', fX11_repairs M = some (nI (pMv S a b mode), M') ∧ gFr Drp M M' ∧ RR (M'.1 1) (sMid S a b mode) := by
  have hn := h.2.1.1
  have hg := h.2.1.2.2.1
  have pa := h.2.p ha
  have hll := pL_len h.2 ha hb hlt (mode := mode)
  -- the head of the joined
  obtain ⟨hw, hhw, eh⟩ : ∃ hw : Int32, (none ∈ pIt S a b mode → hw = nI (jHd S a b)) ∧ fX11_repairs M = fX11_repairs_b23 (wBh S a b &&& wAh S a b) hw M := by
    by_cases c : wBh S a b &&& wAh S a b = nI 0
    · refine ⟨mO 1, fun z => ?_, ?_⟩
      · have := mem_itL_none.mp z
        exact absurd this ((rab_J (RAB_p S a b) (by omega)) ▸ c)
      · unfold fX11_repairs
        rw [hp.2.2.1, hp.2.2.2, p_nm, p_bnd]
        exact if_pos c
    · refine ⟨nI (jHd S a b), fun _ => rfl, ?_⟩
      unfold fX11_repairs
      rw [hp.2.2.1, hp.2.2.2, p_nm, p_bnd]
      refine (if_neg c).trans ?_
      rw [rp_leastHead h ha hb hlt hp c, p_bnd]
  obtain ⟨M1, e1, F1, P1⟩ := rp_ordersPart h ha hb hlt hp hm
  have h1 : RS M1 S := RS_of h (gFr_c1 F1 (fun k z => by unfold Dpw at z; omega))
  obtain ⟨M2, e2, F2, T2⟩ := rp_placeThen h1 (wBh S a b &&& wAh S a b) hw (0 : Int32)
  have h2 : RS M2 S := RS_of h1 (gFr_c1 F2 (fun k z => by omega))
  have hp2 : RQ M2 (sPl S b) (sPl S a) (wBh S a b) (wAh S a b) := by
    have hp1 := RQ_fr hp F1
    unfold RQ
    rw [(F2 0 10 (by omega)).1, (F2 0 11 (by omega)).1, (F2 0 12 (by omega)).1, (F2 0 13 (by omega)).1]; exact hp1
  have P2 : PW M2 ((pIt S a b mode).map (rfI (sPl S b))) := by
    unfold PW
    rw [(F2 0 16 (by omega)).1, gFr_c1 F2 (c := 8) (fun k z => by omega)]; exact P1
  obtain ⟨M3, e3, F3, O3⟩ := rp_order (w1 := wBh S a b &&& wAh S a b) h2 ha hb hlt hp2 hhw P2
  have h3 : RS M3 S := RS_of h2 (gFr_c1 F3 (fun k z => by omega))
  have T3 : ∀ t, t < sN S → M3.1 10 t = nI (sPl S t) := fun t ht => by rw [(F3 10 t (by omega)).1]; exact T2 t ht
  obtain ⟨M4, e4, F4, H4⟩ := rp_heads (S := S) (a := a) (b := b) (hw := hw) (x3 := nI (pL S a b mode).length) h3.1.1.1 hn (fun t ht => ⟨T3 t ht, by have := h.2.p ht; omega⟩)
  have O4 : OW M4 ((pL S a b mode).map (hdW S a b)) := by
    unfold OW
    rw [gFr_c1 F4 (c := 9) (fun k z => by omega)]; exact O3
  obtain ⟨M5, e5, F5, R5⟩ := rp_orders O4 (by rw [List.length_map]; omega)
  rw [List.length_map] at F5 e5
  generalize hM6 : gI M5 1 2 (nI (pL S a b mode).length) = M6
  have hW : ∀ k, k ≠ 2 → M6.1 1 k = M5.1 1 k := fun k hk => by rw [← hM6, p_gI_n (Or.inr hk)]
  have w35 : ∀ k, ¬ (14 ≤ k ∧ k < 14 + (pL S a b mode).length) → (∀ t, t < sN S → k ≠ 158 + 9 * t + 1) → M5.1 1 k = M.1 1 k := fun k k1 k2 => by
    rw [(F5 1 k (fun z => k1 z.2)).1, (F4 1 k (fun z => by obtain ⟨-, t, ht, e⟩ := z; exact k2 t ht e)).1, (F3 1 k (by omega)).1, (F2 1 k (by omega)).1, (F1 1 k (by unfold Dpw; omega)).1]
  obtain ⟨⟨r0, r1, r2, r3, r4⟩, ra, ro, rf, rt⟩ := id h.1
  have hm60 := h.2.1.2.1
  have RR6 : RR (M6.1 1) (sMid S a b mode) := by
    refine ⟨⟨?_, ?_, ?_, ?_, ?_⟩, fun k hk => ?_, fun p hp => ?_, fun i hi => ?_, fun t ht => ⟨?_, ?_, ?_, fun k hk => ?_⟩⟩
    · rw [hW 0 (by decide), w35 0 (by omega) (fun t _ => by omega)]; exact r0
    · rw [hW 1 (by decide), w35 1 (by omega) (fun t _ => by omega)]; exact r1
    · rw [← hM6, p_gI_s]; rfl
    · rw [hW 3 (by decide), w35 3 (by omega) (fun t _ => by omega)]; exact r3
    · rw [hW 4 (by decide), w35 4 (by omega) (fun t _ => by omega)]; exact r4
    · rw [hW _ (by omega), w35 _ (by omega) (fun t _ => by omega)]; exact ra k hk
    · have hp : p < (pL S a b mode).length := hp
      rw [hW _ (by omega)]
      have hx : (pL S a b mode)[p]? = some _ := List.getElem?_eq_getElem hp
      rw [R5 p _ (by rw [List.getElem?_map, hx]; rfl), hd_item h.2 ha hb hlt hx]; rfl
    · have hi : i < sM S := hi
      rw [hW _ (by omega), hW _ (by omega), w35 _ (by omega) (fun t _ => by omega), w35 _ (by omega) (fun t _ => by omega)]; exact rf i hi
    · have ht : t < sN S := ht
      rw [hW _ (by omega), w35 _ (by omega) (fun t _ => by omega)]; exact (rt t ht).1
    · have ht : t < sN S := ht
      rw [hW _ (by omega), (F5 1 _ (by omega)).1, H4 t ht]
      have hx := idx_at (pKey_mem (mode := mode) h.2 ha hb hlt ht)
      show _ = nI (sHd (sMid S a b mode) ((pL S a b mode).idxOf (pKey S a b t)))
      rw [hd_item h.2 ha hb hlt hx]
      cases hk : pKey S a b t with
      | none =>
        rw [if_pos rfl]
        refine hhw ?_
        have := pKey_mem (mode := mode) h.2 ha hb hlt ht
        rw [hk] at this
        rcases mem_pL.mp this with ⟨p, e, -⟩ | (⟨k, e, -⟩ | ⟨-, z⟩) | ⟨p, e, -⟩
        · cases e
        · cases e
        · exact mem_itL_none.mpr z
        · cases e
      | some q =>
        rw [if_neg (fun z => nomatch z), (F3 1 _ (by omega)).1, (F2 1 _ (by omega)).1, (F1 1 _ (by unfold Dpw; omega)).1, (rt t ht).2.1, (pKey_some.mp hk).1]; rfl
    · have ht : t < sN S := ht
      rw [hW _ (by omega), w35 _ (by omega) (fun t _ => by omega)]; exact (rt t ht).2.2.1
    · have ht : t < sN S := ht
      rw [hW _ (by omega), w35 _ (by omega) (fun t _ => by omega)]; exact (rt t ht).2.2.2 k hk
  have c0 : ∀ k, M6.1 0 k = M1.1 0 k := fun k => by
    rw [← hM6, p_gI_n (Or.inl (by decide)), (F5 0 k (by omega)).1, (F4 0 k (by omega)).1, (F3 0 k (by omega)).1, (F2 0 k (by omega)).1]
  have e6 := rp_moved (M := M6) h.2 ha hb hlt RR6 (by rw [c0]; exact (RQ_fr hp F1).1) (by rw [c0, P1.1, List.length_map]) (fun t ht => by
    rw [← hM6, p_gI_n (Or.inl (by decide)), (F5 10 t (by omega)).1, (F4 10 t (by omega)).1]; exact T3 t ht)
  refine ⟨M6, ?_, ?_, RR6⟩
  · rw [eh]
    unfold fX11_repairs_b23
    rw [e1, p_bnd, e2, p_bnd, e3, p_bnd, e4, p_bnd, e5, p_bnd, show (2 : Int32) = nI 2 from rfl, p_wI (by omega) (by omega), p_bnd, hM6, e6, p_bnd]
  · refine gFr_tr (gFr_mo F1 (fun c k z => ?_)) (gFr_tr (gFr_mo F2 (fun c k z => ?_)) (gFr_tr (gFr_mo F3 (fun c k z => ?_)) (gFr_tr (gFr_mo F4 (fun c k z => ?_)) (gFr_tr (gFr_mo F5 (fun c k z => ?_)) ?_))))
    · unfold Dpw at z; unfold Drp; omega
    · unfold Drp; omega
    · unfold Drp; omega
    · unfold Drp; omega
    · unfold Drp; omega
    · rw [← hM6]; exact gFr_I (Or.inl rfl)
theorem RR_eq {w : Nat → Int32} {S' : gS} (h : RR w S) (e1 : ∀ k, k < 5 → S'.1 k = S.1 k) (e2 : sFr S' = sFr S) (e3 : sTo S' = sTo S) (e4 : sPl S' = sPl S) (e5 : sHr S' = sHr S) (e6 : ∀ k, k < 9 → sAc S' k = sAc S k) (e7 : sNm S' = sNm S) : RR w S' := by
  have n1 : sN S' = sN S := e1 0 (by omega)
  have n2 : sM S' = sM S := e1 1 (by omega)
  have n3 : sG S' = sG S := e1 2 (by omega)
  have n4 : sMo S' = sMo S := e1 3 (by omega)
  have n5 : sJo S' = sJo S := e1 4 (by omega)
  have hh : ∀ p, sHd S' p = sHd S p := fun p => by unfold sHd; rw [e4, n1]
  unfold RR
  rw [n1, n2, n3, n4, n5, e2, e3, e4, e5, e7]
  refine ⟨h.1, fun k hk => by rw [e6 k hk]; exact h.2.1 k hk, fun p hp => by rw [hh]; exact h.2.2.1 p hp, h.2.2.2.1, fun t ht => ?_⟩
  rw [hh]; exact h.2.2.2.2 t ht
/-- other accounts -/
def sWa (S : gS) (ac : Nat → Nat) : gS := (S.1, sFr S, sTo S, sPl S, sHr S, ac, sNm S)
theorem sWa_W (h : sW S) (ac : Nat → Nat) : sW (sWa S ac) := h
theorem RR_cnt (h : RR (M.1 1) S) (hn : sN S ≤ 24) (hm : sM S ≤ 60) (hg : sG S ≤ 24) {k : Nat} (hk : k < 9) (x : Nat) : fX11_counts (nI k) (nI x) M = some (gI M 1 (5 + k) (nI (sAc S k + x))) ∧ RR ((gI M 1 (5 + k) (nI (sAc S k + x))).1 1) (sWa S (upN (sAc S) k (sAc S k + x))) := by
  obtain ⟨⟨r0, r1, r2, r3, r4⟩, ra, ro, rf, rt⟩ := id h
  refine ⟨?_, ⟨?_, ?_, ?_, ?_, ?_⟩, fun j hj => ?_, fun p hp => ?_, fun i hi => ?_, fun t ht => ⟨?_, ?_, ?_, fun j hj => ?_⟩⟩
  · have := ra k hk
    simp (disch := omega) only [p_bnd, p_nm, p_gSEl, p_gSEr, p_l0, p_l1, p_l2, p_l3, p_l4, p_l5, p_l6, p_l7, p_l8, p_l9, p_l10, p_l14, p_l16, p_l20, p_l22, p_l24, p_l30, p_l31, p_l32, p_l38, p_l40, p_l41, p_l43, p_l48, p_l57, p_l59, p_l60, p_l61, p_l62, p_l63, p_l97, p_l98, p_l101, p_l122, p_l158, p_l201, p_l255, p_l256, p_l374, p_l880, p_l900, p_l1000, p_l2618, p_neg, nI_add, p_mul, p_sub, p_addm, p_addm0, p_subm, p_le, p_lt, p_eq, p_mO_eq, p_eq_mO, p_mO_lt, p_nlt_mO, p_mO_le, p_le_mO, p_rI, p_rL, p_wI, p_wL, p_wF, p_has10, p_has11, p_ib0, p_ib1, p_shl1, p_zv0, p_zv1, p_zvib, p_ibd, p_ibn, if_pos, if_neg, if_true, if_false, ne_eq, not_true, not_false_iff, Decidable.not_not, Nat.not_lt, Nat.not_le, Bool.true_eq_false, Bool.false_eq_true, eq_self, reduceIte, Nat.reduceAdd, Nat.reduceMul, Nat.reduceSub, Nat.reduceEqDiff, Nat.reduceLT, Nat.reduceLeDiff, reduceCtorEq, fX11_counts, this]
  · rw [p_gI_n (Or.inr (by omega))]; exact r0
  · rw [p_gI_n (Or.inr (by omega))]; exact r1
  · rw [p_gI_n (Or.inr (by omega))]; exact r2
  · rw [p_gI_n (Or.inr (by omega))]; exact r3
  · rw [p_gI_n (Or.inr (by omega))]; exact r4
  · rw [p_gI]
    show _ = nI (upN (sAc S) k (sAc S k + x) j)
    unfold upN
    by_cases e : j = k
    · rw [if_pos ⟨rfl, by omega⟩, if_pos e]
    · rw [if_neg (fun z => e (by omega)), if_neg e]; exact ra j hj
  · have hp : p < sG S := hp
    rw [p_gI_n (Or.inr (by omega))]; exact ro p hp
  · have hi : i < sM S := hi
    rw [p_gI_n (Or.inr (by omega)), p_gI_n (Or.inr (by omega))]; exact rf i hi
  · rw [p_gI_n (Or.inr (by omega))]; exact (rt t ht).1
  · rw [p_gI_n (Or.inr (by omega))]; exact (rt t ht).2.1
  · rw [p_gI_n (Or.inr (by omega))]; exact (rt t ht).2.2.1
  · rw [p_gI_n (Or.inr (by omega))]; exact (rt t ht).2.2.2 j hj
/-- the arrow itself -/
def sArr (S : gS) (a b : Nat) : gS := (upN S.1 1 (sM S + 1), upN (sFr S) (sM S) a, upN (sTo S) (sM S) b, sPl S, sHr S, upN (sAc S) 0 (sAc S 0 + 1), sNm S)
theorem rp_94 (h : RR (M.1 1) S) (hn : sN S ≤ 24) (hm : sM S < 60) (hg : sG S ≤ 24) (x : Int32) : ∃ M', fX11_comes_b94 (nI a) (nI b) x M = some (x, M') ∧ gFr (fun c _ => c = 1) M M' ∧ RR (M'.1 1) (sArr S a b) := by
  obtain ⟨e1, h1⟩ := RR_cnt h hn (by omega) hg (k := 0) (by omega) 1
  generalize hM1 : gI M 1 (5 + 0) (nI (sAc S 0 + 1)) = M1 at e1 h1
  obtain ⟨⟨r0, r1, r2, r3, r4⟩, ra, ro, rf, rt⟩ := id h1
  have r1 : M1.1 1 1 = nI (sM S) := r1
  refine ⟨gI (gI (gI M1 1 (38 + sM S) (nI a)) 1 (98 + sM S) (nI b)) 1 1 (nI (sM S + 1)), ?_, ?_, ?_⟩
  · have g1 : (gI M1 1 (38 + sM S) (nI a)).1 1 1 = nI (sM S) := by rw [p_gI_n (Or.inr (by omega))]; exact r1
    have g2 : (gI (gI M1 1 (38 + sM S) (nI a)) 1 (98 + sM S) (nI b)).1 1 1 = nI (sM S) := by rw [p_gI_n (Or.inr (by omega)), p_gI_n (Or.inr (by omega))]; exact r1
    simp (disch := omega) only [p_bnd, p_nm, p_gSEl, p_gSEr, p_l0, p_l1, p_l2, p_l3, p_l4, p_l5, p_l6, p_l7, p_l8, p_l9, p_l10, p_l14, p_l16, p_l20, p_l22, p_l24, p_l30, p_l31, p_l32, p_l38, p_l40, p_l41, p_l43, p_l48, p_l57, p_l59, p_l60, p_l61, p_l62, p_l63, p_l97, p_l98, p_l101, p_l122, p_l158, p_l201, p_l255, p_l256, p_l374, p_l880, p_l900, p_l1000, p_l2618, p_neg, nI_add, p_mul, p_sub, p_addm, p_addm0, p_subm, p_le, p_lt, p_eq, p_mO_eq, p_eq_mO, p_mO_lt, p_nlt_mO, p_mO_le, p_le_mO, p_rI, p_rL, p_wI, p_wL, p_wF, p_has10, p_has11, p_ib0, p_ib1, p_shl1, p_zv0, p_zv1, p_zvib, p_ibd, p_ibn, if_pos, if_neg, if_true, if_false, ne_eq, not_true, not_false_iff, Decidable.not_not, Nat.not_lt, Nat.not_le, Bool.true_eq_false, Bool.false_eq_true, eq_self, reduceIte, Nat.reduceAdd, Nat.reduceMul, Nat.reduceSub, Nat.reduceEqDiff, Nat.reduceLT, Nat.reduceLeDiff, reduceCtorEq, fX11_comes_b94, e1, r1, g1, g2]
  · rw [← hM1]; exact gFr_trI (gFr_trI (gFr_trI (gFr_I rfl) rfl) rfl) rfl
  · have hw : ∀ k, k ≠ 1 → k ≠ 38 + sM S → k ≠ 98 + sM S → (gI (gI (gI M1 1 (38 + sM S) (nI a)) 1 (98 + sM S) (nI b)) 1 1 (nI (sM S + 1))).1 1 k = M1.1 1 k := fun k k1 k2 k3 => by
      rw [p_gI_n (Or.inr k1), p_gI_n (Or.inr k3), p_gI_n (Or.inr k2)]
    refine ⟨⟨?_, ?_, ?_, ?_, ?_⟩, fun j hj => ?_, fun p hp => ?_, fun i hi => ?_, fun t ht => ⟨?_, ?_, ?_, fun j hj => ?_⟩⟩
    · rw [hw 0 (by decide) (by omega) (by omega)]; exact r0
    · rw [p_gI_s]; rfl
    · rw [hw 2 (by decide) (by omega) (by omega)]; exact r2
    · rw [hw 3 (by decide) (by omega) (by omega)]; exact r3
    · rw [hw 4 (by decide) (by omega) (by omega)]; exact r4
    · rw [hw _ (by omega) (by omega) (by omega)]; exact ra j hj
    · have hp : p < sG S := hp
      rw [hw _ (by omega) (by omega) (by omega)]; exact ro p hp
    · have hi : i < sM S + 1 := hi
      show _ = nI (upN (sFr S) (sM S) a i) ∧ _ = nI (upN (sTo S) (sM S) b i)
      unfold upN
      by_cases e : i = sM S
      · rw [if_pos e, if_pos e, e, p_gI_n (Or.inr (by omega)), p_gI_n (Or.inr (by omega)), p_gI_s, p_gI_n (Or.inr (by omega)), p_gI_s]
        exact ⟨rfl, rfl⟩
      · rw [if_neg e, if_neg e, hw _ (by omega) (by omega) (by omega), hw _ (by omega) (by omega) (by omega)]
        exact rf i (show i < sM S by omega)
    · have ht : t < sN S := ht
      rw [hw _ (by omega) (by omega) (by omega)]; exact (rt t ht).1
    · have ht : t < sN S := ht
      rw [hw _ (by omega) (by omega) (by omega)]; exact (rt t ht).2.1
    · have ht : t < sN S := ht
      rw [hw _ (by omega) (by omega) (by omega)]; exact (rt t ht).2.2.1
    · have ht : t < sN S := ht
      rw [hw _ (by omega) (by omega) (by omega)]; exact (rt t ht).2.2.2 j hj
/-- what comes() writes -/
def Dco (c k : Nat) : Prop := c = 1 ∨ c = 6 ∨ c = 8 ∨ c = 9 ∨ c = 10 ∨ (c = 0 ∧ ((10 ≤ k ∧ k ≤ 14) ∨ k = 16))
theorem rs_comes (h : RS M S) (ha : a < sN S) (hb : b < sN S) :
    (sRz S a b ≠ 0 → ∃ M', fX11_comes (nI a) (nI b) M = some (mO (sRz S a b), M') ∧ gFr Dpt M M') ∧
    (sRz S a b = 0 → ∃ M', fX11_comes (nI a) (nI b) M = some (nI (if sPl S b < sPl S a then pMv S a b (sMo S) else 0), M') ∧ gFr Dco M M' ∧ RS M' (sAdd S a b (sMo S))) := by
  obtain ⟨M1, e1, F1⟩ := rs_reason h ha hb
  have hle := sRz_le (S := S) (a := a) (b := b)
  have h1 : RS M1 S := RS_of h (gFr_c1 F1 (fun k z => by unfold Dpt at z; omega))
  constructor
  · intro hz
    refine ⟨M1, ?_, F1⟩
    unfold fX11_comes
    rw [e1, p_bnd, if_neg (by rw [show (0 : Int32) = nI 0 from rfl, p_eq (by omega) (by omega)]; exact hz)]; rfl
  · intro hz
    obtain ⟨z1, z2, z3, z4⟩ := sRz_0 hz
    have hm := h.2.1.2.1
    have hn := h.2.1.1
    have hg := h.2.1.2.2.1
    have hm : sM S < 60 := by omega
    have hW := sAdd_W (mode := sMo S) h.2 ha hb z1 z2 hm
    have hnd := rs_needs h1 ha hb
    have mo : ∀ c k, Dpt c k → Dco c k := fun c k z => by unfold Dpt at z; unfold Dco; omega
    by_cases hlt : sPl S b < sPl S a
    · rw [if_pos hlt]
      rw [decide_eq_true hlt] at hnd
      obtain ⟨M2, e2, F2, q1, q2, q3, q4, q5⟩ := rs_laysPart h1 ha hb
      have h2 : RS M2 S := RS_of h1 (gFr_c1 F2 (fun k z => by omega))
      have hlk : sLk S a b ≤ 120 := by
        have := lk_le (S := S) (w := wBh S a b) (w' := wAh S a b) (sM S)
        unfold sLk; omega
      have hJ := cJ h.2 ha hb
      obtain ⟨c2, r2⟩ := RR_cnt h2.1 hn (by omega) (by omega) (k := 2) (by omega) 1
      obtain ⟨c3, r3⟩ := RR_cnt r2 hn (Nat.le_of_lt hm) (Nat.le_trans hg hn) (k := 3) (by omega) (pLn S a b)
      obtain ⟨c4, r4⟩ := RR_cnt r3 hn (Nat.le_of_lt hm) (Nat.le_trans hg hn) (k := 4) (by omega) (sLk S a b)
      obtain ⟨c6, r6⟩ := RR_cnt r4 hn (Nat.le_of_lt hm) (Nat.le_trans hg hn) (k := 6) (by omega) (fb_ct (iJ (pA S a b) (pB S a b)) (pLn S a b))
      generalize hm2 : gI M2 1 (5 + 2) (nI (sAc S 2 + 1)) = N2 at c2 c3 r3 r2 c4 r4 c6 r6
      have o2 : ∀ k, N2.1 0 k = M2.1 0 k := fun k => by rw [← hm2, p_gI_n (Or.inl (by decide))]
      have f2 : gFr (fun c _ => c = 1) M2 N2 := by rw [← hm2]; exact gFr_I rfl
      generalize hm3 : gI N2 1 (5 + 3) _ = N3 at c3 r3 c4 r4 c6 r6
      have o3 : ∀ k, N3.1 0 k = M2.1 0 k := fun k => by rw [← hm3, p_gI_n (Or.inl (by decide)), o2]
      have f3 : gFr (fun c _ => c = 1) M2 N3 := by rw [← hm3]; exact gFr_trI f2 rfl
      generalize hm4 : gI N3 1 (5 + 4) _ = N4 at c4 r4 c6 r6
      have o4 : ∀ k, N4.1 0 k = M2.1 0 k := fun k => by rw [← hm4, p_gI_n (Or.inl (by decide)), o3]
      have f4 : gFr (fun c _ => c = 1) M2 N4 := by rw [← hm4]; exact gFr_trI f3 rfl
      generalize hm6 : gI N4 1 (5 + 6) _ = N6 at c6 r6
      have o6 : ∀ k, N6.1 0 k = M2.1 0 k := fun k => by rw [← hm6, p_gI_n (Or.inl (by decide)), o4]
      have f6 : gFr (fun c _ => c = 1) M2 N6 := by rw [← hm6]; exact gFr_trI f4 rfl
      obtain ⟨M7, e7, F7, r7⟩ := rp_repairs (M := N6) ⟨r6, sWa_W (sWa_W (sWa_W (sWa_W h.2 _) _) _) _⟩ ha hb hlt ⟨by rw [o6]; exact q1, by rw [o6]; exact q2, by rw [o6]; exact q3, by rw [o6]; exact q4⟩ rfl
      have hll := pL_len h.2 ha hb hlt (mode := sMo S)
      obtain ⟨c5, r5⟩ := RR_cnt r7 hn (Nat.le_of_lt hm) (show (pL S a b (sMo S)).length ≤ 24 by omega) (k := 5) (by omega) (pMv S a b (sMo S))
      generalize hm5 : gI M7 1 (5 + 5) _ = N5 at c5 r5
      have f5 : gFr (fun c _ => c = 1) M7 N5 := by rw [← hm5]; exact gFr_I rfl
      obtain ⟨M8, e8, F8, r8⟩ := rp_94 (a := a) (b := b) r5 hn hm (show (pL S a b (sMo S)).length ≤ 24 by omega) (nI (pMv S a b (sMo S)))
      refine ⟨M8, ?_, ?_, ?_, hW⟩
      · have aff : nI (sPl S a) - nI (sPl S b) + (1 : Int32) = nI (pLn S a b) := aff_1 (Nat.le_of_lt hlt)
        unfold fX11_comes
        rw [e1, p_bnd, hz, if_pos (show (nI 0, M1).fst = 0 from rfl), hnd, p_bnd, if_neg (show ¬ ib true = 0 by rw [show (0 : Int32) = nI 0 from rfl, p_ib0]; decide), e2, p_bnd]
        rw [show (2 : Int32) = nI 2 from rfl, show (1 : Int32) = nI 1 from rfl, c2, p_bnd, show (3 : Int32) = nI 3 from rfl, o2, o2, q1, q2, aff_1 (Nat.le_of_lt hlt), show sPl S a + 1 - sPl S b = pLn S a b from rfl, c3, p_bnd, show (4 : Int32) = nI 4 from rfl, o3, q5, c4, p_bnd, o4, o4, q3, q4, p_many, p_bnd, hJ, show (6 : Int32) = nI 6 from rfl, c6, p_bnd, e7, p_bnd, show (5 : Int32) = nI 5 from rfl]
        refine (congrArg (fun o => Option.bind o _) c5).trans ?_
        exact e8
      · refine gFr_tr (gFr_mo F1 mo) (gFr_tr (gFr_mo F2 mo) (gFr_tr (gFr_mo f6 (fun c k z => Or.inl z)) (gFr_tr (gFr_mo F7 (fun c k z => ?_)) (gFr_tr (gFr_mo f5 (fun c k z => Or.inl z)) (gFr_mo F8 (fun c k z => Or.inl z))))))
        unfold Drp at z; unfold Dco; omega
      · refine RR_eq r8 (fun k hk => ?_) ?_ ?_ ?_ ?_ (fun k hk => ?_) ?_
        · unfold sAdd; rw [if_pos hlt]
          rcases (show k = 0 ∨ k = 1 ∨ k = 2 ∨ k = 3 ∨ k = 4 by omega) with rfl | rfl | rfl | rfl | rfl <;> rfl
        · rw [sAdd_fr]; rfl
        · rw [sAdd_to]; rfl
        · rw [sAdd_pl, if_pos hlt]; rfl
        · rw [sAdd_hr]; rfl
        · unfold sAdd; rw [if_pos hlt]
          rcases (show k = 0 ∨ k = 1 ∨ k = 2 ∨ k = 3 ∨ k = 4 ∨ k = 5 ∨ k = 6 ∨ k = 7 ∨ k = 8 by omega) with rfl | rfl | rfl | rfl | rfl | rfl | rfl | rfl | rfl <;> rfl
        · rw [sAdd_nm]; rfl
    · rw [if_neg hlt]
      rw [decide_eq_false hlt] at hnd
      obtain ⟨M8, e8, F8, r8⟩ := rp_94 (a := a) (b := b) h1.1 hn hm (by omega) (nI 0)
      refine ⟨M8, ?_, gFr_tr (gFr_mo F1 mo) (gFr_mo F8 (fun c k z => Or.inl z)), ?_, hW⟩
      · unfold fX11_comes
        rw [e1, p_bnd, hz, if_pos (show (nI 0, M1).fst = 0 from rfl), hnd, p_bnd, if_pos (show ib false = 0 from rfl)]
        exact e8
      · refine RR_eq r8 (fun k hk => ?_) ?_ ?_ ?_ ?_ (fun k hk => ?_) ?_
        · unfold sAdd; rw [if_neg hlt]; rfl
        · rw [sAdd_fr]; rfl
        · rw [sAdd_to]; rfl
        · rw [sAdd_pl, if_neg hlt]; rfl
        · rw [sAdd_hr]; rfl
        · unfold sAdd; rw [if_neg hlt]; rfl
        · rw [sAdd_nm]; rfl
end RC2
