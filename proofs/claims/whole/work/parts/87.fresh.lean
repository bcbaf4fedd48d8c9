/-! THE FRESH ORDER: heads, their row, the state behind refresh; both sides -/
theorem getD_mem {l : List Nat} {i : Nat} (hi : i < l.length) : l.getD i 0 ∈ l := List.mem_of_getElem? (getD_at hi)
theorem ibF : ib false = nI 0 := rfl
theorem ibT : ib true = nI 1 := rfl
section FR
variable {S : gS}
def fHd (S : gS) (t : Nat) : Nat := sHd S (sPl S t)
def fHs (S : gS) : List Nat := gHs (fHd S) (sN S) (fun _ => true)
def fO (S : gS) : List Nat := selS (ldH S (fHd S)) (fHs S).length (fHs S)
theorem fHs_mem {t : Nat} : t ∈ fHs S ↔ t < sN S ∧ fHd S t = t := by
  unfold fHs; rw [gHs_mem]; exact ⟨fun z => ⟨z.1, z.2.2⟩, fun z => ⟨z.1, rfl, z.2⟩⟩
theorem fHs_hd (h : sW S) {p : Nat} (hp : p < sG S) : sHd S p ∈ fHs S := by
  obtain ⟨a, b⟩ := sHd_ok h.2.2.1 hp
  rw [fHs_mem]
  exact ⟨a, by unfold fHd; rw [b]⟩
theorem fSrc (h : sW S) : gSrc (ldH S (fHd S)) (fHs S) := by
  intro l hne hsub
  obtain ⟨y, y1, y2⟩ := lm_min (sPl S) l hne
  refine ⟨y, y1, gFree_iff.mpr fun z z1 z2 => ?_⟩
  cases hb : ldH S (fHd S) z y
  · rfl
  · obtain ⟨i, i1, i2, i3⟩ := ldH_iff.mp hb
    obtain ⟨f1, f2, -⟩ := h.2.1.1 i i1
    have l1 := h.2.2.2.1.1 i i1
    have e1 : sPl S z = sPl S (sFr S i) := by rw [← i2]; exact (sHd_ok h.2.2.1 (h.p f1)).2
    have e2 : sPl S y = sPl S (sTo S i) := by rw [← i3]; exact (sHd_ok h.2.2.1 (h.p f2)).2
    have l2 := y2 z z1
    have e3 : sPl S z = sPl S y := by omega
    obtain ⟨-, u⟩ := fHs_mem.mp (hsub z z1)
    obtain ⟨-, v⟩ := fHs_mem.mp (hsub y y1)
    exact absurd (by rw [← u, ← v]; unfold fHd; rw [e3]) z2
theorem fHs_len (h : sW S) : (fHs S).length = sG S := by
  have e := gHs_len (n := sN S) (pl := sPl S) (g := sG S) (first := 0) (last := sG S) (fun u hu => h.p hu) h.2.2.1.2 (Nat.zero_le _) (Nat.le_refl _)
  rw [Nat.sub_zero] at e
  rw [← e]
  unfold fHs gHs
  congr 1
  refine List.filter_congr fun u hu => ?_
  have hu := List.mem_range.mp hu
  have : inP (sPl S) 0 (sG S) u = true := decide_eq_true ⟨Nat.zero_le _, h.p hu⟩
  rw [this]; rfl
theorem fGs (h : sW S) : gHs (hdP (sPl S) (sN S)) (sN S) (inP (sPl S) 0 (sG S)) = fHs S := by
  unfold fHs gHs
  refine List.filter_congr fun u hu => ?_
  have hu := List.mem_range.mp hu
  have : inP (sPl S) 0 (sG S) u = true := decide_eq_true ⟨Nat.zero_le _, h.p hu⟩
  rw [this]; rfl
theorem fO_ok (h : sW S) : (fO S).length = sG S ∧ (∀ x, x ∈ fO S ↔ x ∈ fHs S) ∧ (fO S).Pairwise (fun x y => x ≠ y) ∧ (fO S).Pairwise (fun x y => ldH S (fHd S) y x = false) := by
  obtain ⟨a, b, c, d⟩ := sel_ok (fSrc h) (fHs S).length (fHs S) rfl (by unfold fHs; exact gHs_sorted) (fun _ z => z)
  exact ⟨a.trans (fHs_len h), b, c, d⟩
theorem fO_at (h : sW S) {k : Nat} (hk : k < sG S) : (fO S)[k]? = some ((fO S).getD k 0) ∧ (fO S).getD k 0 < sN S ∧ sHd S (sPl S ((fO S).getD k 0)) = (fO S).getD k 0 := by
  have e := getD_at (l := fO S) (i := k) (by rw [(fO_ok h).1]; exact hk)
  obtain ⟨a, b⟩ := fHs_mem.mp (((fO_ok h).2.1 _).mp (List.mem_of_getElem? e))
  exact ⟨e, a, b⟩
theorem fO_hd (h : sW S) {t : Nat} (ht : t < sN S) : fHd S t ∈ fO S := ((fO_ok h).2.1 _).mpr (fHs_hd h (h.p ht))
/-- the state in the fresh order -/
def fP (S : gS) (t : Nat) : Nat := (fO S).idxOf (fHd S t)
def sRef (S : gS) : gS := (S.1, sFr S, sTo S, fP S, sHr S, sAc S, sNm S)
theorem fP_lt (h : sW S) {t : Nat} (ht : t < sN S) : fP S t < sG S := by
  rw [← (fO_ok h).1]; exact List.idxOf_lt_length_iff.mpr (fO_hd h ht)
theorem fP_iff (h : sW S) {t p : Nat} (ht : t < sN S) (hp : p < sG S) : fP S t = p ↔ sPl S t = sPl S ((fO S).getD p 0) := by
  obtain ⟨e, a, b⟩ := fO_at h hp
  constructor
  · intro z
    have m := ix_at (fO_hd h ht)
    unfold fP at z
    rw [z, e] at m
    have m := Option.some.inj m
    rw [m]; exact (sHd_ok h.2.2.1 (h.p ht)).2.symm
  · intro z
    unfold fP
    refine ix_nd (fO_ok h).2.2.1 ?_
    unfold fHd
    rw [e, z, b]
theorem sRef_W (h : sW S) : sW (sRef S) := by
  obtain ⟨s1, s2, s3, s4⟩ := fO_ok h
  refine ⟨h.1, h.2.1, ⟨fun t ht => fP_lt h ht, fun p hp => ?_⟩, ⟨fun i hi => ?_, fun t u ht hu e => ?_⟩, h.2.2.2.2⟩
  · obtain ⟨e, a, b⟩ := fO_at h hp
    exact ⟨_, a, (fP_iff h a hp).mpr rfl⟩
  · obtain ⟨f1, f2, -⟩ := h.2.1.1 i hi
    have hld : ldH S (fHd S) (fHd S (sFr S i)) (fHd S (sTo S i)) = true := ldH_iff.mpr ⟨i, hi, rfl, rfl⟩
    refine Classical.byContradiction fun q => ?_
    have q : ¬ fP S (sFr S i) ≤ fP S (sTo S i) := q
    have i1 := fP_lt h f1
    have i2 := fP_lt h f2
    unfold fP at q i1 i2
    have := List.pairwise_iff_getElem.mp s4 _ _ (by omega) (by omega) (Nat.lt_of_not_le q)
    rw [List.getElem_idxOf, List.getElem_idxOf, hld] at this
    cases this
  · have e : fP S t = fP S u := e
    exact h.2.2.2.1.2 t u ht hu (by
      rw [(fP_iff h ht (fP_lt h ht)).mp rfl, e]; exact ((fP_iff h hu (fP_lt h hu)).mp rfl).symm)
theorem sRef_hd (h : sW S) {p : Nat} (hp : p < sG S) : sHd (sRef S) p = (fO S).getD p 0 := by
  obtain ⟨e, a, b⟩ := fO_at h hp
  refine sHd_of (S := sRef S) a ((fP_iff h a hp).mpr rfl) fun u hu z => ?_
  have z := (fP_iff h (by omega) hp).mp z
  have := sHd_le (S := S) (p := sPl S ((fO S).getD p 0)) (show u < sN S by omega) z
  omega
/-- how many groups have another place then -/
def fMv (S : gS) : Nat := fb_ct (fun p => !decide ((fO S).getD p 0 = sHd S p)) (sG S)
theorem fMv_mb (h : sW S) {p : Nat} (hp : p < sG S) : (sMb S (sPl S ((fO S).getD p 0)) = sMb S p) = ((fO S).getD p 0 = sHd S p) := by
  obtain ⟨e, a, b⟩ := fO_at h hp
  have := h.1.1
  refine propext ⟨fun z => ?_, fun z => by rw [z, (sHd_ok h.2.2.1 hp).2]⟩
  have z2 := congrArg (fun x => bt x ((fO S).getD p 0)) z
  simp only [sMb_bt (show (fO S).getD p 0 < 32 by omega)] at z2
  rw [decide_eq_true ⟨a, trivial⟩] at z2
  have z3 := of_decide_eq_true z2.symm
  rw [← b, z3.2]
end FR
section FB
variable {M : gMem} {S : gS} {t : Nat}
theorem cs_headOf (h : sW S) {p : Nat} (hp : p < sG S) : fX10_headOf (sMb S p) = some (nI (sHd S p)) := by
  obtain ⟨a, b⟩ := sHd_ok h.2.2.1 hp
  have := h.1.1
  refine p_head (by omega) (by rw [sMb_bt (by omega), decide_eq_true_eq]; exact ⟨a, b⟩) (fun i hi => ?_)
  rw [sMb_bt (by omega), decide_eq_false_iff_not]
  intro z
  have := sHd_le z.1 z.2
  omega
theorem cs_sortAll (h : CS M t S) (ht : t ≤ 21) : ∃ M', fX8_sortAll t M = some M' ∧ gFr Dso M M' ∧ RW M' 45 ((fO S).map (fun x => sMb S (sPl S x))) ∧ ∀ k, k < sG S → M'.1 47 k = nI (sPl S ((fO S).getD k 0)) := by
  have hn := h.2.1.1
  have hg := h.2.1.2.2.1
  obtain ⟨M', e, F, R, C⟩ := cs_sortPart (first := 0) (last := sG S) (CS_CI h) hn h.2.1.2.1 h.2.2.1 (by omega) (fun u hu => h.2.p hu) h.2.2.2.1.2 ht (Nat.zero_le _) (Nat.le_refl _) (by rw [fGs h.2]; exact fSrc h.2)
  rw [fGs h.2, Nat.sub_zero, ← fHs_len h.2] at R C
  rw [Nat.sub_self] at R
  refine ⟨M', ?_, F, ?_, fun k hk => ?_⟩
  · unfold fX8_sortAll
    rw [cs_g h, show (0 : Int32) = nI 0 from rfl, e, p_bnd]
  · have R : RW M' 45 ([] ++ (fO S).map (fun x => sMb S (sPl S x)) ++ []) := R
    rw [List.nil_append, List.append_nil] at R
    exact R
  · have := C k _ (fO_at h.2 hk).1
    rw [Nat.zero_add] at this; exact this
theorem cs_renew (h : CS M t S) (ht : t ≤ 21) : ∃ M', fX8_renew t M = some (nI (fMv S), M') ∧ gFr (fun c _ => Dcf t c) M M' ∧ CS M' t (sRef S) := by
  have hn := h.2.1.1
  have hg := h.2.1.2.2.1
  obtain ⟨M1, e1, F1, R1, -⟩ := cs_sortAll h ht
  have h1 : CS M1 t S := CS_fr h F1 (fun j k hj z => by unfold Dso at z; omega)
  have l1 : ((fO S).map (fun x => sMb S (sPl S x))).length = sG S := by rw [List.length_map, (fO_ok h.2).1]
  have row : ∀ {p : Nat}, p < sG S → M1.1 46 p = sMb S (sPl S ((fO S).getD p 0)) := fun {p} hp => R1.2 p _ (by rw [List.getElem?_map, (fO_at h.2 hp).1]; rfl)
  have g1 := cs_g h1
  have e2 := gLoop_f (body := fun z9 => fX8_renew_l9 t M1 z9.1 z9.2) (fun k => (nI (fb_ct (fun p => !decide ((fO S).getD p 0 = sHd S p)) k), nI k)) (r := nI (fMv S)) (sG S) gFu (by show sG S < 4096; omega) (fun k hk => by
    have r1 := row hk
    have r2 := cs_mb h1 hk
    have r3 := fMv_mb h.2 hk
    have hpk := (sHd_ok h.2.2.2.1 hk).2
    by_cases c : (fO S).getD k 0 = sHd S k
    · simp (disch := omega) only [p_bnd, p_nm, p_gSEl, p_gSEr, p_l0, p_l1, p_l2, p_l3, p_l4, p_l5, p_l6, p_l7, p_l8, p_l9, p_l10, p_l14, p_l16, p_l20, p_l22, p_l24, p_l30, p_l31, p_l32, p_l38, p_l40, p_l41, p_l43, p_l48, p_l57, p_l59, p_l60, p_l61, p_l62, p_l63, p_l97, p_l98, p_l101, p_l122, p_l158, p_l201, p_l255, p_l256, p_l374, p_l880, p_l900, p_l1000, p_l2618, p_neg, nI_add, p_mul, p_sub, p_addm, p_addm0, p_subm, p_le, p_lt, p_eq, p_mO_eq, p_eq_mO, p_mO_lt, p_nlt_mO, p_mO_le, p_le_mO, p_rI, p_rL, p_wI, p_wL, p_wF, p_has10, p_has11, p_ib0, p_ib1, p_shl1, p_zv0, p_zv1, p_zvib, p_ibd, p_ibn, if_pos, if_neg, if_true, if_false, ne_eq, not_true, not_false_iff, Decidable.not_not, Nat.not_lt, Nat.not_le, Bool.true_eq_false, Bool.false_eq_true, eq_self, reduceIte, Nat.reduceAdd, Nat.reduceMul, Nat.reduceSub, Nat.reduceEqDiff, Nat.reduceLT, Nat.reduceLeDiff, reduceCtorEq, fX8_renew_l9, fX8_renew_b38, g1, r1, r2, r3, c, hpk, fb_ct_succ, decide_true, Bool.not_true, Nat.add_zero]
    · simp (disch := omega) only [p_bnd, p_nm, p_gSEl, p_gSEr, p_l0, p_l1, p_l2, p_l3, p_l4, p_l5, p_l6, p_l7, p_l8, p_l9, p_l10, p_l14, p_l16, p_l20, p_l22, p_l24, p_l30, p_l31, p_l32, p_l38, p_l40, p_l41, p_l43, p_l48, p_l57, p_l59, p_l60, p_l61, p_l62, p_l63, p_l97, p_l98, p_l101, p_l122, p_l158, p_l201, p_l255, p_l256, p_l374, p_l880, p_l900, p_l1000, p_l2618, p_neg, nI_add, p_mul, p_sub, p_addm, p_addm0, p_subm, p_le, p_lt, p_eq, p_mO_eq, p_eq_mO, p_mO_lt, p_nlt_mO, p_mO_le, p_le_mO, p_rI, p_rL, p_wI, p_wL, p_wF, p_has10, p_has11, p_ib0, p_ib1, p_shl1, p_zv0, p_zv1, p_zvib, p_ibd, p_ibn, if_pos, if_neg, if_true, if_false, ne_eq, not_true, not_false_iff, Decidable.not_not, Nat.not_lt, Nat.not_le, Bool.true_eq_false, Bool.false_eq_true, eq_self, reduceIte, Nat.reduceAdd, Nat.reduceMul, Nat.reduceSub, Nat.reduceEqDiff, Nat.reduceLT, Nat.reduceLeDiff, reduceCtorEq, fX8_renew_l9, fX8_renew_b38, g1, r1, r2, r3, c, fb_ct_succ, decide_false, Bool.not_false]) (by simp (disch := omega) only [p_bnd, p_nm, p_gSEl, p_gSEr, p_l0, p_l1, p_l2, p_l3, p_l4, p_l5, p_l6, p_l7, p_l8, p_l9, p_l10, p_l14, p_l16, p_l20, p_l22, p_l24, p_l30, p_l31, p_l32, p_l38, p_l40, p_l41, p_l43, p_l48, p_l57, p_l59, p_l60, p_l61, p_l62, p_l63, p_l97, p_l98, p_l101, p_l122, p_l158, p_l201, p_l255, p_l256, p_l374, p_l880, p_l900, p_l1000, p_l2618, p_neg, nI_add, p_mul, p_sub, p_addm, p_addm0, p_subm, p_le, p_lt, p_eq, p_mO_eq, p_eq_mO, p_mO_lt, p_nlt_mO, p_mO_le, p_le_mO, p_rI, p_rL, p_wI, p_wL, p_wF, p_has10, p_has11, p_ib0, p_ib1, p_shl1, p_zv0, p_zv1, p_zvib, p_ibd, p_ibn, if_pos, if_neg, if_true, if_false, ne_eq, not_true, not_false_iff, Decidable.not_not, Nat.not_lt, Nat.not_le, Bool.true_eq_false, Bool.false_eq_true, eq_self, reduceIte, Nat.reduceAdd, Nat.reduceMul, Nat.reduceSub, Nat.reduceEqDiff, Nat.reduceLT, Nat.reduceLeDiff, reduceCtorEq, fX8_renew_l9, g1, fMv])
  obtain ⟨M2, e3, F3, C3⟩ := CI_take (pl' := fP S) (CS_CI h1) hn R1 (by omega) (by omega) (fun p x hx v hv => by
    obtain ⟨y, hy, rfl⟩ := map_at hx
    have hp : p < sG S := by rw [← (fO_ok h.2).1]; exact (List.getElem?_eq_some_iff.mp hy).1
    rw [(fO_at h.2 hp).1] at hy
    have hy := Option.some.inj hy
    rw [sMb_bt hv, decide_eq_true_eq]
    refine and_congr_right fun c => ?_
    rw [fP_iff h.2 c hp, hy]) (fun v hv => by rw [l1]; exact fP_lt h.2 hv)
  rw [l1] at C3
  refine ⟨M2, ?_, gFr_tr (gFr_mo F1 (fun c k z => by unfold Dso at z; unfold Dcf; omega)) (gFr_mo F3 (fun c k z => by unfold Dcf; omega)), C3, sRef_W h.2⟩
  unfold fX8_renew
  rw [e1, p_bnd, show gLoop (fun z9 => fX8_renew_l9 t M1 z9.1 z9.2) gFu ((0 : Int32), (0 : Int32)) = some (nI (fMv S)) from e2, p_bnd, e3, p_bnd]
/-- the reference -/
theorem rs_laysFresh (h : RS M S) : ∃ M', fX11_laysFresh M = some M' ∧ gFr (fun c _ => c = 11) M M' ∧ HW M' 0 (fO S) := by
  have hn := h.2.1.1
  have h0 : M.1 1 0 = nI (sN S) := h.1.1.1
  obtain ⟨q, e, q1, F, L⟩ : ∃ q, gLoop (fun z9 => fX11_laysFresh_l4 z9.1 z9.2.1 z9.2.2) gFu ((0 : Int32), (0 : Int32), M) = some q ∧ q.1 = nI (fHs S).length ∧ gFr (fun c _ => c = 11) M q.2 ∧ HW q.2 0 (fHs S) := by
    refine gLoop_i (fun k s => ∃ M', s = (nI (gHs (fHd S) k (fun _ => true)).length, nI k, M') ∧ gFr (fun c _ => c = 11) M M' ∧ HW M' 0 (gHs (fHd S) k (fun _ => true))) _ (sN S) ⟨M, rfl, gFr_rf, fun j x z => by simp [gHs] at z⟩ (by show sN S < 4096; omega) ?_
    rintro k s hk ⟨M', rfl, hF, hH⟩
    have hc : M'.1 1 = M.1 1 := gFr_c1 hF (fun _ => by omega)
    have h' : RS M' S := RS_of h hc
    have h0' : M'.1 1 0 = nI (sN S) := by rw [hc]; exact h0
    have hlk : (gHs (fHd S) k (fun _ => true)).length ≤ k := by rw [gHs_ct]; exact fb_ct_le _ _
    rcases Nat.lt_or_ge k (sN S) with q | q
    · have hd := rs_hd h' q
      have hb := sHd_lt h.2 q
      by_cases c : fHd S k = k
      · have e9 : gHs (fHd S) (k + 1) (fun _ => true) = gHs (fHd S) k (fun _ => true) ++ [k] := by
          rw [gHs_sc, if_pos (by rw [c]; simp)]
        refine Or.inl ⟨(nI ((gHs (fHd S) k (fun _ => true)).length + 1), nI (k + 1), gI M' 11 (gHs (fHd S) k (fun _ => true)).length (nI k)), ?_, q, _, by rw [e9, List.length_append]; rfl, gFr_trI hF rfl, fun j x hj => ?_⟩
        · have c : sHd S (sPl S k) = k := c
          rw [c] at hd
          simp (disch := omega) only [p_bnd, p_nm, p_gSEl, p_gSEr, p_l0, p_l1, p_l2, p_l3, p_l4, p_l5, p_l6, p_l7, p_l8, p_l9, p_l10, p_l14, p_l16, p_l20, p_l22, p_l24, p_l30, p_l31, p_l32, p_l38, p_l40, p_l41, p_l43, p_l48, p_l57, p_l59, p_l60, p_l61, p_l62, p_l63, p_l97, p_l98, p_l101, p_l122, p_l158, p_l201, p_l255, p_l256, p_l374, p_l880, p_l900, p_l1000, p_l2618, p_neg, nI_add, p_mul, p_sub, p_addm, p_addm0, p_subm, p_le, p_lt, p_eq, p_mO_eq, p_eq_mO, p_mO_lt, p_nlt_mO, p_mO_le, p_le_mO, p_rI, p_rL, p_wI, p_wL, p_wF, p_has10, p_has11, p_ib0, p_ib1, p_shl1, p_zv0, p_zv1, p_zvib, p_ibd, p_ibn, if_pos, if_neg, if_true, if_false, ne_eq, not_true, not_false_iff, Decidable.not_not, Nat.not_lt, Nat.not_le, Bool.true_eq_false, Bool.false_eq_true, eq_self, reduceIte, Nat.reduceAdd, Nat.reduceMul, Nat.reduceSub, Nat.reduceEqDiff, Nat.reduceLT, Nat.reduceLeDiff, reduceCtorEq, fX11_laysFresh_l4, fX11_laysFresh_b34, h0', hd]
        · rw [e9] at hj
          rw [Nat.zero_add, p_gI]
          rcases Nat.lt_or_ge j (gHs (fHd S) k (fun _ => true)).length with y | y
          · rw [List.getElem?_append_left y] at hj
            have := hH j x hj
            rw [Nat.zero_add] at this
            rw [if_neg (by omega)]; exact this
          · rw [List.getElem?_append_right y] at hj
            have hj3 := (List.getElem?_eq_some_iff.mp hj).1
            have e5 : j = (gHs (fHd S) k (fun _ => true)).length := by simp at hj3; omega
            rw [e5, Nat.sub_self] at hj
            have hj4 : k = x := Option.some.inj hj
            rw [if_pos ⟨rfl, e5⟩, hj4]
      · have e9 : gHs (fHd S) (k + 1) (fun _ => true) = gHs (fHd S) k (fun _ => true) := by
          rw [gHs_sc, if_neg (by simp [c]), List.append_nil]
        refine Or.inl ⟨(nI (gHs (fHd S) k (fun _ => true)).length, nI (k + 1), M'), ?_, q, M', by rw [e9], hF, by rw [e9]; exact hH⟩
        have c : ¬ sHd S (sPl S k) = k := c
        simp (disch := omega) only [p_bnd, p_nm, p_gSEl, p_gSEr, p_l0, p_l1, p_l2, p_l3, p_l4, p_l5, p_l6, p_l7, p_l8, p_l9, p_l10, p_l14, p_l16, p_l20, p_l22, p_l24, p_l30, p_l31, p_l32, p_l38, p_l40, p_l41, p_l43, p_l48, p_l57, p_l59, p_l60, p_l61, p_l62, p_l63, p_l97, p_l98, p_l101, p_l122, p_l158, p_l201, p_l255, p_l256, p_l374, p_l880, p_l900, p_l1000, p_l2618, p_neg, nI_add, p_mul, p_sub, p_addm, p_addm0, p_subm, p_le, p_lt, p_eq, p_mO_eq, p_eq_mO, p_mO_lt, p_nlt_mO, p_mO_le, p_le_mO, p_rI, p_rL, p_wI, p_wL, p_wF, p_has10, p_has11, p_ib0, p_ib1, p_shl1, p_zv0, p_zv1, p_zvib, p_ibd, p_ibn, if_pos, if_neg, if_true, if_false, ne_eq, not_true, not_false_iff, Decidable.not_not, Nat.not_lt, Nat.not_le, Bool.true_eq_false, Bool.false_eq_true, eq_self, reduceIte, Nat.reduceAdd, Nat.reduceMul, Nat.reduceSub, Nat.reduceEqDiff, Nat.reduceLT, Nat.reduceLeDiff, reduceCtorEq, fX11_laysFresh_l4, fX11_laysFresh_b34, h0', hd, c]
    · have e5 : k = sN S := by omega
      refine Or.inr ⟨(nI (gHs (fHd S) k (fun _ => true)).length, M'), by simp (disch := omega) only [p_bnd, p_nm, p_gSEl, p_gSEr, p_l0, p_l1, p_l2, p_l3, p_l4, p_l5, p_l6, p_l7, p_l8, p_l9, p_l10, p_l14, p_l16, p_l20, p_l22, p_l24, p_l30, p_l31, p_l32, p_l38, p_l40, p_l41, p_l43, p_l48, p_l57, p_l59, p_l60, p_l61, p_l62, p_l63, p_l97, p_l98, p_l101, p_l122, p_l158, p_l201, p_l255, p_l256, p_l374, p_l880, p_l900, p_l1000, p_l2618, p_neg, nI_add, p_mul, p_sub, p_addm, p_addm0, p_subm, p_le, p_lt, p_eq, p_mO_eq, p_eq_mO, p_mO_lt, p_nlt_mO, p_mO_le, p_le_mO, p_rI, p_rL, p_wI, p_wL, p_wF, p_has10, p_has11, p_ib0, p_ib1, p_shl1, p_zv0, p_zv1, p_zvib, p_ibd, p_ibn, if_pos, if_neg, if_true, if_false, ne_eq, not_true, not_false_iff, Decidable.not_not, Nat.not_lt, Nat.not_le, Bool.true_eq_false, Bool.false_eq_true, eq_self, reduceIte, Nat.reduceAdd, Nat.reduceMul, Nat.reduceSub, Nat.reduceEqDiff, Nat.reduceLT, Nat.reduceLeDiff, reduceCtorEq, fX11_laysFresh_l4, h0'], by rw [e5]; rfl, hF, by rw [e5] at hH; exact hH⟩
  have hc : q.2.1 1 = M.1 1 := gFr_c1 F (fun _ => by omega)
  have h' : RS q.2 S := RS_of h hc
  obtain ⟨M', e2, F2, H2⟩ := rs_sortsHeads (hs := fHs S) h'.a (show RH (q.2.1 1) (sN S) (fHd S) from h'.h) L (by rw [fHs_len h.2]; have := h.2.1.2.2.1; omega) (fun x hx => by have := (fHs_mem.mp hx).1; omega) (by unfold fHs; exact gHs_sorted) (fun _ z => z) (fSrc h.2)
  refine ⟨M', ?_, gFr_tr F (gFr_mo F2 (fun c k z => z.1)), H2⟩
  unfold fX11_laysFresh
  rw [e, p_bnd, q1, e2, p_bnd]
theorem rs_refreshes (h : RS M S) : ∃ M', fX11_refreshes M = some (nI (fMv S), M') ∧ gFr (fun c _ => Dcu c) M M' ∧ RS M' (sRef S) := by
  have hn := h.2.1.1
  have hg := h.2.1.2.2.1
  obtain ⟨M1, e1, F1, H1⟩ := rs_laysFresh h
  have hc1 : M1.1 1 = M.1 1 := gFr_c1 F1 (fun _ => by omega)
  have h1 : RS M1 S := RS_of h hc1
  obtain ⟨q, e, q1, F, K⟩ : ∃ q, gLoop (fun z9 => fX11_refreshes_l8 z9.1 z9.2.1 z9.2.2) gFu ((0 : Int32), (0 : Int32), M1) = some q ∧ q.1 = nI (fMv S) ∧ gFr (fun c k => c = 1 ∧ 14 ≤ k ∧ k < 14 + sG S) M1 q.2 ∧ ∀ p, p < sG S → q.2.1 1 (14 + p) = nI ((fO S).getD p 0) := by
    refine gLoop_i (fun k s => ∃ M', s = (nI (fb_ct (fun p => !decide ((fO S).getD p 0 = sHd S p)) k), nI k, M') ∧ gFr (fun c j => c = 1 ∧ 14 ≤ j ∧ j < 14 + sG S) M1 M' ∧ gFr (fun c j => c = 1 ∧ 14 ≤ j ∧ j < 14 + k) M1 M' ∧ ∀ p, p < k → M'.1 1 (14 + p) = nI ((fO S).getD p 0)) _ (sG S) ⟨M1, rfl, gFr_rf, gFr_rf, fun p z => absurd z (Nat.not_lt_zero _)⟩ (by show sG S < 4096; omega) ?_
    rintro k s hk ⟨M', rfl, hF, hF2, hK⟩
    have g2 : M'.1 1 2 = nI (sG S) := by rw [(hF 1 2 (by omega)).1]; exact h1.1.1.2.2.1
    rcases Nat.lt_or_ge k (sG S) with q | q
    · have o1 : M'.1 1 (14 + k) = nI (sHd S k) := by rw [(hF2 1 _ (by omega)).1]; exact rs_or h1 q
      have o2 : M'.1 11 k = nI ((fO S).getD k 0) := by
        have := H1 k _ (fO_at h.2 q).1
        rw [Nat.zero_add] at this
        rw [(hF 11 k (by omega)).1]; exact this
      have b1 := (sHd_ok h.2.2.2.1 q).1
      have b2 := (fO_at h.2 q).2.1
      refine Or.inl ⟨(nI (fb_ct (fun p => !decide ((fO S).getD p 0 = sHd S p)) (k + 1)), nI (k + 1), gI M' 1 (14 + k) (nI ((fO S).getD k 0))), ?_, q, _, rfl, gFr_trI hF ⟨rfl, by omega, by omega⟩, gFr_trI (gFr_mo hF2 (fun c j z => by omega)) ⟨rfl, by omega, by omega⟩, fun p hp => ?_⟩
      · by_cases c : (fO S).getD k 0 = sHd S k
        · simp (disch := omega) only [p_bnd, p_nm, p_gSEl, p_gSEr, p_l0, p_l1, p_l2, p_l3, p_l4, p_l5, p_l6, p_l7, p_l8, p_l9, p_l10, p_l14, p_l16, p_l20, p_l22, p_l24, p_l30, p_l31, p_l32, p_l38, p_l40, p_l41, p_l43, p_l48, p_l57, p_l59, p_l60, p_l61, p_l62, p_l63, p_l97, p_l98, p_l101, p_l122, p_l158, p_l201, p_l255, p_l256, p_l374, p_l880, p_l900, p_l1000, p_l2618, p_neg, nI_add, p_mul, p_sub, p_addm, p_addm0, p_subm, p_le, p_lt, p_eq, p_mO_eq, p_eq_mO, p_mO_lt, p_nlt_mO, p_mO_le, p_le_mO, p_rI, p_rL, p_wI, p_wL, p_wF, p_has10, p_has11, p_ib0, p_ib1, p_shl1, p_zv0, p_zv1, p_zvib, p_ibd, p_ibn, if_pos, if_neg, if_true, if_false, ne_eq, not_true, not_false_iff, Decidable.not_not, Nat.not_lt, Nat.not_le, Bool.true_eq_false, Bool.false_eq_true, eq_self, reduceIte, Nat.reduceAdd, Nat.reduceMul, Nat.reduceSub, Nat.reduceEqDiff, Nat.reduceLT, Nat.reduceLeDiff, reduceCtorEq, fX11_refreshes_l8, g2, o1, o2, c, ibF, ibT, fb_ct_succ, decide_true, Bool.not_true, Nat.add_zero]
        · have c2 : decide (sHd S k = (fO S).getD k 0) = false := decide_eq_false (fun z => c z.symm)
          simp (disch := omega) only [p_bnd, p_nm, p_gSEl, p_gSEr, p_l0, p_l1, p_l2, p_l3, p_l4, p_l5, p_l6, p_l7, p_l8, p_l9, p_l10, p_l14, p_l16, p_l20, p_l22, p_l24, p_l30, p_l31, p_l32, p_l38, p_l40, p_l41, p_l43, p_l48, p_l57, p_l59, p_l60, p_l61, p_l62, p_l63, p_l97, p_l98, p_l101, p_l122, p_l158, p_l201, p_l255, p_l256, p_l374, p_l880, p_l900, p_l1000, p_l2618, p_neg, nI_add, p_mul, p_sub, p_addm, p_addm0, p_subm, p_le, p_lt, p_eq, p_mO_eq, p_eq_mO, p_mO_lt, p_nlt_mO, p_mO_le, p_le_mO, p_rI, p_rL, p_wI, p_wL, p_wF, p_has10, p_has11, p_ib0, p_ib1, p_shl1, p_zv0, p_zv1, p_zvib, p_ibd, p_ibn, if_pos, if_neg, if_true, if_false, ne_eq, not_true, not_false_iff, Decidable.not_not, Nat.not_lt, Nat.not_le, Bool.true_eq_false, Bool.false_eq_true, eq_self, reduceIte, Nat.reduceAdd, Nat.reduceMul, Nat.reduceSub, Nat.reduceEqDiff, Nat.reduceLT, Nat.reduceLeDiff, reduceCtorEq, fX11_refreshes_l8, g2, o1, o2, c, c2, ibF, ibT, fb_ct_succ, decide_false, Bool.not_false]
      · rw [p_gI]
        by_cases e : p = k
        · rw [if_pos ⟨rfl, by omega⟩, e]
        · rw [if_neg (by omega)]; exact hK p (by omega)
    · have e5 : k = sG S := by omega
      exact Or.inr ⟨(nI (fb_ct (fun p => !decide ((fO S).getD p 0 = sHd S p)) k), M'), by simp (disch := omega) only [p_bnd, p_nm, p_gSEl, p_gSEr, p_l0, p_l1, p_l2, p_l3, p_l4, p_l5, p_l6, p_l7, p_l8, p_l9, p_l10, p_l14, p_l16, p_l20, p_l22, p_l24, p_l30, p_l31, p_l32, p_l38, p_l40, p_l41, p_l43, p_l48, p_l57, p_l59, p_l60, p_l61, p_l62, p_l63, p_l97, p_l98, p_l101, p_l122, p_l158, p_l201, p_l255, p_l256, p_l374, p_l880, p_l900, p_l1000, p_l2618, p_neg, nI_add, p_mul, p_sub, p_addm, p_addm0, p_subm, p_le, p_lt, p_eq, p_mO_eq, p_eq_mO, p_mO_lt, p_nlt_mO, p_mO_le, p_le_mO, p_rI, p_rL, p_wI, p_wL, p_wF, p_has10, p_has11, p_ib0, p_ib1, p_shl1, p_zv0, p_zv1, p_zvib, p_ibd, p_ibn, if_pos, if_neg, if_true, if_false, ne_eq, not_true, not_false_iff, Decidable.not_not, Nat.not_lt, Nat.not_le, Bool.true_eq_false, Bool.false_eq_true, eq_self, reduceIte, Nat.reduceAdd, Nat.reduceMul, Nat.reduceSub, Nat.reduceEqDiff, Nat.reduceLT, Nat.reduceLeDiff, reduceCtorEq, fX11_refreshes_l8, g2], by rw [e5]; rfl, hF, fun p hp => hK p (by omega)⟩
  refine ⟨q.2, ?_, gFr_tr (gFr_mo F1 (fun c k z => by unfold Dcu; omega)) (gFr_mo F (fun c k z => by unfold Dcu; omega)), ?_, sRef_W h.2⟩
  · unfold fX11_refreshes
    rw [e1, p_bnd, e, p_bnd, q1]
  · obtain ⟨⟨q0, q1, q2, q3, q4⟩, qa, qo, qf, qt⟩ := h1.1
    have o : ∀ {k : Nat}, ¬ (14 ≤ k ∧ k < 14 + sG S) → q.2.1 1 k = M1.1 1 k := fun z => (F 1 _ (by omega)).1
    refine ⟨⟨by rw [o (by omega)]; exact q0, by rw [o (by omega)]; exact q1, by rw [o (by omega)]; exact q2, by rw [o (by omega)]; exact q3, by rw [o (by omega)]; exact q4⟩, fun k hk => by rw [o (by omega)]; exact qa k hk, fun p hp => ?_, fun i hi => by rw [o (by omega), o (by omega)]; exact qf i hi, fun t ht => ?_⟩
    · have hp : p < sG S := hp
      rw [K p hp, sRef_hd h.2 hp]
    · obtain ⟨t1, t2, t3, t4⟩ := qt t ht
      refine ⟨by rw [o (by omega)]; exact t1, ?_, by rw [o (by omega)]; exact t3, fun k hk => by rw [o (by omega)]; exact t4 k hk⟩
      rw [o (by omega), t2]
      have ht : t < sN S := ht
      show nI (fHd S t) = nI (sHd (sRef S) (fP S t))
      rw [sRef_hd h.2 (fP_lt h.2 ht)]
      have m := ix_at (fO_hd h.2 ht)
      congr 1
      have m2 := (fO_at h.2 (fP_lt h.2 ht)).1
      unfold fP at m2 ⊢
      rw [m] at m2
      exact Option.some.inj m2
end FB
