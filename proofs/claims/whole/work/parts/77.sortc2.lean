/-! ORDERS ANEW: the class's sortPart, whole -/
section SC
variable {M : gMem} {S : gS} {t g first last : Nat} {ac pl : Nat → Nat}
def mbP (n : Nat) (pl : Nat → Nat) (p : Nat) : Int32 := mkS (fun v => decide (v < n ∧ pl v = p))
def inP (pl : Nat → Nat) (first last u : Nat) : Bool := decide (first ≤ pl u ∧ pl u < last)
theorem CI_mb (h : CI M t S ac g pl) {p : Nat} (hp : p < g) : M.1 (t + 7) p = mbP (sN S) pl p := mkS_of fun v hv => by
  have := h.2.2.1 p hp v hv
  cases hb : bt (M.1 (t + 7) p) v
  · symm; rw [decide_eq_false_iff_not]; intro z; rw [this.mpr z] at hb; cases hb
  · symm; rw [decide_eq_true_eq]; exact this.mp hb
theorem gHs_len {n : Nat} (hpl : ∀ u, u < n → pl u < g) (hsur : ∀ p, p < g → ∃ u, u < n ∧ pl u = p) (hfl : first ≤ last) (hlg : last ≤ g) : (gHs (hdP pl n) n (inP pl first last)).length = last - first := by
  have hget : ∀ {i : Nat}, i < (gHs (hdP pl n) n (inP pl first last)).length → (gHs (hdP pl n) n (inP pl first last)).getD i 0 < n ∧ (first ≤ pl ((gHs (hdP pl n) n (inP pl first last)).getD i 0) ∧ pl ((gHs (hdP pl n) n (inP pl first last)).getD i 0) < last) ∧ hdP pl n ((gHs (hdP pl n) n (inP pl first last)).getD i 0) = (gHs (hdP pl n) n (inP pl first last)).getD i 0 := fun {i} hi => by
    obtain ⟨a, b, c⟩ := gHs_mem.mp (List.mem_of_getElem? (getD_at hi))
    exact ⟨a, of_decide_eq_true b, c⟩
  refine Nat.le_antisymm ?_ ?_
  · refine fb_holes (last - first) _ (fun i => pl ((gHs (hdP pl n) n (inP pl first last)).getD i 0) - first) (fun i hi => ?_) (fun i j hij hj e => ?_)
    · obtain ⟨a, b, c⟩ := hget hi; omega
    · obtain ⟨a, b, c⟩ := hget (show i < _ by omega)
      obtain ⟨a', b', c'⟩ := hget hj
      have e2 : pl ((gHs (hdP pl n) n (inP pl first last)).getD i 0) = pl ((gHs (hdP pl n) n (inP pl first last)).getD j 0) := by
        have e : pl ((gHs (hdP pl n) n (inP pl first last)).getD i 0) - first = pl ((gHs (hdP pl n) n (inP pl first last)).getD j 0) - first := e
        omega
      have := (hdP_eq (pl := pl) a a').mpr e2
      rw [c, c'] at this
      have := sd_inj gHs_sorted (by omega) hj this
      omega
  · have hh : ∀ k, k < last - first → ∃ i, i < (gHs (hdP pl n) n (inP pl first last)).length ∧ pl ((gHs (hdP pl n) n (inP pl first last)).getD i 0) = first + k := fun k hk => by
      obtain ⟨u, hu, eu⟩ := hsur (first + k) (by omega)
      obtain ⟨q1, q2, q3⟩ := hdP_ok (pl := pl) hu
      have hm : hdP pl n u ∈ gHs (hdP pl n) n (inP pl first last) := gHs_mem.mpr ⟨q2, decide_eq_true ⟨by omega, by omega⟩, hdP_id hu⟩
      obtain ⟨i, hi, e⟩ := List.getElem_of_mem hm
      exact ⟨i, hi, by rw [List.getD_eq_getElem?_getD, List.getElem?_eq_getElem hi]; show pl ((gHs (hdP pl n) n (inP pl first last))[i]) = _; rw [e, q3, eu]⟩
    refine fb_holes _ (last - first) (fun k => if h : k < last - first then (hh k h).choose else 0) (fun k hk => ?_) (fun i j hij hj e => ?_)
    · show (if h : k < last - first then (hh k h).choose else 0) < _
      rw [dif_pos hk]; exact (hh k hk).choose_spec.1
    · have e : (if h : i < last - first then (hh i h).choose else 0) = (if h : j < last - first then (hh j h).choose else 0) := e
      rw [dif_pos (by omega), dif_pos hj] at e
      have h1 := (hh i (by omega)).choose_spec.2
      have h2 := (hh j hj).choose_spec.2
      rw [e, h2] at h1
      omega
def Dso (c k : Nat) : Prop := (c = 45 ∧ k = 1) ∨ c = 46 ∨ c = 47 ∨ c = 48
theorem CI_so {M' : gMem} (h : CI M t S ac g pl) (ht : t ≤ 21) (F : gFr Dso M M') : CI M' t S ac g pl := CI_of h fun j hj => ⟨gFr_c1 F (fun k z => by unfold Dso at z; omega), gFr_c2 F (fun k z => by unfold Dso at z; omega)⟩
def BK9 (S : gS) (pl : Nat → Nat) (first last : Nat) (M : gMem) : Prop := ∀ p, p < 24 → ∀ q, q < 32 → (bt (M.1 48 p) q = true ↔ ∃ i, i < sM S ∧ pl (sFr S i) = q ∧ pl (sTo S i) = p ∧ q ≠ p ∧ first ≤ q ∧ q < last ∧ first ≤ p ∧ p < last)
theorem BK9cg {M M' : gMem} (h : BK9 S pl first last M) (e : M'.1 48 = M.1 48) : BK9 S pl first last M' := by unfold BK9; rw [e]; exact h
theorem sp_rest (hfl : first ≤ last) (hl : last ≤ 24) : gLoop (fun z9 => fX8_sortPart_l31 t (nI first) (nI last) M z9.1 z9.2) gFu ((0 : Int32), nI first) = some (mkS (fun p => decide (first ≤ p ∧ p < last))) := by
  have e := gLoop_f (body := fun z9 => fX8_sortPart_l31 t (nI first) (nI last) M z9.1 z9.2) (fun k => (mkS (fun p => decide (first ≤ p ∧ p < first + k)), nI (first + k))) (r := mkS (fun p => decide (first ≤ p ∧ p < first + (last - first)))) (last - first) gFu (by show _ < 4096; omega) (fun k hk => by
    have e1 : (mkS (fun p => decide (first ≤ p ∧ p < first + k)) ||| sb (first + k)) = mkS (fun p => decide (first ≤ p ∧ p < first + (k + 1))) := mkS_of fun v hv => by
      rw [b_or, mkS_bt hv, p_sb (by omega)]
      by_cases c : v = first + k
      · subst c; simp
      · rw [decide_eq_false c, Bool.or_false]; exact decide_eq_decide.mpr (by omega)
    simp (disch := omega) only [p_bnd, p_nm, p_gSEl, p_gSEr, p_l0, p_l1, p_l2, p_l3, p_l4, p_l5, p_l6, p_l7, p_l8, p_l9, p_l10, p_l14, p_l16, p_l20, p_l22, p_l24, p_l30, p_l31, p_l32, p_l38, p_l40, p_l41, p_l43, p_l48, p_l57, p_l59, p_l60, p_l61, p_l62, p_l63, p_l97, p_l98, p_l101, p_l122, p_l158, p_l201, p_l255, p_l256, p_l374, p_l880, p_l900, p_l1000, p_l2618, p_neg, nI_add, p_mul, p_sub, p_addm, p_addm0, p_subm, p_le, p_lt, p_eq, p_mO_eq, p_eq_mO, p_mO_lt, p_nlt_mO, p_mO_le, p_le_mO, p_rI, p_rL, p_wI, p_wL, p_wF, p_has10, p_has11, p_ib0, p_ib1, p_shl1, p_zv0, p_zv1, p_zvib, p_ibd, p_ibn, if_pos, if_neg, if_true, if_false, ne_eq, not_true, not_false_iff, Decidable.not_not, Nat.not_lt, Nat.not_le, Bool.true_eq_false, Bool.false_eq_true, eq_self, reduceIte, Nat.reduceAdd, Nat.reduceMul, Nat.reduceSub, Nat.reduceEqDiff, Nat.reduceLT, Nat.reduceLeDiff, reduceCtorEq, fX8_sortPart_l31, Nat.add_assoc, e1]) (by simp (disch := omega) only [p_bnd, p_nm, p_gSEl, p_gSEr, p_l0, p_l1, p_l2, p_l3, p_l4, p_l5, p_l6, p_l7, p_l8, p_l9, p_l10, p_l14, p_l16, p_l20, p_l22, p_l24, p_l30, p_l31, p_l32, p_l38, p_l40, p_l41, p_l43, p_l48, p_l57, p_l59, p_l60, p_l61, p_l62, p_l63, p_l97, p_l98, p_l101, p_l122, p_l158, p_l201, p_l255, p_l256, p_l374, p_l880, p_l900, p_l1000, p_l2618, p_neg, nI_add, p_mul, p_sub, p_addm, p_addm0, p_subm, p_le, p_lt, p_eq, p_mO_eq, p_eq_mO, p_mO_lt, p_nlt_mO, p_mO_le, p_le_mO, p_rI, p_rL, p_wI, p_wL, p_wF, p_has10, p_has11, p_ib0, p_ib1, p_shl1, p_zv0, p_zv1, p_zvib, p_ibd, p_ibn, if_pos, if_neg, if_true, if_false, ne_eq, not_true, not_false_iff, Decidable.not_not, Nat.not_lt, Nat.not_le, Bool.true_eq_false, Bool.false_eq_true, eq_self, reduceIte, Nat.reduceAdd, Nat.reduceMul, Nat.reduceSub, Nat.reduceEqDiff, Nat.reduceLT, Nat.reduceLeDiff, reduceCtorEq, fX8_sortPart_l31])
  rw [show (0 : Int32) = mkS (fun p => decide (first ≤ p ∧ p < first + 0)) from mkS_of fun v _ => by
    rw [show (0 : Int32) = nI 0 from rfl, p_bt0]; symm; rw [decide_eq_false_iff_not]; omega]
  refine e.trans (congrArg some ?_)
  exact mkS_cg fun v _ => decide_eq_decide.mpr (by omega)
/-- the way of the selection: what holds after k choices -/
def SPI (S : gS) (pl : Nat → Nat) (first last : Nat) (l0 : List Nat) (M3 : gMem) (k : Nat) (s : Int32 × Int32 × gMem) : Prop := ∃ w done rest M', s = (w, nI (first + k), M') ∧ gFr Dso M3 M' ∧ gFr (fun c _ => c ≠ 48) M3 M' ∧ done.length = k ∧ rest.length = last - first - k ∧ RM9 w pl rest ∧ RW M' 45 ((List.range first).map (mbP (sN S) pl) ++ done.map (fun x => mbP (sN S) pl (pl x))) ∧ (∀ j x, done[j]? = some x → M'.1 47 (first + j) = nI (pl x)) ∧ rest.Pairwise (fun x y => x < y) ∧ (∀ x, x ∈ rest → x ∈ l0) ∧ done ++ selS (ldH S (hdP pl (sN S))) (last - first - k) rest = selS (ldH S (hdP pl (sN S))) (last - first) l0
set_option maxHeartbeats 4000000 in
theorem sp_step {M3 : gMem} {l0 : List Nat} {k : Nat} {s : Int32 × Int32 × gMem} (h3 : CI M3 t S ac g pl) (hn : sN S ≤ 24) (hW1 : sW1 S) (hg : g ≤ 24) (hpl : ∀ u, u < sN S → pl u < g) (ht : t ≤ 21) (hfl : first ≤ last) (hlg : last ≤ g)
    (B3 : BK9 S pl first last M3) (hsrc : gSrc (ldH S (hdP pl (sN S))) l0) (l0m : ∀ x, x ∈ l0 → x < sN S ∧ hdP pl (sN S) x = x ∧ first ≤ pl x ∧ pl x < last) (q : k < last - first) (hI : SPI S pl first last l0 M3 k s) :
    ∃ s', fX8_sortPart_l55 t (nI last) s.1 s.2.1 s.2.2 = some (.inl s') ∧ SPI S pl first last l0 M3 (k + 1) s' := by
  obtain ⟨w, done, rest, M', rfl, hF, hF2, d1, d2, d3, d4, d5, d6, d7, d8⟩ := hI
  have hC := CI_so h3 ht hF
  have hne : rest ≠ [] := fun z => by rw [z] at d2; simp at d2; omega
  obtain ⟨a1, a2, a3⟩ := gAt_ok (ld := ldH S (hdP pl (sN S))) hne d7 hsrc
  have hfp := cs_freePlace (first := first) (last := last) hC hn hW1 hg hpl ht d3 (fun x hx => l0m x (d7 x hx)) (BK9cg B3 (gFr_c1 hF2 (fun k z => z rfl))) d6 a1 a2 a3
  have hm9 : rest.getD (gAt (ldH S (hdP pl (sN S))) rest) 0 ∈ rest := List.mem_of_getElem? (getD_at a1)
  have hselk : selS (ldH S (hdP pl (sN S))) (last - first - k) rest = rest.getD (gAt (ldH S (hdP pl (sN S))) rest) 0 :: selS (ldH S (hdP pl (sN S))) (last - first - (k + 1)) (gRm rest (gAt (ldH S (hdP pl (sN S))) rest)) := by
    rw [show last - first - k = last - first - (k + 1) + 1 by omega]; rfl
  generalize gAt (ldH S (hdP pl (sN S))) rest = a at a1 a2 a3 hfp hm9 hselk
  generalize hhd : rest.getD a 0 = x at hfp hm9 hselk
  obtain ⟨x1, x2, x3, x4⟩ := l0m x (d7 x hm9)
  have xg := hpl x x1
  obtain ⟨M5, e5, F5, R5⟩ := cw_put d4 (by rw [List.length_append, List.length_map, List.length_map, List.length_range]; omega) (mbP (sN S) pl (pl x))
  have hmb := CI_mb hC (p := pl x) xg
  have mD : ∀ c k, Drow 45 c k → Dso c k := fun c k z => by unfold Drow at z; unfold Dso; omega
  have o5 : M5.1 47 = M'.1 47 := gFr_c1 F5 (fun k z => by unfold Drow at z; omega)
  refine ⟨(w &&& (sb (pl x) ^^^ mO 1), nI (first + (k + 1)), gI M5 47 (first + k) (nI (pl x))), ?_, _, done ++ [x], gRm rest a, _, rfl, gFr_trI (gFr_tr hF (gFr_mo F5 mD)) (Or.inr (Or.inr (Or.inl rfl))), gFr_trI (gFr_tr hF2 (gFr_mo F5 (fun c k z => by unfold Drow at z; omega))) (by decide), by rw [List.length_append, d1]; rfl, by rw [gRm_len a1]; omega, fun p hp => ?_, ?_, fun j y hj => ?_, gRm_sorted a1 d6, fun y hy => d7 y ((gRm_mem a1 d6 y).mp hy).1, by rw [← d8, hselk, List.append_assoc]; rfl⟩
  · simp (disch := omega) only [p_bnd, p_nm, p_gSEl, p_gSEr, p_l0, p_l1, p_l2, p_l3, p_l4, p_l5, p_l6, p_l7, p_l8, p_l9, p_l10, p_l14, p_l16, p_l20, p_l22, p_l24, p_l30, p_l31, p_l32, p_l38, p_l40, p_l41, p_l43, p_l48, p_l57, p_l59, p_l60, p_l61, p_l62, p_l63, p_l97, p_l98, p_l101, p_l122, p_l158, p_l201, p_l255, p_l256, p_l374, p_l880, p_l900, p_l1000, p_l2618, p_neg, nI_add, p_mul, p_sub, p_addm, p_addm0, p_subm, p_le, p_lt, p_eq, p_mO_eq, p_eq_mO, p_mO_lt, p_nlt_mO, p_mO_le, p_le_mO, p_rI, p_rL, p_wI, p_wL, p_wF, p_has10, p_has11, p_ib0, p_ib1, p_shl1, p_zv0, p_zv1, p_zvib, p_ibd, p_ibn, if_pos, if_neg, if_true, if_false, ne_eq, not_true, not_false_iff, Decidable.not_not, Nat.not_lt, Nat.not_le, Bool.true_eq_false, Bool.false_eq_true, eq_self, reduceIte, Nat.reduceAdd, Nat.reduceMul, Nat.reduceSub, Nat.reduceEqDiff, Nat.reduceLT, Nat.reduceLeDiff, reduceCtorEq, fX8_sortPart_l55, fX8_sortPart_b110, hfp, hmb, e5, Nat.add_assoc]
  · rw [b_and, p_not _ hp, p_sb (by omega), Bool.and_eq_true, d3 p hp]
    constructor
    · rintro ⟨⟨y, hy, rfl⟩, z⟩
      refine ⟨y, (gRm_mem a1 d6 y).mpr ⟨hy, fun e => ?_⟩, rfl⟩
      rw [hhd] at e
      rw [e] at z; simp at z
    · rintro ⟨y, hy, rfl⟩
      obtain ⟨y1, y2⟩ := (gRm_mem a1 d6 y).mp hy
      rw [hhd] at y2
      refine ⟨⟨y, y1, rfl⟩, ?_⟩
      obtain ⟨u1, u2, -⟩ := l0m y (d7 y y1)
      have : ¬ pl y = pl x := fun e => y2 (by rw [← u2, ← x2]; exact (hdP_eq u1 x1).mpr e)
      simp [this]
  · refine RW_of ?_ (p_gI_n (Or.inl (by decide))) (p_gI_o (by decide))
    rw [List.map_append, ← List.append_assoc]; exact R5
  · rw [p_gI]
    rcases Nat.lt_or_ge j k with c | c
    · rw [List.getElem?_append_left (by omega)] at hj
      rw [if_neg (by omega), o5]; exact d5 j y hj
    · rw [List.getElem?_append_right (by omega)] at hj
      have hj3 := (List.getElem?_eq_some_iff.mp hj).1
      have e7 : j = k := by simp at hj3; omega
      rw [show j - done.length = 0 by omega] at hj
      have hj4 : x = y := Option.some.inj hj
      rw [if_pos ⟨rfl, by omega⟩, hj4]
theorem sp_loop {M3 : gMem} {l0 : List Nat} (h3 : CI M3 t S ac g pl) (hn : sN S ≤ 24) (hW1 : sW1 S) (hg : g ≤ 24) (hpl : ∀ u, u < sN S → pl u < g) (ht : t ≤ 21) (hfl : first ≤ last) (hlg : last ≤ g)
    (B3 : BK9 S pl first last M3) (hsrc : gSrc (ldH S (hdP pl (sN S))) l0) (l0m : ∀ x, x ∈ l0 → x < sN S ∧ hdP pl (sN S) x = x ∧ first ≤ pl x ∧ pl x < last)
    (hI : SPI S pl first last l0 M3 0 (mkS (fun p => decide (first ≤ p ∧ p < last)), nI first, M3)) :
    ∃ M4, gLoop (fun z9 => fX8_sortPart_l55 t (nI last) z9.1 z9.2.1 z9.2.2) gFu (mkS (fun p => decide (first ≤ p ∧ p < last)), nI first, M3) = some M4 ∧ gFr Dso M3 M4 ∧ RW M4 45 ((List.range first).map (mbP (sN S) pl) ++ (selS (ldH S (hdP pl (sN S))) (last - first) l0).map (fun x => mbP (sN S) pl (pl x))) ∧ ∀ j x, (selS (ldH S (hdP pl (sN S))) (last - first) l0)[j]? = some x → M4.1 47 (first + j) = nI (pl x) := by
  refine gLoop_i (SPI S pl first last l0 M3) _ (last - first) hI (by show last - first < 4096; omega) ?_
  intro k s hk hI
  rcases Nat.lt_or_ge k (last - first) with q | q
  · obtain ⟨s', e, hI'⟩ := sp_step h3 hn hW1 hg hpl ht hfl hlg B3 hsrc l0m q hI
    exact Or.inl ⟨s', e, q, hI'⟩
  · obtain ⟨w, done, rest, M', rfl, hF, hF2, d1, d2, d3, d4, d5, d6, d7, d8⟩ := hI
    have e9 : last - first - k = 0 := by omega
    have d9 : done = selS (ldH S (hdP pl (sN S))) (last - first) l0 := by
      rw [← d8, e9]; show done = done ++ []; rw [List.append_nil]
    refine Or.inr ⟨M', by simp (disch := omega) only [p_bnd, p_nm, p_gSEl, p_gSEr, p_l0, p_l1, p_l2, p_l3, p_l4, p_l5, p_l6, p_l7, p_l8, p_l9, p_l10, p_l14, p_l16, p_l20, p_l22, p_l24, p_l30, p_l31, p_l32, p_l38, p_l40, p_l41, p_l43, p_l48, p_l57, p_l59, p_l60, p_l61, p_l62, p_l63, p_l97, p_l98, p_l101, p_l122, p_l158, p_l201, p_l255, p_l256, p_l374, p_l880, p_l900, p_l1000, p_l2618, p_neg, nI_add, p_mul, p_sub, p_addm, p_addm0, p_subm, p_le, p_lt, p_eq, p_mO_eq, p_eq_mO, p_mO_lt, p_nlt_mO, p_mO_le, p_le_mO, p_rI, p_rL, p_wI, p_wL, p_wF, p_has10, p_has11, p_ib0, p_ib1, p_shl1, p_zv0, p_zv1, p_zvib, p_ibd, p_ibn, if_pos, if_neg, if_true, if_false, ne_eq, not_true, not_false_iff, Decidable.not_not, Nat.not_lt, Nat.not_le, Bool.true_eq_false, Bool.false_eq_true, eq_self, reduceIte, Nat.reduceAdd, Nat.reduceMul, Nat.reduceSub, Nat.reduceEqDiff, Nat.reduceLT, Nat.reduceLeDiff, reduceCtorEq, fX8_sortPart_l55], hF, ?_, ?_⟩
    · rw [← d9]; exact d4
    · rw [← d9]; exact d5
theorem sp_start {M3 : gMem} (hsur : ∀ p, p < g → ∃ u, u < sN S ∧ pl u = p) (hlg : last ≤ g)
    (R3 : RW M3 45 ((List.range first).map (mbP (sN S) pl))) (hlen : (gHs (hdP pl (sN S)) (sN S) (inP pl first last)).length = last - first) :
    SPI S pl first last (gHs (hdP pl (sN S)) (sN S) (inP pl first last)) M3 0 (mkS (fun p => decide (first ≤ p ∧ p < last)), nI first, M3) := by
  refine ⟨_, [], gHs (hdP pl (sN S)) (sN S) (inP pl first last), M3, rfl, gFr_rf, gFr_rf, rfl, by omega, fun p hp => ?_, by simpa using R3, fun j x z => by simp at z, gHs_sorted, fun _ z => z, rfl⟩
  rw [mkS_bt hp, decide_eq_true_eq]
  constructor
  · intro ⟨z1, z2⟩
    obtain ⟨u, hu, eu⟩ := hsur p (by omega)
    obtain ⟨q1, q2, q3⟩ := hdP_ok (pl := pl) hu
    exact ⟨hdP pl (sN S) u, gHs_mem.mpr ⟨q2, decide_eq_true ⟨by omega, by omega⟩, hdP_id hu⟩, by omega⟩
  · rintro ⟨x, hx, rfl⟩
    obtain ⟨-, a, -⟩ := gHs_mem.mp hx
    exact of_decide_eq_true a
theorem cs_sortPart (h : CI M t S ac g pl) (hn : sN S ≤ 24) (hm : sM S ≤ 60) (hW1 : sW1 S) (hg : g ≤ 24) (hpl : ∀ u, u < sN S → pl u < g) (hsur : ∀ p, p < g → ∃ u, u < sN S ∧ pl u = p) (ht : t ≤ 21) (hfl : first ≤ last) (hlg : last ≤ g)
    (hsrc : gSrc (ldH S (hdP pl (sN S))) (gHs (hdP pl (sN S)) (sN S) (inP pl first last))) :
    ∃ M', fX8_sortPart t (nI first) (nI last) M = some M' ∧ gFr Dso M M' ∧ RW M' 45 ((List.range first).map (mbP (sN S) pl) ++ (selS (ldH S (hdP pl (sN S))) (last - first) (gHs (hdP pl (sN S)) (sN S) (inP pl first last))).map (fun x => mbP (sN S) pl (pl x)) ++ (List.range' last (g - last)).map (mbP (sN S) pl)) ∧ ∀ j x, (selS (ldH S (hdP pl (sN S))) (last - first) (gHs (hdP pl (sN S)) (sN S) (inP pl first last)))[j]? = some x → M'.1 47 (first + j) = nI (pl x) := by
  have hlen := gHs_len (n := sN S) hpl hsur hfl hlg
  have F1 : gFr Dso M (gI M 45 1 (nI 0)) := gFr_I (Or.inl ⟨rfl, rfl⟩)
  have R1 : RW (gI M 45 1 (nI 0)) 45 [] := ⟨p_gI_s _ _ _ _, fun k v z => by simp at z⟩
  have h1 := CI_so h ht F1
  have mD : ∀ c k, Drow 45 c k → Dso c k := fun c k z => by unfold Drow at z; unfold Dso; omega
  obtain ⟨M2, e2, F2, R2⟩ := cw_putPlaces (mb := mbP (sN S) pl) (t := t) R1 (f := 0) (e := first) (by omega) (by omega) (by simp; omega) (by omega) (fun p _ p2 => CI_mb h1 (by omega))
  have h2 := CI_so h1 ht (gFr_mo F2 mD)
  rw [List.nil_append, Nat.sub_zero, ← List.range_eq_range'] at R2
  obtain ⟨M3, e3, F3, B3⟩ := cs_lookBefore (first := first) (last := last) h2 hn hm hW1 hg hpl ht (by omega) (by omega)
  have F3' : gFr Dso M2 M3 := gFr_mo F3 (fun c k z => by unfold Dso; omega)
  have h3 := CI_so h2 ht F3'
  have R3 : RW M3 45 ((List.range first).map (mbP (sN S) pl)) := RW_of R2 (F3 45 1 (by omega)).1 (gFr_c1 F3 (fun k z => by omega))
  have l0m : ∀ x, x ∈ gHs (hdP pl (sN S)) (sN S) (inP pl first last) → x < sN S ∧ hdP pl (sN S) x = x ∧ first ≤ pl x ∧ pl x < last := fun x hx => by
    obtain ⟨a, b, c⟩ := gHs_mem.mp hx
    have b := of_decide_eq_true b
    exact ⟨a, c, b.1, b.2⟩
  have hsl := (sel_ok hsrc (last - first) _ hlen gHs_sorted (fun _ z => z)).1
  have er := sp_rest (M := M3) (t := t) hfl (show last ≤ 24 by omega)
  obtain ⟨M4, e4, F4, R4, C4⟩ := sp_loop h3 hn hW1 hg hpl ht hfl hlg B3 hsrc l0m (sp_start hsur hlg R3 hlen)
  have h4 := CI_so h3 ht F4
  obtain ⟨M6, e6, F6, R6⟩ := cw_putPlaces (mb := mbP (sN S) pl) (t := t) R4 (f := last) (e := g) hlg hg (by rw [List.length_append, List.length_map, List.length_map, List.length_range, hsl]; omega) (by omega) (fun p _ p2 => CI_mb h4 p2)
  refine ⟨M6, ?_, gFr_tr F1 (gFr_tr (gFr_mo F2 mD) (gFr_tr F3' (gFr_tr F4 (gFr_mo F6 mD)))), R6, fun j x hj => ?_⟩
  · unfold fX8_sortPart
    rw [show (0 : Int32) = nI 0 from rfl, p_wF, p_bnd, e2, p_bnd, e3, p_bnd]
    rw [show (nI 0, nI first) = ((0 : Int32), nI first) from rfl, er, p_bnd, e4, p_bnd, h4.1.2.2.1, e6, p_bnd]
  · rw [gFr_c1 F6 (c := 47) (fun k z => by unfold Drow at z; omega)]; exact C4 j x hj
end SC
