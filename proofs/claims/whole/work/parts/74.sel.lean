/-! ORDERS ANEW: again and again the first of those that no other one leads to -/
section SE
def gFree (ld : Nat → Nat → Bool) (l : List Nat) (h : Nat) : Bool := l.all (fun h' => h' == h || !ld h' h)
def gAt (ld : Nat → Nat → Bool) (l : List Nat) : Nat := fa_first (fun i => gFree ld l (l.getD i 0)) l.length
def gRm (l : List Nat) (i : Nat) : List Nat := l.take i ++ l.drop (i + 1)
def selS (ld : Nat → Nat → Bool) : Nat → List Nat → List Nat
  | 0, _ => []
  | f + 1, l => l.getD (gAt ld l) 0 :: selS ld f (gRm l (gAt ld l))
/-- there is always one -/
def gSrc (ld : Nat → Nat → Bool) (hs : List Nat) : Prop := ∀ l : List Nat, l ≠ [] → (∀ x, x ∈ l → x ∈ hs) → ∃ h, h ∈ l ∧ gFree ld l h = true
variable {ld : Nat → Nat → Bool} {l hs : List Nat}
theorem gFree_iff {h : Nat} : gFree ld l h = true ↔ ∀ h', h' ∈ l → h' ≠ h → ld h' h = false := by
  unfold gFree
  rw [List.all_eq_true]
  constructor
  · intro z h' hm hne
    have := z h' hm
    rw [Bool.or_eq_true] at this
    rcases this with t | t
    · exact absurd (eq_of_beq t) hne
    · simpa using t
  · intro z h' hm
    by_cases e : h' = h
    · simp [e]
    · simp [z h' hm e]
theorem getD_at {i : Nat} (hi : i < l.length) : l[i]? = some (l.getD i 0) := by
  rw [List.getD_eq_getElem?_getD, List.getElem?_eq_getElem hi]; rfl
theorem gAt_ok (hl : l ≠ []) (hsub : ∀ x, x ∈ l → x ∈ hs) (hsrc : gSrc ld hs) : gAt ld l < l.length ∧ gFree ld l (l.getD (gAt ld l) 0) = true ∧ ∀ i, i < gAt ld l → gFree ld l (l.getD i 0) = false := by
  obtain ⟨h, h1, h2⟩ := hsrc l hl hsub
  obtain ⟨i, hi, e⟩ := List.getElem_of_mem h1
  have h3 : gAt ld l < l.length := by
    refine Classical.byContradiction fun q => ?_
    have := fa_first_no (fun i => gFree ld l (l.getD i 0)) l.length i (show i < gAt ld l by omega)
    have e2 : l.getD i 0 = h := by rw [List.getD_eq_getElem?_getD, List.getElem?_eq_getElem hi, e]; rfl
    rw [e2, h2] at this; cases this
  exact ⟨h3, fa_first_yes (fun i => gFree ld l (l.getD i 0)) l.length h3, fun i hi => fa_first_no (fun i => gFree ld l (l.getD i 0)) l.length i hi⟩
theorem l_split {i : Nat} (hi : i < l.length) : l = l.take i ++ l.getD i 0 :: l.drop (i + 1) := by
  have h1 := List.drop_eq_getElem_cons hi
  have h2 : l.getD i 0 = l[i] := by rw [List.getD_eq_getElem?_getD, List.getElem?_eq_getElem hi]; rfl
  rw [h2, ← h1, List.take_append_drop]
theorem gRm_len {i : Nat} (hi : i < l.length) : (gRm l i).length = l.length - 1 := by
  unfold gRm; rw [List.length_append, List.length_take, List.length_drop]; omega
theorem gRm_at {i : Nat} (hi : i < l.length) (j : Nat) : (gRm l i)[j]? = if j < i then l[j]? else l[j + 1]? := by
  unfold gRm
  by_cases c : j < i
  · rw [if_pos c, List.getElem?_append_left (by rw [List.length_take]; omega), List.getElem?_take, if_pos c]
  · rw [if_neg c, List.getElem?_append_right (by rw [List.length_take]; omega), List.length_take, List.getElem?_drop, show i + 1 + (j - min i l.length) = j + 1 by omega]
theorem gRm_mem {i : Nat} (hi : i < l.length) (hnd : l.Pairwise (fun x y => x < y)) (x : Nat) : x ∈ gRm l i ↔ x ∈ l ∧ x ≠ l.getD i 0 := by
  have hs := l_split hi
  rw [hs] at hnd
  rw [List.pairwise_append, List.pairwise_cons] at hnd
  obtain ⟨-, ⟨p1, -⟩, p2⟩ := hnd
  constructor
  · intro hx
    unfold gRm at hx
    rcases List.mem_append.mp hx with h | h
    · refine ⟨by rw [hs]; exact List.mem_append_left _ h, ?_⟩
      have := p2 x h _ List.mem_cons_self
      omega
    · refine ⟨by rw [hs]; exact List.mem_append_right _ (List.mem_cons_of_mem _ h), ?_⟩
      have := p1 x h
      omega
  · rintro ⟨h1, h2⟩
    rw [hs] at h1
    unfold gRm
    rcases List.mem_append.mp h1 with h | h
    · exact List.mem_append_left _ h
    · rcases List.mem_cons.mp h with h | h
      · exact absurd h h2
      · exact List.mem_append_right _ h
theorem gRm_sorted {i : Nat} (hi : i < l.length) (hnd : l.Pairwise (fun x y => x < y)) : (gRm l i).Pairwise (fun x y => x < y) := by
  have hs := l_split hi
  rw [hs] at hnd
  rw [List.pairwise_append, List.pairwise_cons] at hnd
  obtain ⟨p0, ⟨p1, p3⟩, p2⟩ := hnd
  unfold gRm
  rw [List.pairwise_append]
  exact ⟨p0, p3, fun x hx y hy => p2 x hx y (List.mem_cons_of_mem _ hy)⟩
theorem sel_ok (hsrc : gSrc ld hs) : ∀ (n : Nat) (l : List Nat), l.length = n → l.Pairwise (fun x y => x < y) → (∀ x, x ∈ l → x ∈ hs) → (selS ld n l).length = n ∧ (∀ x, x ∈ selS ld n l ↔ x ∈ l) ∧ (selS ld n l).Pairwise (fun x y => x ≠ y) ∧ (selS ld n l).Pairwise (fun x y => ld y x = false)
  | 0, l, hl, _, _ => by
    have : l = [] := List.eq_nil_of_length_eq_zero hl
    subst this
    exact ⟨rfl, fun x => by unfold selS; exact Iff.rfl, List.Pairwise.nil, List.Pairwise.nil⟩
  | n + 1, l, hl, hsd, hsub => by
    have hne : l ≠ [] := fun z => by rw [z] at hl; cases hl
    obtain ⟨a1, a2, a3⟩ := gAt_ok hne hsub hsrc
    have hm : l.getD (gAt ld l) 0 ∈ l := List.mem_of_getElem? (getD_at a1)
    obtain ⟨b1, b2, b3, b4⟩ := sel_ok hsrc n (gRm l (gAt ld l)) (by rw [gRm_len a1]; omega) (gRm_sorted a1 hsd) (fun x hx => hsub x ((gRm_mem a1 hsd x).mp hx).1)
    unfold selS
    refine ⟨by rw [List.length_cons, b1], fun x => ?_, ?_, ?_⟩
    · rw [List.mem_cons, b2, gRm_mem a1 hsd]
      constructor
      · rintro (h | h)
        · rw [h]; exact hm
        · exact h.1
      · intro h
        by_cases e : x = l.getD (gAt ld l) 0
        · exact Or.inl e
        · exact Or.inr ⟨h, e⟩
    · rw [List.pairwise_cons]
      refine ⟨fun y hy e => ?_, b3⟩
      rw [b2, gRm_mem a1 hsd] at hy
      exact hy.2 e.symm
    · rw [List.pairwise_cons]
      refine ⟨fun y hy => ?_, b4⟩
      rw [b2, gRm_mem a1 hsd] at hy
      exact gFree_iff.mp a2 y hy.1 hy.2
theorem sd_inj (h : l.Pairwise (fun x y => x < y)) {i j : Nat} (hi : i < l.length) (hj : j < l.length) (e : l.getD i 0 = l.getD j 0) : i = j := by
  have h1 : l.getD i 0 = l[i] := by rw [List.getD_eq_getElem?_getD, List.getElem?_eq_getElem hi]; rfl
  have h2 : l.getD j 0 = l[j] := by rw [List.getD_eq_getElem?_getD, List.getElem?_eq_getElem hj]; rfl
  rw [h1, h2] at e
  rcases Nat.lt_trichotomy i j with q | q | q
  · have := List.pairwise_iff_getElem.mp h i j hi hj q; omega
  · exact q
  · have := List.pairwise_iff_getElem.mp h j i hj hi q; omega
/-- the heads that a HEAD function names, ascending -/
def gHs (hd : Nat → Nat) (n : Nat) (P : Nat → Bool) : List Nat := (List.range n).filter (fun t => P t && decide (hd t = t))
theorem gHs_sorted {hd : Nat → Nat} {n : Nat} {P : Nat → Bool} : (gHs hd n P).Pairwise (fun x y => x < y) := by
  unfold gHs; exact List.Pairwise.filter _ List.pairwise_lt_range
theorem gHs_mem {hd : Nat → Nat} {n : Nat} {P : Nat → Bool} {t : Nat} : t ∈ gHs hd n P ↔ t < n ∧ P t = true ∧ hd t = t := by
  unfold gHs; rw [List.mem_filter, List.mem_range, Bool.and_eq_true, decide_eq_true_eq]
/-- an arrow leads from the group of the head h to that of h' -/
def ldH (S : gS) (hd : Nat → Nat) (h h' : Nat) : Bool := decide (fa_first (fun i => decide (hd (sFr S i) = h ∧ hd (sTo S i) = h')) (sM S) < sM S)
theorem ldH_iff {S : gS} {hd : Nat → Nat} {h h' : Nat} : ldH S hd h h' = true ↔ ∃ i, i < sM S ∧ hd (sFr S i) = h ∧ hd (sTo S i) = h' := by
  unfold ldH
  rw [decide_eq_true_eq]
  constructor
  · intro z
    exact ⟨_, z, of_decide_eq_true (fa_first_yes (fun i => decide (hd (sFr S i) = h ∧ hd (sTo S i) = h')) (sM S) z)⟩
  · intro ⟨i, h1, h2⟩
    refine Classical.byContradiction fun z => ?_
    have := fa_first_no (fun i => decide (hd (sFr S i) = h ∧ hd (sTo S i) = h')) (sM S) i (by omega)
    rw [decide_eq_true h2] at this; cases this
end SE
section SR
variable {M : gMem} {S : gS} {hd : Nat → Nat} {ld : Nat → Nat → Bool} {hs : List Nat}
theorem rs_ldH (hA : RA (M.1 1) S) (hH : RH (M.1 1) (sN S) hd) {h h' : Nat} : fX11_leads (mkS (fun v => decide (v < sN S ∧ hd v = h))) (mkS (fun v => decide (v < sN S ∧ hd v = h'))) M = some (ib (ldH S hd h h')) := by
  have hn := hH.2.1
  rw [r_leads hA]
  unfold ldH
  congr 2
  have hc : fa_first (fun i => bt (mkS (fun v => decide (v < sN S ∧ hd v = h))) (sFr S i) && bt (mkS (fun v => decide (v < sN S ∧ hd v = h'))) (sTo S i)) (sM S) = fa_first (fun i => decide (hd (sFr S i) = h ∧ hd (sTo S i) = h')) (sM S) := fa_first_cg fun i hi => by
    obtain ⟨-, -, b1, b2⟩ := hA.2.2.2.2 i hi
    rw [mkS_bt (by omega), mkS_bt (by omega)]
    simp [b1, b2]
  rw [hc]
/-- the reference's heads from k on -/
def HW (M : gMem) (k : Nat) (l : List Nat) : Prop := ∀ j x, l[j]? = some x → M.1 11 (k + j) = nI x
theorem rs_isBehind (hA : RA (M.1 1) S) (hH : RH (M.1 1) (sN S) hd) {k : Nat} {l : List Nat} (hW : HW M k l) (hl : k + l.length ≤ 24) (hb : ∀ x, x ∈ l → x < 24) (hsd : l.Pairwise (fun x y => x < y)) {i : Nat} (hi : i < l.length) : fX11_isBehind (nI (k + i)) (nI k) (nI (k + l.length)) M = some (ib (!gFree (ldH S hd) l (l.getD i 0))) := by
  have hget : ∀ {j : Nat}, j < l.length → M.1 11 (k + j) = nI (l.getD j 0) ∧ l.getD j 0 < 24 := fun {j} hj => ⟨hW j _ (getD_at hj), hb _ (List.mem_of_getElem? (getD_at hj))⟩
  generalize hq : fa_first (fun j => !decide (j = i) && ldH S hd (l.getD j 0) (l.getD i 0)) l.length = q
  have hle : q ≤ l.length := hq ▸ fa_first_le _ _
  obtain ⟨gi1, gi2⟩ := hget hi
  have hstep : ∀ j, j < q → fX11_isBehind_l3 (nI (k + i)) (nI (k + l.length)) M (nI (k + j)) = some (.inl (nI (k + (j + 1)))) := fun j hj => by
    have hno := fa_first_no (fun j => !decide (j = i) && ldH S hd (l.getD j 0) (l.getD i 0)) l.length j (by rw [hq]; exact hj)
    obtain ⟨gj1, gj2⟩ := hget (show j < l.length by omega)
    by_cases e : j = i
    · rw [e]
      simp (disch := omega) only [p_bnd, p_nm, p_gSEl, p_gSEr, p_l0, p_l1, p_l2, p_l3, p_l4, p_l5, p_l6, p_l7, p_l8, p_l9, p_l10, p_l14, p_l16, p_l20, p_l22, p_l24, p_l30, p_l31, p_l32, p_l38, p_l40, p_l41, p_l43, p_l48, p_l57, p_l59, p_l60, p_l61, p_l62, p_l63, p_l97, p_l98, p_l101, p_l122, p_l158, p_l201, p_l255, p_l256, p_l374, p_l880, p_l900, p_l1000, p_l2618, p_neg, nI_add, p_mul, p_sub, p_addm, p_addm0, p_subm, p_le, p_lt, p_eq, p_mO_eq, p_eq_mO, p_mO_lt, p_nlt_mO, p_mO_le, p_le_mO, p_rI, p_rL, p_wI, p_wL, p_wF, p_has10, p_has11, p_ib0, p_ib1, p_shl1, p_zv0, p_zv1, p_zvib, p_ibd, p_ibn, if_pos, if_neg, if_true, if_false, ne_eq, not_true, not_false_iff, Decidable.not_not, Nat.not_lt, Nat.not_le, Bool.true_eq_false, Bool.false_eq_true, eq_self, reduceIte, Nat.reduceAdd, Nat.reduceMul, Nat.reduceSub, Nat.reduceEqDiff, Nat.reduceLT, Nat.reduceLeDiff, reduceCtorEq, fX11_isBehind_l3, fX11_isBehind_b45, Nat.add_assoc]
    · have hno2 : ldH S hd (l.getD j 0) (l.getD i 0) = false := by simpa [e] using hno
      simp (disch := omega) only [p_bnd, p_nm, p_gSEl, p_gSEr, p_l0, p_l1, p_l2, p_l3, p_l4, p_l5, p_l6, p_l7, p_l8, p_l9, p_l10, p_l14, p_l16, p_l20, p_l22, p_l24, p_l30, p_l31, p_l32, p_l38, p_l40, p_l41, p_l43, p_l48, p_l57, p_l59, p_l60, p_l61, p_l62, p_l63, p_l97, p_l98, p_l101, p_l122, p_l158, p_l201, p_l255, p_l256, p_l374, p_l880, p_l900, p_l1000, p_l2618, p_neg, nI_add, p_mul, p_sub, p_addm, p_addm0, p_subm, p_le, p_lt, p_eq, p_mO_eq, p_eq_mO, p_mO_lt, p_nlt_mO, p_mO_le, p_le_mO, p_rI, p_rL, p_wI, p_wL, p_wF, p_has10, p_has11, p_ib0, p_ib1, p_shl1, p_zv0, p_zv1, p_zvib, p_ibd, p_ibn, if_pos, if_neg, if_true, if_false, ne_eq, not_true, not_false_iff, Decidable.not_not, Nat.not_lt, Nat.not_le, Bool.true_eq_false, Bool.false_eq_true, eq_self, reduceIte, Nat.reduceAdd, Nat.reduceMul, Nat.reduceSub, Nat.reduceEqDiff, Nat.reduceLT, Nat.reduceLeDiff, reduceCtorEq, fX11_isBehind_l3, fX11_isBehind_b45, gj1, gi1, r_members hH gj2, r_members hH gi2, rs_ldH hA hH, hno2, Nat.add_assoc]
  rcases Nat.lt_or_ge q l.length with c | c
  · have hy := fa_first_yes (fun j => !decide (j = i) && ldH S hd (l.getD j 0) (l.getD i 0)) l.length (by rw [hq]; exact c)
    rw [hq, Bool.and_eq_true] at hy
    have hqi : ¬ q = i := by simpa using hy.1
    obtain ⟨gj1, gj2⟩ := hget c
    have e := gLoop_f (body := fun z9 => fX11_isBehind_l3 (nI (k + i)) (nI (k + l.length)) M z9) (fun j => nI (k + j)) (r := .inr (nI 1)) q gFu (by show q < 4096; omega) hstep (by
      simp (disch := omega) only [p_bnd, p_nm, p_gSEl, p_gSEr, p_l0, p_l1, p_l2, p_l3, p_l4, p_l5, p_l6, p_l7, p_l8, p_l9, p_l10, p_l14, p_l16, p_l20, p_l22, p_l24, p_l30, p_l31, p_l32, p_l38, p_l40, p_l41, p_l43, p_l48, p_l57, p_l59, p_l60, p_l61, p_l62, p_l63, p_l97, p_l98, p_l101, p_l122, p_l158, p_l201, p_l255, p_l256, p_l374, p_l880, p_l900, p_l1000, p_l2618, p_neg, nI_add, p_mul, p_sub, p_addm, p_addm0, p_subm, p_le, p_lt, p_eq, p_mO_eq, p_eq_mO, p_mO_lt, p_nlt_mO, p_mO_le, p_le_mO, p_rI, p_rL, p_wI, p_wL, p_wF, p_has10, p_has11, p_ib0, p_ib1, p_shl1, p_zv0, p_zv1, p_zvib, p_ibd, p_ibn, if_pos, if_neg, if_true, if_false, ne_eq, not_true, not_false_iff, Decidable.not_not, Nat.not_lt, Nat.not_le, Bool.true_eq_false, Bool.false_eq_true, eq_self, reduceIte, Nat.reduceAdd, Nat.reduceMul, Nat.reduceSub, Nat.reduceEqDiff, Nat.reduceLT, Nat.reduceLeDiff, reduceCtorEq, fX11_isBehind_l3, gj1, gi1, r_members hH gj2, r_members hH gi2, rs_ldH hA hH, hy.2])
    have hf : gFree (ldH S hd) l (l.getD i 0) = false := by
      rw [← Bool.not_eq_true, gFree_iff]
      intro z
      have h : l.getD q 0 ≠ l.getD i 0 := fun h => hqi (sd_inj hsd c hi h)
      rw [z _ (List.mem_of_getElem? (getD_at c)) h] at hy; cases hy.2
    unfold fX11_isBehind
    show (gLoop (fun z9 => fX11_isBehind_l3 (nI (k + i)) (nI (k + l.length)) M z9) gFu ((fun j => nI (k + j)) 0)).bind _ = _
    rw [e, hf]; rfl
  · have hq2 : q = l.length := by omega
    have e := gLoop_f (body := fun z9 => fX11_isBehind_l3 (nI (k + i)) (nI (k + l.length)) M z9) (fun j => nI (k + j)) (r := .inl ()) q gFu (by show q < 4096; omega) hstep (by rw [hq2]; simp (disch := omega) only [p_bnd, p_nm, p_gSEl, p_gSEr, p_l0, p_l1, p_l2, p_l3, p_l4, p_l5, p_l6, p_l7, p_l8, p_l9, p_l10, p_l14, p_l16, p_l20, p_l22, p_l24, p_l30, p_l31, p_l32, p_l38, p_l40, p_l41, p_l43, p_l48, p_l57, p_l59, p_l60, p_l61, p_l62, p_l63, p_l97, p_l98, p_l101, p_l122, p_l158, p_l201, p_l255, p_l256, p_l374, p_l880, p_l900, p_l1000, p_l2618, p_neg, nI_add, p_mul, p_sub, p_addm, p_addm0, p_subm, p_le, p_lt, p_eq, p_mO_eq, p_eq_mO, p_mO_lt, p_nlt_mO, p_mO_le, p_le_mO, p_rI, p_rL, p_wI, p_wL, p_wF, p_has10, p_has11, p_ib0, p_ib1, p_shl1, p_zv0, p_zv1, p_zvib, p_ibd, p_ibn, if_pos, if_neg, if_true, if_false, ne_eq, not_true, not_false_iff, Decidable.not_not, Nat.not_lt, Nat.not_le, Bool.true_eq_false, Bool.false_eq_true, eq_self, reduceIte, Nat.reduceAdd, Nat.reduceMul, Nat.reduceSub, Nat.reduceEqDiff, Nat.reduceLT, Nat.reduceLeDiff, reduceCtorEq, fX11_isBehind_l3])
    have hf : gFree (ldH S hd) l (l.getD i 0) = true := by
      rw [gFree_iff]
      intro h' hm hne
      obtain ⟨j, hj, ej⟩ := List.getElem_of_mem hm
      have ej2 : l.getD j 0 = h' := by rw [List.getD_eq_getElem?_getD, List.getElem?_eq_getElem hj, ej]; rfl
      have := fa_first_no (fun j => !decide (j = i) && ldH S hd (l.getD j 0) (l.getD i 0)) l.length j (by rw [hq]; omega)
      rw [ej2] at this
      have hji : ¬ j = i := fun z => hne (by rw [← ej2, z])
      simpa [hji] using this
    unfold fX11_isBehind
    show (gLoop (fun z9 => fX11_isBehind_l3 (nI (k + i)) (nI (k + l.length)) M z9) gFu ((fun j => nI (k + j)) 0)).bind _ = _
    rw [e, hf]; rfl
end SR
