/-! AN ARROW GOES: the state with one arrow less; both sides -/
def dnN (f : Nat → Nat) (a k : Nat) : Nat := f (if k < a then k else k + 1)
def sLess (S : gS) (a : Nat) : gS := (upN S.1 1 (sM S - 1), dnN (sFr S) a, dnN (sTo S) a, sPl S, sHr S, sAc S, sNm S)
section LS
variable {M : gMem} {S : gS} {t a g : Nat} {ac pl : Nat → Nat}
theorem sLess_n : sN (sLess S a) = sN S := rfl
theorem sLess_m : sM (sLess S a) = sM S - 1 := rfl
theorem sLess_fr : sFr (sLess S a) = dnN (sFr S) a := rfl
theorem sLess_to : sTo (sLess S a) = dnN (sTo S) a := rfl
theorem sLess_X (ha : a < sM S) {u v : Nat} : sE (sLess S a) u v ↔ sX S a u v := by
  constructor
  · rintro ⟨i, hi, e1, e2⟩
    rw [sLess_m] at hi
    rw [sLess_fr] at e1
    rw [sLess_to] at e2
    unfold dnN at e1 e2
    by_cases c : i < a
    · rw [if_pos c] at e1 e2; exact ⟨i, by omega, by omega, e1, e2⟩
    · rw [if_neg c] at e1 e2; exact ⟨i + 1, by omega, by omega, e1, e2⟩
  · rintro ⟨i, hi, hne, e1, e2⟩
    by_cases c : i < a
    · refine ⟨i, by rw [sLess_m]; omega, ?_, ?_⟩
      · rw [sLess_fr]; unfold dnN; rw [if_pos c]; exact e1
      · rw [sLess_to]; unfold dnN; rw [if_pos c]; exact e2
    · refine ⟨i - 1, by rw [sLess_m]; omega, ?_, ?_⟩
      · rw [sLess_fr]; unfold dnN; rw [if_neg (by omega), show i - 1 + 1 = i by omega]; exact e1
      · rw [sLess_to]; unfold dnN; rw [if_neg (by omega), show i - 1 + 1 = i by omega]; exact e2
theorem sLess_E (h : sW1 S) (ha : a < sM S) {u v : Nat} : sE (sLess S a) u v ↔ sE S u v ∧ ¬ (u = sFr S a ∧ v = sTo S a) := by
  rw [sLess_X ha]
  constructor
  · rintro ⟨i, hi, hne, rfl, rfl⟩
    exact ⟨⟨i, hi, rfl, rfl⟩, fun z => hne (h.2 i a hi ha z.1 z.2)⟩
  · rintro ⟨⟨i, hi, rfl, rfl⟩, hno⟩
    exact ⟨i, hi, fun e => hno (by rw [e]; exact ⟨rfl, rfl⟩), rfl, rfl⟩
theorem sLess_R (h : sW1 S) (ha : a < sM S) {u v : Nat} : sR (sLess S a) u v ↔ gRc (fun u v => sE S u v ∧ ¬ (u = sFr S a ∧ v = sTo S a)) u v := gRc.cong fun _ _ => sLess_E h ha
theorem sLess_sub (h : sW1 S) (ha : a < sM S) {u v : Nat} (e : sR (sLess S a) u v) : sR S u v := gRc.mono (fun _ _ z => ((sLess_E h ha).mp z).1) e
theorem sLess_W1 (h : sW1 S) (ha : a < sM S) : sW1 (sLess S a) := by
  refine ⟨fun i hi => ?_, fun i j hi hj e1 e2 => ?_⟩
  · rw [sLess_m] at hi
    rw [sLess_fr, sLess_to, sLess_n]
    exact h.1 _ (by split <;> omega)
  · rw [sLess_m] at hi hj
    rw [sLess_fr] at e1
    rw [sLess_to] at e2
    have e := h.2 _ _ (show (if i < a then i else i + 1) < sM S by split <;> omega) (show (if j < a then j else j + 1) < sM S by split <;> omega) e1 e2
    by_cases c : i < a <;> by_cases d : j < a <;> simp only [c, d, if_true, if_false] at e <;> omega
/-- an arrow between two groups: the groups stay -/
theorem sLess_W (h : sW S) (ha : a < sM S) (hin : sIn S a = false) : sW (sLess S a) := by
  obtain ⟨w0, w1, w2, w3, w4⟩ := h
  have hin : ¬ sPl S (sFr S a) = sPl S (sTo S a) := of_decide_eq_false hin
  refine ⟨⟨w0.1, Nat.le_trans (Nat.sub_le _ _) w0.2.1, w0.2.2⟩, sLess_W1 w1 ha, w2, ⟨fun i hi => ?_, fun x u hx hu e => ?_⟩, w4⟩
  · rw [sLess_m] at hi
    rw [sLess_fr, sLess_to]
    exact w3.1 _ (by split <;> omega)
  · have hr := w3.2 x u hx hu e
    refine gRc.ind (E := sE S) (fun x => sPl S x = sPl S u → sR (sLess S a) x u) (fun _ => gRc.rf) (fun x y h1 h2 ih e => ?_) hr e
    have l1 := sE.pl w3 h1
    have l2 : sPl S y ≤ sPl S u := sR.pl w3 h2
    refine gRc.cons ((sLess_E w1 ha).mpr ⟨h1, fun z => hin ?_⟩) (ih (by omega))
    rw [← z.1, ← z.2]; omega
/-- the reference -/
theorem rs_takesAway {m : Nat} (h1 : M.1 1 1 = nI m) (hm : m ≤ 60) (ha : a < m) :
    ∃ q, fX11_takesAway (nI a) M = some q ∧ gFr (fun c k => c = 1 ∧ (k = 1 ∨ (38 ≤ k ∧ k < 158))) M q ∧ q.1 1 1 = nI (m - 1) ∧ ∀ i, i < m - 1 → q.1 1 (38 + i) = M.1 1 (38 + (if i < a then i else i + 1)) ∧ q.1 1 (98 + i) = M.1 1 (98 + (if i < a then i else i + 1)) := by
  obtain ⟨q, e, F, q1, I⟩ : ∃ q, gLoop (fun z9 => fX11_takesAway_l12 z9.1 z9.2) gFu (nI a, gI M 1 1 (nI (m - 1))) = some q ∧ gFr (fun c k => c = 1 ∧ (k = 1 ∨ (38 ≤ k ∧ k < 158))) M q ∧ q.1 1 1 = nI (m - 1) ∧ ∀ i, i < m - 1 → q.1 1 (38 + i) = M.1 1 (38 + (if i < a then i else i + 1)) ∧ q.1 1 (98 + i) = M.1 1 (98 + (if i < a then i else i + 1)) := by
    refine gLoop_i (fun k s => ∃ M', s = (nI (a + k), M') ∧ gFr (fun c k => c = 1 ∧ (k = 1 ∨ (38 ≤ k ∧ k < 158))) M M' ∧ M'.1 1 1 = nI (m - 1) ∧ ∀ i, i < m → M'.1 1 (38 + i) = M.1 1 (38 + (if i < a ∨ a + k ≤ i then i else i + 1)) ∧ M'.1 1 (98 + i) = M.1 1 (98 + (if i < a ∨ a + k ≤ i then i else i + 1))) _ (m - 1 - a) ⟨_, rfl, gFr_I ⟨rfl, Or.inl rfl⟩, p_gI_s _ _ _ _, fun i hi => ?_⟩ (by show m - 1 - a < 4096; omega) ?_
    · rw [if_pos (show i < a ∨ a + 0 ≤ i by omega), p_gI_n (Or.inr (by omega)), p_gI_n (Or.inr (by omega))]
      exact ⟨rfl, rfl⟩
    rintro k s hk ⟨M', rfl, hF, h1', hI⟩
    rcases Nat.lt_or_ge (a + k) (m - 1) with q | q
    · refine Or.inl ⟨(nI (a + (k + 1)), gI (gI M' 1 (38 + (a + k)) (M'.1 1 (38 + (a + (k + 1))))) 1 (98 + (a + k)) (M'.1 1 (98 + (a + (k + 1))))), ?_, by omega, _, rfl, gFr_trI (gFr_trI hF ⟨rfl, Or.inr ⟨by omega, by omega⟩⟩) ⟨rfl, Or.inr ⟨by omega, by omega⟩⟩, by rw [p_gI_n (Or.inr (by omega)), p_gI_n (Or.inr (by omega))]; exact h1', fun i hi => ?_⟩
      · simp (disch := omega) only [p_bnd, p_nm, p_gSEl, p_gSEr, p_l0, p_l1, p_l2, p_l3, p_l4, p_l5, p_l6, p_l7, p_l8, p_l9, p_l10, p_l14, p_l16, p_l20, p_l22, p_l24, p_l30, p_l31, p_l32, p_l38, p_l40, p_l41, p_l43, p_l48, p_l57, p_l59, p_l60, p_l61, p_l62, p_l63, p_l97, p_l98, p_l101, p_l122, p_l158, p_l201, p_l255, p_l256, p_l374, p_l880, p_l900, p_l1000, p_l2618, p_neg, nI_add, p_mul, p_sub, p_addm, p_addm0, p_subm, p_le, p_lt, p_eq, p_mO_eq, p_eq_mO, p_mO_lt, p_nlt_mO, p_mO_le, p_le_mO, p_rI, p_rL, p_wI, p_wL, p_wF, p_has10, p_has11, p_ib0, p_ib1, p_shl1, p_zv0, p_zv1, p_zvib, p_ibd, p_ibn, if_pos, if_neg, if_true, if_false, ne_eq, not_true, not_false_iff, Decidable.not_not, Nat.not_lt, Nat.not_le, Bool.true_eq_false, Bool.false_eq_true, eq_self, reduceIte, Nat.reduceAdd, Nat.reduceMul, Nat.reduceSub, Nat.reduceEqDiff, Nat.reduceLT, Nat.reduceLeDiff, reduceCtorEq, fX11_takesAway_l12, h1', Nat.add_assoc]
        rw [p_gI_n (Or.inr (by omega))]
      · obtain ⟨j1, j2⟩ := hI i hi
        obtain ⟨l1, l2⟩ := hI (a + (k + 1)) (by omega)
        rw [if_pos (show a + (k + 1) < a ∨ a + k ≤ a + (k + 1) by omega)] at l1 l2
        by_cases c : i = a + k
        · rw [if_neg (show ¬ (i < a ∨ a + (k + 1) ≤ i) by omega), c, p_gI_n (Or.inr (by omega)), p_gI_s, p_gI_s, l1, l2]
          exact ⟨rfl, rfl⟩
        · have e9 : (if i < a ∨ a + (k + 1) ≤ i then i else i + 1) = (if i < a ∨ a + k ≤ i then i else i + 1) := by
            by_cases d : i < a ∨ a + k ≤ i
            · rw [if_pos d, if_pos (show i < a ∨ a + (k + 1) ≤ i by omega)]
            · rw [if_neg d, if_neg (show ¬ (i < a ∨ a + (k + 1) ≤ i) by omega)]
          rw [e9, p_gI_n (Or.inr (by omega)), p_gI_n (Or.inr (by omega)), p_gI_n (Or.inr (by omega)), p_gI_n (Or.inr (by omega))]
          exact ⟨j1, j2⟩
    · refine Or.inr ⟨M', by simp (disch := omega) only [p_bnd, p_nm, p_gSEl, p_gSEr, p_l0, p_l1, p_l2, p_l3, p_l4, p_l5, p_l6, p_l7, p_l8, p_l9, p_l10, p_l14, p_l16, p_l20, p_l22, p_l24, p_l30, p_l31, p_l32, p_l38, p_l40, p_l41, p_l43, p_l48, p_l57, p_l59, p_l60, p_l61, p_l62, p_l63, p_l97, p_l98, p_l101, p_l122, p_l158, p_l201, p_l255, p_l256, p_l374, p_l880, p_l900, p_l1000, p_l2618, p_neg, nI_add, p_mul, p_sub, p_addm, p_addm0, p_subm, p_le, p_lt, p_eq, p_mO_eq, p_eq_mO, p_mO_lt, p_nlt_mO, p_mO_le, p_le_mO, p_rI, p_rL, p_wI, p_wL, p_wF, p_has10, p_has11, p_ib0, p_ib1, p_shl1, p_zv0, p_zv1, p_zvib, p_ibd, p_ibn, if_pos, if_neg, if_true, if_false, ne_eq, not_true, not_false_iff, Decidable.not_not, Nat.not_lt, Nat.not_le, Bool.true_eq_false, Bool.false_eq_true, eq_self, reduceIte, Nat.reduceAdd, Nat.reduceMul, Nat.reduceSub, Nat.reduceEqDiff, Nat.reduceLT, Nat.reduceLeDiff, reduceCtorEq, fX11_takesAway_l12, h1'], hF, h1', fun i hi => ?_⟩
      obtain ⟨j1, j2⟩ := hI i (by omega)
      have e9 : (if i < a then i else i + 1) = (if i < a ∨ a + k ≤ i then i else i + 1) := by
        by_cases d : i < a
        · rw [if_pos d, if_pos (Or.inl d)]
        · rw [if_neg d, if_neg (show ¬ (i < a ∨ a + k ≤ i) by omega)]
      rw [e9]; exact ⟨j1, j2⟩
  refine ⟨q, ?_, F, q1, I⟩
  unfold fX11_takesAway
  simp (disch := omega) only [p_bnd, p_nm, p_gSEl, p_gSEr, p_l0, p_l1, p_l2, p_l3, p_l4, p_l5, p_l6, p_l7, p_l8, p_l9, p_l10, p_l14, p_l16, p_l20, p_l22, p_l24, p_l30, p_l31, p_l32, p_l38, p_l40, p_l41, p_l43, p_l48, p_l57, p_l59, p_l60, p_l61, p_l62, p_l63, p_l97, p_l98, p_l101, p_l122, p_l158, p_l201, p_l255, p_l256, p_l374, p_l880, p_l900, p_l1000, p_l2618, p_neg, nI_add, p_mul, p_sub, p_addm, p_addm0, p_subm, p_le, p_lt, p_eq, p_mO_eq, p_eq_mO, p_mO_lt, p_nlt_mO, p_mO_le, p_le_mO, p_rI, p_rL, p_wI, p_wL, p_wF, p_has10, p_has11, p_ib0, p_ib1, p_shl1, p_zv0, p_zv1, p_zvib, p_ibd, p_ibn, if_pos, if_neg, if_true, if_false, ne_eq, not_true, not_false_iff, Decidable.not_not, Nat.not_lt, Nat.not_le, Bool.true_eq_false, Bool.false_eq_true, eq_self, reduceIte, Nat.reduceAdd, Nat.reduceMul, Nat.reduceSub, Nat.reduceEqDiff, Nat.reduceLT, Nat.reduceLeDiff, reduceCtorEq, h1, e]
theorem rr_less (h : RR (M.1 1) S) (hm : sM S ≤ 60) (ha : a < sM S) (hn : sN S ≤ 24) (hg : sG S ≤ 24) :
    ∃ q, fX11_takesAway (nI a) M = some q ∧ gFr (fun c k => c = 1 ∧ (k = 1 ∨ (38 ≤ k ∧ k < 158))) M q ∧ RR (q.1 1) (sLess S a) := by
  obtain ⟨q, e, F, q1, I⟩ := rs_takesAway (M := M) (a := a) h.1.2.1 hm ha
  have o : ∀ k, k ≠ 1 → (k < 38 ∨ 158 ≤ k) → q.1 1 k = M.1 1 k := fun k k1 k2 => (F 1 k (by omega)).1
  obtain ⟨⟨a0, a1, a2, a3, a4⟩, b, c, d, f⟩ := h
  refine ⟨q, e, F, ⟨⟨?_, q1, ?_, ?_, ?_⟩, fun a ha => ?_, fun p hp => ?_, fun i hi => ?_, fun u hu => ?_⟩⟩
  · rw [o 0 (by omega) (by omega)]; exact a0
  · rw [o 2 (by omega) (by omega)]; exact a2
  · rw [o 3 (by omega) (by omega)]; exact a3
  · rw [o 4 (by omega) (by omega)]; exact a4
  · rw [o _ (by omega) (by omega)]; exact b a ha
  · have hp : p < sG S := hp
    rw [o _ (by omega) (by omega)]; exact c p hp
  · rw [sLess_m] at hi
    obtain ⟨i1, i2⟩ := I i hi
    have := d (if i < a then i else i + 1) (by split <;> omega)
    rw [i1, i2]; exact this
  · have hu : u < sN S := hu
    obtain ⟨f1, f2, f3, f4⟩ := f u hu
    refine ⟨?_, ?_, ?_, fun k hk => ?_⟩
    · rw [o _ (by omega) (by omega)]; exact f1
    · rw [o _ (by omega) (by omega)]; exact f2
    · rw [o _ (by omega) (by omega)]; exact f3
    · rw [o _ (by omega) (by omega)]; exact f4 k hk
/-- the class -/
theorem cd_loop {m : Nat} (h10 : M.1 t 10 = nI m) (hm : m ≤ 60) (ha : a < m) :
    ∃ q, gLoop (fun z9 => fX2_dropArrow_l28 t z9.1 z9.2) gFu (nI (a + 1), M) = some q ∧ gFr (fun c _ => c = t + 3 ∨ c = t + 4) M q ∧ ∀ i, i < m - 1 → q.1 (t + 3) i = M.1 (t + 3) (if i < a then i else i + 1) ∧ q.1 (t + 4) i = M.1 (t + 4) (if i < a then i else i + 1) := by
  refine gLoop_i (fun k s => ∃ M', s = (nI (a + k + 1), M') ∧ gFr (fun c _ => c = t + 3 ∨ c = t + 4) M M' ∧ ∀ i, i < m → M'.1 (t + 3) i = M.1 (t + 3) (if i < a ∨ a + k ≤ i then i else i + 1) ∧ M'.1 (t + 4) i = M.1 (t + 4) (if i < a ∨ a + k ≤ i then i else i + 1)) _ (m - 1 - a) ⟨M, rfl, gFr_rf, fun i hi => ?_⟩ (by show m - 1 - a < 4096; omega) ?_
  · rw [if_pos (show i < a ∨ a + 0 ≤ i by omega)]; exact ⟨rfl, rfl⟩
  rintro k s hk ⟨M', rfl, hF, hI⟩
  have ht : M'.1 t = M.1 t := gFr_c1 hF (fun _ => by omega)
  rcases Nat.lt_or_ge (a + k + 1) m with q | q
  · refine Or.inl ⟨(nI (a + k + 1 + 1), gI (gI M' (t + 3) (a + k) (M'.1 (t + 3) (a + k + 1))) (t + 4) (a + k) (M'.1 (t + 4) (a + k + 1))), ?_, by omega, _, rfl, gFr_trI (gFr_trI hF (Or.inl rfl)) (Or.inr rfl), fun i hi => ?_⟩
    · simp (disch := omega) only [p_bnd, p_nm, p_gSEl, p_gSEr, p_l0, p_l1, p_l2, p_l3, p_l4, p_l5, p_l6, p_l7, p_l8, p_l9, p_l10, p_l14, p_l16, p_l20, p_l22, p_l24, p_l30, p_l31, p_l32, p_l38, p_l40, p_l41, p_l43, p_l48, p_l57, p_l59, p_l60, p_l61, p_l62, p_l63, p_l97, p_l98, p_l101, p_l122, p_l158, p_l201, p_l255, p_l256, p_l374, p_l880, p_l900, p_l1000, p_l2618, p_neg, nI_add, p_mul, p_sub, p_addm, p_addm0, p_subm, p_le, p_lt, p_eq, p_mO_eq, p_eq_mO, p_mO_lt, p_nlt_mO, p_mO_le, p_le_mO, p_rI, p_rL, p_wI, p_wL, p_wF, p_has10, p_has11, p_ib0, p_ib1, p_shl1, p_zv0, p_zv1, p_zvib, p_ibd, p_ibn, if_pos, if_neg, if_true, if_false, ne_eq, not_true, not_false_iff, Decidable.not_not, Nat.not_lt, Nat.not_le, Bool.true_eq_false, Bool.false_eq_true, eq_self, reduceIte, Nat.reduceAdd, Nat.reduceMul, Nat.reduceSub, Nat.reduceEqDiff, Nat.reduceLT, Nat.reduceLeDiff, reduceCtorEq, fX2_dropArrow_l28, ht, h10, Nat.add_sub_cancel]
      rw [p_gI_n (Or.inl (by omega))]
    · obtain ⟨j1, j2⟩ := hI i hi
      obtain ⟨l1, l2⟩ := hI (a + k + 1) q
      rw [if_pos (show a + k + 1 < a ∨ a + k ≤ a + k + 1 by omega)] at l1 l2
      by_cases c : i = a + k
      · rw [if_neg (show ¬ (i < a ∨ a + (k + 1) ≤ i) by omega), c, p_gI_n (Or.inl (by omega)), p_gI_s, p_gI_s, l1, l2]
        exact ⟨rfl, rfl⟩
      · have e9 : (if i < a ∨ a + (k + 1) ≤ i then i else i + 1) = (if i < a ∨ a + k ≤ i then i else i + 1) := by
          by_cases d : i < a ∨ a + k ≤ i
          · rw [if_pos d, if_pos (show i < a ∨ a + (k + 1) ≤ i by omega)]
          · rw [if_neg d, if_neg (show ¬ (i < a ∨ a + (k + 1) ≤ i) by omega)]
        rw [e9, p_gI_n (Or.inr (by omega)), p_gI_n (Or.inr (by omega)), p_gI_n (Or.inr (by omega)), p_gI_n (Or.inr (by omega))]
        exact ⟨j1, j2⟩
  · refine Or.inr ⟨M', by simp (disch := omega) only [p_bnd, p_nm, p_gSEl, p_gSEr, p_l0, p_l1, p_l2, p_l3, p_l4, p_l5, p_l6, p_l7, p_l8, p_l9, p_l10, p_l14, p_l16, p_l20, p_l22, p_l24, p_l30, p_l31, p_l32, p_l38, p_l40, p_l41, p_l43, p_l48, p_l57, p_l59, p_l60, p_l61, p_l62, p_l63, p_l97, p_l98, p_l101, p_l122, p_l158, p_l201, p_l255, p_l256, p_l374, p_l880, p_l900, p_l1000, p_l2618, p_neg, nI_add, p_mul, p_sub, p_addm, p_addm0, p_subm, p_le, p_lt, p_eq, p_mO_eq, p_eq_mO, p_mO_lt, p_nlt_mO, p_mO_le, p_le_mO, p_rI, p_rL, p_wI, p_wL, p_wF, p_has10, p_has11, p_ib0, p_ib1, p_shl1, p_zv0, p_zv1, p_zvib, p_ibd, p_ibn, if_pos, if_neg, if_true, if_false, ne_eq, not_true, not_false_iff, Decidable.not_not, Nat.not_lt, Nat.not_le, Bool.true_eq_false, Bool.false_eq_true, eq_self, reduceIte, Nat.reduceAdd, Nat.reduceMul, Nat.reduceSub, Nat.reduceEqDiff, Nat.reduceLT, Nat.reduceLeDiff, reduceCtorEq, fX2_dropArrow_l28, ht, h10], hF, fun i hi => ?_⟩
    obtain ⟨j1, j2⟩ := hI i (by omega)
    have e9 : (if i < a then i else i + 1) = (if i < a ∨ a + k ≤ i then i else i + 1) := by
      by_cases d : i < a
      · rw [if_pos d, if_pos (Or.inl d)]
      · rw [if_neg d, if_neg (show ¬ (i < a ∨ a + k ≤ i) by omega)]
    rw [e9]; exact ⟨j1, j2⟩
def Ddr (t c k : Nat) : Prop := (c = t ∧ k = 10) ∨ (t + 3 ≤ c ∧ c ≤ t + 6)
theorem cs_dropArrow (h : CI M t S ac g pl) (hn : sN S ≤ 24) (hm : sM S ≤ 60) (hW1 : sW1 S) (ha : a < sM S) :
    ∃ q, fX2_dropArrow t (nI a) M = some q ∧ gFr (Ddr t) M q ∧ CI q t (sLess S a) ac g pl := by
  obtain ⟨⟨e0, e1, e2, e3, e4⟩, f1, f2, f3, f4⟩ := h
  obtain ⟨x1, x2⟩ := f3 a ha
  obtain ⟨y1, y2, y3⟩ := hW1.1 a ha
  obtain ⟨M5, l1, l2, l3⟩ := cd_loop (M := gI M (t + 5) (sFr S a) (M.1 (t + 5) (sFr S a) &&& (sb (sTo S a) ^^^ mO 1))) (t := t) (a := a) (by rw [p_gI_o (by omega)]; exact e1) hm ha
  have o5 : ∀ c, c ≠ t + 5 → c ≠ t + 3 → c ≠ t + 4 → M5.1 c = M.1 c := fun c c1 c2 c3 => (gFr_c1 l2 (fun _ => by omega)).trans (p_gI_o c1)
  obtain ⟨q, c1, c2, c3⟩ := cc_none (M := gI M5 t 10 (nI (sM S - 1))) (t := t) (c := t + 6) (n := sN S) (E := fun u v => sE S u v ∧ ¬ (u = sFr S a ∧ v = sTo S a)) (by rw [p_gI_n (Or.inr (by omega)), o5 t (by omega) (by omega) (by omega)]; exact e0) hn (by omega) (by omega) (fun x y z => (sE.lt hW1 z.1).2) (fun u hu v hv => by
    rw [p_gI_o (by omega), gFr_c1 l2 (fun _ => by omega), p_gI]
    have f6 := (f4 u hu).2.2.2.1 v hv
    by_cases e : u = sFr S a
    · rw [if_pos ⟨rfl, e⟩, b_and, p_not _ hv, p_sb (by omega), Bool.and_eq_true, ← e, f6, Bool.not_eq_true', decide_eq_false_iff_not]
      exact ⟨fun z => ⟨z.1, fun w => z.2 w.2⟩, fun z => ⟨z.1, fun w => z.2 ⟨rfl, w⟩⟩⟩
    · rw [if_neg (fun z => e z.2), f6]
      exact ⟨fun z => ⟨z, fun w => e w.1⟩, fun z => z.1⟩)
  have c1' : fX2_closeWithout t (mO 1) (t + 6) (gI M5 t 10 (nI (sM S - 1))) = some q := c1
  have G : gFr (Ddr t) M q := gFr_tr (gFr_trI (gFr_tr (gFr_I (Or.inr ⟨by omega, by omega⟩)) (gFr_mo l2 (fun c k z => Or.inr (by omega)))) (Or.inl ⟨rfl, rfl⟩)) (gFr_mo c2 (fun c k z => Or.inr (by omega)))
  have m10 : M5.1 t 10 = nI (sM S) := by rw [o5 t (by omega) (by omega) (by omega)]; exact e1
  have nD : ∀ {c k : Nat}, c = t ∧ k ≠ 10 ∨ (c < t) ∨ (t + 1 ≤ c ∧ c < t + 3) ∨ t + 6 < c → ¬ Ddr t c k := fun z w => by unfold Ddr at w; omega
  refine ⟨q, ?_, G, ⟨⟨?_, ?_, ?_, ?_, ?_⟩, fun a ha => ?_, fun p hp v hv => ?_, fun i hi => ?_, fun u hu => ⟨?_, ?_, ?_, fun v hv => ?_, fun v hv => ?_⟩⟩⟩
  · unfold fX2_dropArrow
    simp (disch := omega) only [p_bnd, p_nm, p_gSEl, p_gSEr, p_l0, p_l1, p_l2, p_l3, p_l4, p_l5, p_l6, p_l7, p_l8, p_l9, p_l10, p_l14, p_l16, p_l20, p_l22, p_l24, p_l30, p_l31, p_l32, p_l38, p_l40, p_l41, p_l43, p_l48, p_l57, p_l59, p_l60, p_l61, p_l62, p_l63, p_l97, p_l98, p_l101, p_l122, p_l158, p_l201, p_l255, p_l256, p_l374, p_l880, p_l900, p_l1000, p_l2618, p_neg, nI_add, p_mul, p_sub, p_addm, p_addm0, p_subm, p_le, p_lt, p_eq, p_mO_eq, p_eq_mO, p_mO_lt, p_nlt_mO, p_mO_le, p_le_mO, p_rI, p_rL, p_wI, p_wL, p_wF, p_has10, p_has11, p_ib0, p_ib1, p_shl1, p_zv0, p_zv1, p_zvib, p_ibd, p_ibn, if_pos, if_neg, if_true, if_false, ne_eq, not_true, not_false_iff, Decidable.not_not, Nat.not_lt, Nat.not_le, Bool.true_eq_false, Bool.false_eq_true, eq_self, reduceIte, Nat.reduceAdd, Nat.reduceMul, Nat.reduceSub, Nat.reduceEqDiff, Nat.reduceLT, Nat.reduceLeDiff, reduceCtorEq, x1, x2, l1, m10, c1']
  · rw [(G t 9 (nD (by omega))).1]; exact e0
  · rw [gFr_c1 c2 (fun _ => by omega), p_gI_s]; rfl
  · rw [(G t 11 (nD (by omega))).1]; exact e2
  · rw [(G t 12 (nD (by omega))).1]; exact e3
  · rw [(G t 13 (nD (by omega))).1]; exact e4
  · rw [(G (t + 9) a (nD (by omega))).2.1]; exact f1 a ha
  · rw [(G (t + 7) p (nD (by omega))).1]; exact f2 p hp v hv
  · rw [sLess_m] at hi
    obtain ⟨l4, l5⟩ := l3 i hi
    rw [gFr_c1 c2 (fun _ => by omega), gFr_c1 c2 (fun _ => by omega), p_gI_o (by omega), p_gI_o (by omega), l4, l5, p_gI_o (by omega), p_gI_o (by omega)]
    exact f3 _ (by split <;> omega)
  · rw [(G (t + 2) u (nD (by omega))).1]; exact (f4 u hu).1
  · rw [(G (t + 8) u (nD (by omega))).1]; exact (f4 u hu).2.1
  · rw [(G (t + 1) u (nD (by omega))).2.1]; exact (f4 u hu).2.2.1
  · have hu : u < sN S := hu
    rw [sLess_E hW1 ha, gFr_c1 c2 (fun _ => by omega), p_gI_o (by omega), gFr_c1 l2 (fun _ => by omega), p_gI]
    have f6 := (f4 u hu).2.2.2.1 v hv
    by_cases e : u = sFr S a
    · rw [if_pos ⟨rfl, e⟩, b_and, p_not _ hv, p_sb (by omega), Bool.and_eq_true, ← e, f6, Bool.not_eq_true', decide_eq_false_iff_not]
      exact ⟨fun z => ⟨z.1, fun w => z.2 w.2⟩, fun z => ⟨z.1, fun w => z.2 ⟨rfl, w⟩⟩⟩
    · rw [if_neg (fun z => e z.2), f6]
      exact ⟨fun z => ⟨z, fun w => e w.1⟩, fun z => z.1⟩
  · rw [sLess_R hW1 ha]; exact c3 u hu v hv
end LS
