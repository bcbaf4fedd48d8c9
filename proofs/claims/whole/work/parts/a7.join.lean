/-! A TASK COMES: a group of its own, behind all others; both sides -/
def sNew (S : gS) (W : List Nat) (h : Nat) : gS := (upN (upN S.1 0 (sN S + 1)) 2 (sG S + 1), sFr S, sTo S, upN (sPl S) (sN S) (sG S), upN (sHr S) (sN S) h, sAc S, fun u => if u = sN S then W else sNm S u)
section JN
variable {M N : gMem} {S : gS} {t j n h x : Nat} {W : List Nat} {B : Nat → Nat} {L : Nat}
theorem sNew_n : sN (sNew S W h) = sN S + 1 := rfl
theorem sNew_g : sG (sNew S W h) = sG S + 1 := rfl
theorem sNew_pl {u : Nat} : sPl (sNew S W h) u = if u = sN S then sG S else sPl S u := rfl
theorem sNew_hr {u : Nat} : sHr (sNew S W h) u = if u = sN S then h else sHr S u := rfl
theorem sNew_nm {u : Nat} : sNm (sNew S W h) u = if u = sN S then W else sNm S u := rfl
theorem sNew_E {u v : Nat} : sE (sNew S W h) u v ↔ sE S u v := Iff.rfl
theorem sNew_R {u v : Nat} : sR (sNew S W h) u v ↔ sR S u v := Iff.rfl
theorem sNew_Rn (hw : sW1 S) {v : Nat} : sR S (sN S) v ↔ v = sN S := by
  constructor
  · intro z
    refine gRc.fwd (E := sE S) (fun x => x = sN S) (fun a b e q => ?_) z rfl
    have := (sE.lt hw e).1
    omega
  · rintro rfl; exact gRc.rf
theorem nmF_none (hn : ¬ nmF S W < sN S) {u : Nat} (hu : u < sN S) : sNm S u ≠ W := by
  have := fa_first_no (fun u => decide (sNm S u = W)) (sN S) u (by have := nmF_lt S W; unfold nmF at hn this; omega)
  exact of_decide_eq_false this
theorem sNew_W (hw : sW S) (hn : sN S < 24) (ok : sNok W) (no : ¬ nmF S W < sN S) (h1 : 1 ≤ h) (h9 : h ≤ 9) : sW (sNew S W h) := by
  obtain ⟨w0, w1, w2, w3, w4⟩ := hw
  have pl0 : ∀ u, u < sN S → sPl (sNew S W h) u = sPl S u := fun u hu => by rw [sNew_pl, if_neg (by omega)]
  have pln : sPl (sNew S W h) (sN S) = sG S := by rw [sNew_pl, if_pos rfl]
  refine ⟨⟨?_, w0.2.1, ?_, w0.2.2.2.1, w0.2.2.2.2⟩, ⟨fun i hi => ?_, w1.2⟩, ⟨fun u hu => ?_, fun p hp => ?_⟩, ⟨fun i hi => ?_, fun u v hu hv e => ?_⟩, fun u hu => ?_, fun u hu => ?_, fun u v hu hv e => ?_⟩
  · rw [sNew_n]; omega
  · rw [sNew_n, sNew_g]; have := w0.2.2.1; omega
  · obtain ⟨a, b, c⟩ := w1.1 i hi
    rw [sNew_n]
    exact ⟨Nat.lt_succ_of_lt a, Nat.lt_succ_of_lt b, c⟩
  · rw [sNew_n] at hu
    rw [sNew_g]
    rcases Nat.lt_or_ge u (sN S) with q | q
    · rw [pl0 u q]; have := w2.1 u q; omega
    · rw [show u = sN S by omega, pln]; omega
  · rw [sNew_g] at hp
    rw [sNew_n]
    rcases Nat.lt_or_ge p (sG S) with q | q
    · obtain ⟨u, a, b⟩ := w2.2 p q
      exact ⟨u, by omega, by rw [pl0 u a]; exact b⟩
    · exact ⟨sN S, by omega, by rw [pln]; omega⟩
  · obtain ⟨a, b, c⟩ := w1.1 i hi
    show sPl (sNew S W h) (sFr S i) ≤ sPl (sNew S W h) (sTo S i)
    rw [pl0 _ a, pl0 _ b]; exact w3.1 i hi
  · rw [sNew_n] at hu hv
    rw [sNew_R]
    rcases Nat.lt_or_ge u (sN S) with q | q <;> rcases Nat.lt_or_ge v (sN S) with q2 | q2
    · rw [pl0 u q, pl0 v q2] at e; exact w3.2 u v q q2 e
    · rw [pl0 u q, show v = sN S by omega, pln] at e; have := w2.1 u q; omega
    · rw [pl0 v q2, show u = sN S by omega, pln] at e; have := w2.1 v q2; omega
    · rw [show u = sN S by omega, show v = sN S by omega]; exact gRc.rf
  · rw [sNew_n] at hu
    rw [sNew_hr]
    by_cases q : u = sN S
    · rw [if_pos q]; exact ⟨h1, h9⟩
    · rw [if_neg q]; exact w4.1 u (by omega)
  · rw [sNew_n] at hu
    rw [sNew_nm]
    by_cases q : u = sN S
    · rw [if_pos q]; exact ok
    · rw [if_neg q]; exact w4.2.1 u (by omega)
  · rw [sNew_n] at hu hv
    rw [sNew_nm, sNew_nm] at e
    by_cases q : u = sN S <;> by_cases q2 : v = sN S
    · omega
    · rw [if_pos q, if_neg q2] at e; exact absurd e.symm (nmF_none no (by omega))
    · rw [if_neg q, if_pos q2] at e; exact absurd e (nmF_none no (by omega))
    · rw [if_neg q, if_neg q2] at e; exact w4.2.2 u v (by omega) (by omega) e
theorem sNew_hd (hw : sW S) {p : Nat} (hp : p < sG S) : sHd (sNew S W h) p = sHd S p := by
  obtain ⟨a, b⟩ := sHd_ok hw.2.2.1 hp
  refine sHd_of (by rw [sNew_n]; omega) (by rw [sNew_pl, if_neg (by omega)]; exact b) (fun u hu => ?_)
  rw [sNew_pl, if_neg (by omega)]
  intro z
  have := sHd_le (S := S) (t := u) (by omega) z
  omega
theorem sNew_hdn (hw : sW S) : sHd (sNew S W h) (sG S) = sN S := by
  refine sHd_of (by rw [sNew_n]; omega) (by rw [sNew_pl, if_pos rfl]) (fun u hu => ?_)
  rw [sNew_pl, if_neg (by omega)]
  have := hw.2.2.1.1 u hu
  omega
def Dnw (t c k : Nat) : Prop := (c = t ∧ (k = 9 ∨ k = 11)) ∨ c = t + 1 ∨ c = t + 2 ∨ c = t + 5 ∨ c = t + 6 ∨ c = t + 7 ∨ c = t + 8
/-- the class's -/
theorem cs_addTask (hc : CS M t S) (hn : sN S < 24) (ok : sNok W) (no : ¬ nmF S W < sN S) (h1 : 1 ≤ h) (h9 : h ≤ 9) : ∃ r, fX2_addTask t (lN (gPk W)) (nI h) M = some r ∧ gFr (Dnw t) M r ∧ CS r t (sNew S W h) := by
  have hg := hc.2.1.2.2.1
  have w1 := hc.2.2.1
  have en := cs_n hc
  have eg := cs_g hc
  obtain ⟨⟨⟨e1, e2, e3, e4, e5⟩, ea, em, ef, eu⟩, hw⟩ := id hc
  generalize hr : gI (gI (gI (gI (gI (gI (gI (gL M (t + 1) (sN S) (lN (gPk W))) (t + 2) (sN S) (nI h)) (t + 5) (sN S) (nI 0)) (t + 6) (sN S) (sb (sN S))) (t + 8) (sN S) (nI (sG S))) (t + 7) (sG S) (sb (sN S))) t 9 (nI (sN S + 1))) t 11 (nI (sG S + 1)) = r
  have A : ∀ c k, r.1 c k = if c = t ∧ k = 11 then nI (sG S + 1) else if c = t ∧ k = 9 then nI (sN S + 1) else if c = t + 7 ∧ k = sG S then sb (sN S) else if c = t + 8 ∧ k = sN S then nI (sG S) else if c = t + 6 ∧ k = sN S then sb (sN S) else if c = t + 5 ∧ k = sN S then nI 0 else if c = t + 2 ∧ k = sN S then nI h else M.1 c k := fun c k => by
    rw [← hr, p_gI, p_gI, p_gI, p_gI, p_gI, p_gI, p_gI, p_gL_1]
  have A2 : ∀ c k, r.2.1 c k = if c = t + 1 ∧ k = sN S then lN (gPk W) else M.2.1 c k := fun c k => by
    rw [← hr, p_gI_L, p_gI_L, p_gI_L, p_gI_L, p_gI_L, p_gI_L, p_gI_L, p_gL]
  refine ⟨r, ?_, ?_, ⟨⟨?_, ?_, ?_, ?_, ?_⟩, fun a ha => ?_, fun p hp v hv => ?_, fun i hi => ?_, fun u hu => ?_⟩, sNew_W hw hn ok no h1 h9⟩
  · have q9 : ∀ {c k : Nat} {x : Int32} {M' : gMem}, c ≠ t → M'.1 t 9 = nI (sN S) → (gI M' c k x).1 t 9 = nI (sN S) := fun a b => by rw [p_gI_o (Ne.symm a)]; exact b
    have q11 : ∀ {c k : Nat} {x : Int32} {M' : gMem}, c ≠ t → M'.1 t 11 = nI (sG S) → (gI M' c k x).1 t 11 = nI (sG S) := fun a b => by rw [p_gI_o (Ne.symm a)]; exact b
    have L9 : (gL M (t + 1) (sN S) (lN (gPk W))).1 t 9 = nI (sN S) := en
    have L11 : (gL M (t + 1) (sN S) (lN (gPk W))).1 t 11 = nI (sG S) := eg
    unfold fX2_addTask
    rw [en, eg, if_neg (by rw [show (24 : Int32) = nI 24 from rfl, p_le (by omega) (by omega)]; omega), if_pos (by rw [show (24 : Int32) = nI 24 from rfl, p_lt (by omega) (by omega)]; omega), p_wL (by omega) (by omega), p_bnd]
    rw [L9, p_wI (by omega) (by omega), p_bnd]
    rw [q9 (by omega) L9, p_wI (by omega) (by omega), p_bnd]
    rw [q9 (by omega) (q9 (by omega) L9), p_wI (by omega) (by omega), p_bnd]
    rw [q9 (by omega) (q9 (by omega) (q9 (by omega) L9)), q11 (by omega) (q11 (by omega) (q11 (by omega) L11)), p_wI (by omega) (by omega), p_bnd]
    rw [q9 (by omega) (q9 (by omega) (q9 (by omega) (q9 (by omega) L9))), q11 (by omega) (q11 (by omega) (q11 (by omega) (q11 (by omega) L11))), p_wI (by omega) (by omega), p_bnd]
    rw [q9 (by omega) (q9 (by omega) (q9 (by omega) (q9 (by omega) (q9 (by omega) L9)))), p_wF, p_bnd, p_gI_n (Or.inr (by decide)), q11 (by omega) (q11 (by omega) (q11 (by omega) (q11 (by omega) (q11 (by omega) L11)))), p_wF, p_bnd, ← hr, show (1 : Int32) = nI 1 from rfl, nI_add, nI_add]
    rfl
  · rw [← hr]
    refine gFr_trI (gFr_trI (gFr_trI (gFr_trI (gFr_trI (gFr_trI (gFr_trI (gFr_L ?_) ?_) ?_) ?_) ?_) ?_) ?_) ?_ <;> (unfold Dnw; omega)
  · rw [A, if_neg (by omega), if_pos (by omega)]; rfl
  · rw [A]; simp (disch := omega) only [if_neg]; exact e2
  · rw [A, if_pos (by omega)]; rfl
  · rw [A]; simp (disch := omega) only [if_neg]; exact e4
  · rw [A]; simp (disch := omega) only [if_neg]; exact e5
  · rw [A2, if_neg (by omega)]; exact ea a ha
  · rw [sNew_g] at hp
    rw [A, sNew_n, sNew_pl]
    rcases Nat.lt_or_ge p (sG S) with q | q
    · simp (disch := omega) only [if_neg]
      rw [em p q v hv]
      by_cases c : v = sN S
      · rw [if_pos c]; omega
      · rw [if_neg c]; omega
    · have e : p = sG S := by omega
      rw [if_neg (by omega), if_neg (by omega), if_pos (by omega), p_sb (by omega), decide_eq_true_eq]
      by_cases c : v = sN S
      · rw [if_pos c]; omega
      · rw [if_neg c]
        refine ⟨fun z => absurd z c, fun z => ?_⟩
        have := hw.2.2.1.1 v (by omega)
        omega
  · rw [A, A]
    simp (disch := omega) only [if_neg]
    exact ef i hi
  · rw [sNew_n] at hu
    rw [A, A, A, A, A2, sNew_hr, sNew_pl, sNew_nm]
    rcases Nat.lt_or_ge u (sN S) with q | q
    · simp (disch := omega) only [if_neg]
      exact eu u q
    · have e : u = sN S := by omega
      subst e
      simp (disch := omega) only [if_neg, if_pos, and_self, if_true, eq_self]
      refine ⟨?_, ?_, ?_, fun v hv => ?_, fun v hv => ?_⟩
      · trivial
      · trivial
      · trivial
      · rw [p_bt0]
        exact ⟨fun z => absurd z (by decide), fun z => by have := (sE.lt w1 (sNew_E.mp z)).1; omega⟩
      · rw [p_sb (by omega), decide_eq_true_eq, sNew_R, sNew_Rn w1]
/-- the reference's -/
theorem rs_joins (hr : RS N S) (hn : sN S < 24) (ok : sNok (wrd B j n)) (no : ¬ nmF S (wrd B j n) < sN S) (h1 : 1 ≤ h) (h9 : h ≤ 9) (hj : j + n ≤ 900) (hB : ∀ k, k < n → N.1 12 (j + k) = nI (B (j + k))) : ∃ r, fX11_joins (nI j) (nI n) (nI h) N = some (nI (sN S), r) ∧ gFr (fun c _ => c = 1) N r ∧ RS r (sNew S (wrd B j n) h) := by
  obtain ⟨⟨⟨e1, e2, e3, e4, e5⟩, ea, eo, ef, et⟩, hw⟩ := id hr
  have hg := hw.1.2.2.1
  have h6 : n ≤ 6 := by have := ok.2.1; rw [wrd_len] at this; exact this
  generalize hN3 : gI (gI (gI N 1 (158 + 9 * sN S) (nI h)) 1 (158 + 9 * sN S + 1) (nI (sN S))) 1 (158 + 9 * sN S + 2) (nI n) = N3
  have A3 : ∀ k, N3.1 1 k = if k = 158 + 9 * sN S + 2 then nI n else if k = 158 + 9 * sN S + 1 then nI (sN S) else if k = 158 + 9 * sN S then nI h else N.1 1 k := fun k => by
    rw [← hN3, p_gI, p_gI, p_gI]; simp only [true_and]
  have F3 : gFr (fun c _ => c = 1) N N3 := by rw [← hN3]; exact gFr_trI (gFr_trI (gFr_I rfl) rfl) rfl
  obtain ⟨N4, e4', F4, A4⟩ : ∃ r, gLoop (fun z9 => fX11_joins_l36 (nI j) (nI n) (nI (sN S)) z9.1 z9.2) gFu ((0 : Int32), N3) = some r ∧ gFr (fun c _ => c = 1) N3 r ∧ ∀ k, r.1 1 k = if 158 + 9 * sN S + 3 ≤ k ∧ k < 158 + 9 * sN S + 9 then nI ((wrd B j n).getD (k - (158 + 9 * sN S + 3)) 0) else N3.1 1 k := by
    refine gLoop_i (fun i s => s.1 = nI i ∧ i ≤ 6 ∧ gFr (fun c _ => c = 1) N3 s.2 ∧ ∀ k, s.2.1 1 k = if 158 + 9 * sN S + 3 ≤ k ∧ k < 158 + 9 * sN S + 3 + i then nI ((wrd B j n).getD (k - (158 + 9 * sN S + 3)) 0) else N3.1 1 k) _ 6 ⟨rfl, by omega, gFr_rf, fun k => by rw [if_neg (by omega)]⟩ (by decide) ?_
    rintro i ⟨s1, M'⟩ hi ⟨rfl, hi6, hF, hA⟩
    rcases Nat.lt_or_ge i 6 with q | q
    · have hB' : i < n → M'.1 12 (j + i) = nI (B (j + i)) := fun z => by rw [(hF 12 _ (by omega)).1, (F3 12 _ (by omega)).1]; exact hB i z
      refine Or.inl ⟨(nI (i + 1), gI M' 1 (158 + 9 * sN S + (3 + i)) (nI ((wrd B j n).getD i 0))), ?_, by omega, rfl, by omega, gFr_trI hF rfl, fun k => ?_⟩
      · rcases Nat.lt_or_ge i n with d | d
        · rw [wrd_at d]
          simp (disch := omega) only [p_bnd, p_nm, p_gSEl, p_gSEr, p_l0, p_l1, p_l2, p_l3, p_l4, p_l5, p_l6, p_l7, p_l8, p_l9, p_l10, p_l14, p_l16, p_l20, p_l22, p_l24, p_l30, p_l31, p_l32, p_l38, p_l40, p_l41, p_l43, p_l48, p_l57, p_l59, p_l60, p_l61, p_l62, p_l63, p_l97, p_l98, p_l101, p_l122, p_l158, p_l201, p_l255, p_l256, p_l374, p_l880, p_l900, p_l1000, p_l2618, p_neg, nI_add, p_mul, p_sub, p_addm, p_addm0, p_subm, p_le, p_lt, p_eq, p_mO_eq, p_eq_mO, p_mO_lt, p_nlt_mO, p_mO_le, p_le_mO, p_rI, p_rL, p_wI, p_wL, p_wF, p_has10, p_has11, p_ib0, p_ib1, p_shl1, p_zv0, p_zv1, p_zvib, p_ibd, p_ibn, if_pos, if_neg, if_true, if_false, ne_eq, not_true, not_false_iff, Decidable.not_not, Nat.not_lt, Nat.not_le, Bool.true_eq_false, Bool.false_eq_true, eq_self, reduceIte, Nat.reduceAdd, Nat.reduceMul, Nat.reduceSub, Nat.reduceEqDiff, Nat.reduceLT, Nat.reduceLeDiff, reduceCtorEq, fX11_joins_l36, fX11_joins_b69, fX11_puts, hB' d]
        · rw [show (wrd B j n).getD i 0 = 0 from getD_out (by rw [wrd_len]; exact d)]
          simp (disch := omega) only [p_bnd, p_nm, p_gSEl, p_gSEr, p_l0, p_l1, p_l2, p_l3, p_l4, p_l5, p_l6, p_l7, p_l8, p_l9, p_l10, p_l14, p_l16, p_l20, p_l22, p_l24, p_l30, p_l31, p_l32, p_l38, p_l40, p_l41, p_l43, p_l48, p_l57, p_l59, p_l60, p_l61, p_l62, p_l63, p_l97, p_l98, p_l101, p_l122, p_l158, p_l201, p_l255, p_l256, p_l374, p_l880, p_l900, p_l1000, p_l2618, p_neg, nI_add, p_mul, p_sub, p_addm, p_addm0, p_subm, p_le, p_lt, p_eq, p_mO_eq, p_eq_mO, p_mO_lt, p_nlt_mO, p_mO_le, p_le_mO, p_rI, p_rL, p_wI, p_wL, p_wF, p_has10, p_has11, p_ib0, p_ib1, p_shl1, p_zv0, p_zv1, p_zvib, p_ibd, p_ibn, if_pos, if_neg, if_true, if_false, ne_eq, not_true, not_false_iff, Decidable.not_not, Nat.not_lt, Nat.not_le, Bool.true_eq_false, Bool.false_eq_true, eq_self, reduceIte, Nat.reduceAdd, Nat.reduceMul, Nat.reduceSub, Nat.reduceEqDiff, Nat.reduceLT, Nat.reduceLeDiff, reduceCtorEq, fX11_joins_l36, fX11_joins_b69, fX11_puts]
      · show (gI M' 1 (158 + 9 * sN S + (3 + i)) _).1 1 k = _
        rw [p_gI, hA]
        by_cases c : k = 158 + 9 * sN S + (3 + i)
        · rw [if_pos ⟨rfl, c⟩, if_pos (by omega), c, show 158 + 9 * sN S + (3 + i) - (158 + 9 * sN S + 3) = i by omega]
        · rw [if_neg (fun z => c z.2)]
          by_cases d : 158 + 9 * sN S + 3 ≤ k ∧ k < 158 + 9 * sN S + 3 + i
          · rw [if_pos d, if_pos (by omega)]
          · rw [if_neg d, if_neg (by omega)]
    · have e6 : i = 6 := by omega
      subst e6
      refine Or.inr ⟨M', ?_, hF, fun k => ?_⟩
      · simp (disch := omega) only [p_bnd, p_nm, p_gSEl, p_gSEr, p_l0, p_l1, p_l2, p_l3, p_l4, p_l5, p_l6, p_l7, p_l8, p_l9, p_l10, p_l14, p_l16, p_l20, p_l22, p_l24, p_l30, p_l31, p_l32, p_l38, p_l40, p_l41, p_l43, p_l48, p_l57, p_l59, p_l60, p_l61, p_l62, p_l63, p_l97, p_l98, p_l101, p_l122, p_l158, p_l201, p_l255, p_l256, p_l374, p_l880, p_l900, p_l1000, p_l2618, p_neg, nI_add, p_mul, p_sub, p_addm, p_addm0, p_subm, p_le, p_lt, p_eq, p_mO_eq, p_eq_mO, p_mO_lt, p_nlt_mO, p_mO_le, p_le_mO, p_rI, p_rL, p_wI, p_wL, p_wF, p_has10, p_has11, p_ib0, p_ib1, p_shl1, p_zv0, p_zv1, p_zvib, p_ibd, p_ibn, if_pos, if_neg, if_true, if_false, ne_eq, not_true, not_false_iff, Decidable.not_not, Nat.not_lt, Nat.not_le, Bool.true_eq_false, Bool.false_eq_true, eq_self, reduceIte, Nat.reduceAdd, Nat.reduceMul, Nat.reduceSub, Nat.reduceEqDiff, Nat.reduceLT, Nat.reduceLeDiff, reduceCtorEq, fX11_joins_l36]
      · rw [hA]
  generalize hN7 : gI (gI (gI N4 1 (14 + sG S) (nI (sN S))) 1 2 (nI (sG S + 1))) 1 0 (nI (sN S + 1)) = N7
  have A7 : ∀ k, N7.1 1 k = if k = 0 then nI (sN S + 1) else if k = 2 then nI (sG S + 1) else if k = 14 + sG S then nI (sN S) else N4.1 1 k := fun k => by
    rw [← hN7, p_gI, p_gI, p_gI]; simp only [true_and]
  have A : ∀ k, N7.1 1 k = if k = 0 then nI (sN S + 1) else if k = 2 then nI (sG S + 1) else if k = 14 + sG S then nI (sN S) else if 158 + 9 * sN S + 3 ≤ k ∧ k < 158 + 9 * sN S + 9 then nI ((wrd B j n).getD (k - (158 + 9 * sN S + 3)) 0) else if k = 158 + 9 * sN S + 2 then nI n else if k = 158 + 9 * sN S + 1 then nI (sN S) else if k = 158 + 9 * sN S then nI h else N.1 1 k := fun k => by rw [A7, A4, A3]
  refine ⟨N7, ?_, ?_, ⟨⟨?_, ?_, ?_, ?_, ?_⟩, fun a ha => ?_, fun p hp => ?_, fun i hi => ?_, fun u hu => ?_⟩, sNew_W hw hn ok no h1 h9⟩
  · have n0 : N4.1 1 0 = nI (sN S) := by rw [A4, if_neg (by omega), A3]; simp (disch := omega) only [if_neg]; exact e1
    have n2 : N4.1 1 2 = nI (sG S) := by rw [A4, if_neg (by omega), A3]; simp (disch := omega) only [if_neg]; exact e3
    have m2 : (gI N4 1 (14 + sG S) (nI (sN S))).1 1 2 = nI (sG S) := by rw [p_gI_n (Or.inr (by omega))]; exact n2
    have m0 : (gI (gI N4 1 (14 + sG S) (nI (sN S))) 1 2 (nI (sG S + 1))).1 1 0 = nI (sN S) := by rw [p_gI_n (Or.inr (by omega)), p_gI_n (Or.inr (by omega))]; exact n0
    have z1 : fX11_joins (nI j) (nI n) (nI h) N = (gLoop (fun z9 => fX11_joins_l36 (nI j) (nI n) (nI (sN S)) z9.1 z9.2) gFu ((0 : Int32), N3)).bind fun w9 => (rI w9 1 374 (2 : Int32)).bind fun v10 => (wI w9 1 374 ((14 : Int32) + v10) (nI (sN S))).bind fun M11 => (rI M11 1 374 (2 : Int32)).bind fun v12 => (wI M11 1 374 (2 : Int32) (v12 + (1 : Int32))).bind fun M13 => (rI M13 1 374 (0 : Int32)).bind fun v14 => (wI M13 1 374 (0 : Int32) (v14 + (1 : Int32))).bind fun M15 => some (nI (sN S), M15) := by
      unfold fX11_joins fX11_puts
      rw [show (0 : Int32) = nI 0 from rfl, p_rI (by omega) (by omega), e1, p_bnd, show (158 : Int32) = nI 158 from rfl, show (9 : Int32) = nI 9 from rfl, p_mul, nI_add, nI_add, Nat.add_zero, p_wI (by omega) (by omega), p_bnd, p_bnd, show (1 : Int32) = nI 1 from rfl, nI_add, p_wI (by omega) (by omega), p_bnd, p_bnd, show (2 : Int32) = nI 2 from rfl, nI_add, p_wI (by omega) (by omega), p_bnd, p_bnd, hN3]
    rw [z1, e4', p_bnd]
    simp (disch := omega) only [p_bnd, p_nm, p_gSEl, p_gSEr, p_l0, p_l1, p_l2, p_l3, p_l4, p_l5, p_l6, p_l7, p_l8, p_l9, p_l10, p_l14, p_l16, p_l20, p_l22, p_l24, p_l30, p_l31, p_l32, p_l38, p_l40, p_l41, p_l43, p_l48, p_l57, p_l59, p_l60, p_l61, p_l62, p_l63, p_l97, p_l98, p_l101, p_l122, p_l158, p_l201, p_l255, p_l256, p_l374, p_l880, p_l900, p_l1000, p_l2618, p_neg, nI_add, p_mul, p_sub, p_addm, p_addm0, p_subm, p_le, p_lt, p_eq, p_mO_eq, p_eq_mO, p_mO_lt, p_nlt_mO, p_mO_le, p_le_mO, p_rI, p_rL, p_wI, p_wL, p_wF, p_has10, p_has11, p_ib0, p_ib1, p_shl1, p_zv0, p_zv1, p_zvib, p_ibd, p_ibn, if_pos, if_neg, if_true, if_false, ne_eq, not_true, not_false_iff, Decidable.not_not, Nat.not_lt, Nat.not_le, Bool.true_eq_false, Bool.false_eq_true, eq_self, reduceIte, Nat.reduceAdd, Nat.reduceMul, Nat.reduceSub, Nat.reduceEqDiff, Nat.reduceLT, Nat.reduceLeDiff, reduceCtorEq, n2, m2, m0]
    rw [← hN7]
  · rw [← hN7]
    exact gFr_trI (gFr_trI (gFr_trI (gFr_tr F3 F4) rfl) rfl) rfl
  · rw [A, if_pos rfl]; rfl
  · rw [A]; simp (disch := omega) only [if_neg]; exact e2
  · rw [A, if_neg (by omega), if_pos rfl]; rfl
  · rw [A]; simp (disch := omega) only [if_neg]; exact e4
  · rw [A]; simp (disch := omega) only [if_neg]; exact e5
  · rw [A]; simp (disch := omega) only [if_neg]; exact ea a ha
  · rw [sNew_g] at hp
    rw [A]
    rcases Nat.lt_or_ge p (sG S) with q | q
    · simp (disch := omega) only [if_neg]
      rw [sNew_hd hw q]; exact eo p q
    · have e : p = sG S := by omega
      subst e
      simp (disch := omega) only [if_neg, if_pos, and_self, if_true, eq_self]
      rw [sNew_hdn hw]
  · have hi : i < sM S := hi
    have := hw.1.2.1
    rw [A, A]
    simp (disch := omega) only [if_neg]
    exact ef i hi
  · rw [sNew_n] at hu
    rw [A, A, A, sNew_hr, sNew_pl, sNew_nm]
    rcases Nat.lt_or_ge u (sN S) with q | q
    · simp (disch := omega) only [if_neg]
      obtain ⟨t1, t2, t3, t4⟩ := et u q
      refine ⟨t1, by rw [sNew_hd hw (hw.p q)]; exact t2, t3, fun k hk => ?_⟩
      rw [A]
      simp (disch := omega) only [if_neg]
      exact t4 k hk
    · have e : u = sN S := by omega
      subst e
      simp (disch := omega) only [if_neg, if_pos, and_self, if_true, eq_self]
      refine ⟨?_, ?_, ?_, fun k hk => ?_⟩
      · trivial
      · rw [sNew_hdn hw]
      · rw [wrd_len]
      · rw [A]
        simp (disch := omega) only [if_neg, if_pos, and_self, if_true, eq_self]
        rw [show 158 + 9 * sN S + (3 + k) - (158 + 9 * sN S + 3) = k by omega]
end JN
