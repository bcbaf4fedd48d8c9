/-! SWAPS, the tight groups: both sides -/
def sSw (S : gS) (p : Nat) : gS := (S.1, sFr S, sTo S, (fun t => if sPl S t = p then p + 1 else if sPl S t = p + 1 then p else sPl S t), sHr S, upN (sAc S) 8 (sAc S 8 + 1), sNm S)
section SP
variable {M : gMem} {S : gS} {t p : Nat}
theorem sSw_pl {v q : Nat} : sPl (sSw S p) v = q ↔ sPl S v = (if q = p then p + 1 else if q = p + 1 then p else q) := by
  show (if sPl S v = p then p + 1 else if sPl S v = p + 1 then p else sPl S v) = q ↔ _
  by_cases a : sPl S v = p
  · rw [if_pos a]
    by_cases b : q = p
    · rw [if_pos b]; omega
    · rw [if_neg b]
      by_cases c : q = p + 1
      · rw [if_pos c]; omega
      · rw [if_neg c]; omega
  · rw [if_neg a]
    by_cases a2 : sPl S v = p + 1
    · rw [if_pos a2]
      by_cases b : q = p
      · rw [if_pos b]; omega
      · rw [if_neg b]
        by_cases c : q = p + 1
        · rw [if_pos c]; omega
        · rw [if_neg c]; omega
    · rw [if_neg a2]
      by_cases b : q = p
      · rw [if_pos b]; omega
      · rw [if_neg b]
        by_cases c : q = p + 1
        · rw [if_pos c]; omega
        · rw [if_neg c]
def swq (p q : Nat) : Nat := if q = p then p + 1 else if q = p + 1 then p else q
theorem swq_lt {g q : Nat} (hp : p + 1 < g) (hq : q < g) : swq p q < g := by
  unfold swq; split
  · omega
  · split <;> omega
theorem sSw_hd {q : Nat} : sHd (sSw S p) q = sHd S (swq p q) := by
  unfold sHd swq
  exact fa_first_cg fun v _ => decide_eq_decide.mpr sSw_pl
theorem sSw_W (h : sW S) (hp : p + 1 < sG S) (hl : sLd S p (p + 1) = false) : sW (sSw S p) := by
  refine ⟨h.1, h.2.1, ⟨fun v hv => ?_, fun q hq => ?_⟩, ⟨fun i hi => ?_, fun u v hu hv e => ?_⟩, h.2.2.2.2⟩
  · have hv : v < sN S := hv
    have := h.p hv
    show (if sPl S v = p then p + 1 else if sPl S v = p + 1 then p else sPl S v) < sG S
    split
    · omega
    · split <;> omega
  · have hq : q < sG S := hq
    obtain ⟨v, v1, v2⟩ := h.2.2.1.2 (swq p q) (swq_lt hp hq)
    exact ⟨v, v1, sSw_pl.mpr v2⟩
  · have hi : i < sM S := hi
    have ol := h.2.2.2.1.1 i hi
    have hne : ¬ (sPl S (sFr S i) = p ∧ sPl S (sTo S i) = p + 1) := fun z => by
      rw [sLd_iff.mpr ⟨i, hi, z.1, z.2⟩] at hl; cases hl
    show (if sPl S (sFr S i) = p then p + 1 else if sPl S (sFr S i) = p + 1 then p else sPl S (sFr S i)) ≤ (if sPl S (sTo S i) = p then p + 1 else if sPl S (sTo S i) = p + 1 then p else sPl S (sTo S i))
    generalize sPl S (sFr S i) = x at ol hne
    generalize sPl S (sTo S i) = y at ol hne
    by_cases a : x = p
    · rw [if_pos a]
      by_cases b : y = p
      · rw [if_pos b]; omega
      · rw [if_neg b]
        by_cases c : y = p + 1
        · exact absurd ⟨a, c⟩ hne
        · rw [if_neg c]; omega
    · rw [if_neg a]
      by_cases a2 : x = p + 1
      · rw [if_pos a2]
        by_cases b : y = p
        · rw [if_pos b]; omega
        · rw [if_neg b]
          by_cases c : y = p + 1
          · rw [if_pos c]; omega
          · rw [if_neg c]; omega
      · rw [if_neg a2]
        by_cases b : y = p
        · rw [if_pos b]; omega
        · rw [if_neg b]
          by_cases c : y = p + 1
          · rw [if_pos c]; omega
          · rw [if_neg c]; exact ol
  · have e : sPl (sSw S p) u = sPl (sSw S p) v := e
    have e2 := sSw_pl.mp e
    have e3 := sSw_pl.mp (rfl : sPl (sSw S p) v = sPl (sSw S p) v)
    exact h.2.2.2.1.2 u v hu hv (by rw [e2, e3])
theorem cs_swapAt (h : CS M t S) (ht : t ≤ 21) (hp : p + 1 < sG S) (hl : sLd S p (p + 1) = false) : ∃ r, fX2_swapAt t (nI p) M = some r ∧ gFr (fun c _ => t ≤ c ∧ c ≤ t + 9) M r ∧ CS r t (sSw S p) := by
  obtain ⟨a24, a60, ag⟩ := sW_24 h.2
  have m1 := cs_mb h (show p < sG S by omega)
  have m2 := cs_mb h hp
  have hW := sSw_W h.2 hp hl
  generalize hM4 : gI (gI M (t + 7) p (sMb S (p + 1))) (t + 7) (p + 1) (sMb S p) = M4
  have F4 : gFr (fun c _ => c = t + 7) M M4 := by rw [← hM4]; exact gFr_trI (gFr_I rfl) rfl
  have mb : ∀ q, q < sG S → M4.1 (t + 7) q = sMb S (swq p q) := fun q hq => by
    rw [← hM4, p_gI]
    unfold swq
    by_cases a : q = p
    · rw [if_neg (by omega), if_pos a, a, p_gI_s]
    · rw [if_neg a]
      by_cases b : q = p + 1
      · rw [if_pos ⟨rfl, b⟩, if_pos b]
      · rw [if_neg (fun z => b z.2), if_neg b, p_gI_n (Or.inr a)]; exact cs_mb h hq
  obtain ⟨⟨c0, c1, c2, c3, c4⟩, d2, d3, d4, d5⟩ := id h.1
  obtain ⟨M5, e5, F5, P5⟩ := ct_setPlaces (M := M4) (t := t) (n := sN S) (g := sG S) (pl := sPl (sSw S p)) (by rw [(F4 t 9 (by omega)).1]; exact c0) a24 (by rw [(F4 t 11 (by omega)).1]; exact c2) ag (fun q hq v hv => by
    rw [mb q hq, sMb_bt hv, decide_eq_true_eq]
    exact and_congr_right fun _ => sSw_pl.symm) (fun v hv => hW.p hv)
  have v6 : M5.2.1 (t + 9) 8 = lN (sAc S 8) := by rw [(F5 (t + 9) 8 (by omega)).2.1, (F4 (t + 9) 8 (by omega)).2.1]; exact d2 8 (by omega)
  have o : ∀ {c k : Nat}, c ≠ t + 7 → c ≠ t + 8 → M5.1 c k = M.1 c k ∧ M5.2.1 c k = M.2.1 c k := fun {c k} z1 z2 => ⟨by rw [(F5 c k z2).1, (F4 c k z1).1], by rw [(F5 c k z2).2.1, (F4 c k z1).2.1]⟩
  refine ⟨gL M5 (t + 9) 8 (lN (sAc S 8 + 1)), ?_, gFr_trL (gFr_tr (gFr_mo F4 (fun c k z => by omega)) (gFr_mo F5 (fun c k z => by omega))) (by omega), ⟨⟨?_, ?_, ?_, ?_, ?_⟩, fun k hk => ?_, fun q hq v hv => ?_, fun i hi => ?_, fun u hu => ?_⟩, hW⟩
  · have m2' : (gI M (t + 7) p (sMb S (p + 1))).1 (t + 7) (p + 1) = sMb S (p + 1) := by rw [p_gI_n (Or.inr (by omega))]; exact m2
    unfold fX2_swapAt
    rw [p_rI (by omega) (by omega), p_bnd, m1, show nI p + (1 : Int32) = nI (p + 1) from nI_add _ _, p_rI (by omega) (by omega), p_bnd, m2, p_wI (by omega) (by omega), p_bnd, p_wI (by omega) (by omega), p_bnd, hM4, e5, p_bnd]
    rw [show rL M5 (t + 9) 9 (8 : Int32) = some (lN (sAc S 8)) from (p_rL (k := 8) (by omega) (by omega)).trans (congrArg some v6), p_bnd, show lN (sAc S 8) + (1 : Int64) = lN (sAc S 8 + 1) from lN_1 _]
    rw [show wL M5 (t + 9) 9 (8 : Int32) (lN (sAc S 8 + 1)) = some (gL M5 (t + 9) 8 (lN (sAc S 8 + 1))) from p_wL (k := 8) (by omega) (by omega), p_bnd]
  · show M5.1 t 9 = _
    rw [(o (by omega) (by omega)).1]; exact c0
  · show M5.1 t 10 = _
    rw [(o (by omega) (by omega)).1]; exact c1
  · show M5.1 t 11 = _
    rw [(o (by omega) (by omega)).1]; exact c2
  · show M5.1 t 12 = _
    rw [(o (by omega) (by omega)).1]; exact c3
  · show M5.1 t 13 = _
    rw [(o (by omega) (by omega)).1]; exact c4
  · rw [p_gL]
    show _ = lN (upN (sAc S) 8 (sAc S 8 + 1) k)
    unfold upN
    by_cases e : k = 8
    · rw [if_pos ⟨rfl, e⟩, if_pos e]
    · rw [if_neg (fun z => e z.2), if_neg e, (o (by omega) (by omega)).2]; exact d2 k hk
  · have hq : q < sG S := hq
    show bt (M5.1 (t + 7) q) v = true ↔ _
    rw [(F5 (t + 7) q (by omega)).1, mb q hq, sMb_bt hv, decide_eq_true_eq]
    exact and_congr_right fun _ => sSw_pl.symm
  · have hi : i < sM S := hi
    show M5.1 (t + 3) i = _ ∧ M5.1 (t + 4) i = _
    rw [(o (by omega) (by omega)).1, (o (by omega) (by omega)).1]; exact d4 i hi
  · have hu : u < sN S := hu
    obtain ⟨x1, x2, x3, x4, x5⟩ := d5 u hu
    refine ⟨?_, P5 u hu, ?_, fun v hv => ?_, fun v hv => ?_⟩
    · show M5.1 (t + 2) u = _
      rw [(o (by omega) (by omega)).1]; exact x1
    · rw [p_gL, if_neg (by omega), (o (by omega) (by omega)).2]; exact x3
    · show bt (M5.1 (t + 5) u) v = true ↔ _
      rw [(o (by omega) (by omega)).1]; exact x4 v hv
    · show bt (M5.1 (t + 6) u) v = true ↔ _
      rw [(o (by omega) (by omega)).1]; exact x5 v hv
theorem rs_swaps (h : RS M S) (hp : p + 1 < sG S) : (sLd S p (p + 1) = true → fX11_swaps (nI p) M = some (mO 5, M)) ∧ (sLd S p (p + 1) = false → ∃ r, fX11_swaps (nI p) M = some (nI (sHd S (p + 1)), r) ∧ gFr (fun c _ => c = 1) M r ∧ RS r (sSw S p)) := by
  obtain ⟨a24, a60, ag⟩ := sW_24 h.2
  have o1 : M.1 1 (14 + p) = nI (sHd S p) := rs_or h (by omega)
  have o2 : M.1 1 (14 + p + 1) = nI (sHd S (p + 1)) := by rw [Nat.add_assoc]; exact rs_or h hp
  have m1 := rs_members h (show p < sG S by omega)
  have m2 := rs_members h hp
  have l1 := rs_leads h (p := p) (q := p + 1)
  have hs : fX11_swaps (nI p) M = if ib (sLd S p (p + 1)) = 0 then ((some (gI M 1 (14 + p) (nI (sHd S (p + 1))))).bind fun M7 => (some (gI M7 1 (14 + p + 1) (nI (sHd S p)))).bind fun M8 => (fX11_counts (nI 8) (nI 1) M8).bind fun v9 => some (nI (sHd S (p + 1)), v9)) else some ((-5 : Int32), M) := by
    unfold fX11_swaps
    rw [show (14 : Int32) + nI p = nI (14 + p) from nI_add _ _, show nI (14 + p) + (1 : Int32) = nI (14 + p + 1) from nI_add _ _, p_rI (by omega) (by omega), p_bnd, o1, p_rI (by omega) (by omega), p_bnd, o2, m1, p_bnd, m2, p_bnd, l1, p_bnd, p_wI (by omega) (by omega)]
    congr 1
    rw [p_bnd, p_bnd, p_wI (by omega) (by omega)]; rfl
  rw [hs]
  constructor
  · intro c
    rw [c, if_neg (show ¬ ib true = 0 by decide)]; rfl
  · intro c
    rw [c, if_pos (show ib false = 0 from rfl), p_bnd, p_bnd]
    obtain ⟨⟨q0, q1, q2, q3, q4⟩, qa, qo, qf, qt⟩ := h.1
    generalize hM8 : gI (gI M 1 (14 + p) (nI (sHd S (p + 1)))) 1 (14 + p + 1) (nI (sHd S p)) = M8
    have w8 : ∀ {k : Nat}, k ≠ 14 + p → k ≠ 14 + p + 1 → M8.1 1 k = M.1 1 k := fun {k} z1 z2 => by rw [← hM8, p_gI_n (Or.inr z2), p_gI_n (Or.inr z1)]
    have r13 : M8.1 1 (5 + 8) = nI (sAc S 8) := by rw [w8 (by omega) (by omega)]; exact qa 8 (by omega)
    have ec := r_counts (M := M8) (k := 8) (x := 1) (by omega) r13
    rw [ec, p_bnd]
    have w9 : ∀ {k : Nat}, k ≠ 13 → (gI M8 1 (5 + 8) (nI (sAc S 8 + 1))).1 1 k = M8.1 1 k := fun z => p_gI_n (Or.inr z)
    refine ⟨_, rfl, ?_, ⟨⟨?_, ?_, ?_, ?_, ?_⟩, fun k hk => ?_, fun q hq => ?_, fun i hi => ?_, fun u hu => ?_⟩, sSw_W h.2 hp c⟩
    · rw [← hM8]; exact gFr_trI (gFr_trI (gFr_I rfl) rfl) rfl
    · rw [w9 (by omega), w8 (by omega) (by omega)]; exact q0
    · rw [w9 (by omega), w8 (by omega) (by omega)]; exact q1
    · rw [w9 (by omega), w8 (by omega) (by omega)]; exact q2
    · rw [w9 (by omega), w8 (by omega) (by omega)]; exact q3
    · rw [w9 (by omega), w8 (by omega) (by omega)]; exact q4
    · show _ = nI (upN (sAc S) 8 (sAc S 8 + 1) k)
      unfold upN
      by_cases e : k = 8
      · rw [if_pos e, e, p_gI_s]
      · rw [if_neg e, w9 (by omega), w8 (by omega) (by omega)]; exact qa k hk
    · have hq : q < sG S := hq
      rw [sSw_hd]
      unfold swq
      rw [w9 (by omega)]
      by_cases a : q = p
      · rw [if_pos a, a, ← hM8, p_gI_n (Or.inr (by omega)), p_gI_s]
      · rw [if_neg a]
        by_cases b : q = p + 1
        · rw [if_pos b, b, ← hM8, show 14 + (p + 1) = 14 + p + 1 by omega, p_gI_s]
        · rw [if_neg b, w8 (by omega) (by omega)]; exact qo q hq
    · have hi : i < sM S := hi
      rw [w9 (by omega), w9 (by omega), w8 (by omega) (by omega), w8 (by omega) (by omega)]; exact qf i hi
    · have hu : u < sN S := hu
      obtain ⟨t1, t2, t3, t4⟩ := qt u hu
      refine ⟨by rw [w9 (by omega), w8 (by omega) (by omega)]; exact t1, ?_, by rw [w9 (by omega), w8 (by omega) (by omega)]; exact t3, fun k hk => by rw [w9 (by omega), w8 (by omega) (by omega)]; exact t4 k hk⟩
      rw [w9 (by omega), w8 (by omega) (by omega), t2, sSw_hd]
      congr 2
      have e3 := sSw_pl.mp (rfl : sPl (sSw S p) u = sPl (sSw S p) u)
      exact e3
/-- the tight groups -/
def slK (S : gS) (p : Nat) : Int32 := nI (cLg S) - nI (cBg S p) - nI (sHo S p) - nI (cRs S p)
def tS9 (S : gS) : Nat → Int32
  | 0 => nI 0
  | k + 1 => if slK S k = nI 0 then tS9 S k ||| sb (sHd S k) else tS9 S k
theorem tS_yes {k : Nat} (h : slK S k = nI 0) : tS9 S (k + 1) = tS9 S k ||| sb (sHd S k) := if_pos h
theorem tS_no {k : Nat} (h : ¬ slK S k = nI 0) : tS9 S (k + 1) = tS9 S k := if_neg h
theorem p_or0 (x : Int32) : x ||| nI 0 = x := b_ext fun i _ => by rw [b_or, p_bt0, Bool.or_false]
theorem cs_tight (h : CS M 1 S) (hg1 : 0 < sG S) : ∃ r, fX10_tight M = some (tS9 S (sG S), r) ∧ gFr (fun c _ => 50 ≤ c ∧ c ≤ 54) M r := by
  have hg := (sW_24 h.2).2.2
  have hn := (sW_24 h.2).1
  obtain ⟨M1, e1, F1, L1, I1⟩ := cs_measure h (by decide) hg1
  have h1 : CS M1 1 S := CS_fr h F1 (fun j k hj z => by omega)
  have g1 : M1.1 1 11 = nI (sG S) := cs_g h1
  have e2 := gLoop_f (body := fun z9 => fX10_tight_l15 M1 z9.1 z9.2) (fun k => (tS9 S k, nI k)) (r := tS9 S (sG S)) (sG S) gFu (by show sG S < 4096; omega) (fun k hk => by
    obtain ⟨i1, i2, i3, i4⟩ := I1 k hk
    have sl : fX0_slackAt (nI k) M1 = some (slK S k) := cs_slackAt L1 (by omega) i1 i3 i4
    have mb : M1.1 8 k = sMb S k := cs_mb h1 hk
    have hh := cs_headOf h.2 hk
    have hl := (sHd_ok h.2.2.2.1 hk).1
    by_cases c : slK S k = nI 0
    · rw [tS_yes c]
      simp (disch := omega) only [p_bnd, p_nm, p_gSEl, p_gSEr, p_l0, p_l1, p_l2, p_l3, p_l4, p_l5, p_l6, p_l7, p_l8, p_l9, p_l10, p_l14, p_l16, p_l20, p_l22, p_l24, p_l30, p_l31, p_l32, p_l38, p_l40, p_l41, p_l43, p_l48, p_l57, p_l59, p_l60, p_l61, p_l62, p_l63, p_l97, p_l98, p_l101, p_l122, p_l158, p_l201, p_l255, p_l256, p_l374, p_l880, p_l900, p_l1000, p_l2618, p_neg, nI_add, p_mul, p_sub, p_addm, p_addm0, p_subm, p_le, p_lt, p_eq, p_mO_eq, p_eq_mO, p_mO_lt, p_nlt_mO, p_mO_le, p_le_mO, p_rI, p_rL, p_wI, p_wL, p_wF, p_has10, p_has11, p_ib0, p_ib1, p_shl1, p_zv0, p_zv1, p_zvib, p_ibd, p_ibn, if_pos, if_neg, if_true, if_false, ne_eq, not_true, not_false_iff, Decidable.not_not, Nat.not_lt, Nat.not_le, Bool.true_eq_false, Bool.false_eq_true, eq_self, reduceIte, Nat.reduceAdd, Nat.reduceMul, Nat.reduceSub, Nat.reduceEqDiff, Nat.reduceLT, Nat.reduceLeDiff, reduceCtorEq, fX10_tight_l15, fX10_tight_b54, g1, sl, c, mb, hh]
    · rw [tS_no c]
      simp (disch := omega) only [p_bnd, p_nm, p_gSEl, p_gSEr, p_l0, p_l1, p_l2, p_l3, p_l4, p_l5, p_l6, p_l7, p_l8, p_l9, p_l10, p_l14, p_l16, p_l20, p_l22, p_l24, p_l30, p_l31, p_l32, p_l38, p_l40, p_l41, p_l43, p_l48, p_l57, p_l59, p_l60, p_l61, p_l62, p_l63, p_l97, p_l98, p_l101, p_l122, p_l158, p_l201, p_l255, p_l256, p_l374, p_l880, p_l900, p_l1000, p_l2618, p_neg, nI_add, p_mul, p_sub, p_addm, p_addm0, p_subm, p_le, p_lt, p_eq, p_mO_eq, p_eq_mO, p_mO_lt, p_nlt_mO, p_mO_le, p_le_mO, p_rI, p_rL, p_wI, p_wL, p_wF, p_has10, p_has11, p_ib0, p_ib1, p_shl1, p_zv0, p_zv1, p_zvib, p_ibd, p_ibn, if_pos, if_neg, if_true, if_false, ne_eq, not_true, not_false_iff, Decidable.not_not, Nat.not_lt, Nat.not_le, Bool.true_eq_false, Bool.false_eq_true, eq_self, reduceIte, Nat.reduceAdd, Nat.reduceMul, Nat.reduceSub, Nat.reduceEqDiff, Nat.reduceLT, Nat.reduceLeDiff, reduceCtorEq, fX10_tight_l15, fX10_tight_b54, g1, sl, if_neg c]) (by simp (disch := omega) only [p_bnd, p_nm, p_gSEl, p_gSEr, p_l0, p_l1, p_l2, p_l3, p_l4, p_l5, p_l6, p_l7, p_l8, p_l9, p_l10, p_l14, p_l16, p_l20, p_l22, p_l24, p_l30, p_l31, p_l32, p_l38, p_l40, p_l41, p_l43, p_l48, p_l57, p_l59, p_l60, p_l61, p_l62, p_l63, p_l97, p_l98, p_l101, p_l122, p_l158, p_l201, p_l255, p_l256, p_l374, p_l880, p_l900, p_l1000, p_l2618, p_neg, nI_add, p_mul, p_sub, p_addm, p_addm0, p_subm, p_le, p_lt, p_eq, p_mO_eq, p_eq_mO, p_mO_lt, p_nlt_mO, p_mO_le, p_le_mO, p_rI, p_rL, p_wI, p_wL, p_wF, p_has10, p_has11, p_ib0, p_ib1, p_shl1, p_zv0, p_zv1, p_zvib, p_ibd, p_ibn, if_pos, if_neg, if_true, if_false, ne_eq, not_true, not_false_iff, Decidable.not_not, Nat.not_lt, Nat.not_le, Bool.true_eq_false, Bool.false_eq_true, eq_self, reduceIte, Nat.reduceAdd, Nat.reduceMul, Nat.reduceSub, Nat.reduceEqDiff, Nat.reduceLT, Nat.reduceLeDiff, reduceCtorEq, fX10_tight_l15, g1])
  refine ⟨M1, ?_, gFr_mo F1 (fun c k z => by omega)⟩
  unfold fX10_tight
  rw [e1, p_bnd]
  rw [show gLoop (fun z9 => fX10_tight_l15 M1 z9.1 z9.2) gFu ((0 : Int32), (0 : Int32)) = some (tS9 S (sG S)) from e2, p_bnd]
theorem rs_tight (h : RS M S) (hg1 : 0 < sG S) : ∃ r, fX11_tight M = some (tS9 S (sG S), r) ∧ gFr (fun c k => (14 ≤ c ∧ c ≤ 17) ∨ (c = 0 ∧ (k = 38 ∨ k = 0))) M r ∧ r.1 0 0 = nI 0 := by
  have hg := (sW_24 h.2).2.2
  have hn := (sW_24 h.2).1
  have h0 : RS (gI M 0 0 (nI 0)) S := RS_of h (p_gI_o (by decide))
  obtain ⟨M1, e1, F1, L1, I1⟩ := rs_laysChains h0 hg1
  have h1 : RS M1 S := RS_of h0 (gFr_c1 F1 (fun _ => by omega))
  have g1 : M1.1 1 2 = nI (sG S) := h1.1.1.2.2.1
  have e2 := gLoop_f (body := fun z9 => fX11_tight_l13 M1 z9.1 z9.2) (fun k => (tS9 S k, nI k)) (r := tS9 S (sG S)) (sG S) gFu (by show sG S < 4096; omega) (fun k hk => by
    obtain ⟨i1, i2, i3, i4⟩ := I1 k hk
    have sl : fX11_slack (nI k) M1 = some (slK S k) := rs_slack L1 (by omega) i1 i3 i4
    have hh := rs_or h1 hk
    have hl := (sHd_ok h.2.2.2.1 hk).1
    by_cases c : slK S k = nI 0
    · rw [tS_yes c]
      simp (disch := omega) only [p_bnd, p_nm, p_gSEl, p_gSEr, p_l0, p_l1, p_l2, p_l3, p_l4, p_l5, p_l6, p_l7, p_l8, p_l9, p_l10, p_l14, p_l16, p_l20, p_l22, p_l24, p_l30, p_l31, p_l32, p_l38, p_l40, p_l41, p_l43, p_l48, p_l57, p_l59, p_l60, p_l61, p_l62, p_l63, p_l97, p_l98, p_l101, p_l122, p_l158, p_l201, p_l255, p_l256, p_l374, p_l880, p_l900, p_l1000, p_l2618, p_neg, nI_add, p_mul, p_sub, p_addm, p_addm0, p_subm, p_le, p_lt, p_eq, p_mO_eq, p_eq_mO, p_mO_lt, p_nlt_mO, p_mO_le, p_le_mO, p_rI, p_rL, p_wI, p_wL, p_wF, p_has10, p_has11, p_ib0, p_ib1, p_shl1, p_zv0, p_zv1, p_zvib, p_ibd, p_ibn, if_pos, if_neg, if_true, if_false, ne_eq, not_true, not_false_iff, Decidable.not_not, Nat.not_lt, Nat.not_le, Bool.true_eq_false, Bool.false_eq_true, eq_self, reduceIte, Nat.reduceAdd, Nat.reduceMul, Nat.reduceSub, Nat.reduceEqDiff, Nat.reduceLT, Nat.reduceLeDiff, reduceCtorEq, fX11_tight_l13, fX11_tight_b47, g1, sl, c, hh]
    · rw [tS_no c]
      simp (disch := omega) only [p_bnd, p_nm, p_gSEl, p_gSEr, p_l0, p_l1, p_l2, p_l3, p_l4, p_l5, p_l6, p_l7, p_l8, p_l9, p_l10, p_l14, p_l16, p_l20, p_l22, p_l24, p_l30, p_l31, p_l32, p_l38, p_l40, p_l41, p_l43, p_l48, p_l57, p_l59, p_l60, p_l61, p_l62, p_l63, p_l97, p_l98, p_l101, p_l122, p_l158, p_l201, p_l255, p_l256, p_l374, p_l880, p_l900, p_l1000, p_l2618, p_neg, nI_add, p_mul, p_sub, p_addm, p_addm0, p_subm, p_le, p_lt, p_eq, p_mO_eq, p_eq_mO, p_mO_lt, p_nlt_mO, p_mO_le, p_le_mO, p_rI, p_rL, p_wI, p_wL, p_wF, p_has10, p_has11, p_ib0, p_ib1, p_shl1, p_zv0, p_zv1, p_zvib, p_ibd, p_ibn, if_pos, if_neg, if_true, if_false, ne_eq, not_true, not_false_iff, Decidable.not_not, Nat.not_lt, Nat.not_le, Bool.true_eq_false, Bool.false_eq_true, eq_self, reduceIte, Nat.reduceAdd, Nat.reduceMul, Nat.reduceSub, Nat.reduceEqDiff, Nat.reduceLT, Nat.reduceLeDiff, reduceCtorEq, fX11_tight_l13, fX11_tight_b47, g1, sl, if_neg c, p_or0]) (by simp (disch := omega) only [p_bnd, p_nm, p_gSEl, p_gSEr, p_l0, p_l1, p_l2, p_l3, p_l4, p_l5, p_l6, p_l7, p_l8, p_l9, p_l10, p_l14, p_l16, p_l20, p_l22, p_l24, p_l30, p_l31, p_l32, p_l38, p_l40, p_l41, p_l43, p_l48, p_l57, p_l59, p_l60, p_l61, p_l62, p_l63, p_l97, p_l98, p_l101, p_l122, p_l158, p_l201, p_l255, p_l256, p_l374, p_l880, p_l900, p_l1000, p_l2618, p_neg, nI_add, p_mul, p_sub, p_addm, p_addm0, p_subm, p_le, p_lt, p_eq, p_mO_eq, p_eq_mO, p_mO_lt, p_nlt_mO, p_mO_le, p_le_mO, p_rI, p_rL, p_wI, p_wL, p_wF, p_has10, p_has11, p_ib0, p_ib1, p_shl1, p_zv0, p_zv1, p_zvib, p_ibd, p_ibn, if_pos, if_neg, if_true, if_false, ne_eq, not_true, not_false_iff, Decidable.not_not, Nat.not_lt, Nat.not_le, Bool.true_eq_false, Bool.false_eq_true, eq_self, reduceIte, Nat.reduceAdd, Nat.reduceMul, Nat.reduceSub, Nat.reduceEqDiff, Nat.reduceLT, Nat.reduceLeDiff, reduceCtorEq, fX11_tight_l13, g1])
  refine ⟨M1, ?_, gFr_tr (gFr_I (by omega)) (gFr_mo F1 (fun c k z => by omega)), by rw [(F1 0 0 (by omega)).1, p_gI_s]⟩
  unfold fX11_tight
  rw [show (0 : Int32) = nI 0 from rfl, p_wF, p_bnd, e1, p_bnd]
  rw [show gLoop (fun z9 => fX11_tight_l13 M1 z9.1 z9.2) gFu (nI 0, nI 0) = some (tS9 S (sG S)) from e2, p_bnd]
end SP
