/-! OUTPUT: both write the same text -/
section OU
variable {M N : gMem} {S : gS} {l w : List Nat} {p u x i b : Nat} {b0 : Bool}
def Do1 (c k : Nat) : Prop := (c = 34 ∧ k = 1) ∨ c = 35
def Do2 (c k : Nat) : Prop := (c = 0 ∧ k = 40) ∨ c = 18
def OC1 (M : gMem) (l : List Nat) : Prop := M.1 34 1 = nI l.length ∧ ∀ j, j < l.length → M.1 35 j = nI (l.getD j 0)
def OR1 (N : gMem) (l : List Nat) : Prop := N.1 0 40 = nI l.length ∧ ∀ j, j < l.length → N.1 18 j = nI (l.getD j 0)
theorem ap_lt {j : Nat} (h : j < l.length) : (l ++ w).getD j 0 = l.getD j 0 := by
  rw [List.getD_eq_getElem?_getD, List.getD_eq_getElem?_getD, List.getElem?_append_left h]
theorem ap_eq {b : Nat} : (l ++ [b]).getD l.length 0 = b := by
  rw [List.getD_eq_getElem?_getD, List.getElem?_append_right (Nat.le_refl _), Nat.sub_self]; rfl
theorem c_put (h : OC1 M l) (hl : l.length < 256) (hb : b < 128) : ∃ r, fX4_put (nI b) M = some r ∧ gFr Do1 M r ∧ OC1 r (l ++ [b]) := by
  have e : (nI b).toInt8.toInt32.toInt8.toInt32 = nI b := by
    have e1 : (nI b).toInt8.toInt32 = nI b := sg_lo hb
    rw [e1, e1]
  refine ⟨gI (gI M 35 l.length (nI b)) 34 1 (nI (l.length + 1)), ?_, gFr_trI (gFr_I (Or.inr rfl)) (Or.inl ⟨rfl, rfl⟩), ?_, fun j hj => ?_⟩
  · unfold fX4_put
    rw [h.1, if_neg (by rw [show (256 : Int32) = nI 256 from rfl, p_le (by omega) (by omega)]; omega), e, p_wI hl (by omega), p_bnd, p_gI_n (Or.inl (by decide)), h.1, show nI l.length + (1 : Int32) = nI (l.length + 1) from nI_add _ _, p_wF, p_bnd]
  · rw [p_gI_s, List.length_append]; rfl
  · rw [List.length_append] at hj
    have hj : j < l.length + 1 := hj
    rw [p_gI_n (Or.inl (by decide)), p_gI]
    by_cases c : j = l.length
    · rw [if_pos ⟨rfl, c⟩, c, ap_eq]
    · rw [if_neg (fun z => c z.2), ap_lt (by omega)]; exact h.2 j (by omega)
theorem r_put (h : OR1 N l) (hl : l.length < 256) : ∃ r, fX11_tells (nI b) N = some r ∧ gFr Do2 N r ∧ OR1 r (l ++ [b]) := by
  refine ⟨gI (gI N 18 l.length (nI b)) 0 40 (nI (l.length + 1)), ?_, gFr_trI (gFr_I (Or.inr rfl)) (Or.inl ⟨rfl, rfl⟩), ?_, fun j hj => ?_⟩
  · unfold fX11_tells
    rw [h.1, p_wI (by omega) (by omega), p_bnd, p_gI_n (Or.inl (by decide)), h.1, show nI l.length + (1 : Int32) = nI (l.length + 1) from nI_add _ _, p_wF, p_bnd]
  · rw [p_gI_s, List.length_append]; rfl
  · rw [List.length_append] at hj
    have hj : j < l.length + 1 := hj
    rw [p_gI_n (Or.inl (by decide)), p_gI]
    by_cases c : j = l.length
    · rw [if_pos ⟨rfl, c⟩, c, ap_eq]
    · rw [if_neg (fun z => c z.2), ap_lt (by omega)]; exact h.2 j (by omega)
theorem tk_s {k : Nat} (h : k < w.length) : w.take (k + 1) = w.take k ++ [w.getD k 0] := by
  rw [List.take_add_one, List.getD_eq_getElem?_getD, List.getElem?_eq_getElem h]; rfl
theorem c_putName (h : OC1 M l) (ok : sNok w) (hl : l.length + 6 ≤ 256) : ∃ r, fX4_putName (lN (gPk w)) M = some r ∧ gFr Do1 M r ∧ OC1 r (l ++ w) := by
  obtain ⟨w1, w6, w3⟩ := id ok
  obtain ⟨r, e, F, O⟩ : ∃ r, gLoop (fun z9 => fX4_putName_l2 (lN (gPk w)) z9.1 z9.2) gFu ((0 : Int32), M) = some r ∧ gFr Do1 M r ∧ OC1 r (l ++ w) := by
    refine gLoop_i (fun k s => s.1 = nI k ∧ k ≤ 6 ∧ gFr Do1 M s.2 ∧ OC1 s.2 (l ++ w.take k)) _ 6 ⟨rfl, by omega, gFr_rf, by rw [List.take_zero, List.append_nil]; exact h⟩ (by decide) ?_
    rintro k ⟨s1, M'⟩ hk ⟨rfl, h6, hF, hO⟩
    rcases Nat.lt_or_ge k 6 with q | q
    · have ll := p_letter (l := w) (fun c hc => (sNok_b ok c hc).2) w6 q
      rcases Nat.lt_or_ge k w.length with d | d
      · have hb := sNok_getD ok d
        obtain ⟨M2, e2, F2, O2⟩ := c_put (b := w.getD k 0) hO (by rw [List.length_append, List.length_take]; omega) (by omega)
        refine Or.inl ⟨(nI (k + 1), M2), ?_, q, rfl, by omega, gFr_tr hF F2, by rw [tk_s d, ← List.append_assoc]; exact O2⟩
        show fX4_putName_l2 (lN (gPk w)) (nI k) M' = _
        unfold fX4_putName_l2 fX4_putName_b26
        rw [if_neg (by rw [show (6 : Int32) = nI 6 from rfl, p_le (by omega) (by omega)]; omega), ll, p_bnd, if_neg (show ¬ nI (w.getD k 0) = 0 by rw [show (0 : Int32) = nI 0 from rfl, p_eq (by omega) (by omega)]; omega), e2, p_bnd, show nI k + (1 : Int32) = nI (k + 1) from nI_add _ _]
      · refine Or.inl ⟨(nI (k + 1), M'), ?_, q, rfl, by omega, hF, by
          have hO : OC1 M' (l ++ w.take k) := hO
          rw [List.take_of_length_le d] at hO
          rw [List.take_of_length_le (by omega)]; exact hO⟩
        show fX4_putName_l2 (lN (gPk w)) (nI k) M' = _
        unfold fX4_putName_l2 fX4_putName_b26
        rw [if_neg (by rw [show (6 : Int32) = nI 6 from rfl, p_le (by omega) (by omega)]; omega), ll, p_bnd, getD_out d, if_pos (show nI 0 = 0 from rfl), show nI k + (1 : Int32) = nI (k + 1) from nI_add _ _]
    · refine Or.inr ⟨M', ?_, hF, by
        have hO : OC1 M' (l ++ w.take k) := hO
        rw [List.take_of_length_le (by omega)] at hO; exact hO⟩
      show fX4_putName_l2 (lN (gPk w)) (nI k) M' = _
      unfold fX4_putName_l2
      rw [if_pos (by rw [show (6 : Int32) = nI 6 from rfl, p_le (by omega) (by omega)]; omega)]
  refine ⟨r, ?_, F, O⟩
  unfold fX4_putName
  rw [e, p_bnd]
theorem r_putName (hr : RS N S) (hu : u < sN S) (h : OR1 N l) (hl : l.length + 6 ≤ 256) : ∃ r, fX11_tellsName (nI u) N = some r ∧ gFr Do2 N r ∧ OR1 r (l ++ sNm S u) := by
  obtain ⟨w1, w6, w3⟩ := hr.2.2.2.2.2.2.1 u hu
  obtain ⟨r, e, F, O⟩ : ∃ r, gLoop (fun z9 => fX11_tellsName_l2 (nI u) z9.1 z9.2) gFu ((0 : Int32), N) = some r ∧ gFr Do2 N r ∧ OR1 r (l ++ sNm S u) := by
    refine gLoop_i (fun k s => s.1 = nI k ∧ k ≤ (sNm S u).length ∧ gFr Do2 N s.2 ∧ OR1 s.2 (l ++ (sNm S u).take k)) _ (sNm S u).length ⟨rfl, by omega, gFr_rf, by rw [List.take_zero, List.append_nil]; exact h⟩ (by show (sNm S u).length < 4096; omega) ?_
    rintro k ⟨s1, N'⟩ hk ⟨rfl, h6, hF, hO⟩
    have hr' : RS N' S := RS_of hr (gFr_c1 (show gFr Do2 N N' from hF) fun k z => by unfold Do2 at z; omega)
    have e1 := rs_len hr' hu
    rcases Nat.lt_or_ge k (sNm S u).length with d | d
    · have e2 := rs_let hr' hu (k := k) (by omega)
      obtain ⟨M2, e3, F2, O2⟩ := r_put (b := (sNm S u).getD k 0) hO (by rw [List.length_append, List.length_take]; omega)
      refine Or.inl ⟨(nI (k + 1), M2), ?_, d, rfl, by omega, gFr_tr hF F2, by rw [tk_s d, ← List.append_assoc]; exact O2⟩
      show fX11_tellsName_l2 (nI u) (nI k) N' = _
      unfold fX11_tellsName_l2
      rw [show fX11_of (nI u) (2 : Int32) N' = _ from e1, p_bnd, if_neg (by rw [p_le (by omega) (by omega)]; omega), show (3 : Int32) + nI k = nI (3 + k) from nI_add _ _, e2, p_bnd, e3, p_bnd, show nI k + (1 : Int32) = nI (k + 1) from nI_add _ _]
    · refine Or.inr ⟨N', ?_, hF, by
        have hO : OR1 N' (l ++ (sNm S u).take k) := hO
        rw [List.take_of_length_le d] at hO; exact hO⟩
      show fX11_tellsName_l2 (nI u) (nI k) N' = _
      unfold fX11_tellsName_l2
      rw [show fX11_of (nI u) (2 : Int32) N' = _ from e1, p_bnd, if_pos (by rw [p_le (by omega) (by omega)]; omega)]
  refine ⟨r, ?_, F, O⟩
  unfold fX11_tellsName
  rw [e, p_bnd]
/-- a group's text -/
def oG1 (S : gS) (p : Nat) : Nat → List Nat
  | 0 => []
  | u + 1 => oG1 S p u ++ (if sPl S u = p then (if u = sHd S p then [] else [43]) ++ sNm S u else [])
def oGx (S : gS) (p : Nat) : List Nat := if gCt S p = 1 then oG1 S p (sN S) else [40] ++ oG1 S p (sN S) ++ [41]
def gC9 (S : gS) (p : Nat) : Nat → Nat := fb_ct (fun v => decide (sPl S v = p))
theorem oG1_le (h : sW S) : ∀ u, u ≤ sN S → (oG1 S p u).length ≤ 7 * gC9 S p u := by
  intro u
  induction u with
  | zero => intro _; exact Nat.zero_le _
  | succ u ih =>
    intro hu
    have := ih (by omega)
    have w6 := (h.2.2.2.2.2.1 u (by omega)).2.1
    unfold gC9 at this ⊢
    rw [fb_ct_succ]
    show (oG1 S p u ++ (if sPl S u = p then (if u = sHd S p then [] else [43]) ++ sNm S u else [])).length ≤ _
    rw [List.length_append]
    by_cases c : sPl S u = p
    · rw [if_pos c, if_pos (decide_eq_true c), List.length_append]
      have : (if u = sHd S p then ([] : List Nat) else [43]).length ≤ 1 := by split <;> decide
      omega
    · rw [if_neg c, if_neg (by rw [decide_eq_false c]; decide)]
      show _ + 0 ≤ _
      omega
theorem oGx_le (h : sW S) : (oGx S p).length ≤ 7 * gC9 S p (sN S) + 2 := by
  have := oG1_le (p := p) h (sN S) (Nat.le_refl _)
  unfold oGx
  split
  · omega
  · rw [List.length_append, List.length_append]
    show 1 + _ + 1 ≤ _
    omega
theorem c_grpL (hc : CS M 1 S) (hp : p < sG S) (h : OC1 M l) (hl : l.length + 7 * gC9 S p (sN S) ≤ 250) : ∃ r, gLoop (fun z9 => fX4_putGroup_l27 1 (sMb S p) (ib b0) z9.1 z9.2) gFu ((0 : Int32), M) = some r ∧ gFr Do1 M r ∧ OC1 r (l ++ oG1 S p (sN S)) := by
  have hn := hc.2.1.1
  refine gLoop_i (fun u s => s.1 = nI u ∧ u ≤ sN S ∧ gFr Do1 M s.2 ∧ OC1 s.2 (l ++ oG1 S p u)) _ (sN S) ⟨rfl, by omega, gFr_rf, by show OC1 M (l ++ []); rw [List.append_nil]; exact h⟩ (by show sN S < 4096; omega) ?_
  rintro u ⟨s1, M'⟩ hu ⟨rfl, hle, hF, hO⟩
  have hF : gFr Do1 M M' := hF
  have hc' : CS M' 1 S := CS_fr hc hF (fun j k hj z => by unfold Do1 at z; omega)
  have en := cs_n hc'
  rcases Nat.lt_or_ge u (sN S) with q | q
  · have hb : bt (sMb S p) u = decide (u < sN S ∧ sPl S u = p) := sMb_bt (by omega)
    have tl := oG1_le (p := p) hc.2 (u + 1) q
    have mo : gC9 S p (u + 1) ≤ gC9 S p (sN S) := fb_ct_mono _ q
    by_cases c : sPl S u = p
    · have hb1 : bt (sMb S p) u = true := hb.trans (decide_eq_true ⟨q, c⟩)
      have ok := hc.2.2.2.2.2.2.1 u q
      have tl0 := oG1_le (p := p) hc.2 u (by omega)
      have ct1 : gC9 S p (u + 1) = gC9 S p u + 1 := by unfold gC9; rw [fb_ct_succ, if_pos (decide_eq_true c)]
      have step : fX4_putGroup_l27 1 (sMb S p) (ib b0) (nI u) M' = if nI u = nI (sHd S p) then (fX4_putGroup_b60 1 (sMb S p) (ib b0) (nI u) M') else (fX4_put (43 : Int32) M').bind fun v12 => fX4_putGroup_b60 1 (sMb S p) (ib b0) (nI u) v12 := by
        unfold fX4_putGroup_l27
        rw [en, if_neg (by rw [p_le (by omega) (by omega)]; omega), p_has10 (by omega), p_bnd, hb1, if_neg (show ¬ ib true = 0 by decide), cs_headOf hc.2 hp, p_bnd]
      have hh := (sHd_ok hc.2.2.2.1 hp).1
      have b60 : ∀ {M2 : gMem} {l2 : List Nat}, gFr Do1 M M2 → OC1 M2 l2 → l2.length + 6 ≤ 256 → ∃ r, fX4_putGroup_b60 1 (sMb S p) (ib b0) (nI u) M2 = some (.inl (nI (u + 1), r)) ∧ gFr Do1 M2 r ∧ OC1 r (l2 ++ sNm S u) := fun {M2 l2} f2 o2 h2 => by
        have hc2 : CS M2 1 S := CS_fr hc f2 (fun j k hj z => by unfold Do1 at z; omega)
        have hnm : M2.2.1 2 u = lN (gPk (sNm S u)) := cs_nm hc2 q
        obtain ⟨r, e, F, O⟩ := c_putName o2 ok h2
        refine ⟨r, ?_, F, O⟩
        unfold fX4_putGroup_b60 fX4_putGroup_b71
        rw [p_rL (by omega) (by omega), p_bnd, hnm, e, p_bnd, show nI u + (1 : Int32) = nI (u + 1) from nI_add _ _]
      by_cases d : u = sHd S p
      · obtain ⟨r, e, F, O⟩ := b60 hF hO (by rw [List.length_append]; omega)
        refine Or.inl ⟨(nI (u + 1), r), ?_, q, rfl, by omega, gFr_tr hF F, ?_⟩
        · show fX4_putGroup_l27 1 (sMb S p) (ib b0) (nI u) M' = _
          rw [step, if_pos (by rw [← d]), e]
        · show OC1 r (l ++ (oG1 S p u ++ (if sPl S u = p then (if u = sHd S p then [] else [43]) ++ sNm S u else [])))
          rw [if_pos c, if_pos d, List.nil_append, ← List.append_assoc]; exact O
      · obtain ⟨M3, e3, F3, O3⟩ := c_put (b := 43) hO (by rw [List.length_append]; omega) (by decide)
        obtain ⟨r, e, F, O⟩ := b60 (gFr_tr hF F3) O3 (by rw [List.length_append, List.length_append]; show _ + 1 + 6 ≤ _; omega)
        refine Or.inl ⟨(nI (u + 1), r), ?_, q, rfl, by omega, gFr_tr hF (gFr_tr F3 F), ?_⟩
        · show fX4_putGroup_l27 1 (sMb S p) (ib b0) (nI u) M' = _
          rw [step, if_neg (by rw [p_eq (by omega) (by omega)]; exact d), show (43 : Int32) = nI 43 from rfl, e3, p_bnd, e]
        · show OC1 r (l ++ (oG1 S p u ++ (if sPl S u = p then (if u = sHd S p then [] else [43]) ++ sNm S u else [])))
          rw [if_pos c, if_neg d, ← List.append_assoc, ← List.append_assoc]; exact O
    · have hb1 : bt (sMb S p) u = false := hb.trans (decide_eq_false (fun z => c z.2))
      refine Or.inl ⟨(nI (u + 1), M'), ?_, q, rfl, by omega, hF, ?_⟩
      · show fX4_putGroup_l27 1 (sMb S p) (ib b0) (nI u) M' = _
        unfold fX4_putGroup_l27 fX4_putGroup_b71
        rw [en, if_neg (by rw [p_le (by omega) (by omega)]; omega), p_has10 (by omega), p_bnd, hb1, if_pos (show ib false = 0 from rfl), show nI u + (1 : Int32) = nI (u + 1) from nI_add _ _]
      · show OC1 M' (l ++ (oG1 S p u ++ (if sPl S u = p then (if u = sHd S p then [] else [43]) ++ sNm S u else [])))
        rw [if_neg c, List.append_nil]; exact hO
  · have e9 : u = sN S := by omega
    refine Or.inr ⟨M', ?_, hF, by rw [← e9]; exact hO⟩
    show fX4_putGroup_l27 1 (sMb S p) (ib b0) (nI u) M' = _
    unfold fX4_putGroup_l27
    rw [en, if_pos (by rw [p_le (by omega) (by omega)]; omega)]
theorem r_grpL (hr : RS N S) (hp : p < sG S) (h : OR1 N l) (hl : l.length + 7 * gC9 S p (sN S) ≤ 250) : ∃ r, gLoop (fun z9 => fX11_tellsGroup_l33 (nI p) (sMb S p) (ib b0) z9.1 z9.2) gFu ((0 : Int32), N) = some r ∧ gFr Do2 N r ∧ OR1 r (l ++ oG1 S p (sN S)) := by
  have hn := hr.2.1.1
  have hg := (sW_24 hr.2).2.2
  refine gLoop_i (fun u s => s.1 = nI u ∧ u ≤ sN S ∧ gFr Do2 N s.2 ∧ OR1 s.2 (l ++ oG1 S p u)) _ (sN S) ⟨rfl, by omega, gFr_rf, by show OR1 N (l ++ []); rw [List.append_nil]; exact h⟩ (by show sN S < 4096; omega) ?_
  rintro u ⟨s1, N'⟩ hu ⟨rfl, hle, hF, hO⟩
  have hF : gFr Do2 N N' := hF
  have hr' : RS N' S := RS_of hr (gFr_c1 hF fun k z => by unfold Do2 at z; omega)
  have en : rI N' 1 374 (0 : Int32) = some (nI (sN S)) := by rw [show (0 : Int32) = nI 0 from rfl, p_rI (by omega) (by omega), hr'.1.1.1]
  rcases Nat.lt_or_ge u (sN S) with q | q
  · have hb : bt (sMb S p) u = decide (u < sN S ∧ sPl S u = p) := sMb_bt (by omega)
    have tl := oG1_le (p := p) hr.2 (u + 1) q
    have mo : gC9 S p (u + 1) ≤ gC9 S p (sN S) := fb_ct_mono _ q
    by_cases c : sPl S u = p
    · have hb1 : bt (sMb S p) u = true := hb.trans (decide_eq_true ⟨q, c⟩)
      have tl0 := oG1_le (p := p) hr.2 u (by omega)
      have ct1 : gC9 S p (u + 1) = gC9 S p u + 1 := by unfold gC9; rw [fb_ct_succ, if_pos (decide_eq_true c)]
      have step : fX11_tellsGroup_l33 (nI p) (sMb S p) (ib b0) (nI u) N' = if nI u = nI (sHd S p) then (fX11_tellsGroup_b76 (nI p) (sMb S p) (ib b0) (nI u) N') else (fX11_tells (43 : Int32) N').bind fun v14 => fX11_tellsGroup_b76 (nI p) (sMb S p) (ib b0) (nI u) v14 := by
        unfold fX11_tellsGroup_l33
        rw [en, p_bnd, if_neg (by rw [p_le (by omega) (by omega)]; omega), p_has11 (by omega), p_bnd, hb1, if_neg (show ¬ ib true = 0 by decide), show (14 : Int32) + nI p = nI (14 + p) from nI_add _ _, p_rI (by omega) (by omega), p_bnd, rs_or hr' hp]
      have hh := (sHd_ok hr.2.2.2.1 hp).1
      have b60 : ∀ {M2 : gMem} {l2 : List Nat}, gFr Do2 N M2 → OR1 M2 l2 → l2.length + 6 ≤ 256 → ∃ r, fX11_tellsGroup_b76 (nI p) (sMb S p) (ib b0) (nI u) M2 = some (.inl (nI (u + 1), r)) ∧ gFr Do2 M2 r ∧ OR1 r (l2 ++ sNm S u) := fun {M2 l2} f2 o2 h2 => by
        have hr2 : RS M2 S := RS_of hr (gFr_c1 f2 fun k z => by unfold Do2 at z; omega)
        obtain ⟨r, e, F, O⟩ := r_putName hr2 q o2 h2
        refine ⟨r, ?_, F, O⟩
        unfold fX11_tellsGroup_b76 fX11_tellsGroup_b82
        rw [e, p_bnd, show nI u + (1 : Int32) = nI (u + 1) from nI_add _ _]
      by_cases d : u = sHd S p
      · obtain ⟨r, e, F, O⟩ := b60 hF hO (by rw [List.length_append]; omega)
        refine Or.inl ⟨(nI (u + 1), r), ?_, q, rfl, by omega, gFr_tr hF F, ?_⟩
        · show fX11_tellsGroup_l33 (nI p) (sMb S p) (ib b0) (nI u) N' = _
          rw [step, if_pos (by rw [← d]), e]
        · show OR1 r (l ++ (oG1 S p u ++ (if sPl S u = p then (if u = sHd S p then [] else [43]) ++ sNm S u else [])))
          rw [if_pos c, if_pos d, List.nil_append, ← List.append_assoc]; exact O
      · obtain ⟨M3, e3, F3, O3⟩ := r_put (b := 43) hO (by rw [List.length_append]; omega)
        obtain ⟨r, e, F, O⟩ := b60 (gFr_tr hF F3) O3 (by rw [List.length_append, List.length_append]; show _ + 1 + 6 ≤ _; omega)
        refine Or.inl ⟨(nI (u + 1), r), ?_, q, rfl, by omega, gFr_tr hF (gFr_tr F3 F), ?_⟩
        · show fX11_tellsGroup_l33 (nI p) (sMb S p) (ib b0) (nI u) N' = _
          rw [step, if_neg (by rw [p_eq (by omega) (by omega)]; exact d), show (43 : Int32) = nI 43 from rfl, e3, p_bnd, e]
        · show OR1 r (l ++ (oG1 S p u ++ (if sPl S u = p then (if u = sHd S p then [] else [43]) ++ sNm S u else [])))
          rw [if_pos c, if_neg d, ← List.append_assoc, ← List.append_assoc]; exact O
    · have hb1 : bt (sMb S p) u = false := hb.trans (decide_eq_false (fun z => c z.2))
      refine Or.inl ⟨(nI (u + 1), N'), ?_, q, rfl, by omega, hF, ?_⟩
      · show fX11_tellsGroup_l33 (nI p) (sMb S p) (ib b0) (nI u) N' = _
        unfold fX11_tellsGroup_l33 fX11_tellsGroup_b82
        rw [en, p_bnd, if_neg (by rw [p_le (by omega) (by omega)]; omega), p_has11 (by omega), p_bnd, hb1, if_pos (show ib false = 0 from rfl), show nI u + (1 : Int32) = nI (u + 1) from nI_add _ _]
      · show OR1 N' (l ++ (oG1 S p u ++ (if sPl S u = p then (if u = sHd S p then [] else [43]) ++ sNm S u else [])))
        rw [if_neg c, List.append_nil]; exact hO
  · have e9 : u = sN S := by omega
    refine Or.inr ⟨N', ?_, hF, by rw [← e9]; exact hO⟩
    show fX11_tellsGroup_l33 (nI p) (sMb S p) (ib b0) (nI u) N' = _
    unfold fX11_tellsGroup_l33
    rw [en, p_bnd, if_pos (by rw [p_le (by omega) (by omega)]; omega)]
end OU
