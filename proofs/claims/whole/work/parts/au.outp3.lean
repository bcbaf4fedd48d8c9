/-! OUTPUT: a task's arrows; the step -/
def aT (S : gS) (x : Nat) : Nat → List Nat
  | 0 => []
  | i + 1 => aT S x i ++ (if sFr S i = x then ((if (aT S x i).length = 0 then [] else [32]) ++ [if sIn S i = true then 61 else 62]) ++ sNm S (sTo S i) else [])
section OU3
variable {M N : gMem} {S : gS} {l w : List Nat} {p u x i b c : Nat}
theorem aT_le (h : sW S) : ∀ i, i ≤ sM S → (aT S x i).length ≤ 8 * fb_ct (fun i => decide (sFr S i = x)) i := by
  intro i
  induction i with
  | zero => intro _; exact Nat.zero_le _
  | succ i ih =>
    intro hi
    have := ih (by omega)
    have to := (h.2.1.1 i (by omega)).2.1
    have w6 := (h.2.2.2.2.2.1 _ to).2.1
    rw [fb_ct_succ]
    show (aT S x i ++ (if sFr S i = x then ((if (aT S x i).length = 0 then [] else [32]) ++ [if sIn S i = true then 61 else 62]) ++ sNm S (sTo S i) else [])).length ≤ _
    rw [List.length_append]
    by_cases c : sFr S i = x
    · rw [if_pos c, if_pos (decide_eq_true c), List.length_append, List.length_append]
      have : (if (aT S x i).length = 0 then ([] : List Nat) else [32]).length ≤ 1 := by split <;> decide
      have : [if sIn S i = true then 61 else 62].length = 1 := rfl
      omega
    · rw [if_neg c, if_neg (by rw [decide_eq_false c]; decide)]
      show _ + 0 ≤ _
      omega
theorem aT_ct (h : sW S) : fb_ct (fun i => decide (sFr S i = x)) (sM S) ≤ 24 := by
  have e := ct_img (q := fun i => decide (sFr S i = x)) (g := sTo S) (N := 24) (m := sM S) (fun i hi _ => by have := (h.2.1.1 i hi).2.1; have := h.1.1; omega) (fun i j hi hj z1 z2 z3 => h.2.1.2 i j hi hj (by rw [of_decide_eq_true z1, of_decide_eq_true z2]) z3)
  rw [← e]
  exact fb_ct_le _ _
theorem aT_room (h : sW S) (hi : i < sM S) (hf : sFr S i = x) : (aT S x i).length ≤ 184 := by
  have a := aT_le (x := x) h i (by omega)
  have m : fb_ct (fun i => decide (sFr S i = x)) (i + 1) ≤ fb_ct (fun i => decide (sFr S i = x)) (sM S) := fb_ct_mono _ hi
  rw [fb_ct_succ, if_pos (decide_eq_true hf)] at m
  have := aT_ct (x := x) h
  omega
theorem c_arrows (hc : CS M 1 S) (hx : x < sN S) (h : OC1 M []) : ∃ r, gLoop (fun z9 => fX10_writeArrows_l15 (nI x) z9.1 z9.2) gFu ((0 : Int32), M) = some r ∧ gFr Do1 M r ∧ OC1 r (aT S x (sM S)) := by
  obtain ⟨a24, a60, g24⟩ := sW_24 hc.2
  refine gLoop_i (fun i s => s.1 = nI i ∧ i ≤ sM S ∧ gFr Do1 M s.2 ∧ OC1 s.2 (aT S x i)) _ (sM S) ⟨rfl, by omega, gFr_rf, h⟩ (by show sM S < 4096; omega) ?_
  rintro i ⟨s1, M'⟩ hi ⟨rfl, hle, hF, hO⟩
  have hF : gFr Do1 M M' := hF
  have hO : OC1 M' (aT S x i) := hO
  have hc' : CS M' 1 S := CS_fr hc hF (fun j k hj z => by unfold Do1 at z; omega)
  have em := cs_m hc'
  rcases Nat.lt_or_ge i (sM S) with q | q
  · obtain ⟨y1, y2, y3⟩ := hc.2.2.1.1 i q
    have ok := hc.2.2.2.2.2.2.1 _ y2
    have f4 : M'.1 4 i = nI (sFr S i) := cs_fr hc' q
    by_cases d : sFr S i = x
    · have rm := aT_room hc.2 q d
      have b58 : ∀ {M2 : gMem} {l2 : List Nat}, gFr Do1 M M2 → OC1 M2 l2 → l2.length ≤ 190 → ∃ r, fX10_writeArrows_b58 (nI x) (nI i) M2 = some (.inl (nI (i + 1), r)) ∧ gFr Do1 M2 r ∧ OC1 r (l2 ++ [if sIn S i = true then 61 else 62] ++ sNm S (sTo S i)) := fun {M2 l2} f2 o2 h2 => by
        have hc2 : CS M2 1 S := CS_fr hc f2 (fun j k hj z => by unfold Do1 at z; omega)
        obtain ⟨M3, e3, F3, O3⟩ := c_put (b := if sIn S i = true then 61 else 62) o2 (by omega) (by split <;> decide)
        have hc3 : CS M3 1 S := CS_fr hc2 F3 (fun j k hj z => by unfold Do1 at z; omega)
        have t5 : M3.1 5 i = nI (sTo S i) := cs_to hc3 q
        have n2 : M3.2.1 2 (sTo S i) = lN (gPk (sNm S (sTo S i))) := cs_nm hc3 y2
        obtain ⟨r, e, F, O⟩ := c_putName O3 ok (by rw [List.length_append]; show _ + 1 + 6 ≤ _; omega)
        refine ⟨r, ?_, gFr_tr F3 F, O⟩
        unfold fX10_writeArrows_b58 fX10_writeArrows_b107
        have ev : (if ib (sIn S i) = (0 : Int32) then (62 : Int32) else (61 : Int32)) = nI (if sIn S i = true then 61 else 62) := by cases sIn S i <;> rfl
        rw [cs_isInner hc2 q, p_bnd, ev, e3, p_bnd, p_rI (by omega) (by omega), p_bnd, t5, p_rL (by omega) (by omega), p_bnd, n2, e, p_bnd, show nI i + (1 : Int32) = nI (i + 1) from nI_add _ _]
      by_cases z : (aT S x i).length = 0
      · obtain ⟨r, e, F, O⟩ := b58 hF hO (by omega)
        refine Or.inl ⟨(nI (i + 1), r), ?_, q, rfl, by omega, gFr_tr hF F, ?_⟩
        · show fX10_writeArrows_l15 (nI x) (nI i) M' = _
          unfold fX10_writeArrows_l15
          rw [em, if_neg (by rw [p_le (by omega) (by omega)]; omega), p_rI (by omega) (by omega), p_bnd, f4, if_pos (by rw [d]), hO.1, if_pos (by rw [show (0 : Int32) = nI 0 from rfl, p_le (by omega) (by omega)]; omega), e]
        · show OC1 r (aT S x i ++ (if sFr S i = x then ((if (aT S x i).length = 0 then [] else [32]) ++ [if sIn S i = true then 61 else 62]) ++ sNm S (sTo S i) else []))
          rw [if_pos d, if_pos z, List.nil_append, ← List.append_assoc]; exact O
      · obtain ⟨M3, e3, F3, O3⟩ := c_put (b := 32) hO (by omega) (by decide)
        obtain ⟨r, e, F, O⟩ := b58 (gFr_tr hF F3) O3 (by rw [List.length_append]; show _ + 1 ≤ _; omega)
        refine Or.inl ⟨(nI (i + 1), r), ?_, q, rfl, by omega, gFr_tr hF (gFr_tr F3 F), ?_⟩
        · show fX10_writeArrows_l15 (nI x) (nI i) M' = _
          unfold fX10_writeArrows_l15
          rw [em, if_neg (by rw [p_le (by omega) (by omega)]; omega), p_rI (by omega) (by omega), p_bnd, f4, if_pos (by rw [d]), hO.1, if_neg (by rw [show (0 : Int32) = nI 0 from rfl, p_le (by omega) (by omega)]; omega), show (32 : Int32) = nI 32 from rfl, e3, p_bnd, e]
        · show OC1 r (aT S x i ++ (if sFr S i = x then ((if (aT S x i).length = 0 then [] else [32]) ++ [if sIn S i = true then 61 else 62]) ++ sNm S (sTo S i) else []))
          rw [if_pos d, if_neg z, ← List.append_assoc, ← List.append_assoc]; exact O
    · refine Or.inl ⟨(nI (i + 1), M'), ?_, q, rfl, by omega, hF, ?_⟩
      · show fX10_writeArrows_l15 (nI x) (nI i) M' = _
        unfold fX10_writeArrows_l15 fX10_writeArrows_b107
        rw [em, if_neg (by rw [p_le (by omega) (by omega)]; omega), p_rI (by omega) (by omega), p_bnd, f4, if_neg (by rw [p_eq (by omega) (by omega)]; exact d), show nI i + (1 : Int32) = nI (i + 1) from nI_add _ _]
      · show OC1 M' (aT S x i ++ (if sFr S i = x then ((if (aT S x i).length = 0 then [] else [32]) ++ [if sIn S i = true then 61 else 62]) ++ sNm S (sTo S i) else []))
        rw [if_neg d, List.append_nil]; exact hO
  · have e9 : i = sM S := by omega
    refine Or.inr ⟨M', ?_, hF, by rw [← e9]; exact hO⟩
    show fX10_writeArrows_l15 (nI x) (nI i) M' = _
    unfold fX10_writeArrows_l15
    rw [em, if_pos (by rw [p_le (by omega) (by omega)]; omega)]
theorem r_arrows (hr : RS N S) (hx : x < sN S) (h : OR1 N []) : ∃ r, gLoop (fun z9 => fX11_writeArrows_l17 (nI x) z9.1 z9.2) gFu ((0 : Int32), N) = some r ∧ gFr Do2 N r ∧ OR1 r (aT S x (sM S)) := by
  obtain ⟨a24, a60, g24⟩ := sW_24 hr.2
  refine gLoop_i (fun i s => s.1 = nI i ∧ i ≤ sM S ∧ gFr Do2 N s.2 ∧ OR1 s.2 (aT S x i)) _ (sM S) ⟨rfl, by omega, gFr_rf, h⟩ (by show sM S < 4096; omega) ?_
  rintro i ⟨s1, M'⟩ hi ⟨rfl, hle, hF, hO⟩
  have hF : gFr Do2 N M' := hF
  have hO : OR1 M' (aT S x i) := hO
  have hr' : RS M' S := RS_of hr (gFr_c1 hF fun k z => by unfold Do2 at z; omega)
  have em : rI M' 1 374 (1 : Int32) = some (nI (sM S)) := by rw [show (1 : Int32) = nI 1 from rfl, p_rI (by omega) (by omega), hr'.1.1.2.1]
  rcases Nat.lt_or_ge i (sM S) with q | q
  · obtain ⟨y1, y2, y3⟩ := hr.2.2.1.1 i q
    have f4 : rI M' 1 374 ((38 : Int32) + nI i) = some (nI (sFr S i)) := by rw [show (38 : Int32) + nI i = nI (38 + i) from nI_add _ _, p_rI (by omega) (by omega), (hr'.1.2.2.2.1 i q).1]
    by_cases d : sFr S i = x
    · have rm := aT_room hr.2 q d
      have b58 : ∀ {M2 : gMem} {l2 : List Nat}, gFr Do2 N M2 → OR1 M2 l2 → l2.length ≤ 190 → ∃ r, fX11_writeArrows_b56 (nI x) (nI i) M2 = some (.inl (nI (i + 1), r)) ∧ gFr Do2 M2 r ∧ OR1 r (l2 ++ [if sIn S i = true then 61 else 62] ++ sNm S (sTo S i)) := fun {M2 l2} f2 o2 h2 => by
        have hr2 : RS M2 S := RS_of hr (gFr_c1 f2 fun k z => by unfold Do2 at z; omega)
        obtain ⟨M3, e3, F3, O3⟩ := r_put (b := if sIn S i = true then 61 else 62) o2 (by omega)
        have hr3 : RS M3 S := RS_of hr2 (gFr_c1 F3 fun k z => by unfold Do2 at z; omega)
        have t5 : rI M3 1 374 ((98 : Int32) + nI i) = some (nI (sTo S i)) := by rw [show (98 : Int32) + nI i = nI (98 + i) from nI_add _ _, p_rI (by omega) (by omega), (hr3.1.2.2.2.1 i q).2]
        obtain ⟨r, e, F, O⟩ := r_putName hr3 y2 O3 (by rw [List.length_append]; show _ + 1 + 6 ≤ _; omega)
        refine ⟨r, ?_, gFr_tr F3 F, O⟩
        unfold fX11_writeArrows_b56 fX11_writeArrows_b88
        have ev : (if ib (sIn S i) = (0 : Int32) then (62 : Int32) else (61 : Int32)) = nI (if sIn S i = true then 61 else 62) := by cases sIn S i <;> rfl
        rw [rs_isInner hr2 q, p_bnd, ev, e3, p_bnd, t5, p_bnd, e, p_bnd, show nI i + (1 : Int32) = nI (i + 1) from nI_add _ _]
      by_cases z : (aT S x i).length = 0
      · obtain ⟨r, e, F, O⟩ := b58 hF hO (by omega)
        refine Or.inl ⟨(nI (i + 1), r), ?_, q, rfl, by omega, gFr_tr hF F, ?_⟩
        · show fX11_writeArrows_l17 (nI x) (nI i) M' = _
          unfold fX11_writeArrows_l17
          rw [em, p_bnd, if_neg (by rw [p_le (by omega) (by omega)]; omega), f4, p_bnd, if_pos (by rw [d]), hO.1, if_pos (by rw [show (0 : Int32) = nI 0 from rfl, p_le (by omega) (by omega)]; omega), e]
        · show OR1 r (aT S x i ++ (if sFr S i = x then ((if (aT S x i).length = 0 then [] else [32]) ++ [if sIn S i = true then 61 else 62]) ++ sNm S (sTo S i) else []))
          rw [if_pos d, if_pos z, List.nil_append, ← List.append_assoc]; exact O
      · obtain ⟨M3, e3, F3, O3⟩ := r_put (b := 32) hO (by omega)
        obtain ⟨r, e, F, O⟩ := b58 (gFr_tr hF F3) O3 (by rw [List.length_append]; show _ + 1 ≤ _; omega)
        refine Or.inl ⟨(nI (i + 1), r), ?_, q, rfl, by omega, gFr_tr hF (gFr_tr F3 F), ?_⟩
        · show fX11_writeArrows_l17 (nI x) (nI i) M' = _
          unfold fX11_writeArrows_l17
          rw [em, p_bnd, if_neg (by rw [p_le (by omega) (by omega)]; omega), f4, p_bnd, if_pos (by rw [d]), hO.1, if_neg (by rw [show (0 : Int32) = nI 0 from rfl, p_le (by omega) (by omega)]; omega), show (32 : Int32) = nI 32 from rfl, e3, p_bnd, e]
        · show OR1 r (aT S x i ++ (if sFr S i = x then ((if (aT S x i).length = 0 then [] else [32]) ++ [if sIn S i = true then 61 else 62]) ++ sNm S (sTo S i) else []))
          rw [if_pos d, if_neg z, ← List.append_assoc, ← List.append_assoc]; exact O
    · refine Or.inl ⟨(nI (i + 1), M'), ?_, q, rfl, by omega, hF, ?_⟩
      · show fX11_writeArrows_l17 (nI x) (nI i) M' = _
        unfold fX11_writeArrows_l17 fX11_writeArrows_b88
        rw [em, p_bnd, if_neg (by rw [p_le (by omega) (by omega)]; omega), f4, p_bnd, if_neg (by rw [p_eq (by omega) (by omega)]; exact d), show nI i + (1 : Int32) = nI (i + 1) from nI_add _ _]
      · show OR1 M' (aT S x i ++ (if sFr S i = x then ((if (aT S x i).length = 0 then [] else [32]) ++ [if sIn S i = true then 61 else 62]) ++ sNm S (sTo S i) else []))
        rw [if_neg d, List.append_nil]; exact hO
  · have e9 : i = sM S := by omega
    refine Or.inr ⟨M', ?_, hF, by rw [← e9]; exact hO⟩
    show fX11_writeArrows_l17 (nI x) (nI i) M' = _
    unfold fX11_writeArrows_l17
    rw [em, p_bnd, if_pos (by rw [p_le (by omega) (by omega)]; omega)]
theorem st_writeArrows (h : REL c M N) (x : Int32) : STL c (fL_writeArrows x M) (fX11_writeArrows x N) := by
  obtain ⟨S, P, h1, h2, h3, h4, h5, h6⟩ := id h
  rcases x_task h1.1 h1.2.1 x with ⟨a, ha, rfl, e0, e1⟩ | ⟨e0, e1⟩
  · generalize hN0 : gI (gI N 0 0 (nI 0)) 0 40 (nI 0) = N0
    have F0 : gFr Do1 M (gI M 34 1 (nI 0)) := gFr_I (Or.inl ⟨rfl, rfl⟩)
    have G0 : gFr (fun c k => Do2 c k ∨ (c = 0 ∧ k = 0)) N N0 := by rw [← hN0]; exact gFr_trI (gFr_I (Or.inr ⟨rfl, rfl⟩)) (Or.inl (Or.inl ⟨rfl, rfl⟩))
    have z0 : N0.1 0 0 = nI 0 := by rw [← hN0, p_gI_n (Or.inr (by decide)), p_gI_s]
    obtain ⟨M1, m1, F1, O1⟩ := c_arrows (CS_fr h1.1 F0 (fun j k hj z => by unfold Do1 at z; omega)) ha ⟨p_gI_s _ _ _ _, fun j hj => absurd hj (Nat.not_lt_zero j)⟩
    obtain ⟨N1, g1, G1, O2⟩ := r_arrows (RS_of h1.2.1 (gFr_c1 G0 fun k z => by unfold Do2 at z; omega)) ha ⟨by rw [← hN0, p_gI_s]; rfl, fun j hj => absurd hj (Nat.not_lt_zero j)⟩
    have l1 := aT_le (x := a) h1.1.2 (sM S) (Nat.le_refl _)
    have l2 := aT_ct (x := a) h1.1.2
    refine STL_ok (M' := M1) (N' := N1) (b := nI (aT S a (sM S)).length) (fl_ok ?_ _) ?_ ((G1 0 0 (by unfold Do2; omega)).1.trans z0) (REL_ou h (gFr_tr F0 F1) (gFr_tr G0 (gFr_mo G1 (fun c k z => Or.inl z))) O1 O2 (by omega))
    · unfold fX10_writeArrows
      rw [e1, p_bnd, gSE_l, show (0 : Int32) = nI 0 from rfl, p_wF, p_bnd, show gLoop (fun z9 => fX10_writeArrows_l15 (nI a) z9.1 z9.2) gFu (nI 0, gI M 34 1 (nI 0)) = _ from m1, p_bnd, O1.1]
    · unfold fX11_writeArrows
      rw [e0, p_bnd]
      dsimp only
      rw [if_pos (show nI 0 = 0 from rfl), show (0 : Int32) = nI 0 from rfl, p_wF, p_bnd, hN0, show gLoop (fun z9 => fX11_writeArrows_l17 (nI a) z9.1 z9.2) gFu (nI 0, N0) = _ from g1, p_bnd, O2.1]
  · refine STL_no (k := 1) (M' := M) (N' := gI N 0 0 (nI 1)) (b := nI 0) ?_ ?_ (by omega) (by omega) (p_gI_s _ _ _ _) (REL_sc h gFr_rf (gFr_I (by unfold srD; omega)))
    · unfold fL_writeArrows fX10_writeArrows
      rw [e1]; rfl
    · unfold fX11_writeArrows
      rw [e0]; rfl
end OU3
