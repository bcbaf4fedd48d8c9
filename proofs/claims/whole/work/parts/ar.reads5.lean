/-! STEPS that only ask: arrow, far, on -/
section RE5
variable {M N M' N' : gMem} {c k a b : Nat} {S : gS} {P : List gS} {x y : Int32}
theorem st_far (h : REL c M N) (x y : Int32) : STL c (fL_far x y M) (fX11_far x y N) := by
  obtain ⟨S, P, h1, h2, h3, h4, h5, h6⟩ := id h
  have hn := h1.1.2.1.1
  rcases x_tasks h1.1 h1.2.1 x y with ⟨a, b, ha, hb, rfl, rfl, e0, e1, e2⟩ | ⟨N', e0, n0, G0, e1⟩
  · have hr : RS (gI (gI N 0 0 (nI 0)) 0 0 (nI 0)) S := RS_of h1.2.1 (by rw [p_gI_o (by decide), p_gI_o (by decide)])
    obtain ⟨M1, m1, F1, I1⟩ := cs_ways h1.1 (by decide) hb
    obtain ⟨N1, g1, G1, J1⟩ := rs_laysSteps hr hb
    have i1 := I1 a ha
    have j1 := J1 a ha
    have z0 : N1.1 0 0 = nI 0 := by rw [(G1 0 0 (by omega)).1, p_gI_s]
    have cx : fX10_far (nI a) (nI b) M = some (.inl (wX S b a), M1) := by
      unfold fX10_far
      rw [e1, p_bnd, gSE_l, e2, p_bnd, gSE_l, m1, p_bnd, p_rI (by omega) (by omega), p_bnd, i1]
    have ry : fX11_far (nI a) (nI b) N = if wU S b (sN S) a = (1000 : Int32) then (some ((-1 : Int32), N1)) else some (wU S b (sN S) a, N1) := by
      unfold fX11_far
      rw [e0, p_bnd]
      dsimp only
      rw [if_pos (show nI 0 = 0 from rfl), g1, p_bnd, p_rI (by omega) (by omega), p_bnd, p_bnd, j1]
    refine STL_ok (M' := M1) (N' := N1) (b := wX S b a) (fl_ok cx _) ?_ z0 (REL_sc h (gFr_mo F1 (fun c k z => by unfold scD; omega)) (gFr_tr (gFr_trI (G00 N _) (by unfold srD; omega)) (gFr_mo G1 (fun c k z => by unfold srD; omega))))
    rw [ry]
    unfold wX wV wU
    by_cases d : wD S b a < sN S
    · rw [if_pos d, if_pos d, if_neg (by rw [show (1000 : Int32) = nI 1000 from rfl, p_eq (by omega) (by omega)]; omega)]
    · rw [if_neg d, if_neg d, if_pos (show nI 1000 = (1000 : Int32) from rfl)]; rfl
  · refine STL_sc (k := 1) (v := nI 0) (N' := N') h ?_ ?_ (by omega) (by omega) n0 (gFr_mo G0 (fun c k z => by unfold srD; omega))
    · unfold fL_far fX10_far
      rcases e1 with e1 | ⟨e1, e2⟩
      · rw [e1]; rfl
      · rw [e1, p_bnd, gSE_l, e2]; rfl
    · unfold fX11_far
      rw [e0]; rfl
theorem st_on (h : REL c M N) (x y z : Int32) : STL c (fL_on x y z M) (fX11_on x y z N) := by
  obtain ⟨S, P, h1, h2, h3, h4, h5, h6⟩ := id h
  have hn := h1.1.2.1.1
  rcases x_tasks h1.1 h1.2.1 x y with ⟨a, b, ha, hb, rfl, rfl, e0, e1, e2⟩ | ⟨N', e0, n0, G0, e1⟩
  · have hr : RS (gI (gI N 0 0 (nI 0)) 0 0 (nI 0)) S := RS_of h1.2.1 (by rw [p_gI_o (by decide), p_gI_o (by decide)])
    obtain ⟨M1, m1, F1, I1⟩ := cs_ways h1.1 (by decide) hb
    obtain ⟨N1, g1, G1, J1⟩ := rs_laysSteps hr hb
    have i1 := I1 a ha
    have j1 := J1 a ha
    have z0 : N1.1 0 0 = nI 0 := by rw [(G1 0 0 (by omega)).1, p_gI_s]
    have hc1 : CS M1 1 S := CS_fr h1.1 F1 (fun j k hj z => by omega)
    have hr1 : RS N1 S := RS_of hr (gFr_c1 G1 fun k z => by omega)
    have RR1 : REL c M1 N1 := REL_sc h (gFr_mo F1 (fun c k z => by unfold scD; omega)) (gFr_tr (gFr_trI (G00 N _) (by unfold srD; omega)) (gFr_mo G1 (fun c k z => by unfold srD; omega)))
    have cx : fX10_on (nI a) (nI b) z M = if z < 0 then (some (.inl (-1 : Int32), M1)) else if z ≤ wX S b a then ((gLoop (fun z9 => fX10_on_l47 z M1 z9.1 z9.2) gFu (nI a, (0 : Int32))).bind fun w14 => some (.inl w14, M1)) else some (.inl (-1 : Int32), M1) := by
      unfold fX10_on
      rw [e1, p_bnd, gSE_l, e2, p_bnd, gSE_l, m1, p_bnd, p_rI (by omega) (by omega), p_bnd, i1]
    have ry : fX11_on (nI a) (nI b) z N = if wU S b (sN S) a = (1000 : Int32) then (some ((-1 : Int32), N1)) else (fX11_in z (0 : Int32) (wU S b (sN S) a)).bind fun v7 => if v7 = 0 then (some ((-1 : Int32), N1)) else (gLoop (fun z9 => fX11_on_l50 z N1 z9.1 z9.2) gFu (nI a, (0 : Int32))).bind fun w11 => some (w11, N1) := by
      unfold fX11_on
      rw [e0, p_bnd]
      dsimp only
      rw [if_pos (show nI 0 = 0 from rfl), g1, p_bnd, p_rI (by omega) (by omega), p_bnd, p_bnd, j1]
    have no : fX10_on (nI a) (nI b) z M = some (.inl (-1 : Int32), M1) → fX11_on (nI a) (nI b) z N = some ((-1 : Int32), N1) → STL c (fL_on (nI a) (nI b) z M) (fX11_on (nI a) (nI b) z N) := fun a1 a2 => STL_ok (M' := M1) (N' := N1) (b := (-1 : Int32)) (fl_ok a1 _) a2 z0 RR1
    by_cases d : wD S b a < sN S
    · have ex : wX S b a = nI (wD S b a) := by unfold wX wV; exact if_pos d
      have eu : wU S b (sN S) a = nI (wD S b a) := by unfold wU; exact if_pos d
      have ne : ¬ nI (wD S b a) = (1000 : Int32) := by rw [show (1000 : Int32) = nI 1000 from rfl, p_eq (by omega) (by omega)]; omega
      rw [ex] at cx
      rw [eu, if_neg ne] at ry
      rcases x_in z 0 (wD S b a) (by omega) (by omega) with ⟨s, -, s2, rfl, s3⟩ | ⟨q, s3⟩
      · rw [if_neg (by rw [show (0 : Int32) = nI 0 from rfl, p_lt (by omega) (by omega)]; omega), if_pos (by rw [p_le (by omega) (by omega)]; omega)] at cx
        rw [show fX11_in (nI s) (0 : Int32) (nI (wD S b a)) = _ from s3, p_bnd, if_neg (show ¬ nI 1 = 0 by decide)] at ry
        have ok := wIt_ok (e := b) h1.1.2.2.1 ha d
        have cl := gLoop_f (body := fun z9 => fX10_on_l47 (nI s) M1 z9.1 z9.2) (fun k => (nI (wIt S b a k), nI k)) (r := nI (wIt S b a s)) s gFu (by show s < 4096; omega) (fun k hk => by
          obtain ⟨o1, o2⟩ := ok k (by omega)
          show fX10_on_l47 (nI s) M1 (nI (wIt S b a k)) (nI k) = _
          unfold fX10_on_l47
          rw [if_neg (by rw [p_le (by omega) (by omega)]; omega), if_neg (by rw [show (-1 : Int32) = mO 1 from rfl, p_eq_mO (by omega) (by omega) (by omega)]; exact id), cs_stepFrom hc1 (by decide) o1 (d := wD S b a - k - 1) (by omega) (by omega) I1, p_bnd, show nI k + (1 : Int32) = nI (k + 1) from nI_add _ _]; rfl) (by
          show fX10_on_l47 (nI s) M1 (nI (wIt S b a s)) (nI s) = _
          unfold fX10_on_l47
          rw [if_pos (by rw [p_le (by omega) (by omega)]; omega)])
        have rl := gLoop_f (body := fun z9 => fX11_on_l50 (nI s) N1 z9.1 z9.2) (fun k => (nI (wIt S b a k), nI k)) (r := nI (wIt S b a s)) s gFu (by show s < 4096; omega) (fun k hk => by
          obtain ⟨o1, o2⟩ := ok k (by omega)
          show fX11_on_l50 (nI s) N1 (nI (wIt S b a k)) (nI k) = _
          unfold fX11_on_l50
          rw [if_neg (by rw [p_le (by omega) (by omega)]; omega), rs_nextOn hr1 o1 (d := wD S b a - k - 1) (by omega) (by omega) J1, p_bnd, show nI k + (1 : Int32) = nI (k + 1) from nI_add _ _]; rfl) (by
          show fX11_on_l50 (nI s) N1 (nI (wIt S b a s)) (nI s) = _
          unfold fX11_on_l50
          rw [if_pos (by rw [p_le (by omega) (by omega)]; omega)])
        rw [show gLoop (fun z9 => fX10_on_l47 (nI s) M1 z9.1 z9.2) gFu (nI a, (0 : Int32)) = _ from cl, p_bnd] at cx
        rw [show gLoop (fun z9 => fX11_on_l50 (nI s) N1 z9.1 z9.2) gFu (nI a, (0 : Int32)) = _ from rl, p_bnd] at ry
        exact STL_ok (M' := M1) (N' := N1) (b := nI (wIt S b a s)) (fl_ok cx _) ry z0 RR1
      · rw [show fX11_in z (0 : Int32) (nI (wD S b a)) = _ from s3, p_bnd, if_pos (show nI 0 = 0 from rfl)] at ry
        refine no ?_ ry
        rw [cx]
        rcases q with q | ⟨q, q2⟩
        · rw [if_pos (show z < (0 : Int32) from q)]
        · rw [if_neg (show ¬ z < (0 : Int32) from q), if_neg (x_le (by omega) q2)]
    · have ex : wX S b a = mO 1 := by unfold wX wV; exact if_neg d
      have eu : wU S b (sN S) a = nI 1000 := by unfold wU; exact if_neg d
      rw [ex] at cx
      rw [eu, if_pos (show nI 1000 = (1000 : Int32) from rfl)] at ry
      refine no ?_ ry
      rw [cx]
      by_cases q : z < 0
      · rw [if_pos q]
      · obtain ⟨s, hs, rfl⟩ := x_of q
        rw [if_neg q, if_neg (by rw [p_le_mO (by omega) (by omega) (by omega)]; exact id)]
  · refine STL_sc (k := 1) (v := nI 0) (N' := N') h ?_ ?_ (by omega) (by omega) n0 (gFr_mo G0 (fun c k z => by unfold srD; omega))
    · unfold fL_on fX10_on
      rcases e1 with e1 | ⟨e1, e2⟩
      · rw [e1]; rfl
      · rw [e1, p_bnd, gSE_l, e2]; rfl
    · unfold fX11_on
      rw [e0]; rfl
theorem st_arrow (h : REL c M N) (x y : Int32) : STL c (fL_arrow x y M) (fX11_arrow x y N) := by
  obtain ⟨S, P, h1, h2, h3, h4, h5, h6⟩ := id h
  have hn := h1.1.2.1.1
  rcases x_arrow h1.1 h1.2.1 x with ⟨a, ha, rfl, e0, e1⟩ | ⟨e0, e1⟩
  · have hr : RS (gI N 0 0 (nI 0)) S := RS_of h1.2.1 (p_gI_o (by decide))
    have hm := h1.1.2.1.2.1
    obtain ⟨y1, y2, y3⟩ := h1.1.2.2.1.1 a ha
    have c4 : M.1 4 a = nI (sFr S a) := cs_fr h1.1 ha
    have c5 : M.1 5 a = nI (sTo S a) := cs_to h1.1 ha
    have p1 : M.1 9 (sFr S a) = nI (sPl S (sFr S a)) := cs_pl h1.1 y1
    have p2 : M.1 9 (sTo S a) = nI (sPl S (sTo S a)) := cs_pl h1.1 y2
    have r4 : (gI N 0 0 (nI 0)).1 1 (38 + a) = nI (sFr S a) := (hr.1.2.2.2.1 a ha).1
    have r5 : (gI N 0 0 (nI 0)).1 1 (98 + a) = nI (sTo S a) := (hr.1.2.2.2.1 a ha).2
    have cx : fX10_arrow (nI a) y M = if y = (0 : Int32) then (some (.inl (nI (sFr S a)))) else if y = (1 : Int32) then (some (.inl (nI (sTo S a)))) else if y = (2 : Int32) then (some (.inl (if ib (sIn S a) = 0 then (0 : Int32) else (1 : Int32)))) else if y = (3 : Int32) then (some (.inl (nI (sPl S (sTo S a)) - nI (sPl S (sFr S a))))) else some (.inr 1) := by
      unfold fX10_arrow
      rw [e1, p_bnd, gSE_l, p_rI (by omega) (by omega), p_bnd, p_rI (by omega) (by omega), p_bnd, cs_isInner h1.1 ha, p_bnd, p_bnd, c5, c4, p_rI (by omega) (by omega), p_bnd, p_bnd, p_rI (by omega) (by omega), p_bnd, p1, p2]
    have ry : ∀ q, fX11_in y (0 : Int32) (3 : Int32) = some q → fX11_arrow (nI a) y N = if (if q = 0 then (1 : Int32) else (0 : Int32)) = 0 then (if y = (0 : Int32) then (some (nI (sFr S a), gI N 0 0 (nI 0))) else if y = (1 : Int32) then (some (nI (sTo S a), gI N 0 0 (nI 0))) else if y = (2 : Int32) then (some (if ib (sIn S a) = 0 then (0 : Int32) else (1 : Int32), gI N 0 0 (nI 0))) else some (nI (sPl S (sTo S a)) - nI (sPl S (sFr S a)), gI N 0 0 (nI 0))) else some (nI 0, gI (gI N 0 0 (nI 0)) 0 0 (nI 2)) := fun q e => by
      unfold fX11_arrow
      rw [e0, p_bnd]
      dsimp only
      rw [if_pos (show nI 0 = 0 from rfl), e, p_bnd]
      by_cases q0 : q = 0
      · rw [if_pos q0, if_neg (show ¬ (1 : Int32) = 0 by decide)]
        rfl
      · rw [if_neg q0, if_pos rfl, show fX11_throwsIf (0 : Int32) (2 : Int32) (gI N 0 0 (nI 0)) = some (nI 0, gI N 0 0 (nI 0)) from rfl, p_bnd]
        dsimp only
        rw [if_pos (show nI 0 = 0 from rfl), show (38 : Int32) + nI a = nI (38 + a) from nI_add _ _, show (98 : Int32) + nI a = nI (98 + a) from nI_add _ _, p_rI (by omega) (by omega), p_bnd, r4, p_rI (by omega) (by omega), p_bnd, r5, rs_isInner hr ha, p_bnd, p_bnd, rs_placeOf hr y2, p_bnd, p_bnd, rs_placeOf hr y1, p_bnd]
    rcases x_in y 0 3 (by omega) (by omega) with ⟨k, -, k3, rfl, e⟩ | ⟨q, e⟩
    · have ry := ry _ e
      rw [show (if nI 1 = (0 : Int32) then (1 : Int32) else (0 : Int32)) = 0 from by decide, if_pos rfl] at ry
      have fin : ∀ v, fX10_arrow (nI a) (nI k) M = some (.inl v) → fX11_arrow (nI a) (nI k) N = some (v, gI N 0 0 (nI 0)) → STL c (fL_arrow (nI a) (nI k) M) (fX11_arrow (nI a) (nI k) N) := fun v a1 a2 => STL_r (v := v) (N' := gI N 0 0 (nI 0)) h (fl_ok0 a1 _) a2 (p_gI_s _ _ _ _) (G00 N _)
      rcases (show k = 0 ∨ k = 1 ∨ k = 2 ∨ k = 3 by omega) with rfl | rfl | rfl | rfl
      · exact fin _ (by rw [cx, if_pos (show nI 0 = (0 : Int32) from rfl)]) (by rw [ry, if_pos (show nI 0 = (0 : Int32) from rfl)])
      · exact fin _ (by rw [cx, if_neg (by decide), if_pos (show nI 1 = (1 : Int32) from rfl)]) (by rw [ry, if_neg (by decide), if_pos (show nI 1 = (1 : Int32) from rfl)])
      · exact fin _ (by rw [cx, if_neg (by decide), if_neg (by decide), if_pos (show nI 2 = (2 : Int32) from rfl)]) (by rw [ry, if_neg (by decide), if_neg (by decide), if_pos (show nI 2 = (2 : Int32) from rfl)])
      · exact fin _ (by rw [cx, if_neg (by decide), if_neg (by decide), if_neg (by decide), if_pos (show nI 3 = (3 : Int32) from rfl)]) (by rw [ry, if_neg (by decide), if_neg (by decide), if_neg (by decide)])
    · have ry := ry _ e
      rw [show (if nI 0 = (0 : Int32) then (1 : Int32) else (0 : Int32)) = 1 from by decide, if_neg (show ¬ (1 : Int32) = 0 by decide)] at ry
      refine STL_sc (k := 2) (v := nI 0) (N' := gI (gI N 0 0 (nI 0)) 0 0 (nI 2)) h ?_ ry (by omega) (by omega) (p_gI_s _ _ _ _) (gFr_trI (G00 N _) (by unfold srD; omega))
      have ne : ∀ k, k ≤ 3 → y ≠ nI k := fun k hk => x_ne q (by decide) hk
      unfold fL_arrow
      rw [cx, if_neg (show ¬ y = (0 : Int32) from ne 0 (by decide)), if_neg (show ¬ y = (1 : Int32) from ne 1 (by decide)), if_neg (show ¬ y = (2 : Int32) from ne 2 (by decide)), if_neg (show ¬ y = (3 : Int32) from ne 3 (by decide))]; rfl
  · refine STL_sc (k := 1) (v := nI 0) (N' := gI N 0 0 (nI 1)) h ?_ ?_ (by omega) (by omega) (p_gI_s _ _ _ _) (G00 N _)
    · unfold fL_arrow fX10_arrow
      rw [e1]; rfl
    · unfold fX11_arrow
      rw [e0]; rfl
end RE5
