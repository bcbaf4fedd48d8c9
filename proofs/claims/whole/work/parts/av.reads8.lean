/-! STEPS that only ask: group -/
section RE8
variable {M N M' N' : gMem} {c k a b : Nat} {S : gS} {P : List gS} {x y : Int32}
theorem st_group (h : REL c M N) (x y : Int32) : STL c (fL_group x y M) (fX11_group x y N) := by
  obtain ⟨S, P, h1, h2, h3, h4, h5, h6⟩ := id h
  have hn := h1.1.2.1.1
  have hg := (sW_24 h1.1.2).2.2
  have hg0 := rN_g h1
  rcases x_place h1.1 h1.2.1 x with ⟨a, ha, rfl, e0, e1⟩ | ⟨e0, e1⟩
  · have hr : RS (gI N 0 0 (nI 0)) S := RS_of h1.2.1 (p_gI_o (by decide))
    obtain ⟨M1, m1, F1, l1, I1⟩ := cs_measure h1.1 (by decide) hg0
    obtain ⟨N1, g1, G1, l2, J1⟩ := rs_laysChains hr hg0
    obtain ⟨i51, i52, i53, i54⟩ := I1 a ha
    obtain ⟨j17, j14, j15, j16⟩ := J1 a ha
    have hr1 : RS N1 S := RS_of hr (gFr_c1 G1 fun k z => by omega)
    have z0 : N1.1 0 0 = nI 0 := by rw [(G1 0 0 (by omega)).1, p_gI_s]
    have GN : gFr srD N N1 := gFr_tr (G00 N _) (gFr_mo G1 (fun c k z => by unfold srD; omega))
    have FM : gFr scD M M1 := gFr_mo F1 (fun c k z => by unfold scD; omega)
    have m8 : M.1 8 a = sMb S a := cs_mb h1.1 ha
    have o14 : rI N1 1 374 ((14 : Int32) + nI a) = some (nI (sHd S a)) := by rw [show (14 : Int32) + nI a = nI (14 + a) from nI_add _ _, p_rI (by omega) (by omega), rs_or hr1 ha]
    have ry : ∀ q, fX11_in y (0 : Int32) (7 : Int32) = some q → fX11_group (nI a) y N = if (if q = 0 then (1 : Int32) else (0 : Int32)) = 0 then (if y = (0 : Int32) then ((rI N1 1 374 ((14 : Int32) + nI a)).bind fun v9 => some (v9, N1)) else if y = (1 : Int32) then ((fX11_membersAt (nI a) N1).bind fun v11 => (fX11_many v11).bind fun v12 => some (v12, N1)) else if y = (2 : Int32) then ((rI N1 17 24 (nI a)).bind fun v14 => some (v14, N1)) else if y = (3 : Int32) then ((rI N1 1 374 ((14 : Int32) + nI a)).bind fun v16 => (fX11_innersOf v16 N1).bind fun v17 => some (v17, N1)) else if y = (4 : Int32) then ((fX11_membersAt (nI a) N1).bind fun v19 => some (v19, N1)) else if y = (5 : Int32) then ((rI N1 14 24 (nI a)).bind fun v21 => some (v21, N1)) else if y = (6 : Int32) then ((rI N1 15 24 (nI a)).bind fun v23 => some (v23, N1)) else (fX11_slack (nI a) N1).bind fun v24 => some (v24, N1)) else some (nI 0, gI (gI N 0 0 (nI 0)) 0 0 (nI 2)) := fun q e => by
      unfold fX11_group
      rw [e0, p_bnd]
      dsimp only
      rw [if_pos (show nI 0 = 0 from rfl), e, p_bnd]
      by_cases q0 : q = 0
      · rw [if_pos q0, if_neg (show ¬ (1 : Int32) = 0 by decide)]
        rfl
      · rw [if_neg q0, if_pos rfl, show fX11_throwsIf (0 : Int32) (2 : Int32) (gI N 0 0 (nI 0)) = some (nI 0, gI N 0 0 (nI 0)) from rfl, p_bnd]
        dsimp only
        rw [if_pos (show nI 0 = 0 from rfl), g1, p_bnd]
    rcases x_in y 0 7 (by omega) (by omega) with ⟨k, -, k7, rfl, e⟩ | ⟨q, e⟩
    · have ry := ry _ e
      rw [show (if nI 1 = (0 : Int32) then (1 : Int32) else (0 : Int32)) = 0 from by decide, if_pos rfl] at ry
      have n0 : ¬ nI k < (0 : Int32) := by rw [show (0 : Int32) = nI 0 from rfl, p_lt (by omega) (by omega)]; omega
      have n7 : nI k ≤ (7 : Int32) := by rw [show (7 : Int32) = nI 7 from rfl, p_le (by omega) (by omega)]; exact k7
      have fin : ∀ v, fX10_group (nI a) (nI k) M = some (.inl v, M) → fX11_group (nI a) (nI k) N = some (v, N1) → STL c (fL_group (nI a) (nI k) M) (fX11_group (nI a) (nI k) N) := fun v a1 a2 => STL_ok (M' := M) (N' := N1) (b := v) (fl_ok a1 _) a2 z0 (REL_sc h gFr_rf GN)
      have fin1 : ∀ v, fX10_group (nI a) (nI k) M = some (.inl v, M1) → fX11_group (nI a) (nI k) N = some (v, N1) → STL c (fL_group (nI a) (nI k) M) (fX11_group (nI a) (nI k) N) := fun v a1 a2 => STL_ok (M' := M1) (N' := N1) (b := v) (fl_ok a1 _) a2 z0 (REL_sc h FM GN)
      rcases (show k = 0 ∨ k = 1 ∨ k = 2 ∨ k = 3 ∨ k = 4 ∨ k = 5 ∨ k = 6 ∨ k = 7 by omega) with rfl | rfl | rfl | rfl | rfl | rfl | rfl | rfl
      · refine fin (nI (sHd S a)) ?_ ?_
        · unfold fX10_group
          rw [e1, p_bnd, gSE_l, if_neg n0, if_pos n7, p_rI (by omega) (by omega), p_bnd, m8, if_pos (show nI 0 = (0 : Int32) from rfl), cs_headOf h1.1.2 ha, p_bnd]
        · rw [ry, if_pos (show nI 0 = (0 : Int32) from rfl), o14, p_bnd]
      · refine fin (nI (gCt S a)) ?_ ?_
        · unfold fX10_group
          rw [e1, p_bnd, gSE_l, if_neg n0, if_pos n7, p_rI (by omega) (by omega), p_bnd, m8, if_neg (by decide), if_pos (show nI 1 = (1 : Int32) from rfl), p_bitCount, p_bnd]; rfl
        · rw [ry, if_neg (by decide), if_pos (show nI 1 = (1 : Int32) from rfl), rs_membersAt hr1 ha, p_bnd, p_many, p_bnd]; rfl
      · refine fin1 (nI (sHo S a)) ?_ ?_
        · unfold fX10_group
          rw [e1, p_bnd, gSE_l, if_neg n0, if_pos n7, p_rI (by omega) (by omega), p_bnd, m8, if_neg (by decide), if_neg (by decide), if_pos (show nI 2 = (2 : Int32) from rfl), m1, p_bnd, if_pos (show nI 2 = (2 : Int32) from rfl), p_rI (by omega) (by omega), p_bnd, i51]
        · rw [ry, if_neg (by decide), if_neg (by decide), if_pos (show nI 2 = (2 : Int32) from rfl), p_rI (by omega) (by omega), p_bnd, j17]
      · refine fin (nI (gIn9 S a)) ?_ ?_
        · unfold fX10_group
          rw [e1, p_bnd, gSE_l, if_neg n0, if_pos n7, p_rI (by omega) (by omega), p_bnd, m8, if_neg (by decide), if_neg (by decide), if_neg (by decide), if_pos (show nI 3 = (3 : Int32) from rfl), cs_innerAt h1.1 ha, p_bnd]
        · rw [ry, if_neg (by decide), if_neg (by decide), if_neg (by decide), if_pos (show nI 3 = (3 : Int32) from rfl), o14, p_bnd, rs_innersOf hr1 ha, p_bnd]
      · refine fin (sMb S a) ?_ ?_
        · unfold fX10_group
          rw [e1, p_bnd, gSE_l, if_neg n0, if_pos n7, p_rI (by omega) (by omega), p_bnd, m8, if_neg (by decide), if_neg (by decide), if_neg (by decide), if_neg (by decide), if_pos (show nI 4 = (4 : Int32) from rfl)]
        · rw [ry, if_neg (by decide), if_neg (by decide), if_neg (by decide), if_neg (by decide), if_pos (show nI 4 = (4 : Int32) from rfl), rs_membersAt hr1 ha, p_bnd]
      · refine fin1 (nI (cLv S a)) ?_ ?_
        · unfold fX10_group
          rw [e1, p_bnd, gSE_l, if_neg n0, if_pos n7, p_rI (by omega) (by omega), p_bnd, m8, if_neg (by decide), if_neg (by decide), if_neg (by decide), if_neg (by decide), if_neg (by decide), m1, p_bnd, if_neg (by decide), if_neg (by decide), if_neg (by decide), if_pos (show nI 5 = (5 : Int32) from rfl), p_rI (by omega) (by omega), p_bnd, i52]
        · rw [ry, if_neg (by decide), if_neg (by decide), if_neg (by decide), if_neg (by decide), if_neg (by decide), if_pos (show nI 5 = (5 : Int32) from rfl), p_rI (by omega) (by omega), p_bnd, j14]
      · refine fin1 (nI (cBg S a)) ?_ ?_
        · unfold fX10_group
          rw [e1, p_bnd, gSE_l, if_neg n0, if_pos n7, p_rI (by omega) (by omega), p_bnd, m8, if_neg (by decide), if_neg (by decide), if_neg (by decide), if_neg (by decide), if_neg (by decide), m1, p_bnd, if_neg (by decide), if_neg (by decide), if_neg (by decide), if_neg (by decide), if_pos (show nI 6 = (6 : Int32) from rfl), p_rI (by omega) (by omega), p_bnd, i53]
        · rw [ry, if_neg (by decide), if_neg (by decide), if_neg (by decide), if_neg (by decide), if_neg (by decide), if_neg (by decide), if_pos (show nI 6 = (6 : Int32) from rfl), p_rI (by omega) (by omega), p_bnd, j15]
      · refine fin1 _ ?_ (by rw [ry, if_neg (by decide), if_neg (by decide), if_neg (by decide), if_neg (by decide), if_neg (by decide), if_neg (by decide), if_neg (by decide), rs_slack l2 (by omega) j17 j15 j16, p_bnd])
        unfold fX10_group
        rw [e1, p_bnd, gSE_l, if_neg n0, if_pos n7, p_rI (by omega) (by omega), p_bnd, m8, if_neg (by decide), if_neg (by decide), if_neg (by decide), if_neg (by decide), if_neg (by decide), m1, p_bnd, if_neg (by decide), if_neg (by decide), if_neg (by decide), if_neg (by decide), if_neg (by decide), cs_slackAt l1 (by omega) i51 i53 i54, p_bnd]
    · have ry := ry _ e
      rw [show (if nI 0 = (0 : Int32) then (1 : Int32) else (0 : Int32)) = 1 from by decide, if_neg (show ¬ (1 : Int32) = 0 by decide)] at ry
      refine STL_sc (k := 2) (v := nI 0) (N' := gI (gI N 0 0 (nI 0)) 0 0 (nI 2)) h ?_ ry (by omega) (by omega) (p_gI_s _ _ _ _) (gFr_trI (G00 N _) (by unfold srD; omega))
      have cz : fX10_group (nI a) y M = some (.inr 1, M) := by
        unfold fX10_group
        rw [e1, p_bnd, gSE_l]
        rcases q with z | ⟨z, z2⟩
        · rw [if_pos (show y < (0 : Int32) from z)]; rfl
        · rw [if_neg (show ¬ y < (0 : Int32) from z), if_neg (show ¬ y ≤ (7 : Int32) from x_le (k := 7) (by decide) z2)]; rfl
      unfold fL_group
      rw [cz]; rfl
  · refine STL_sc (k := 1) (v := nI 0) (N' := gI N 0 0 (nI 1)) h ?_ ?_ (by omega) (by omega) (p_gI_s _ _ _ _) (G00 N _)
    · unfold fL_group fX10_group
      rw [e1]; rfl
    · unfold fX11_group
      rw [e0]; rfl
end RE8
