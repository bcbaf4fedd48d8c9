/-! STEPS that only ask: why, task -/
section RE6
variable {M N M' N' : gMem} {c k a b : Nat} {S : gS} {P : List gS} {x y : Int32}
theorem sRz_4 (h : sRz S a b = 4) : a ≠ b ∧ sR S b a := by
  unfold sRz at h
  split at h
  · omega
  · rename_i h1
    split at h
    · omega
    · split at h
      · omega
      · split at h
        · rename_i h4
          rw [cB_iff] at h4
          exact ⟨h1, h4.2.2⟩
        · omega
theorem st_why (h : REL c M N) (x y z : Int32) : STL c (fL_why x y z M) (fX11_why x y z N) := by
  obtain ⟨S, P, h1, h2, h3, h4, h5, h6⟩ := id h
  have hn := h1.1.2.1.1
  rcases x_tasks h1.1 h1.2.1 x y with ⟨a, b, ha, hb, rfl, rfl, e0, e1, e2⟩ | ⟨N', e0, n0, G0, e1⟩
  · by_cases q : z < 0
    · have nq : ¬ (0 : Int32) ≤ z := by rw [Int32.le_iff_toInt_le]; rw [Int32.lt_iff_toInt_lt] at q; omega
      refine STL_sc (k := 2) (v := nI 0) (N' := gI (gI (gI N 0 0 (nI 0)) 0 0 (nI 0)) 0 0 (nI 2)) h ?_ ?_ (by omega) (by omega) (p_gI_s _ _ _ _) (gFr_trI (gFr_trI (G00 N _) (by unfold srD; omega)) (by unfold srD; omega))
      · unfold fL_why fX10_why
        rw [e1, p_bnd, gSE_l, e2, p_bnd, gSE_l, if_neg nq]; rfl
      · unfold fX11_why
        rw [e0, p_bnd]
        dsimp only
        rw [if_pos (show nI 0 = 0 from rfl), if_neg nq]; rfl
    · obtain ⟨d, hd, rfl⟩ := x_of q
      have nq : (0 : Int32) ≤ nI d := by rw [show (0 : Int32) = nI 0 from rfl, p_le (by omega) (by omega)]; omega
      have hr : RS (gI (gI N 0 0 (nI 0)) 0 0 (nI 0)) S := RS_of h1.2.1 (by rw [p_gI_o (by decide), p_gI_o (by decide)])
      obtain ⟨N1, g1, G1⟩ := rs_reason hr ha hb
      have hr1 : RS N1 S := RS_of hr (gFr_c1 G1 fun k z => by unfold Dpt at z; omega)
      have cr := cs_refusal h1.1 ha hb
      have zle := sRz_le (S := S) (a := a) (b := b)
      have z0 : N1.1 0 0 = nI 0 := by rw [(G1 0 0 (by unfold Dpt; omega)).1, p_gI_s]
      have GN : gFr srD N N1 := gFr_tr (gFr_trI (G00 N _) (by unfold srD; omega)) (gFr_mo G1 (fun c k z => by unfold Dpt at z; unfold srD; omega))
      have cx : fX10_why (nI a) (nI b) (nI d) M = if nI d = 0 then (some (.inl (nI (sRz S a b)), M)) else if nI (sRz S a b) = (4 : Int32) then (if nI d ≤ (2 : Int32) then ((fX9_measure 1 (nI a) M).bind fun v12 => if nI d = (1 : Int32) then ((fX9_stepFrom 1 (nI b) v12).bind fun v14 => some (.inl ((101 : Int32) + v14), v12)) else (rI v12 56 24 (nI b)).bind fun v15 => some (.inl ((201 : Int32) + v15), v12)) else some (.inl (0 : Int32), M)) else some (.inl (0 : Int32), M) := by
        unfold fX10_why
        rw [e1, p_bnd, gSE_l, e2, p_bnd, gSE_l, if_pos nq, cr, p_bnd]
      have ry : fX11_why (nI a) (nI b) (nI d) N = if nI d = 0 then (fX11_why_b51 (nI d) (nI (sRz S a b)) N1) else if nI (sRz S a b) = (4 : Int32) then (if nI d ≤ (2 : Int32) then ((fX11_laysSteps (nI a) N1).bind fun v11 => if nI d = (1 : Int32) then ((fX11_nextOn (nI b) v11).bind fun v13 => some ((101 : Int32) + v13, v11)) else (rI v11 7 24 (nI b)).bind fun v14 => some ((201 : Int32) + v14, v11)) else fX11_why_b51 (nI d) (nI (sRz S a b)) N1) else fX11_why_b51 (nI d) (nI (sRz S a b)) N1 := by
        unfold fX11_why
        rw [e0, p_bnd]
        dsimp only
        rw [if_pos (show nI 0 = 0 from rfl), if_pos nq, show fX11_throwsIf (0 : Int32) (2 : Int32) (gI (gI N 0 0 (nI 0)) 0 0 (nI 0)) = some (nI 0, gI (gI N 0 0 (nI 0)) 0 0 (nI 0)) from rfl, p_bnd]
        dsimp only
        rw [if_pos (show nI 0 = 0 from rfl), g1, p_bnd]
      have fin : ∀ v, fX10_why (nI a) (nI b) (nI d) M = some (.inl v, M) → fX11_why (nI a) (nI b) (nI d) N = some (v, N1) → STL c (fL_why (nI a) (nI b) (nI d) M) (fX11_why (nI a) (nI b) (nI d) N) := fun v a1 a2 => STL_ok (M' := M) (N' := N1) (b := v) (fl_ok a1 _) a2 z0 (REL_sc h gFr_rf GN)
      by_cases d0 : d = 0
      · subst d0
        refine fin (nI (sRz S a b)) (by rw [cx, if_pos (show nI 0 = 0 from rfl)]) ?_
        rw [ry, if_pos (show nI 0 = 0 from rfl)]; rfl
      · have nd : ¬ nI d = 0 := by rw [show (0 : Int32) = nI 0 from rfl, p_eq (by omega) (by omega)]; exact d0
        have b51 : fX11_why_b51 (nI d) (nI (sRz S a b)) N1 = some ((0 : Int32), N1) := by unfold fX11_why_b51; rw [if_neg nd]
        rw [if_neg nd] at cx ry
        by_cases r4 : sRz S a b = 4
        · rw [if_pos (show nI (sRz S a b) = (4 : Int32) by rw [r4]; rfl)] at cx ry
          by_cases d2 : d ≤ 2
          · have l2 : nI d ≤ (2 : Int32) := by rw [show (2 : Int32) = nI 2 from rfl, p_le (by omega) (by omega)]; exact d2
            rw [if_pos l2] at cx ry
            obtain ⟨ne, hR⟩ := sRz_4 r4
            have wl := wD_rc h1.1.2.2.1 hb ha hR
            have w0 : wD S a b ≠ 0 := fun z => ne (wD_0 (by omega) z).symm
            obtain ⟨M2, m2, F2, I2⟩ := cs_ways h1.1 (by decide) ha
            obtain ⟨N2, g2, G2, J2⟩ := rs_laysSteps hr1 ha
            have hc2 : CS M2 1 S := CS_fr h1.1 F2 (fun j k hj z => by omega)
            have hr2 : RS N2 S := RS_of hr1 (gFr_c1 G2 fun k z => by omega)
            have z2 : N2.1 0 0 = nI 0 := by rw [(G2 0 0 (by omega)).1]; exact z0
            have RR2 : REL c M2 N2 := REL_sc h (gFr_mo F2 (fun c k z => by unfold scD; omega)) (gFr_tr GN (gFr_mo G2 (fun c k z => by unfold srD; omega)))
            rw [m2, p_bnd] at cx
            rw [g2, p_bnd] at ry
            have fin2 : ∀ v, fX10_why (nI a) (nI b) (nI d) M = some (.inl v, M2) → fX11_why (nI a) (nI b) (nI d) N = some (v, N2) → STL c (fL_why (nI a) (nI b) (nI d) M) (fX11_why (nI a) (nI b) (nI d) N) := fun v a1 a2 => STL_ok (M' := M2) (N' := N2) (b := v) (fl_ok a1 _) a2 z2 RR2
            by_cases d1 : d = 1
            · have e9 : nI d = (1 : Int32) := by rw [d1]; rfl
              rw [if_pos e9, cs_stepFrom hc2 (by decide) hb (d := wD S a b - 1) (by omega) (by omega) I2, p_bnd] at cx
              rw [if_pos e9, rs_nextOn hr2 hb (d := wD S a b - 1) (by omega) (by omega) J2, p_bnd] at ry
              exact fin2 _ cx ry
            · have e9 : ¬ nI d = (1 : Int32) := by rw [show (1 : Int32) = nI 1 from rfl, p_eq (by omega) (by omega)]; exact d1
              have ex : wX S a b = nI (wD S a b) := by unfold wX wV; exact if_pos wl
              have eu : wU S a (sN S) b = nI (wD S a b) := by unfold wU; exact if_pos wl
              rw [if_neg e9, p_rI (by omega) (by omega), p_bnd, I2 b hb, ex] at cx
              rw [if_neg e9, p_rI (by omega) (by omega), p_bnd, J2 b hb, eu] at ry
              exact fin2 _ cx ry
          · have l2 : ¬ nI d ≤ (2 : Int32) := by rw [show (2 : Int32) = nI 2 from rfl, p_le (by omega) (by omega)]; exact d2
            rw [if_neg l2] at cx ry
            exact fin _ cx (ry.trans b51)
        · have n4 : ¬ nI (sRz S a b) = (4 : Int32) := by rw [show (4 : Int32) = nI 4 from rfl, p_eq (by omega) (by omega)]; exact r4
          rw [if_neg n4] at cx ry
          exact fin _ cx (ry.trans b51)
  · refine STL_sc (k := 1) (v := nI 0) (N' := N') h ?_ ?_ (by omega) (by omega) n0 (gFr_mo G0 (fun c k z => by unfold srD; omega))
    · unfold fL_why fX10_why
      rcases e1 with e1 | ⟨e1, e2⟩
      · rw [e1]; rfl
      · rw [e1, p_bnd, gSE_l, e2]; rfl
    · unfold fX11_why
      rw [e0]; rfl
end RE6
