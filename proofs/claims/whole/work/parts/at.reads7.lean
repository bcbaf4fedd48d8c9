/-! STEPS that only ask: task -/
section RE7
variable {M N M' N' : gMem} {c k a b : Nat} {S : gS} {P : List gS} {x y : Int32}
theorem st_task (h : REL c M N) (x y : Int32) : STL c (fL_task x y M) (fX11_task x y N) := by
  obtain ⟨S, P, h1, h2, h3, h4, h5, h6⟩ := id h
  have hn := h1.1.2.1.1
  have hg := (sW_24 h1.1.2).2.2
  rcases x_task h1.1 h1.2.1 x with ⟨a, ha, rfl, e0, e1⟩ | ⟨e0, e1⟩
  · have hr : RS (gI N 0 0 (nI 0)) S := RS_of h1.2.1 (p_gI_o (by decide))
    have hp := h1.1.2.p ha
    obtain ⟨N1, g1, G1, I1⟩ := r_laysReach0 hr.a
    have hr1 : RS N1 S := RS_of hr (gFr_c1 G1 fun k z => by omega)
    have z0 : N1.1 0 0 = nI 0 := by rw [(G1 0 0 (by omega)).1, p_gI_s]
    have GN : gFr srD N N1 := gFr_tr (G00 N _) (gFr_mo G1 (fun c k z => by unfold srD; omega))
    have c3 : M.1 3 a = nI (sHr S a) := cs_hr h1.1 ha
    have c9 : M.1 9 a = nI (sPl S a) := cs_pl h1.1 ha
    have c8 : M.1 8 (sPl S a) = sMb S (sPl S a) := cs_mb h1.1 hp
    have c2 : M.2.1 2 a = lN (gPk (sNm S a)) := cs_nm h1.1 ha
    have rc : ∀ u, u < sN S → M.1 7 u = N1.1 6 u := fun u hu => c_ext (P := fun v => sR S u v) (fun v hv => cs_rc h1.1 hu hv) (fun v hv => I1 u hu v hv)
    have ry : ∀ q, fX11_in y (0 : Int32) (7 : Int32) = some q → fX11_task (nI a) y N = if (if q = 0 then (1 : Int32) else (0 : Int32)) = 0 then (if y = (0 : Int32) then ((fX11_of (nI a) (0 : Int32) N1).bind fun v9 => some (v9, N1)) else if y = (1 : Int32) then ((fX11_of (nI a) (1 : Int32) N1).bind fun v11 => some (v11, N1)) else if y = (2 : Int32) then ((fX11_placeOf (nI a) N1).bind fun v13 => some (v13, N1)) else if y = (3 : Int32) then ((fX11_arrowsOf (nI a) (if y = (3 : Int32) then (1 : Int32) else (0 : Int32)) N1).bind fun v16 => some (v16, N1)) else if y = (4 : Int32) then ((fX11_arrowsOf (nI a) (if y = (3 : Int32) then (1 : Int32) else (0 : Int32)) N1).bind fun v19 => some (v19, N1)) else if y = (5 : Int32) then ((rI N1 6 24 (nI a)).bind fun v21 => (fX11_many v21).bind fun v22 => some (v22 - (1 : Int32), N1)) else if y = (6 : Int32) then ((fX11_reaching (nI a) N1).bind fun v24 => some (v24, N1)) else (fX11_of (nI a) (2 : Int32) N1).bind fun v25 => some (v25, N1)) else some (nI 0, gI (gI N 0 0 (nI 0)) 0 0 (nI 2)) := fun q e => by
      unfold fX11_task
      rw [e0, p_bnd]
      dsimp only
      rw [if_pos (show nI 0 = 0 from rfl), e, p_bnd]
      by_cases q0 : q = 0
      · rw [if_pos q0, if_neg (show ¬ (1 : Int32) = 0 by decide)]
        rfl
      · rw [if_neg q0, if_pos rfl, show fX11_throwsIf (0 : Int32) (2 : Int32) (gI N 0 0 (nI 0)) = some (nI 0, gI N 0 0 (nI 0)) from rfl, p_bnd]
        dsimp only
        rw [if_pos (show nI 0 = 0 from rfl), g1, p_bnd]
    have cx : ∀ v, fX10_task (nI a) y M = v ↔ (if y = (0 : Int32) then ((rI M 3 24 (nI a)).bind fun v5 => some (.inl v5)) else if y = (1 : Int32) then ((rI M 9 24 (nI a)).bind fun v7 => (rI M 8 24 v7).bind fun v8 => (fX10_headOf v8).bind fun v9 => some (.inl v9)) else if y = (2 : Int32) then ((rI M 9 24 (nI a)).bind fun v11 => some (.inl v11)) else if y = (3 : Int32) then ((rI M 6 24 (nI a)).bind fun v13 => (fJ6_bitCount_0f7a4 v13).bind fun v14 => some (.inl v14)) else if y = (4 : Int32) then ((fX2_arrowsTo 1 (nI a) M).bind fun v16 => some (.inl v16)) else if y = (5 : Int32) then ((rI M 7 24 (nI a)).bind fun v18 => (fJ6_bitCount_0f7a4 v18).bind fun v19 => some (.inl (v19 - (1 : Int32)))) else if y = (6 : Int32) then ((fX2_reachedBy 1 (nI a) M).bind fun v21 => (fJ6_bitCount_0f7a4 v21).bind fun v22 => some (.inl (v22 - (1 : Int32)))) else if y = (7 : Int32) then ((rL M 2 24 (nI a)).bind fun v24 => (fX10_lettersOf v24).bind fun v25 => some (.inl v25)) else some (.inr 1) : Option (Int32 ⊕ Nat)) = v := fun v => by
      unfold fX10_task
      rw [e1, p_bnd, gSE_l]
    rcases x_in y 0 7 (by omega) (by omega) with ⟨k, -, k7, rfl, e⟩ | ⟨q, e⟩
    · have ry := ry _ e
      rw [show (if nI 1 = (0 : Int32) then (1 : Int32) else (0 : Int32)) = 0 from by decide, if_pos rfl] at ry
      have fin : ∀ v, fX10_task (nI a) (nI k) M = some (.inl v) → fX11_task (nI a) (nI k) N = some (v, N1) → STL c (fL_task (nI a) (nI k) M) (fX11_task (nI a) (nI k) N) := fun v a1 a2 => STL_r (v := v) (N' := N1) h (fl_ok0 a1 _) a2 z0 GN
      rcases (show k = 0 ∨ k = 1 ∨ k = 2 ∨ k = 3 ∨ k = 4 ∨ k = 5 ∨ k = 6 ∨ k = 7 by omega) with rfl | rfl | rfl | rfl | rfl | rfl | rfl | rfl
      · refine fin (nI (sHr S a)) ((cx _).mpr ?_) ?_
        · rw [if_pos (show nI 0 = (0 : Int32) from rfl), p_rI (by omega) (by omega), p_bnd, c3]
        · rw [ry, if_pos (show nI 0 = (0 : Int32) from rfl), show fX11_of (nI a) (0 : Int32) N1 = _ from rs_hrs hr1 ha, p_bnd]
      · refine fin (nI (sHd S (sPl S a))) ((cx _).mpr ?_) ?_
        · rw [if_neg (by decide), if_pos (show nI 1 = (1 : Int32) from rfl), p_rI (by omega) (by omega), p_bnd, c9, p_rI (by omega) (by omega), p_bnd, c8, cs_headOf h1.1.2 hp, p_bnd]
        · rw [ry, if_neg (by decide), if_pos (show nI 1 = (1 : Int32) from rfl), show fX11_of (nI a) (1 : Int32) N1 = _ from rs_hd hr1 ha, p_bnd]
      · refine fin (nI (sPl S a)) ((cx _).mpr ?_) ?_
        · rw [if_neg (by decide), if_neg (by decide), if_pos (show nI 2 = (2 : Int32) from rfl), p_rI (by omega) (by omega), p_bnd, c9]
        · rw [ry, if_neg (by decide), if_neg (by decide), if_pos (show nI 2 = (2 : Int32) from rfl), rs_placeOf hr1 ha, p_bnd]
      · refine fin (nI (aFr S a)) ((cx _).mpr ?_) ?_
        · rw [if_neg (by decide), if_neg (by decide), if_neg (by decide), if_pos (show nI 3 = (3 : Int32) from rfl), p_rI (by omega) (by omega), p_bnd, show fJ6_bitCount_0f7a4 (M.1 6 a) = _ from cs_aFr h1.1 ha, p_bnd]
        · rw [ry, if_neg (by decide), if_neg (by decide), if_neg (by decide), if_pos (show nI 3 = (3 : Int32) from rfl), if_pos (show nI 3 = (3 : Int32) from rfl), show fX11_arrowsOf (nI a) (1 : Int32) N1 = _ from rs_arrowsOf hr1 ha true, p_bnd, if_pos rfl]
      · refine fin (nI (aTo S a)) ((cx _).mpr ?_) ?_
        · rw [if_neg (by decide), if_neg (by decide), if_neg (by decide), if_neg (by decide), if_pos (show nI 4 = (4 : Int32) from rfl), cs_arrowsTo h1.1 ha, p_bnd]
        · rw [ry, if_neg (by decide), if_neg (by decide), if_neg (by decide), if_neg (by decide), if_pos (show nI 4 = (4 : Int32) from rfl), if_neg (by decide), show fX11_arrowsOf (nI a) (0 : Int32) N1 = _ from rs_arrowsOf hr1 ha false, p_bnd, if_neg (by decide)]
      · refine fin (nI (fb_ct (bt (M.1 7 a)) 32) - (1 : Int32)) ((cx _).mpr ?_) ?_
        · rw [if_neg (by decide), if_neg (by decide), if_neg (by decide), if_neg (by decide), if_neg (by decide), if_pos (show nI 5 = (5 : Int32) from rfl), p_rI (by omega) (by omega), p_bnd, p_bitCount, p_bnd]
        · rw [ry, if_neg (by decide), if_neg (by decide), if_neg (by decide), if_neg (by decide), if_neg (by decide), if_pos (show nI 5 = (5 : Int32) from rfl), p_rI (by omega) (by omega), p_bnd, p_many, p_bnd, rc a ha]
      · refine fin (nI (fb_ct (fun o => cB (o < sN S ∧ sR S o a)) (sN S)) - nI 1) ((cx _).mpr ?_) ?_
        · rw [if_neg (by decide), if_neg (by decide), if_neg (by decide), if_neg (by decide), if_neg (by decide), if_neg (by decide), if_pos (show nI 6 = (6 : Int32) from rfl), cs_reachedBy h1.1 ha, p_bnd, p_bitCount, p_bnd, ct_mkS (n := sN S) (by omega) (fun v hv e => (cB_iff.mp e).1)]; rfl
        · rw [ry, if_neg (by decide), if_neg (by decide), if_neg (by decide), if_neg (by decide), if_neg (by decide), if_neg (by decide), if_pos (show nI 6 = (6 : Int32) from rfl), rs_reaching hr1.1.1.1 hn ha (f := fun o => cB (o < sN S ∧ sR S o a)) (fun o ho => cB_of ((I1 o ho a (by omega)).trans ⟨fun z => ⟨ho, z⟩, fun z => z.2⟩)), p_bnd]
      · have ok := h1.1.2.2.2.2.2.2.1 a ha
        refine fin (nI (sNm S a).length) ((cx _).mpr ?_) ?_
        · rw [if_neg (by decide), if_neg (by decide), if_neg (by decide), if_neg (by decide), if_neg (by decide), if_neg (by decide), if_neg (by decide), if_pos (show nI 7 = (7 : Int32) from rfl), p_rL (by omega) (by omega), p_bnd, c2, p_lettersOf ok, p_bnd]
        · rw [ry, if_neg (by decide), if_neg (by decide), if_neg (by decide), if_neg (by decide), if_neg (by decide), if_neg (by decide), if_neg (by decide), show fX11_of (nI a) (2 : Int32) N1 = _ from rs_len hr1 ha, p_bnd]
    · have ry := ry _ e
      rw [show (if nI 0 = (0 : Int32) then (1 : Int32) else (0 : Int32)) = 1 from by decide, if_neg (show ¬ (1 : Int32) = 0 by decide)] at ry
      refine STL_sc (k := 2) (v := nI 0) (N' := gI (gI N 0 0 (nI 0)) 0 0 (nI 2)) h ?_ ry (by omega) (by omega) (p_gI_s _ _ _ _) (gFr_trI (G00 N _) (by unfold srD; omega))
      have ne : ∀ k, k ≤ 7 → y ≠ nI k := fun k hk => x_ne q (by decide) hk
      have cz : fX10_task (nI a) y M = some (.inr 1) := (cx _).mpr (by
        rw [if_neg (show ¬ y = (0 : Int32) from ne 0 (by decide)), if_neg (show ¬ y = (1 : Int32) from ne 1 (by decide)), if_neg (show ¬ y = (2 : Int32) from ne 2 (by decide)), if_neg (show ¬ y = (3 : Int32) from ne 3 (by decide)), if_neg (show ¬ y = (4 : Int32) from ne 4 (by decide)), if_neg (show ¬ y = (5 : Int32) from ne 5 (by decide)), if_neg (show ¬ y = (6 : Int32) from ne 6 (by decide)), if_neg (show ¬ y = (7 : Int32) from ne 7 (by decide))])
      unfold fL_task
      rw [cz]; rfl
  · refine STL_sc (k := 1) (v := nI 0) (N' := gI N 0 0 (nI 1)) h ?_ ?_ (by omega) (by omega) (p_gI_s _ _ _ _) (G00 N _)
    · unfold fL_task fX10_task
      rw [e1]; rfl
    · unfold fX11_task
      rw [e0]; rfl
end RE7
