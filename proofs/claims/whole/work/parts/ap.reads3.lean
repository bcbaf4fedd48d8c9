/-! STEPS that only ask: arrowOf, reaches, letter, leastPlace, mostPlace, fresh, bestMode, arrow, size -/
section RE3
variable {M N M' N' : gMem} {c k a b : Nat} {S : gS} {P : List gS} {x y : Int32}
/-- a refused argument: status k, scratch only -/
theorem STL_sc {q r : Option (Int32 × gMem)} {k : Nat} {v : Int32} (h : REL c M N) (hx : q = some (nI k, M)) (hy : r = some (v, N')) (h1 : 1 ≤ k) (h2 : k ≤ 2) (h0 : N'.1 0 0 = nI k) (G : gFr srD N N') : STL c q r :=
  STL_no hx hy h1 h2 h0 (REL_sc h gFr_rf G)
theorem STL_r {q r : Option (Int32 × gMem)} {v : Int32} (h : REL c M N) (hx : q = some (nI 0, gL M 137 0 v.toInt64)) (hy : r = some (v, N')) (h0 : N'.1 0 0 = nI 0) (G : gFr srD N N') : STL c q r :=
  STL_ok hx hy h0 (REL_sc h gFr_rf G)
theorem G00 (N : gMem) (x : Int32) : gFr srD N (gI N 0 0 x) := gFr_I (by unfold srD; omega)
theorem st_arrowOf (h : REL c M N) (x y : Int32) : STL c (fL_arrowOf x y M) (fX11_arrowOf x y N) := by
  obtain ⟨S, P, h1, h2, h3, h4, h5, h6⟩ := id h
  have hn := h1.1.2.1.1
  rcases x_tasks h1.1 h1.2.1 x y with ⟨a, b, ha, hb, rfl, rfl, e0, e1, e2⟩ | ⟨N', e0, n0, G0, e1⟩
  · have hr : RS (gI (gI N 0 0 (nI 0)) 0 0 (nI 0)) S := RS_of h1.2.1 (by rw [p_gI_o (by decide), p_gI_o (by decide)])
    refine STL_r (v := gNo (sAr S a b) (sM S)) (N' := gI (gI N 0 0 (nI 0)) 0 0 (nI 0)) h (fl_ok0 ?_ _) ?_ (p_gI_s _ _ _ _) (gFr_trI (G00 N _) (by unfold srD; omega))
    · unfold fX10_arrowOf
      rw [e1, p_bnd, gSE_l, e2, p_bnd, gSE_l, cs_numberOf h1.1 (by omega) (by omega), p_bnd]
    · unfold fX11_arrowOf
      rw [e0, p_bnd]
      dsimp only
      rw [if_pos (show nI 0 = 0 from rfl), rs_arrowFrom hr (by omega) (by omega), p_bnd]
  · refine STL_sc (k := 1) (v := nI 0) (N' := N') h ?_ ?_ (by omega) (by omega) n0 (gFr_mo G0 (fun c k z => by unfold srD; omega))
    · unfold fL_arrowOf fX10_arrowOf
      rcases e1 with e1 | ⟨e1, e2⟩
      · rw [e1]; rfl
      · rw [e1, p_bnd, gSE_l, e2]; rfl
    · unfold fX11_arrowOf
      rw [e0]; rfl
/-- an answer yes or no -/
def STB (c : Nat) (x y : Option (Int32 × gMem)) : Prop := ∃ k M' b N', x = some (nI k, M') ∧ y = some (ib b, N') ∧ k ≤ 2 ∧ N'.1 0 0 = nI k ∧ (k = 0 → M'.2.1 137 0 = lN (if b = true then 1 else 0)) ∧ REL c M' N'
theorem st_reaches (h : REL c M N) (x y : Int32) : STB c (fL_reaches x y M) (fX11_reaches x y N) := by
  obtain ⟨S, P, h1, h2, h3, h4, h5, h6⟩ := id h
  have hn := h1.1.2.1.1
  rcases x_tasks h1.1 h1.2.1 x y with ⟨a, b, ha, hb, rfl, rfl, e0, e1, e2⟩ | ⟨N', e0, n0, G0, e1⟩
  · have hr : RS (gI (gI N 0 0 (nI 0)) 0 0 (nI 0)) S := RS_of h1.2.1 (by rw [p_gI_o (by decide), p_gI_o (by decide)])
    obtain ⟨N1, g1, G1, I1⟩ := r_laysReach0 hr.a
    have c7 : M.1 7 a = M.1 (1 + 6) a := rfl
    have eb : bt (N1.1 6 a) b = bt (M.1 7 a) b := by
      have z1 := I1 a ha b (by omega)
      have z2 := cs_rc h1.1 ha (v := b) (by omega)
      have z2 : bt (M.1 7 a) b = true ↔ sR S a b := z2
      cases q : bt (M.1 7 a) b
      · cases q2 : bt (N1.1 6 a) b
        · rfl
        · rw [z2.mpr (z1.mp q2)] at q; cases q
      · exact z1.mpr (z2.mp q)
    refine ⟨0, gL M 137 0 (lN (if bt (M.1 7 a) b = true then 1 else 0)), bt (M.1 7 a) b, N1, ?_, ?_, by omega, ?_, fun _ => by rw [p_gL]; exact if_pos ⟨rfl, rfl⟩, REL_sc h (gFr_L (by unfold scD; omega)) (gFr_tr (gFr_trI (G00 N _) (by unfold srD; omega)) (gFr_mo G1 (fun c k z => by unfold srD; omega)))⟩
    · unfold fL_reaches fX10_reaches
      rw [e1, p_bnd, gSE_l, e2, p_bnd, gSE_l, p_rI (by omega) (by omega), p_bnd, p_has10 (by omega), p_bnd, p_zvib, p_bnd, p_bnd, gSE_l]
      unfold fL_reaches_b16
      cases bt (M.1 7 a) b
      · rw [if_pos (show ib false = 0 from rfl), p_out]; rfl
      · rw [if_neg (show ¬ ib true = 0 by decide), p_out]; rfl
    · unfold fX11_reaches
      rw [e0, p_bnd]
      dsimp only
      rw [if_pos (show nI 0 = 0 from rfl), g1, p_bnd, p_rI (by omega) (by omega), p_bnd, p_has11 (by omega), p_bnd, p_zvib, p_bnd, eb]
    · rw [(G1 0 0 (by omega)).1, p_gI_s]
  · refine ⟨1, M, false, N', ?_, ?_, by omega, n0, fun z => by omega, REL_sc h gFr_rf (gFr_mo G0 (fun c k z => by unfold srD; omega))⟩
    · unfold fL_reaches fX10_reaches
      rcases e1 with e1 | ⟨e1, e2⟩
      · rw [e1]; rfl
      · rw [e1, p_bnd, gSE_l, e2]; rfl
    · unfold fX11_reaches
      rw [e0]; rfl
theorem st_letter (h : REL c M N) (x y : Int32) : STL c (fL_letter x y M) (fX11_letter x y N) := by
  obtain ⟨S, P, h1, h2, h3, h4, h5, h6⟩ := id h
  have hn := h1.1.2.1.1
  rcases x_task h1.1 h1.2.1 x with ⟨a, ha, rfl, e0, e1⟩ | ⟨e0, e1⟩
  · have hr : RS (gI N 0 0 (nI 0)) S := RS_of h1.2.1 (p_gI_o (by decide))
    have ok := h1.1.2.2.2.2.2.2.1 a ha
    obtain ⟨w1, w6, w3⟩ := id ok
    have nm : M.2.1 2 a = lN (gPk (sNm S a)) := cs_nm h1.1 ha
    have cx : fX10_letter (nI a) y M = (fX10_letterOf (lN (gPk (sNm S a))) y).bind fun v5 => some (.inl (if v5 = 0 then (-1 : Int32) else v5)) := by
      unfold fX10_letter
      rw [e1, p_bnd, gSE_l, p_rL (by omega) (by omega), p_bnd, nm]
    have ry : fX11_letter (nI a) y N = (fX11_in y (0 : Int32) (nI (sNm S a).length - (1 : Int32))).bind fun v4 => if v4 = 0 then (some ((-1 : Int32), gI N 0 0 (nI 0))) else (fX11_of (nI a) ((3 : Int32) + y) (gI N 0 0 (nI 0))).bind fun v6 => some (v6, gI N 0 0 (nI 0)) := by
      unfold fX11_letter
      rw [e0, p_bnd]
      dsimp only
      rw [if_pos (show nI 0 = 0 from rfl), show fX11_of (nI a) (2 : Int32) (gI N 0 0 (nI 0)) = _ from rs_len hr ha, p_bnd]
    rcases x_chk y (sNm S a).length (by omega) with ⟨k, k1, rfl, k2, k3, k4⟩ | ⟨k2, k3⟩
    · have lb := sNok_getD ok k1
      have lt := p_letter (l := sNm S a) (fun c hc => (sNok_b ok c hc).2) w6 (k := k) (by omega)
      refine STL_r (v := nI ((sNm S a).getD k 0)) (N' := gI N 0 0 (nI 0)) h (fl_ok0 ?_ _) ?_ (p_gI_s _ _ _ _) (G00 N _)
      · rw [cx, lt, p_bnd, if_neg (show ¬ nI ((sNm S a).getD k 0) = 0 by rw [show (0 : Int32) = nI 0 from rfl, p_eq (by omega) (by omega)]; omega)]
      · rw [ry, k2, p_bnd, if_neg (show ¬ nI 1 = 0 by decide), show (3 : Int32) + nI k = nI (3 + k) from nI_add _ _, rs_let hr ha (by omega), p_bnd]
    · have l0 : fX10_letterOf (lN (gPk (sNm S a))) y = some (nI 0) := by
        by_cases z : ∃ k, k < 6 ∧ y = nI k
        · obtain ⟨k, kk, rfl⟩ := z
          rw [p_letter (l := sNm S a) (fun c hc => (sNok_b ok c hc).2) w6 kk, getD_out]
          rcases k3 with z | ⟨-, z⟩
          · rw [show (0 : Int32) = nI 0 from rfl, p_lt (by omega) (by omega)] at z; omega
          · rw [p_lt (by omega) (by omega)] at z; omega
        · exact p_letter0 (fun k kk e => z ⟨k, kk, e⟩)
      refine STL_r (v := mO 1) (N' := gI N 0 0 (nI 0)) h (fl_ok0 ?_ _) ?_ (p_gI_s _ _ _ _) (G00 N _)
      · rw [cx, l0, p_bnd, if_pos (show nI 0 = 0 from rfl)]; rfl
      · rw [ry, k2, p_bnd, if_pos (show nI 0 = 0 from rfl)]; rfl
  · refine STL_sc (k := 1) (v := nI 0) (N' := gI N 0 0 (nI 1)) h ?_ ?_ (by omega) (by omega) (p_gI_s _ _ _ _) (G00 N _)
    · unfold fL_letter fX10_letter
      rw [e1]; rfl
    · unfold fX11_letter
      rw [e0]; rfl
theorem st_leastPlace (h : REL c M N) (x : Int32) : STL c (fL_leastPlace x M) (fX11_leastPlace x N) := by
  obtain ⟨S, P, h1, h2, h3, h4, h5, h6⟩ := id h
  have hn := h1.1.2.1.1
  rcases x_task h1.1 h1.2.1 x with ⟨a, ha, rfl, e0, e1⟩ | ⟨e0, e1⟩
  · have hr : RS (gI N 0 0 (nI 0)) S := RS_of h1.2.1 (p_gI_o (by decide))
    have hp := h1.1.2.p ha
    have pl : M.1 9 a = nI (sPl S a) := cs_pl h1.1 ha
    refine STL_r (v := nI (lPl S (sPl S a))) (N' := gI N 0 0 (nI 0)) h (fl_ok0 ?_ _) ?_ (p_gI_s _ _ _ _) (G00 N _)
    · unfold fX10_leastPlace
      rw [e1, p_bnd, gSE_l, p_rI (by omega) (by omega), p_bnd, pl, show (0 : Int32) = nI 0 from rfl, cs_leastLoop h1.1 hp, p_bnd]
    · unfold fX11_leastPlace
      rw [e0, p_bnd]
      dsimp only
      rw [if_pos (show nI 0 = 0 from rfl), rs_placeOf hr ha, p_bnd, rs_membersAt hr hp, p_bnd, rs_leastLoop hr hp, p_bnd]
  · refine STL_sc (k := 1) (v := nI 0) (N' := gI N 0 0 (nI 1)) h ?_ ?_ (by omega) (by omega) (p_gI_s _ _ _ _) (G00 N _)
    · unfold fL_leastPlace fX10_leastPlace
      rw [e1]; rfl
    · unfold fX11_leastPlace
      rw [e0]; rfl
theorem st_mostPlace (h : REL c M N) (x : Int32) : STL c (fL_mostPlace x M) (fX11_mostPlace x N) := by
  obtain ⟨S, P, h1, h2, h3, h4, h5, h6⟩ := id h
  have hn := h1.1.2.1.1
  have hg := rN_g h1
  rcases x_task h1.1 h1.2.1 x with ⟨a, ha, rfl, e0, e1⟩ | ⟨e0, e1⟩
  · have hr : RS (gI N 0 0 (nI 0)) S := RS_of h1.2.1 (p_gI_o (by decide))
    have hp := h1.1.2.p ha
    have pl : M.1 9 a = nI (sPl S a) := cs_pl h1.1 ha
    refine STL_r (v := nI (mPl S (sPl S a))) (N' := gI N 0 0 (nI 0)) h (fl_ok0 ?_ _) ?_ (p_gI_s _ _ _ _) (G00 N _)
    · unfold fX10_mostPlace
      rw [e1, p_bnd, gSE_l, p_rI (by omega) (by omega), p_bnd, pl, cs_g h1.1, show (1 : Int32) = nI 1 from rfl, p_sub hg, p_nm, p_bnd, show (0 : Int32) = nI 0 from rfl, cs_mostLoop h1.1 hp, p_bnd]
    · unfold fX11_mostPlace
      rw [e0, p_bnd]
      dsimp only
      rw [if_pos (show nI 0 = 0 from rfl), rs_placeOf hr ha, p_bnd, rs_membersAt hr hp, p_bnd, rs_mostLoop hr hp, p_bnd]
  · refine STL_sc (k := 1) (v := nI 0) (N' := gI N 0 0 (nI 1)) h ?_ ?_ (by omega) (by omega) (p_gI_s _ _ _ _) (G00 N _)
    · unfold fL_mostPlace fX10_mostPlace
      rw [e1]; rfl
    · unfold fX11_mostPlace
      rw [e0]; rfl
theorem st_bestMode (h : REL c M N) (x y : Int32) : STL c (fL_bestMode x y M) (fX11_bestMode x y N) := by
  obtain ⟨S, P, h1, h2, h3, h4, h5, h6⟩ := id h
  have hn := h1.1.2.1.1
  rcases x_tasks h1.1 h1.2.1 x y with ⟨a, b, ha, hb, rfl, rfl, e0, e1, e2⟩ | ⟨N', e0, n0, G0, e1⟩
  · have hr : RS (gI (gI N 0 0 (nI 0)) 0 0 (nI 0)) S := RS_of h1.2.1 (by rw [p_gI_o (by decide), p_gI_o (by decide)])
    obtain ⟨N1, g1, G1, r1⟩ := rs_best hr ha hb
    have cr := cs_refusal h1.1 ha hb
    have zle := sRz_le (S := S) (a := a) (b := b)
    have GG : gFr (fun c k => srD c k ∨ c = 1) N N1 := gFr_tr (gFr_mo (gFr_trI (G00 N _) (by unfold srD; omega)) (fun c k z => Or.inl z)) (gFr_mo G1 (fun c k z => by unfold Dwm at z; unfold srD; omega))
    have cx : ∃ M1, fX10_bestMode (nI a) (nI b) M = some (.inl (bMd S a b), M1) ∧ gFr scD M M1 := by
      unfold fX10_bestMode
      rw [e1, p_bnd, gSE_l, e2, p_bnd, gSE_l, cr, p_bnd]
      by_cases rz : sRz S a b = 0
      · obtain ⟨M1, e, F⟩ := cs_best h1.1 ha hb rz
        exact ⟨M1, by rw [rz, if_pos (show nI 0 = 0 from rfl)]; exact e, gFr_mo F (fun c k z => by unfold Dbm at z; unfold scD; omega)⟩
      · refine ⟨M, ?_, gFr_rf⟩
        rw [if_neg (show ¬ nI (sRz S a b) = 0 by rw [show (0 : Int32) = nI 0 from rfl, p_eq (by omega) (by omega)]; exact rz)]
        unfold bMd
        rw [if_neg rz]; rfl
    obtain ⟨M1, cx, F1⟩ := cx
    refine STL_ok (M' := M1) (N' := N1) (b := bMd S a b) (fl_ok cx _) ?_ ?_ (rel_r1 h1 h2 h3 h4 h5 h6 F1 GG r1)
    · unfold fX11_bestMode
      rw [e0, p_bnd]
      dsimp only
      rw [if_pos (show nI 0 = 0 from rfl), show gLoop (fun z9 => fX11_bestMode_l21 (nI a) (nI b) z9.1 z9.2.1 z9.2.2.1 z9.2.2.2) gFu ((-1 : Int32), (1000 : Int32), (0 : Int32), gI (gI N 0 0 (nI 0)) 0 0 (nI 0)) = _ from g1, p_bnd]
    · rw [(G1 0 0 (by unfold Dwm; omega)).1, p_gI_s]
  · refine STL_sc (k := 1) (v := nI 0) (N' := N') h ?_ ?_ (by omega) (by omega) n0 (gFr_mo G0 (fun c k z => by unfold srD; omega))
    · unfold fL_bestMode fX10_bestMode
      rcases e1 with e1 | ⟨e1, e2⟩
      · rw [e1]; rfl
      · rw [e1, p_bnd, gSE_l, e2]; rfl
    · unfold fX11_bestMode
      rw [e0]; rfl
end RE3
