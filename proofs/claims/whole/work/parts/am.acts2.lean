/-! STEPS that change: swap, setHours, set, make -/
section AC2
variable {M N M' N' M1 N1 M2 N2 : gMem} {c k a : Nat} {S S' : gS} {P : List gS} {x : Int32} {B : Nat → Nat} {L : Nat}
theorem sSw_hd9 : sHd (sSw S a) a = sHd S (a + 1) := by
  refine fa_first_cg fun t ht => ?_
  show decide ((if sPl S t = a then a + 1 else if sPl S t = a + 1 then a else sPl S t) = a) = decide (sPl S t = a + 1)
  apply decide_eq_decide.mpr
  by_cases c : sPl S t = a
  · rw [if_pos c]; omega
  · rw [if_neg c]
    by_cases d : sPl S t = a + 1
    · rw [if_pos d]; omega
    · rw [if_neg d]; omega
theorem st_swap (h : REL c M N) (x : Int32) : STL (c + 1) (fL_swap x M) (fX11_swap x N) := by
  obtain ⟨S, P, h1, h2, h3, h4, h5, h6⟩ := id h
  have hg := rN_g h1
  have g24 := (sW_24 h1.1.2).2.2
  have e2 : nI (sG S) - (2 : Int32) = nI (sG S - 1) - (1 : Int32) := by
    rcases (show sG S = 1 ∨ 2 ≤ sG S by omega) with e | e
    · rw [e]; decide
    · rw [show (2 : Int32) = nI 2 from rfl, show (1 : Int32) = nI 1 from rfl, p_sub e, p_sub (by omega)]; congr 1
  have ry : fX11_swap x N = (fX11_in x (0 : Int32) (nI (sG S - 1) - (1 : Int32))).bind fun v2 => (fX11_wrong (if v2 = 0 then (1 : Int32) else (0 : Int32)) N).bind fun v4 => if v4.1 = 0 then ((fX11_goesAside v4.2).bind fun v6 => (fX11_swaps x v6).bind fun v7 => (fX11_done v7.1 v7.2).bind fun v8 => some (v8.1, v8.2)) else some ((0 : Int32), v4.2) := by
    unfold fX11_swap
    rw [show (2 : Int32) = nI 2 from rfl, p_rI (by omega) (by omega), p_bnd, h1.2.1.1.1.2.2.1, show nI 2 = (2 : Int32) from rfl, e2]
  have cx : fX10_swap x M = (fX10_checkPlace x (nI (sG S - 1))).bind fun v1 => gSE v1 (fun u2 => (fX2_leadsOn 1 x M).bind fun v4 => if v4 = 0 then ((fX10_remember M).bind fun v6 => (fX2_swapAt 1 x v6).bind fun v7 => (rI v7 8 24 x).bind fun v8 => (fX10_headOf v8).bind fun v9 => some (.inl v9, v7)) else some (.inl (-5 : Int32), M)) (fun x3 => some (.inr x3, M)) := by
    unfold fX10_swap
    rw [cs_g h1.1, show (1 : Int32) = nI 1 from rfl, p_sub hg]
  rcases x_chk x (sG S - 1) (by omega) with ⟨a, ha, rfl, e0, q1, q2⟩ | ⟨e0, q⟩
  · have ck : fX10_checkPlace (nI a) (nI (sG S - 1)) = some (.inl ()) := by
      unfold fX10_checkPlace
      rw [if_neg q1, if_pos q2]
    obtain ⟨M1, N1, m1, g1, F1, G1, p1, C1, R1, rr, z1⟩ := rel_pre h1 h2 (gFr_I (x := nI 0) ⟨rfl, rfl⟩)
    have z1 : N1.1 0 0 = nI 0 := z1.trans (p_gI_s _ _ _ _)
    obtain ⟨s1, s2⟩ := rs_swaps R1 (p := a) (by omega)
    have ry2 : fX11_swap (nI a) N = (fX11_swaps (nI a) N1).bind fun v7 => (fX11_done v7.1 v7.2).bind fun v8 => some (v8.1, v8.2) := by
      rw [ry, e0, p_bnd, if_neg (show ¬ nI 1 = 0 by decide), show (0 : Int32) = nI 0 from rfl, r_wr0, p_bnd]
      dsimp only
      rw [if_pos rfl, g1, p_bnd]
    have cx2 : fX10_swap (nI a) M = if ib (sLd S a (a + 1)) = 0 then ((fX10_remember M).bind fun v6 => (fX2_swapAt 1 (nI a) v6).bind fun v7 => (rI v7 8 24 (nI a)).bind fun v8 => (fX10_headOf v8).bind fun v9 => some (.inl v9, v7)) else some (.inl (-5 : Int32), M) := by
      rw [cx, ck, p_bnd, gSE_l, cs_leadsOn h1.1 (by omega), p_bnd]
    cases hl : sLd S a (a + 1)
    · obtain ⟨M4, e4, F4, C4⟩ := cs_swapAt C1 (by decide) (p := a) (by omega) hl
      obtain ⟨N4, g4, G4, R4⟩ := s2 hl
      have hh := (sHd_ok h1.1.2.2.2.1 (p := a + 1) (by omega)).1
      have hn := h1.1.2.1.1
      obtain ⟨N5, g5, z5, r5⟩ := rel_both h1 h2 h3 h4 h5 h6 F1 G1 p1 rr (gFr_mo F4 (fun c k z => by unfold DcR; omega)) (gFr_mo G4 (fun c k z => by unfold DrR; omega)) C4 R4 (fun z => sB_le (sSw_B z) (by omega)) h1.2.2.2
      refine STL_ok (M' := M4) (N' := N5) (b := nI (sHd S (a + 1))) (fl_ok ?_ _) ?_ (z5.trans z1) r5
      · have ga : a < sG (sSw S a) := by show a < sG S; omega
        have hm : M4.1 8 a = sMb (sSw S a) a := cs_mb C4 ga
        rw [cx2, hl, if_pos (show ib false = 0 from rfl), m1, p_bnd, e4, p_bnd, p_rI (by omega) (by omega), p_bnd, hm, cs_headOf C4.2 ga, p_bnd, sSw_hd9]
      · rw [ry2, g4, p_bnd]
        dsimp only
        rw [r_done0 (by omega) g5, p_bnd]
    · refine STL_ok (M' := M) (N' := N1) (b := mO 5) (fl_ok ?_ _) ?_ z1 (REL_mono (c := c) (REL_sc h gFr_rf (gFr_mo G1 (fun c k z => by unfold srD; omega))) (by omega))
      · rw [cx2, hl, if_neg (show ¬ ib true = 0 by decide)]; rfl
      · rw [ry2, s1 hl, p_bnd]
        dsimp only
        rw [r_done1 (by omega) (by omega), p_bnd]
  · have ck : fX10_checkPlace x (nI (sG S - 1)) = some (.inr 2) := by
      unfold fX10_checkPlace
      rcases q with b | ⟨b, b2⟩
      · rw [if_pos b]; rfl
      · rw [if_neg b, if_neg b2]; rfl
    refine STL_no (k := 1) (M' := M) (N' := gI N 0 0 (nI 1)) (b := nI 0) ?_ ?_ (by omega) (by omega) (p_gI_s _ _ _ _) (REL_mono (c := c) (REL_sc h gFr_rf (gFr_I (by unfold srD; omega))) (by omega))
    · unfold fL_swap
      rw [cx, ck]; rfl
    · rw [ry, e0]; rfl
theorem x_hours (x : Int32) : (∃ a, 1 ≤ a ∧ a ≤ 9 ∧ x = nI a ∧ fX11_in x (1 : Int32) (9 : Int32) = some (nI 1) ∧ fX10_checkHours x = some (.inl ())) ∨ (fX11_in x (1 : Int32) (9 : Int32) = some (nI 0) ∧ fX10_checkHours x = some (.inr 1)) := by
  unfold fX10_checkHours
  rcases x_in x 1 9 (by omega) (by omega) with ⟨a, a1, a2, rfl, a3⟩ | ⟨a1, a2⟩
  · left
    refine ⟨a, a1, a2, rfl, a3, ?_⟩
    rw [if_neg (by rw [show (1 : Int32) = nI 1 from rfl, p_lt (by omega) (by omega)]; omega), if_pos (by rw [show (9 : Int32) = nI 9 from rfl, p_le (by omega) (by omega)]; omega)]
  · right
    refine ⟨a2, ?_⟩
    rcases a1 with b | ⟨b, b2⟩
    · rw [if_pos (show x < (1 : Int32) from b)]; rfl
    · rw [if_neg (show ¬ x < (1 : Int32) from b), if_neg (show ¬ x ≤ (9 : Int32) from x_le (k := 9) (by decide) b2)]; rfl
theorem st_setHours (h : REL c M N) (x y : Int32) : STL (c + 1) (fL_setHours x y M) (fX11_setHours x y N) := by
  obtain ⟨S, P, h1, h2, h3, h4, h5, h6⟩ := id h
  have hn := h1.1.2.1.1
  rcases x_task h1.1 h1.2.1 x with ⟨a, ha, rfl, e0, e1⟩ | ⟨e0, e1⟩
  · rcases x_hours y with ⟨b, b1, b9, rfl, e2, e3⟩ | ⟨e2, e3⟩
    · obtain ⟨M1, N1, m1, g1, F1, G1, p1, C1, R1, rr, z1⟩ := rel_pre h1 h2 (gFr_I (x := nI 0) ⟨rfl, rfl⟩)
      have r1 : N1.1 1 (158 + 9 * a) = nI (sHr S a) := (R1.1.2.2.2.2 a ha).1
      have hh := h1.1.2.2.2.2.2.1 a ha
      obtain ⟨N5, g5, z5, r5⟩ := rel_both (M2 := gI M1 3 a (nI b)) (N2 := gI N1 1 (158 + 9 * a) (nI b)) (S' := sHou S a b) h1 h2 h3 h4 h5 h6 F1 G1 p1 rr (gFr_I (by unfold DcR; omega)) (gFr_I (by unfold DrR; omega)) (CS_hours C1 b1 b9) (RS_hours R1 ha b1 b9) (fun z => sB_le (S := sHou S a b) z (by omega)) h1.2.2.2
      refine STL_ok (M' := gI M1 3 a (nI b)) (N' := N5) (b := nI (sHr S a)) (fl_ok ?_ _) ?_ (z5.trans (z1.trans (p_gI_s _ _ _ _))) r5
      · unfold fX10_setHours
        rw [e1, p_bnd, gSE_l, e3, p_bnd, gSE_l, m1, p_bnd, p_rI (by omega) (by omega), p_bnd, cs_hr C1 ha, p_wI (by omega) (by omega), p_bnd]
      · unfold fX11_setHours
        rw [e0, p_bnd]
        dsimp only
        rw [if_pos (show nI 0 = 0 from rfl), e2, p_bnd, if_neg (show ¬ nI 1 = 0 by decide)]
        show ((fX11_throwsIf (nI 0) (2 : Int32) (gI N 0 0 (nI 0))).bind _) = _
        rw [show fX11_throwsIf (nI 0) (2 : Int32) (gI N 0 0 (nI 0)) = some (nI 0, gI N 0 0 (nI 0)) from rfl, p_bnd]
        dsimp only
        rw [if_pos (show nI 0 = 0 from rfl), g1, p_bnd]
        unfold fX11_becomes
        rw [show (158 : Int32) = nI 158 from rfl, show (9 : Int32) = nI 9 from rfl, show (0 : Int32) = nI 0 from rfl, p_mul, nI_add, nI_add, Nat.add_zero, p_rI (by omega) (by omega), p_bnd, r1, p_wI (by omega) (by omega), p_bnd, p_bnd]
        dsimp only
        rw [r_done0 (by omega) g5, p_bnd]
    · refine STL_no (k := 2) (M' := M) (N' := gI (gI N 0 0 (nI 0)) 0 0 (nI 2)) (b := nI 0) ?_ ?_ (by omega) (by omega) (p_gI_s _ _ _ _) (REL_mono (c := c) (REL_sc h gFr_rf (gFr_trI (gFr_I (by unfold srD; omega)) (by unfold srD; omega))) (by omega))
      · unfold fL_setHours fX10_setHours
        rw [e1, p_bnd, gSE_l, e3]; rfl
      · unfold fX11_setHours
        rw [e0, p_bnd]
        dsimp only
        rw [if_pos (show nI 0 = 0 from rfl), e2]; rfl
  · refine STL_no (k := 1) (M' := M) (N' := gI N 0 0 (nI 1)) (b := nI 0) ?_ ?_ (by omega) (by omega) (p_gI_s _ _ _ _) (REL_mono (c := c) (REL_sc h gFr_rf (gFr_I (by unfold srD; omega))) (by omega))
    · unfold fL_setHours fX10_setHours
      rw [e1]; rfl
    · unfold fX11_setHours
      rw [e0]; rfl
theorem st_set (h : REL c M N) (x y : Int32) : STL (c + 1) (fL_set x y M) (fX11_set x y N) := by
  obtain ⟨S, P, h1, h2, h3, h4, h5, h6⟩ := id h
  have hm := h1.1.2.1.2.2.2.1
  have hj := h1.1.2.1.2.2.2.2
  obtain ⟨M1, N1, m1, g1, F1, G1, p1, C1, R1, rr, z1⟩ := rel_pre h1 h2 (gFr_I (x := nI 0) ⟨rfl, rfl⟩)
  have z1 : N1.1 0 0 = nI 0 := z1.trans (p_gI_s _ _ _ _)
  have no : fX10_set x y M = some (.inr 1, M) → fX11_set x y N = some (nI 0, gI N 0 0 (nI 1)) → STL (c + 1) (fL_set x y M) (fX11_set x y N) := fun e g => by
    refine STL_no (k := 1) (M' := M) (N' := gI N 0 0 (nI 1)) (b := nI 0) ?_ g (by omega) (by omega) (p_gI_s _ _ _ _) (REL_mono (c := c) (REL_sc h gFr_rf (gFr_I (by unfold srD; omega))) (by omega))
    unfold fL_set
    rw [e]; rfl
  have b32n : fX11_set_b32 x y (0 : Int32) N = some (nI 0, gI N 0 0 (nI 1)) := rfl
  have b32y : fX11_set_b32 x y (1 : Int32) N = (fX11_becomes (if x = 0 then (3 : Int32) else (4 : Int32)) y N1).bind fun v8 => (fX11_done v8.1 v8.2).bind fun v9 => some (v9.1, v9.2) := by
    unfold fX11_set_b32
    rw [if_neg (show ¬ (1 : Int32) = 0 by decide), show (0 : Int32) = nI 0 from rfl, r_wr0, p_bnd]
    dsimp only
    rw [if_pos rfl, g1, p_bnd]
  by_cases x0 : x = 0
  · subst x0
    have cx : fX10_set 0 y M = if y < 0 then (fX10_set_b26 M) else if y ≤ (2 : Int32) then ((fX10_remember M).bind fun v6 => (nm (v6.1 1 12)).bind fun v8 => (wF v6 1 12 y).bind fun M9 => some (.inl v8, M9)) else fX10_set_b26 M := rfl
    have ry : fX11_set 0 y N = (fX11_in y (0 : Int32) (2 : Int32)).bind fun v2 => fX11_set_b32 0 y v2 N := rfl
    rcases x_in y 0 2 (by omega) (by omega) with ⟨b, -, b2, rfl, e⟩ | ⟨o, e⟩
    · have r3 : N1.1 1 3 = nI (sMo S) := R1.1.1.2.2.2.1
      obtain ⟨N5, g5, z5, r5⟩ := rel_both (M2 := gI M1 1 12 (nI b)) (N2 := gI N1 1 3 (nI b)) (S' := sMod S b) h1 h2 h3 h4 h5 h6 F1 G1 p1 rr (gFr_I (by unfold DcR; omega)) (gFr_I (by unfold DrR; omega)) (CS_mode C1 b2) (RS_mode R1 b2) (fun z => sB_le (S := sMod S b) z (by omega)) h1.2.2.2
      refine STL_ok (M' := gI M1 1 12 (nI b)) (N' := N5) (b := nI (sMo S)) (fl_ok ?_ _) ?_ (z5.trans z1) r5
      · rw [cx, if_neg (by rw [show (0 : Int32) = nI 0 from rfl, p_lt (by omega) (by omega)]; omega), if_pos (by rw [show (2 : Int32) = nI 2 from rfl, p_le (by omega) (by omega)]; omega), m1, p_bnd, p_nm, p_bnd, p_wF, p_bnd, cs_mo C1]
      · rw [ry, show fX11_in (nI b) (0 : Int32) (2 : Int32) = some (nI 1) from e, p_bnd, show nI 1 = (1 : Int32) from rfl, b32y, if_pos rfl]
        unfold fX11_becomes
        rw [show (3 : Int32) = nI 3 from rfl, p_rI (by omega) (by omega), p_bnd, r3, p_wI (by omega) (by omega), p_bnd, p_bnd]
        dsimp only
        rw [r_done0 (by omega) g5, p_bnd]
    · refine no ?_ ?_
      · rw [cx]
        rcases o with o | ⟨o, o2⟩
        · rw [if_pos (show y < (0 : Int32) from o)]; rfl
        · rw [if_neg (show ¬ y < (0 : Int32) from o), if_neg (show ¬ y ≤ (2 : Int32) from x_le (k := 2) (by decide) o2)]; rfl
      · rw [ry, show fX11_in y (0 : Int32) (2 : Int32) = some (nI 0) from e]; rfl
  · by_cases x1 : x = 1
    · subst x1
      have cx : fX10_set 1 y M = if y < 0 then (fX10_set_b26 M) else if y ≤ (1 : Int32) then ((fX10_remember M).bind fun v6 => (nm (v6.1 1 13)).bind fun v8 => (wF v6 1 13 y).bind fun M9 => some (.inl v8, M9)) else fX10_set_b26 M := rfl
      have ry : fX11_set 1 y N = (fX11_in y (0 : Int32) (1 : Int32)).bind fun v11 => if v11 = 0 then (fX11_set_b31 1 y N) else fX11_set_b32 1 y (1 : Int32) N := rfl
      rcases x_in y 0 1 (by omega) (by omega) with ⟨b, -, b2, rfl, e⟩ | ⟨o, e⟩
      · have r3 : N1.1 1 4 = nI (sJo S) := R1.1.1.2.2.2.2
        obtain ⟨N5, g5, z5, r5⟩ := rel_both (M2 := gI M1 1 13 (nI b)) (N2 := gI N1 1 4 (nI b)) (S' := sJoi S b) h1 h2 h3 h4 h5 h6 F1 G1 p1 rr (gFr_I (by unfold DcR; omega)) (gFr_I (by unfold DrR; omega)) (CS_join C1 b2) (RS_join R1 b2) (fun z => sB_le (S := sJoi S b) z (by omega)) h1.2.2.2
        refine STL_ok (M' := gI M1 1 13 (nI b)) (N' := N5) (b := nI (sJo S)) (fl_ok ?_ _) ?_ (z5.trans z1) r5
        · rw [cx, if_neg (by rw [show (0 : Int32) = nI 0 from rfl, p_lt (by omega) (by omega)]; omega), if_pos (by rw [show (1 : Int32) = nI 1 from rfl, p_le (by omega) (by omega)]; omega), m1, p_bnd, p_nm, p_bnd, p_wF, p_bnd, cs_jo C1]
        · rw [ry, show fX11_in (nI b) (0 : Int32) (1 : Int32) = some (nI 1) from e, p_bnd, if_neg (show ¬ nI 1 = 0 by decide), b32y, if_neg (by decide)]
          unfold fX11_becomes
          rw [show (4 : Int32) = nI 4 from rfl, p_rI (by omega) (by omega), p_bnd, r3, p_wI (by omega) (by omega), p_bnd, p_bnd]
          dsimp only
          rw [r_done0 (by omega) g5, p_bnd]
      · refine no ?_ ?_
        · rw [cx]
          rcases o with o | ⟨o, o2⟩
          · rw [if_pos (show y < (0 : Int32) from o)]; rfl
          · rw [if_neg (show ¬ y < (0 : Int32) from o), if_neg (show ¬ y ≤ (1 : Int32) from x_le (k := 1) (by decide) o2)]; rfl
        · rw [ry, show fX11_in y (0 : Int32) (1 : Int32) = some (nI 0) from e]; rfl
    · refine no ?_ ?_
      · unfold fX10_set
        by_cases z : x < 0
        · rw [if_pos z]; rfl
        · rw [if_neg z]
          obtain ⟨a, ha, rfl⟩ := x_of z
          rw [if_pos]
          · rfl
          · rw [show (1 : Int32) = nI 1 from rfl, p_lt (by omega) (by omega)]
            have a0 : a ≠ 0 := fun e => x0 (by rw [e]; rfl)
            have a1 : a ≠ 1 := fun e => x1 (by rw [e]; rfl)
            omega
      · unfold fX11_set
        rw [if_neg x0, if_neg x1]; rfl
/-- the whole text is a NAME -/
def aLt (B : Nat → Nat) (L : Nat) : Nat := fa_first (fun k => !tL B L k) L
theorem aLt_in {k : Nat} (h : k < aLt B L) : tL B L k = true := by
  have := fa_first_no (fun k => !tL B L k) L k h
  simpa using this
theorem aLt_out (h : aLt B L < L) : tL B L (aLt B L) = false := by
  have := fa_first_yes (fun k => !tL B L k) L h
  have this : (!tL B L (aLt B L)) = true := this
  simpa using this
theorem c_wholeName (tc : TXc M B L) : ∃ v, fX5_wholeName M = some v ∧ ((aLt B L = L ∧ 1 ≤ L ∧ L ≤ 6) → v = lN (gPk (wrd B 0 L)) ∧ sNok (wrd B 0 L)) ∧ (¬ (aLt B L = L ∧ 1 ≤ L ∧ L ≤ 6) → v = lN 0) := by
  have hL := tc.2.1
  have le : aLt B L ≤ L := fa_first_le _ _
  unfold fX5_wholeName
  rw [tc.1]
  by_cases c6 : L ≤ 6
  · rw [if_pos (by rw [show (6 : Int32) = nI 6 from rfl, p_le (by omega) (by omega)]; exact c6)]
    have st : ∀ k, k < aLt B L → fX5_wholeName_l13 M (nI k) = some (.inl (nI (k + 1))) := fun k hk => by
      unfold fX5_wholeName_l13
      rw [tc.1, if_neg (by rw [p_le (by omega) (by omega)]; omega), c_isLetterAt tc (by omega), p_bnd, aLt_in hk, if_neg (show ¬ ib true = 0 by decide), show (1 : Int32) = nI 1 from rfl, nI_add]
    by_cases c : aLt B L = L
    · have e := gLoop_f (body := fun z9 => fX5_wholeName_l13 M z9) (fun k => nI k) (r := .inl ()) (aLt B L) gFu (by show aLt B L < 4096; omega) st (by
        show fX5_wholeName_l13 M (nI (aLt B L)) = _
        unfold fX5_wholeName_l13
        rw [tc.1, if_pos (by rw [p_le (by omega) (by omega)]; omega)])
      rw [show gLoop (fun z9 => fX5_wholeName_l13 M z9) gFu (0 : Int32) = some (.inl ()) from e, p_bnd, gSE_l]
      rcases Nat.eq_zero_or_pos L with h0 | h0
      · refine ⟨lN 0, ?_, fun z => by omega, fun _ => rfl⟩
        rw [h0]
        have : fX5_packed (0 : Int32) (nI 0) M = some (lN 0) := by
          unfold fX5_packed
          rw [show nI 0 - (1 : Int32) = mO 1 from by decide, p_nm, p_bnd, show gFu = 4095 + 1 from rfl, gLoop_s]
          show ((fX5_packed_l7 (0 : Int32) M (0 : Int64) (mO 1)).bind _).bind _ = _
          unfold fX5_packed_l7
          rw [if_pos (by rw [show (0 : Int32) = nI 0 from rfl, p_mO_lt (by omega) (by omega) (by omega)]; trivial)]; rfl
        rw [this, p_bnd]
      · have hB : ∀ k, k < L → 97 ≤ B k ∧ B k ≤ 122 := fun k hk => (of_decide_eq_true (aLt_in (B := B) (L := L) (k := k) (by omega))).2
        have ep := c_packed (M := M) (B := B) (j := 0) (n := L) (fun k hk => by
          obtain ⟨w2, w3⟩ := hB k hk
          rw [Nat.zero_add, (tc.2.2 _ hk).2, sg_lo (by omega)]
          exact ⟨rfl, by omega⟩) (by omega) c6 h0
        rw [Nat.zero_add] at ep
        refine ⟨_, by rw [show fX5_packed (0 : Int32) (nI L) M = _ from ep, p_bnd], fun _ => ⟨rfl, wrd_ok (fun k hk => by rw [Nat.zero_add]; exact hB k hk) h0 c6⟩, fun z => absurd ⟨c, h0, c6⟩ z⟩
    · have o := aLt_out (B := B) (L := L) (by omega)
      have e := gLoop_f (body := fun z9 => fX5_wholeName_l13 M z9) (fun k => nI k) (r := .inr (0 : Int64)) (aLt B L) gFu (by show aLt B L < 4096; omega) st (by
        show fX5_wholeName_l13 M (nI (aLt B L)) = _
        unfold fX5_wholeName_l13
        rw [tc.1, if_neg (by rw [p_le (by omega) (by omega)]; omega), c_isLetterAt tc (by omega), p_bnd, o, if_pos (show ib false = 0 from rfl)])
      rw [show gLoop (fun z9 => fX5_wholeName_l13 M z9) gFu (0 : Int32) = some (.inr (0 : Int64)) from e, p_bnd, gSE_r]
      exact ⟨_, rfl, fun z => absurd z.1 c, fun _ => rfl⟩
  · rw [if_neg (by rw [show (6 : Int32) = nI 6 from rfl, p_le (by omega) (by omega)]; exact c6)]
    exact ⟨_, rfl, fun z => absurd z.2.2 c6, fun _ => rfl⟩
theorem r_isName (tr : TXr N B L) [Decidable (aLt B L = L ∧ 1 ≤ L ∧ L ≤ 6)] : fX11_isName N = some (ib (decide (aLt B L = L ∧ 1 ≤ L ∧ L ≤ 6))) := by
  have hL := tr.2.1
  have le : aLt B L ≤ L := fa_first_le _ _
  unfold fX11_isName
  have st : ∀ k, k < aLt B L → fX11_isName_l2 N (nI k) = some (.inl (nI (k + 1))) := fun k hk => by
    unfold fX11_isName_l2
    rw [tr.1, if_neg (by rw [p_le (by omega) (by omega)]; omega), r_isLetter tr (by omega), p_bnd, aLt_in hk, if_neg (show ¬ ib true = 0 by decide), show (1 : Int32) = nI 1 from rfl, nI_add]
  by_cases c : aLt B L = L
  · have e := gLoop_f (body := fun z9 => fX11_isName_l2 N z9) (fun k => nI k) (r := .inl ()) (aLt B L) gFu (by show aLt B L < 4096; omega) st (by
      show fX11_isName_l2 N (nI (aLt B L)) = _
      unfold fX11_isName_l2
      rw [tr.1, if_pos (by rw [p_le (by omega) (by omega)]; omega)])
    rw [show gLoop (fun z9 => fX11_isName_l2 N z9) gFu (0 : Int32) = some (.inl ()) from e, p_bnd, gSE_l, tr.1, show fX11_in (nI L) (1 : Int32) (6 : Int32) = _ from r_inn (lo := 1) (hi := 6) (by omega) (by omega) (by omega), p_bnd, p_zvib, p_bnd]
    congr 2
    exact decide_eq_decide.mpr ⟨fun z => ⟨c, z⟩, fun z => z.2⟩
  · have o := aLt_out (B := B) (L := L) (by omega)
    have e := gLoop_f (body := fun z9 => fX11_isName_l2 N z9) (fun k => nI k) (r := .inr (0 : Int32)) (aLt B L) gFu (by show aLt B L < 4096; omega) st (by
      show fX11_isName_l2 N (nI (aLt B L)) = _
      unfold fX11_isName_l2
      rw [tr.1, if_neg (by rw [p_le (by omega) (by omega)]; omega), r_isLetter tr (by omega), p_bnd, o, if_pos (show ib false = 0 from rfl)])
    rw [show gLoop (fun z9 => fX11_isName_l2 N z9) gFu (0 : Int32) = some (.inr (0 : Int32)) from e, p_bnd, gSE_r, decide_eq_false (fun z => c z.1)]; rfl
theorem st_make (h : REL c M N) (x : Int32) : STL (c + 1) (fL_make x M) (fX11_make x N) := by
  classical
  obtain ⟨S, P, h1, h2, h3, ⟨B, L, tc, tr⟩, h5, h6⟩ := id h
  have hn := h1.1.2.1.1
  have hL := tc.2.1
  rcases x_hours x with ⟨b, b1, b9, rfl, e2, e3⟩ | ⟨e2, e3⟩
  · obtain ⟨M1, N1, m1, g1, F1, G1, p1, C1, R1, rr, z1⟩ := rel_pre h1 h2 (gFr_I (x := nI 0) ⟨rfl, rfl⟩)
    have z1 : N1.1 0 0 = nI 0 := z1.trans (p_gI_s _ _ _ _)
    have tr1 : TXr N1 B L := TXr_fr tr G1 (fun c k z w => by omega)
    obtain ⟨v, w0, w1, w2⟩ := c_wholeName tc
    have ry : fX11_make (nI b) N = (fX11_makes (nI b) N1).bind fun v6 => (fX11_done v6.1 v6.2).bind fun v7 => some (v7.1, v7.2) := by
      unfold fX11_make
      rw [e2, p_bnd, if_neg (show ¬ nI 1 = 0 by decide), show (0 : Int32) = nI 0 from rfl, r_wr0, p_bnd]
      dsimp only
      rw [if_pos rfl, g1, p_bnd]
    have cx : fX10_make (nI b) M = if (lg_cmp v (0 : Int64)) = 0 then (some (.inl (-8 : Int32), M)) else if nI (sN S) < (24 : Int32) then ((fX2_taskNamed 1 v M).bind fun v7 => if v7 = (-1 : Int32) then ((fX10_remember M).bind fun v9 => (wF v9 32 1 (0 : Int32)).bind fun M10 => (fX2_addTask 1 v (nI b) M10).bind fun v11 => some (.inl ((v11.1 1 9) - (1 : Int32)), v11)) else some (.inl (-7 : Int32), M)) else some (.inl (-6 : Int32), M) := by
      unfold fX10_make
      rw [e3, p_bnd, gSE_l, w0, p_bnd, cs_n h1.1]
    have no : ∀ z, 0 < z → z < 100 → fX10_make (nI b) M = some (.inl (mO z), M) → fX11_makes (nI b) N1 = some (mO z, N1) → STL (c + 1) (fL_make (nI b) M) (fX11_make (nI b) N) := fun z h0 h9 a1 a2 => by
      refine STL_ok (M' := M) (N' := N1) (b := mO z) (fl_ok a1 _) ?_ z1 (REL_mono (c := c) (REL_sc h gFr_rf (gFr_mo G1 (fun c k z => by unfold srD; omega))) (by omega))
      rw [ry, a2, p_bnd]
      dsimp only
      rw [r_done1 h0 (by omega), p_bnd]
    by_cases q : aLt B L = L ∧ 1 ≤ L ∧ L ≤ 6
    · obtain ⟨rfl, ok⟩ := w1 q
      have nz : ¬ lg_cmp (lN (gPk (wrd B 0 L))) (0 : Int64) = 0 := by
        show ¬ lg_cmp (lN (gPk (wrd B 0 L))) (lN 0) = nI 0
        rw [cmp_0 (sNok_48 ok) (by decide)]; have := sNok_0 ok; omega
      rw [if_neg nz] at cx
      have mk : fX11_makes (nI b) N1 = if nI (sN S) = (24 : Int32) then (some ((-6 : Int32), N1)) else (fX11_named (0 : Int32) (nI L) N1).bind fun v5 => if v5 = (-1 : Int32) then ((fX11_joins (0 : Int32) (nI L) (nI b) N1).bind fun v7 => (wF v7.2 0 21 (0 : Int32)).bind fun M8 => some (v7.1, M8)) else some ((-7 : Int32), N1) := by
        unfold fX11_makes
        rw [r_isName tr1, p_bnd, decide_eq_true q, if_neg (show ¬ ib true = 0 by decide), show rI N1 1 374 (0 : Int32) = some (nI (sN S)) by rw [show (0 : Int32) = nI 0 from rfl, p_rI (by omega) (by omega), R1.1.1.1], p_bnd, tr1.1]
      by_cases c24 : sN S < 24
      · have hB : ∀ k, k < L → N1.1 12 (0 + k) = nI (B (0 + k)) ∧ B (0 + k) < 256 := fun k hk => by rw [Nat.zero_add]; exact ⟨(tr1.2.2 k hk).2, (tr1.2.2 k hk).1⟩
        rw [if_pos (by rw [show (24 : Int32) = nI 24 from rfl, p_lt (by omega) (by omega)]; exact c24), cs_taskNamed h1.1 ok, p_bnd] at cx
        rw [if_neg (by rw [show (24 : Int32) = nI 24 from rfl, p_eq (by omega) (by omega)]; omega), show fX11_named (0 : Int32) (nI L) N1 = _ from rs_named (j := 0) R1 hB (by omega) q.2.2, p_bnd] at mk
        by_cases d : nmF S (wrd B 0 L) < sN S
        · have ne : ¬ nI (nmF S (wrd B 0 L)) = (-1 : Int32) := by rw [show (-1 : Int32) = mO 1 from rfl, p_eq_mO (by omega) (by omega) (by omega)]; exact id
          have eg : gNo (nmF S (wrd B 0 L)) (sN S) = nI (nmF S (wrd B 0 L)) := if_pos d
          rw [eg, if_neg ne] at cx mk
          exact no 7 (by omega) (by omega) cx mk
        · have eg : gNo (nmF S (wrd B 0 L)) (sN S) = (-1 : Int32) := if_neg d
          rw [eg, if_pos rfl] at cx mk
          have C2 : CS (gI M1 32 1 (nI 0)) 1 S := CS_fr C1 (gFr_I (D := fun c _ => c = 32) rfl) (fun j k hj z => by omega)
          obtain ⟨M4, e4, F4, C4⟩ := cs_addTask C2 c24 ok d b1 b9
          obtain ⟨N4, g4, G4, R4⟩ := rs_joins (j := 0) (n := L) R1 c24 ok d b1 b9 (by omega) (fun k hk => (hB k hk).1)
          have F : gFr (fun c k => DcR c ∨ Drb c k ∨ (c = 32 ∧ k = 1)) M M4 := gFr_tr (gFr_mo F1 (fun c k z => Or.inr (Or.inl z))) (gFr_tr (gFr_I (Or.inr (Or.inr ⟨rfl, rfl⟩))) (gFr_mo F4 (fun c k z => by unfold Dnw at z; unfold DcR; omega)))
          have FB : gFr (fun c k => (1 ≤ c ∧ c ≤ 10) ∨ (c = 32 ∧ k = 1)) M1 M4 := gFr_tr (gFr_I (Or.inr ⟨rfl, rfl⟩)) (gFr_mo F4 (fun c k z => by unfold Dnw at z; omega))
          have GB : gFr (fun c k => c = 1 ∨ (c = 0 ∧ k = 21)) N1 (gI N4 0 21 (nI 0)) := gFr_trI (gFr_mo G4 (fun c k z => Or.inl z)) (Or.inr ⟨rfl, rfl⟩)
          have GA : gFr (fun c k => DrR c k ∨ c = 2 ∨ (c = 0 ∧ (k = 0 ∨ k = 21))) N (gI N4 0 21 (nI 0)) := gFr_tr (gFr_mo G1 (fun c k z => by omega)) (gFr_mo GB (fun c k z => by unfold DrR; omega))
          obtain ⟨N5, g5, z5, r5⟩ := rel_ch (M2 := M4) (N2 := gI N4 0 21 (nI 0)) (S' := sNew S (wrd B 0 L) b) h1 h2 h3 h5 h6 F (PC_of p1 (FB 0 5 (by omega)).1 (fun d k z => FB d k (by omega))) C4 GA (by rw [gFr_c1 GB fun k z => by omega]; exact rr) (RS_of R4 (p_gI_o (by decide))) (fun z => sB_le (S := sNew S (wrd B 0 L) b) z (by omega)) (by rw [sNew_n]; omega) ⟨B, 0, ⟨by rw [(F4 32 1 (by unfold Dnw; omega)).1, p_gI_s], by omega, fun i hi => absurd hi (Nat.not_lt_zero i)⟩, ⟨p_gI_s _ _ _ _, by omega, fun i hi => absurd hi (Nat.not_lt_zero i)⟩⟩
          refine STL_ok (M' := M4) (N' := N5) (b := nI (sN S)) (fl_ok ?_ _) ?_ ?_ r5
          · rw [cx, m1, p_bnd, show (0 : Int32) = nI 0 from rfl, p_wF, p_bnd, e4, p_bnd, cs_n C4, sNew_n, show (1 : Int32) = nI 1 from rfl, p_sub (by omega)]; rfl
          · rw [ry, mk, show fX11_joins (0 : Int32) (nI L) (nI b) N1 = _ from g4, p_bnd]
            dsimp only
            rw [show (0 : Int32) = nI 0 from rfl, p_wF, p_bnd, p_bnd]
            dsimp only
            rw [r_done0 (by omega) g5, p_bnd]
          · rw [z5, p_gI_n (Or.inr (by decide)), (G4 0 0 (by omega)).1]; exact z1
      · rw [if_neg (by rw [show (24 : Int32) = nI 24 from rfl, p_lt (by omega) (by omega)]; exact c24)] at cx
        rw [if_pos (by rw [show sN S = 24 by omega]; rfl)] at mk
        exact no 6 (by omega) (by omega) cx mk
    · have hv := w2 q
      rw [hv, if_pos (show lg_cmp (lN 0) (0 : Int64) = 0 from by decide)] at cx
      refine no 8 (by omega) (by omega) cx ?_
      unfold fX11_makes
      rw [r_isName tr1, p_bnd, decide_eq_false q, if_pos (show ib false = 0 from rfl)]; rfl
  · refine STL_no (k := 1) (M' := M) (N' := gI N 0 0 (nI 1)) (b := nI 0) ?_ ?_ (by omega) (by omega) (p_gI_s _ _ _ _) (REL_mono (c := c) (REL_sc h gFr_rf (gFr_I (by unfold srD; omega))) (by omega))
    · unfold fL_make fX10_make
      rw [e3]; rfl
    · unfold fX11_make
      rw [e2]; rfl
end AC2
