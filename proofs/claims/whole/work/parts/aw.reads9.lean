/-! STEPS that only ask: trial -/
section RE9
variable {M N M' N' : gMem} {c k a b : Nat} {S : gS} {P : List gS} {x y : Int32}
noncomputable def tl9 (S : gS) (a b k : Nat) : Int32 :=
  if sPl S b < sPl S a then (if k = 0 then nI (sPl S a) - nI (sPl S b) + nI 1 else if k = 1 then nI (fb_ct (bt (wBh S a b)) 32) else if k = 2 then nI (fb_ct (bt (wAh S a b)) 32) else if k = 3 then nI (fb_ct (bt (wBh S a b &&& wAh S a b)) 32) else if k = 4 then nI (sLk S a b) else if sRz S a b = 4 then nI 0 else nI (mvM S a b (sMo S))) else nI 0
theorem c_trial (h : CS M 1 S) (ha : a < sN S) (hb : b < sN S) (hk : k ≤ 5) : ∃ r, fX10_trial_b54 (nI a) (nI b) (nI k) (nI (sRz S a b)) M = some (.inl (tl9 S a b k), r) ∧ gFr scD M r := by
  have hm := h.2.1.2.2.2.1
  have zle := sRz_le (S := S) (a := a) (b := b)
  have hgb := h.2.p hb
  have hg := (sW_24 h.2).2.2
  obtain ⟨r, e, F, rp, l6⟩ := cs_srv h (by decide) ha hb
  have h2 : CS r 1 S := CS_fr h F (fun j k hj z => by omega)
  have F' : gFr scD M r := gFr_mo F (fun c k z => by unfold scD; omega)
  have cm : r.1 1 12 = nI (sMo S) := cs_mo h2
  obtain ⟨r2, e2, F2⟩ := cs_arr h2 (by decide) ha hb hm rp
  have F2' : gFr scD M r2 := gFr_tr F' (gFr_mo F2 (fun c k z => by unfold Drow at z; unfold scD; omega))
  have z0 : fb_ct (bt (nI 0)) 32 = 0 := fb_ct_zero.mpr fun k _ => p_bt0 k
  unfold fX10_trial_b54
  rw [e, p_bnd]
  by_cases lt : sPl S b < sPl S a
  · rw [if_pos lt] at rp l6
    obtain ⟨q1, q2, q3, q4, q5⟩ := rp
    have tv : tl9 S a b k = if k = 0 then nI (sPl S a) - nI (sPl S b) + nI 1 else if k = 1 then nI (fb_ct (bt (wBh S a b)) 32) else if k = 2 then nI (fb_ct (bt (wAh S a b)) 32) else if k = 3 then nI (fb_ct (bt (wBh S a b &&& wAh S a b)) 32) else if k = 4 then nI (sLk S a b) else if sRz S a b = 4 then nI 0 else nI (mvM S a b (sMo S)) := if_pos lt
    rw [tv]
    rcases (show k = 0 ∨ k = 1 ∨ k = 2 ∨ k = 3 ∨ k = 4 ∨ k = 5 by omega) with rfl | rfl | rfl | rfl | rfl | rfl
    · refine ⟨r, ?_, F'⟩
      unfold fX6_affected
      rw [if_pos (show nI 0 = (0 : Int32) from rfl), p_bnd, q1, q2]; rfl
    · refine ⟨r, ?_, F'⟩
      rw [if_neg (by decide), if_pos (show nI 1 = (1 : Int32) from rfl), q3, p_bitCount, p_bnd]; rfl
    · refine ⟨r, ?_, F'⟩
      rw [if_neg (by decide), if_neg (by decide), if_pos (show nI 2 = (2 : Int32) from rfl), q4, p_bitCount, p_bnd]; rfl
    · refine ⟨r, ?_, F'⟩
      rw [if_neg (by decide), if_neg (by decide), if_neg (by decide), if_pos (show nI 3 = (3 : Int32) from rfl), q3, q4, p_bitCount, p_bnd]; rfl
    · refine ⟨r, ?_, F'⟩
      rw [if_neg (by decide), if_neg (by decide), if_neg (by decide), if_neg (by decide), if_pos (show nI 4 = (4 : Int32) from rfl), l6]; rfl
    · by_cases r4 : sRz S a b = 4
      · refine ⟨r, ?_, F'⟩
        rw [if_neg (by decide), if_neg (by decide), if_neg (by decide), if_neg (by decide), if_neg (by decide), if_pos (show nI (sRz S a b) = (4 : Int32) by rw [r4]; rfl)]
        rw [if_neg (by decide), if_neg (by decide), if_neg (by decide), if_neg (by decide), if_neg (by decide), if_pos r4]; rfl
      · refine ⟨r2, ?_, F2'⟩
        rw [if_neg (by decide), if_neg (by decide), if_neg (by decide), if_neg (by decide), if_neg (by decide), if_neg (show ¬ nI (sRz S a b) = (4 : Int32) by rw [show (4 : Int32) = nI 4 from rfl, p_eq (by omega) (by omega)]; exact r4), cm, e2, p_bnd]
        rw [if_neg (by decide), if_neg (by decide), if_neg (by decide), if_neg (by decide), if_neg (by decide), if_neg r4]
  · rw [if_neg lt] at rp l6
    obtain ⟨q1, q2, q3, q4, q5⟩ := rp
    have tv : tl9 S a b k = nI 0 := if_neg lt
    rw [tv]
    have af : (nI (sPl S b) - nI 1) - nI (sPl S b) + (1 : Int32) = nI 0 := by
      rcases Nat.eq_zero_or_pos (sPl S b) with z | z
      · rw [z]; decide
      · rw [p_sub z, p_subm (by omega), show sPl S b - (sPl S b - 1) = 1 by omega]; decide
    rcases (show k = 0 ∨ k = 1 ∨ k = 2 ∨ k = 3 ∨ k = 4 ∨ k = 5 by omega) with rfl | rfl | rfl | rfl | rfl | rfl
    · refine ⟨r, ?_, F'⟩
      unfold fX6_affected
      rw [if_pos (show nI 0 = (0 : Int32) from rfl), p_bnd, q1, q2, af]
    · refine ⟨r, ?_, F'⟩
      rw [if_neg (by decide), if_pos (show nI 1 = (1 : Int32) from rfl), q3, p_bitCount, p_bnd, z0]
    · refine ⟨r, ?_, F'⟩
      rw [if_neg (by decide), if_neg (by decide), if_pos (show nI 2 = (2 : Int32) from rfl), q4, p_bitCount, p_bnd, z0]
    · refine ⟨r, ?_, F'⟩
      rw [if_neg (by decide), if_neg (by decide), if_neg (by decide), if_pos (show nI 3 = (3 : Int32) from rfl), q3, q4, show nI 0 &&& nI 0 = nI 0 from by decide, p_bitCount, p_bnd, z0]
    · refine ⟨r, ?_, F'⟩
      rw [if_neg (by decide), if_neg (by decide), if_neg (by decide), if_neg (by decide), if_pos (show nI 4 = (4 : Int32) from rfl), l6]
    · by_cases r4 : sRz S a b = 4
      · refine ⟨r, ?_, F'⟩
        rw [if_neg (by decide), if_neg (by decide), if_neg (by decide), if_neg (by decide), if_neg (by decide), if_pos (show nI (sRz S a b) = (4 : Int32) by rw [r4]; rfl)]; rfl
      · refine ⟨r2, ?_, F2'⟩
        rw [if_neg (by decide), if_neg (by decide), if_neg (by decide), if_neg (by decide), if_neg (by decide), if_neg (show ¬ nI (sRz S a b) = (4 : Int32) by rw [show (4 : Int32) = nI 4 from rfl, p_eq (by omega) (by omega)]; exact r4), cm, e2, p_bnd]
        unfold mvM
        rw [if_neg lt]
theorem r_trial (h : RS N S) (ha : a < sN S) (hb : b < sN S) (hk : k ≤ 5) (hz : sRz S a b = 0 ∨ sRz S a b = 4) : ∃ r, fX11_trial_b52 (nI a) (nI b) (nI k) (nI (sRz S a b)) N = some (tl9 S a b k, r) ∧ gFr (fun c k => (srD c k ∧ ¬ (c = 0 ∧ k = 0)) ∨ c = 1) N r ∧ RS r S := by
  have hm := h.2.1.2.2.2.1
  unfold fX11_trial_b52
  rw [rs_needs h ha hb, p_bnd]
  by_cases lt : sPl S b < sPl S a
  · have tv : tl9 S a b k = if k = 0 then nI (sPl S a) - nI (sPl S b) + nI 1 else if k = 1 then nI (fb_ct (bt (wBh S a b)) 32) else if k = 2 then nI (fb_ct (bt (wAh S a b)) 32) else if k = 3 then nI (fb_ct (bt (wBh S a b &&& wAh S a b)) 32) else if k = 4 then nI (sLk S a b) else if sRz S a b = 4 then nI 0 else nI (mvM S a b (sMo S)) := if_pos lt
    obtain ⟨r, e, F, q1, q2, q3, q4, q5⟩ := rs_laysPart h ha hb
    have h2 : RS r S := RS_of h (gFr_c1 F fun k z => by omega)
    have F' : gFr (fun c k => (srD c k ∧ ¬ (c = 0 ∧ k = 0)) ∨ c = 1) N r := gFr_mo F (fun c k z => by unfold srD; omega)
    rw [decide_eq_true lt, if_neg (show ¬ ib true = 0 by decide), e, p_bnd, tv]
    rcases (show k = 0 ∨ k = 1 ∨ k = 2 ∨ k = 3 ∨ k = 4 ∨ k = 5 by omega) with rfl | rfl | rfl | rfl | rfl | rfl
    · refine ⟨r, ?_, F', h2⟩
      rw [if_pos (show nI 0 = (0 : Int32) from rfl), q1, q2]; rfl
    · refine ⟨r, ?_, F', h2⟩
      rw [if_neg (by decide), if_pos (show nI 1 = (1 : Int32) from rfl), q3, p_many, p_bnd]; rfl
    · refine ⟨r, ?_, F', h2⟩
      rw [if_neg (by decide), if_neg (by decide), if_pos (show nI 2 = (2 : Int32) from rfl), q4, p_many, p_bnd]; rfl
    · refine ⟨r, ?_, F', h2⟩
      rw [if_neg (by decide), if_neg (by decide), if_neg (by decide), if_pos (show nI 3 = (3 : Int32) from rfl), q3, q4, p_many, p_bnd]; rfl
    · refine ⟨r, ?_, F', h2⟩
      rw [if_neg (by decide), if_neg (by decide), if_neg (by decide), if_neg (by decide), if_pos (show nI 4 = (4 : Int32) from rfl), q5]; rfl
    · rcases hz with rz | rz
      · obtain ⟨r2, e2, F2, h3⟩ := rs_wouldMove h2 ha hb hm
        refine ⟨r2, ?_, gFr_tr F' (gFr_mo F2 (fun c k z => by unfold Dwm at z; unfold srD; omega)), h3⟩
        have mo : rI r 1 374 (3 : Int32) = some (nI (sMo S)) := by rw [show (3 : Int32) = nI 3 from rfl, p_rI (by omega) (by omega), h2.1.1.2.2.2.1]
        rw [if_pos rz] at e2
        rw [rz, if_neg (by decide), if_neg (by decide), if_neg (by decide), if_neg (by decide), if_neg (by decide), if_neg (by decide), mo, p_bnd, e2, p_bnd]; rfl
      · refine ⟨r, ?_, F', h2⟩
        rw [rz, if_neg (by decide), if_neg (by decide), if_neg (by decide), if_neg (by decide), if_neg (by decide), if_pos (show nI 4 = (4 : Int32) from rfl)]; rfl
  · have tv : tl9 S a b k = nI 0 := if_neg lt
    rw [decide_eq_false lt, if_pos (show ib false = 0 from rfl), tv]
    exact ⟨N, rfl, gFr_rf, h⟩
theorem st_trial (h : REL c M N) (x y z : Int32) : STL c (fL_trial x y z M) (fX11_trial x y z N) := by
  obtain ⟨S, P, h1, h2, h3, h4, h5, h6⟩ := id h
  rcases x_tasks h1.1 h1.2.1 x y with ⟨a, b, ha, hb, rfl, rfl, e0, e1, e2⟩ | ⟨N', e0, n0, G0, e1⟩
  · have hr : RS (gI (gI N 0 0 (nI 0)) 0 0 (nI 0)) S := RS_of h1.2.1 (by rw [p_gI_o (by decide), p_gI_o (by decide)])
    have cr := cs_refusal h1.1 ha hb
    have zle := sRz_le (S := S) (a := a) (b := b)
    have G0 : gFr srD N (gI (gI N 0 0 (nI 0)) 0 0 (nI 0)) := gFr_trI (G00 N _) (by unfold srD; omega)
    rcases x_in z 0 5 (by omega) (by omega) with ⟨k, -, k5, rfl, e⟩ | ⟨q, e⟩
    · obtain ⟨N1, g1, G1⟩ := rs_reason hr ha hb
      have hr1 : RS N1 S := RS_of hr (gFr_c1 G1 fun k z => by unfold Dpt at z; omega)
      have z0 : N1.1 0 0 = nI 0 := by rw [(G1 0 0 (by unfold Dpt; omega)).1, p_gI_s]
      have GN : gFr srD N N1 := gFr_tr G0 (gFr_mo G1 (fun c k z => by unfold Dpt at z; unfold srD; omega))
      have cx : fX10_trial (nI a) (nI b) (nI k) M = if nI (sRz S a b) = 0 then (fX10_trial_b54 (nI a) (nI b) (nI k) (nI (sRz S a b)) M) else if nI (sRz S a b) = (4 : Int32) then (fX10_trial_b54 (nI a) (nI b) (nI k) (nI (sRz S a b)) M) else some (.inl (0 : Int32), M) := by
        unfold fX10_trial
        rw [e1, p_bnd, gSE_l, e2, p_bnd, gSE_l, if_neg (by rw [show (0 : Int32) = nI 0 from rfl, p_lt (by omega) (by omega)]; omega), if_pos (by rw [show (5 : Int32) = nI 5 from rfl, p_le (by omega) (by omega)]; exact k5), cr, p_bnd]
      have ry : fX11_trial (nI a) (nI b) (nI k) N = if nI (sRz S a b) = 0 then (fX11_trial_b52 (nI a) (nI b) (nI k) (nI (sRz S a b)) N1) else if nI (sRz S a b) = (4 : Int32) then (fX11_trial_b52 (nI a) (nI b) (nI k) (nI (sRz S a b)) N1) else some ((0 : Int32), N1) := by
        unfold fX11_trial
        rw [e0, p_bnd]
        dsimp only
        rw [if_pos (show nI 0 = 0 from rfl), show fX11_in (nI k) (0 : Int32) (5 : Int32) = _ from e, p_bnd, if_neg (show ¬ nI 1 = 0 by decide), show fX11_throwsIf (0 : Int32) (2 : Int32) (gI (gI N 0 0 (nI 0)) 0 0 (nI 0)) = some (nI 0, gI (gI N 0 0 (nI 0)) 0 0 (nI 0)) from rfl, p_bnd]
        dsimp only
        rw [if_pos (show nI 0 = 0 from rfl), g1, p_bnd]
      have both : (sRz S a b = 0 ∨ sRz S a b = 4) → fX10_trial (nI a) (nI b) (nI k) M = fX10_trial_b54 (nI a) (nI b) (nI k) (nI (sRz S a b)) M → fX11_trial (nI a) (nI b) (nI k) N = fX11_trial_b52 (nI a) (nI b) (nI k) (nI (sRz S a b)) N1 → STL c (fL_trial (nI a) (nI b) (nI k) M) (fX11_trial (nI a) (nI b) (nI k) N) := fun hz a1 a2 => by
        obtain ⟨M2, m2, F2⟩ := c_trial h1.1 ha hb k5
        obtain ⟨N2, g2, G2, r2⟩ := r_trial hr1 ha hb k5 hz
        refine STL_ok (M' := M2) (N' := N2) (b := tl9 S a b k) (fl_ok (a1.trans m2) _) (a2.trans g2) ((G2 0 0 (by omega)).1.trans z0) (rel_r1 h1 h2 h3 h4 h5 h6 F2 (gFr_tr (gFr_mo GN (fun c k z => Or.inl z)) (gFr_mo G2 (fun c k z => z.imp And.left id))) r2)
      by_cases r0 : sRz S a b = 0
      · have e9 : nI (sRz S a b) = 0 := by rw [r0]; rfl
        exact both (Or.inl r0) (cx.trans (if_pos e9)) (ry.trans (if_pos e9))
      · have e9 : ¬ nI (sRz S a b) = 0 := by rw [show (0 : Int32) = nI 0 from rfl, p_eq (by omega) (by omega)]; exact r0
        rw [if_neg e9] at cx ry
        by_cases r4 : sRz S a b = 4
        · have e8 : nI (sRz S a b) = (4 : Int32) := by rw [r4]; rfl
          exact both (Or.inr r4) (cx.trans (if_pos e8)) (ry.trans (if_pos e8))
        · have e8 : ¬ nI (sRz S a b) = (4 : Int32) := by rw [show (4 : Int32) = nI 4 from rfl, p_eq (by omega) (by omega)]; exact r4
          rw [if_neg e8] at cx ry
          exact STL_ok (M' := M) (N' := N1) (b := (0 : Int32)) (fl_ok cx _) ry z0 (REL_sc h gFr_rf GN)
    · refine STL_sc (k := 2) (v := nI 0) (N' := gI (gI (gI N 0 0 (nI 0)) 0 0 (nI 0)) 0 0 (nI 2)) h ?_ ?_ (by omega) (by omega) (p_gI_s _ _ _ _) (gFr_trI G0 (by unfold srD; omega))
      · have cz : fX10_trial (nI a) (nI b) z M = some (.inr 1, M) := by
          unfold fX10_trial
          rw [e1, p_bnd, gSE_l, e2, p_bnd, gSE_l]
          rcases q with w | ⟨w, w2⟩
          · rw [if_pos (show z < (0 : Int32) from w)]; rfl
          · rw [if_neg (show ¬ z < (0 : Int32) from w), if_neg (show ¬ z ≤ (5 : Int32) from x_le (k := 5) (by decide) w2)]; rfl
        unfold fL_trial
        rw [cz]; rfl
      · unfold fX11_trial
        rw [e0, p_bnd]
        dsimp only
        rw [if_pos (show nI 0 = 0 from rfl), show fX11_in z (0 : Int32) (5 : Int32) = _ from e]; rfl
  · refine STL_sc (k := 1) (v := nI 0) (N' := N') h ?_ ?_ (by omega) (by omega) n0 (gFr_mo G0 (fun c k z => by unfold srD; omega))
    · unfold fL_trial fX10_trial
      rcases e1 with e1 | ⟨e1, e2⟩
      · rw [e1]; rfl
      · rw [e1, p_bnd, gSE_l, e2]; rfl
    · unfold fX11_trial
      rw [e0]; rfl
end RE9
