/-! STEPS that change: refresh, add, cut, swap, setHours, set -/
section AC
variable {M N M' N' M1 N1 M2 N2 : gMem} {c k : Nat} {S S' : gS} {P : List gS} {x : Int32}
theorem x_chk (x : Int32) (k : Nat) (hk : k < 2147483647) : (∃ a, a < k ∧ x = nI a ∧ fX11_in x (0 : Int32) (nI k - (1 : Int32)) = some (nI 1) ∧ ¬ x < (0 : Int32) ∧ x < nI k) ∨ (fX11_in x (0 : Int32) (nI k - (1 : Int32)) = some (nI 0) ∧ (x < (0 : Int32) ∨ (¬ x < (0 : Int32) ∧ ¬ x < nI k))) := by
  rcases Nat.eq_zero_or_pos k with rfl | h0
  · right
    by_cases c : x < (0 : Int32)
    · refine ⟨?_, Or.inl c⟩
      unfold fX11_in
      rw [if_pos c]; rfl
    · refine ⟨?_, Or.inr ⟨c, c⟩⟩
      obtain ⟨a, ha, rfl⟩ := x_of c
      unfold fX11_in
      rw [if_neg c, show nI 0 - (1 : Int32) = mO 1 from by decide, if_pos (by rw [p_mO_lt (by omega) (by omega) (by omega)]; trivial)]; rfl
  · have e : nI k - (1 : Int32) = nI (k - 1) := p_sub (b := 1) h0
    rw [e]
    rcases x_in x 0 (k - 1) (by omega) (by omega) with ⟨a, -, a2, rfl, a3⟩ | ⟨a1, a2⟩
    · left
      exact ⟨a, by omega, rfl, a3, by rw [show (0 : Int32) = nI 0 from rfl, p_lt (by omega) (by omega)]; omega, by rw [p_lt (by omega) (by omega)]; omega⟩
    · right
      refine ⟨a2, a1.imp id (fun ⟨b1, b2⟩ => ⟨b1, ?_⟩)⟩
      have := x_lt (by omega) b2
      rw [show k - 1 + 1 = k by omega] at this
      exact this
theorem x_task (hc : CS M 1 S) (hr : RS N S) (x : Int32) : (∃ a, a < sN S ∧ x = nI a ∧ fX11_noTask x N = some (nI 0, gI N 0 0 (nI 0)) ∧ fX10_checkTask x M = some (.inl ())) ∨ (fX11_noTask x N = some (nI 1, gI N 0 0 (nI 1)) ∧ fX10_checkTask x M = some (.inr 2)) := by
  have hn := hc.2.1.1
  unfold fX11_noTask fX10_checkTask
  rw [show rI N 1 374 (0 : Int32) = some (nI (sN S)) by rw [show (0 : Int32) = nI 0 from rfl, p_rI (by omega) (by omega), hr.1.1.1], p_bnd, cs_n hc]
  rcases x_chk x (sN S) (by omega) with ⟨a, a1, a2, a3, a4, a5⟩ | ⟨a1, a2⟩
  · left
    exact ⟨a, a1, a2, by rw [a3]; rfl, by rw [if_neg a4, if_pos a5]⟩
  · right
    refine ⟨by rw [a1]; rfl, ?_⟩
    rcases a2 with b | ⟨b, b2⟩
    · rw [if_pos b]; rfl
    · rw [if_neg b, if_neg b2]; rfl
theorem x_tasks (hc : CS M 1 S) (hr : RS N S) (x y : Int32) : (∃ a b, a < sN S ∧ b < sN S ∧ x = nI a ∧ y = nI b ∧ fX11_noTasks x y N = some (nI 0, gI (gI N 0 0 (nI 0)) 0 0 (nI 0)) ∧ fX10_checkTask x M = some (.inl ()) ∧ fX10_checkTask y M = some (.inl ())) ∨ (∃ N', fX11_noTasks x y N = some (nI 1, N') ∧ N'.1 0 0 = nI 1 ∧ gFr (fun c k => c = 0 ∧ k = 0) N N' ∧ (fX10_checkTask x M = some (.inr 2) ∨ (fX10_checkTask x M = some (.inl ()) ∧ fX10_checkTask y M = some (.inr 2)))) := by
  unfold fX11_noTasks
  rcases x_task hc hr x with ⟨a, a1, a2, a3, a4⟩ | ⟨a1, a2⟩
  · have hr2 : RS (gI N 0 0 (nI 0)) S := RS_of hr (p_gI_o (by decide))
    rw [a3, p_bnd]
    dsimp only
    rw [if_pos (show nI 0 = 0 from rfl)]
    rcases x_task hc hr2 y with ⟨b, b1, b2, b3, b4⟩ | ⟨b1, b2⟩
    · left
      exact ⟨a, b, a1, b1, a2, b2, by rw [b3, p_bnd]; rfl, a4, b4⟩
    · right
      refine ⟨_, by rw [b1, p_bnd]; rfl, p_gI_s _ _ _ _, gFr_trI (gFr_I ⟨rfl, rfl⟩) ⟨rfl, rfl⟩, Or.inr ⟨a4, b2⟩⟩
  · right
    exact ⟨_, by rw [a1, p_bnd]; rfl, p_gI_s _ _ _ _, gFr_I ⟨rfl, rfl⟩, Or.inl a2⟩
/-- a change is kept -/
theorem rel_ch (h1 : rNow c S M N) (h2 : rPast c P M N) (h3 : rKept c M N) (h5 : rErr M N) (h6 : rOut M N) (F : gFr (fun c k => DcR c ∨ Drb c k ∨ (c = 32 ∧ k = 1)) M M2) (pc : PC M2 (pPs P S)) (C2 : CS M2 1 S') (G : gFr (fun c k => DrR c k ∨ c = 2 ∨ (c = 0 ∧ (k = 0 ∨ k = 21))) N N2) (rr : RR (N2.1 2) S) (R2 : RS N2 S') (hb : sB S (4000 * c) → sB S' (4000 * (c + 1))) (hn : 1 ≤ sN S') (ht : rText M2 N2) : ∃ N3, fX11_keeps N2 = some N3 ∧ N3.1 0 0 = N2.1 0 0 ∧ REL (c + 1) M2 N3 := by
  have pr2 : PR N2 P := PR_of h2.2.1 (G 0 6 (by unfold DrR; omega)).1 (gFr_c1 G fun k z => by unfold DrR at z; omega)
  obtain ⟨N3, g3, G3, p3⟩ := r_keeps pr2 rr h1.1.2
  have GA : gFr (fun c k => DrR c k ∨ c = 2 ∨ c = 5 ∨ (c = 0 ∧ (k = 0 ∨ k = 21 ∨ k = 6))) N N3 := gFr_tr (gFr_mo G (fun c k z => by unfold DrR at z ⊢; omega)) (gFr_mo G3 (fun c k z => by unfold DrR; omega))
  refine ⟨N3, g3, (G3 0 0 (by omega)).1, S', pPs P S, ⟨C2, RS_of R2 (gFr_c1 G3 fun k z => by omega), hb h1.2.2.1, hn⟩, ⟨pc, p3, fun T hT => ?_⟩, ?_, rText_fr ht gFr_rf G3 (fun c k a => id) (fun c k a z => by omega), rErr_fr h5 F GA (fun k a b z => by unfold DcR Drb at z; omega) (fun k a b z => by unfold DrR at z; omega), rOut_fr h6 F GA (fun c k a z => by unfold DcR Drb at z; omega) (fun c k a z => by unfold DrR at z; omega)⟩
  · rcases mem_pPs hT with z | rfl
    · obtain ⟨q1, q2⟩ := h2.2.2 T z
      exact ⟨sB_le q1 (by omega), q2⟩
    · exact ⟨sB_le h1.2.2.1 (by omega), h1.2.2.2⟩
  · rcases rKept_fr h3 F GA (fun c k a z => by unfold DcR Drb at z; omega) (fun c k a z => by unfold DrR at z; omega) with h | ⟨K, q1, q2, q3, q4, q5, q6⟩
    · exact Or.inl h
    · exact Or.inr ⟨K, q1, q2, q3, q4, sB_le q5 (by omega), q6⟩
/-- both sides before a change -/
theorem rel_pre (h1 : rNow c S M N) (h2 : rPast c P M N) (G : gFr (fun c k => c = 0 ∧ k = 0) N N') : ∃ M1 N1, fX10_remember M = some M1 ∧ fX11_goesAside N' = some N1 ∧ gFr Drb M M1 ∧ gFr (fun c k => c = 2 ∨ (c = 0 ∧ k = 0)) N N1 ∧ PC M1 (pPs P S) ∧ CS M1 1 S ∧ RS N1 S ∧ RR (N1.1 2) S ∧ N1.1 0 0 = N'.1 0 0 := by
  obtain ⟨M1, e1, F1, p1⟩ := c_remember h2.1 h1.1
  obtain ⟨N1, g1, G1, I1⟩ := r_goesAside N'
  have GA : gFr (fun c k => c = 2 ∨ (c = 0 ∧ k = 0)) N N1 := gFr_tr (gFr_mo G (fun c k z => Or.inr z)) (gFr_mo G1 (fun c k z => Or.inl z))
  exact ⟨M1, N1, e1, g1, F1, GA, p1, CS_fr h1.1 F1 (fun j k hj z => by unfold Drb at z; omega), RS_of h1.2.1 (gFr_c1 GA fun k z => by omega), RR_ew h1.2.1.1 h1.2.1.2 (fun k hk => by rw [I1 k hk, (G 1 k (by omega)).1]), (G1 0 0 (by omega)).1⟩
theorem ht_fr (h4 : rText M N) (F : gFr (fun c k => DcR c ∨ Drb c k) M M2) (G : gFr (fun c k => DrR c k ∨ c = 2 ∨ (c = 0 ∧ k = 0)) N N2) : rText M2 N2 := rText_fr h4 F G (fun c k a z => by unfold DcR Drb at z; omega) (fun c k a z => by unfold DrR at z; omega)
/-- a change through both -/
theorem rel_both (h1 : rNow c S M N) (h2 : rPast c P M N) (h3 : rKept c M N) (h4 : rText M N) (h5 : rErr M N) (h6 : rOut M N) (F1 : gFr Drb M M1) (G1 : gFr (fun c k => c = 2 ∨ (c = 0 ∧ k = 0)) N N1) (p1 : PC M1 (pPs P S)) (rr : RR (N1.1 2) S) (F2 : gFr (fun c _ => DcR c) M1 M2) (G2 : gFr DrR N1 N2) (C2 : CS M2 1 S') (R2 : RS N2 S') (hb : sB S (4000 * c) → sB S' (4000 * (c + 1))) (hn : 1 ≤ sN S') : ∃ N3, fX11_keeps N2 = some N3 ∧ N3.1 0 0 = N1.1 0 0 ∧ REL (c + 1) M2 N3 := by
  have F : gFr (fun c k => DcR c ∨ Drb c k) M M2 := gFr_tr (gFr_mo F1 (fun c k z => Or.inr z)) (gFr_mo F2 (fun c k z => Or.inl z))
  have G : gFr (fun c k => DrR c k ∨ c = 2 ∨ (c = 0 ∧ k = 0)) N N2 := gFr_tr (gFr_mo G1 (fun c k z => Or.inr z)) (gFr_mo G2 (fun c k z => Or.inl z))
  obtain ⟨N3, g3, e3, r3⟩ := rel_ch (M2 := M2) (N2 := N2) h1 h2 h3 h5 h6 (gFr_mo F (fun c k z => by unfold DcR Drb at z ⊢; omega)) (PC_of p1 (F2 0 5 (by unfold DcR; omega)).1 (fun d k z => F2 d k (by unfold DcR; omega))) C2 (gFr_mo G (fun c k z => by unfold DrR at z ⊢; omega)) (by rw [gFr_c1 G2 fun k z => by unfold DrR at z; omega]; exact rr) R2 hb hn (ht_fr h4 F G)
  exact ⟨N3, g3, e3.trans (G2 0 0 (by unfold DrR; omega)).1, r3⟩
theorem r_done0 {v : Nat} (hv : v < 2147483648) (h : fX11_keeps N = some N') : fX11_done (nI v) N = some (nI v, N') := by
  unfold fX11_done
  rw [if_neg (by rw [show (0 : Int32) = nI 0 from rfl, p_lt (by omega) (by omega)]; omega), h]; rfl
theorem r_done1 {v : Nat} (h0 : 0 < v) (hv : v < 2147483648) : fX11_done (mO v) N = some (mO v, N) := by
  unfold fX11_done
  rw [if_pos (by rw [show (0 : Int32) = nI 0 from rfl, p_mO_lt (by omega) (by omega) (by omega)]; trivial)]
theorem st_refresh (h : REL c M N) : SD (c + 1) (fX10_refresh M) (fX11_refresh N) := by
  obtain ⟨S, P, h1, h2, h3, h4, h5, h6⟩ := id h
  obtain ⟨M1, N1, e1, g1, F1, G1, p1, C1, R1, rr, z1⟩ := rel_pre h1 h2 (gFr_I (x := nI 0) ⟨rfl, rfl⟩)
  obtain ⟨M2, e2, F2, C2⟩ := cs_renew C1 (by decide)
  obtain ⟨N2, g2, G2, R2⟩ := rs_refreshes R1
  obtain ⟨N3, g3, -, r3⟩ := rel_both h1 h2 h3 h4 h5 h6 F1 G1 p1 rr (gFr_mo F2 (fun c k z => by unfold Dcf at z; unfold DcR; omega)) (gFr_mo G2 (fun c k z => by unfold Dcu at z; unfold DrR; omega)) C2 R2 (fun z => sB_le (S := sRef S) z (by omega)) h1.2.2.2
  have := fb_ct_le (fun p => !decide ((fO S).getD p 0 = sHd S p)) (sG S)
  have hg := (sW_24 h1.1.2).2.2
  refine ⟨nI (fMv S), M2, N3, ?_, ?_, r3⟩
  · unfold fX10_refresh
    rw [e1, p_bnd, e2, p_bnd]
  · unfold fX11_refresh
    rw [show (0 : Int32) = nI 0 from rfl, p_wF, p_bnd, g1, p_bnd, g2, p_bnd, r_done0 (by unfold fMv; omega) g3, p_bnd]
theorem st_add (h : REL c M N) (x y : Int32) : STL (c + 1) (fL_add x y M) (fX11_add x y N) := by
  obtain ⟨S, P, h1, h2, h3, h4, h5, h6⟩ := id h
  rcases x_tasks h1.1 h1.2.1 x y with ⟨a, b, ha, hb, rfl, rfl, e0, e1, e2⟩ | ⟨N', e0, n0, G0, e1⟩
  · have G0 : gFr (fun c k => c = 0 ∧ k = 0) N (gI (gI N 0 0 (nI 0)) 0 0 (nI 0)) := gFr_trI (gFr_I ⟨rfl, rfl⟩) ⟨rfl, rfl⟩
    obtain ⟨M1, N1, m1, g1, F1, G1, p1, C1, R1, rr, z1⟩ := rel_pre h1 h2 G0
    have z1 : N1.1 0 0 = nI 0 := z1.trans (p_gI_s _ _ _ _)
    obtain ⟨n1, n2⟩ := rs_comes R1 (a := a) (b := b) ha hb
    have cr := cs_refusal h1.1 ha hb
    have zle := sRz_le (S := S) (a := a) (b := b)
    have ry : fX11_add (nI a) (nI b) N = (fX11_comes (nI a) (nI b) N1).bind fun v4 => (fX11_done v4.1 v4.2).bind fun v5 => some (v5.1, v5.2) := by
      unfold fX11_add
      rw [e0, p_bnd]
      dsimp only
      rw [if_pos (show nI 0 = 0 from rfl), g1, p_bnd]
    by_cases rz : sRz S a b = 0
    · obtain ⟨o1, o2, o3, o4⟩ := sRz_0 rz
      have hm := h1.1.2.1.2.1
      obtain ⟨M4, e4, F4, C4⟩ := cs_bring C1 (by decide) ha hb o1 o2 (by omega)
      obtain ⟨N4, g4, G4, R4⟩ := n2 rz
      have mvl : (if sPl S b < sPl S a then pMv S a b (sMo S) else 0) ≤ 24 := by
        split
        · exact pMv_le h1.1.2 ha hb
        · omega
      obtain ⟨N5, g5, z5, r5⟩ := rel_both h1 h2 h3 h4 h5 h6 F1 G1 p1 rr (gFr_mo F4 (fun c k z => by unfold DcR; omega)) (gFr_mo G4 (fun c k z => by unfold Dco at z; unfold DrR; omega)) C4 R4 (fun z => sB_le (sAdd_B h1.1.2 ha hb (by omega) z) (by omega)) (by rw [sAdd_n]; exact h1.2.2.2)
      refine STL_ok (M' := M4) (N' := N5) (b := nI (if sPl S b < sPl S a then pMv S a b (sMo S) else 0)) (fl_ok ?_ _) ?_ (z5.trans z1) r5
      · unfold fX10_add
        rw [e1, p_bnd, gSE_l, e2, p_bnd, gSE_l, cr, p_bnd, rz, if_pos (show nI 0 = 0 from rfl), m1, p_bnd, e4, p_bnd]
      · rw [ry, g4, p_bnd]
        dsimp only
        rw [r_done0 (by omega) g5, p_bnd]
    · obtain ⟨N4, g4, G4⟩ := n1 rz
      refine STL_ok (M' := M) (N' := N4) (b := mO (sRz S a b)) (fl_ok ?_ _) ?_ ?_ (REL_mono (c := c) (REL_sc h gFr_rf (gFr_tr (gFr_mo G1 (fun c k z => by unfold srD; omega)) (gFr_mo G4 (fun c k z => by unfold Dpt at z; unfold srD; omega)))) (by omega))
      · unfold fX10_add
        rw [e1, p_bnd, gSE_l, e2, p_bnd, gSE_l, cr, p_bnd, if_neg (show ¬ nI (sRz S a b) = 0 by rw [show (0 : Int32) = nI 0 from rfl, p_eq (by omega) (by omega)]; exact rz)]; rfl
      · rw [ry, g4, p_bnd]
        dsimp only
        rw [r_done1 (by omega) (by omega), p_bnd]
      · rw [(G4 0 0 (by unfold Dpt; omega)).1]; exact z1
  · refine STL_no (k := 1) (M' := M) (N' := N') (b := nI 0) ?_ ?_ (by omega) (by omega) n0 (REL_mono (c := c) (REL_sc h gFr_rf (gFr_mo G0 (fun c k z => by unfold srD; omega))) (by omega))
    · unfold fL_add fX10_add
      rcases e1 with e1 | ⟨e1, e2⟩
      · rw [e1]; rfl
      · rw [e1, p_bnd, gSE_l, e2]; rfl
    · unfold fX11_add
      rw [e0]; rfl
theorem x_arrow (hc : CS M 1 S) (hr : RS N S) (x : Int32) : (∃ a, a < sM S ∧ x = nI a ∧ fX11_noArrow x N = some (nI 0, gI N 0 0 (nI 0)) ∧ fX10_checkArrow x M = some (.inl ())) ∨ (fX11_noArrow x N = some (nI 1, gI N 0 0 (nI 1)) ∧ fX10_checkArrow x M = some (.inr 2)) := by
  have hn := hc.2.1.2.1
  unfold fX11_noArrow fX10_checkArrow
  rw [show rI N 1 374 (1 : Int32) = some (nI (sM S)) by rw [show (1 : Int32) = nI 1 from rfl, p_rI (by omega) (by omega), hr.1.1.2.1], p_bnd, cs_m hc]
  rcases x_chk x (sM S) (by omega) with ⟨a, a1, a2, a3, a4, a5⟩ | ⟨a1, a2⟩
  · left
    exact ⟨a, a1, a2, by rw [a3]; rfl, by rw [if_neg a4, if_pos a5]⟩
  · right
    refine ⟨by rw [a1]; rfl, ?_⟩
    rcases a2 with b | ⟨b, b2⟩
    · rw [if_pos b]; rfl
    · rw [if_neg b, if_neg b2]; rfl
theorem st_cut (h : REL c M N) (x : Int32) : STL (c + 1) (fL_cut x M) (fX11_cut x N) := by
  obtain ⟨S, P, h1, h2, h3, h4, h5, h6⟩ := id h
  rcases x_arrow h1.1 h1.2.1 x with ⟨a, ha, rfl, e0, e1⟩ | ⟨e0, e1⟩
  · obtain ⟨M1, N1, m1, g1, F1, G1, p1, C1, R1, rr, z1⟩ := rel_pre h1 h2 (gFr_I (x := nI 0) ⟨rfl, rfl⟩)
    obtain ⟨M4, e4, F4, C4⟩ := cs_cutOff C1 (by decide) ha
    obtain ⟨N4, g4, G4, R4⟩ := rs_cuts R1 ha
    have hx := xN_le S a
    have hn := h1.1.2.1.1
    obtain ⟨N5, g5, z5, r5⟩ := rel_both h1 h2 h3 h4 h5 h6 F1 G1 p1 rr (gFr_mo F4 (fun c k z => by unfold Dcf at z; unfold DcR; omega)) (gFr_mo G4 (fun c k z => by unfold Dcu at z; unfold DrR; omega)) C4 R4 (fun z => sB_le (sCut_B h1.1.2 z) (by omega)) (by rw [sCut_n]; exact h1.2.2.2)
    refine STL_ok (M' := M4) (N' := N5) (b := nI (xN S a)) (fl_ok ?_ _) ?_ (z5.trans (z1.trans (p_gI_s _ _ _ _))) r5
    · unfold fX10_cut
      rw [e1, p_bnd, gSE_l, m1, p_bnd, e4, p_bnd]
    · unfold fX11_cut
      rw [e0, p_bnd]
      dsimp only
      rw [if_pos (show nI 0 = 0 from rfl), g1, p_bnd, g4, p_bnd]
      dsimp only
      rw [r_done0 (by omega) g5, p_bnd]
  · refine STL_no (k := 1) (M' := M) (N' := gI N 0 0 (nI 1)) (b := nI 0) ?_ ?_ (by omega) (by omega) (p_gI_s _ _ _ _) (REL_mono (c := c) (REL_sc h gFr_rf (gFr_I (by unfold srD; omega))) (by omega))
    · unfold fL_cut fX10_cut
      rw [e1]; rfl
    · unfold fX11_cut
      rw [e0]; rfl
end AC
