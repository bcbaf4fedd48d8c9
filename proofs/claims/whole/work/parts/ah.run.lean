/-! ORDERS are obeyed: both sides -/
def sHou (S : gS) (a h : Nat) : gS := (S.1, sFr S, sTo S, sPl S, upN (sHr S) a h, sAc S, sNm S)
section RUN
variable {M N : gMem} {B : Nat → Nat} {L t a b k n b0 c : Nat} {S : gS} {P : List gS}
theorem sHou_W (h : sW S) {x : Nat} (h1 : 1 ≤ x) (h9 : x ≤ 9) : sW (sHou S a x) := by
  refine ⟨h.1, h.2.1, h.2.2.1, h.2.2.2.1, fun u hu => ?_, h.2.2.2.2.2⟩
  show 1 ≤ upN (sHr S) a x u ∧ upN (sHr S) a x u ≤ 9
  unfold upN
  split
  · exact ⟨h1, h9⟩
  · exact h.2.2.2.2.1 u hu
theorem CS_hours (h : CS M t S) {x : Nat} (h1 : 1 ≤ x) (h9 : x ≤ 9) : CS (gI M (t + 2) a (nI x)) t (sHou S a x) := by
  obtain ⟨⟨q0, qa, qp, qf, qu⟩, hW⟩ := h
  have o : ∀ {j k : Nat}, j ≠ 2 → (gI M (t + 2) a (nI x)).1 (t + j) k = M.1 (t + j) k := fun z => p_gI_n (Or.inl (by omega))
  have o0 : ∀ {k : Nat}, (gI M (t + 2) a (nI x)).1 t k = M.1 t k := p_gI_n (Or.inl (by omega))
  refine ⟨⟨?_, qa, fun p hp v hv => ?_, fun i hi => ?_, fun u hu => ?_⟩, sHou_W hW h1 h9⟩
  · rw [o0, o0, o0, o0, o0]; exact q0
  · rw [o (by decide)]; exact qp p hp v hv
  · rw [o (by decide), o (by decide)]; exact qf i hi
  · rw [@o 8 u (by decide), @o 5 u (by decide), @o 6 u (by decide)]
    refine ⟨?_, (qu u hu).2⟩
    rw [p_gI]
    show _ = nI (upN (sHr S) a x u)
    unfold upN
    by_cases e : u = a
    · rw [if_pos ⟨rfl, e⟩, if_pos e]
    · rw [if_neg (fun z => e z.2), if_neg e]; exact (qu u hu).1
theorem RS_hours (h : RS N S) (ha : a < sN S) {x : Nat} (h1 : 1 ≤ x) (h9 : x ≤ 9) : RS (gI N 1 (158 + 9 * a) (nI x)) (sHou S a x) := by
  obtain ⟨⟨q0, qa, qo, qf, qt⟩, hW⟩ := h
  obtain ⟨a1, a2, a3⟩ := sW_24 hW
  have o : ∀ {k : Nat}, k ≠ 158 + 9 * a → (gI N 1 (158 + 9 * a) (nI x)).1 1 k = N.1 1 k := fun z => p_gI_n (Or.inr z)
  refine ⟨⟨?_, fun k hk => ?_, fun p hp => ?_, fun i hi => ?_, fun u hu => ?_⟩, sHou_W hW h1 h9⟩
  · rw [o (by omega), o (by omega), o (by omega), o (by omega), o (by omega)]; exact q0
  · rw [o (by omega)]; exact qa k hk
  · have hp : p < sG S := hp
    rw [o (by omega)]; exact qo p hp
  · have hi : i < sM S := hi
    rw [o (by omega), o (by omega)]; exact qf i hi
  · obtain ⟨t1, t2, t3, t4⟩ := qt u hu
    refine ⟨?_, by rw [o (by omega)]; exact t2, by rw [o (by omega)]; exact t3, fun k hk => by rw [o (by omega)]; exact t4 k hk⟩
    rw [p_gI]
    show _ = nI (upN (sHr S) a x u)
    unfold upN
    by_cases e : u = a
    · rw [if_pos ⟨rfl, by rw [e]⟩, if_pos e]
    · rw [if_neg (fun z => e (by omega)), if_neg e]; exact t1
theorem sAdd_B (hw : sW S) (ha : a < sN S) (hb : b < sN S) (hm : sM S < 60) {m : Nat} (h : sB S b0) : sB (sAdd S a b m) (b0 + 130) := by
  intro k hk
  have lk : sLk S a b ≤ 2 * sM S := lk_le _
  have l2 : pLn S a b ≤ 24 := by
    have := hw.p ha
    have := hw.1.1
    have := hw.1.2.2.1
    unfold pLn; omega
  have l3 := pMv_le hw ha hb (mode := m)
  have l4 := fb_ct_le (iJ (pA S a b) (pB S a b)) (pLn S a b)
  have h0 := h 0 (by omega)
  have hkk := h k hk
  unfold sAdd
  split
  · show (if k = 0 then sAc S 0 + 1 else if k = 2 then sAc S 2 + 1 else if k = 3 then sAc S 3 + pLn S a b else if k = 4 then sAc S 4 + sLk S a b else if k = 5 then sAc S 5 + pMv S a b m else if k = 6 then sAc S 6 + fb_ct (iJ (pA S a b) (pB S a b)) (pLn S a b) else sAc S k) ≤ b0 + 130
    have h2 := h 2 (by omega)
    have h3 := h 3 (by omega)
    have h4 := h 4 (by omega)
    have h5 := h 5 (by omega)
    have h6 := h 6 (by omega)
    repeat' split
    all_goals omega
  · show upN (sAc S) 0 (sAc S 0 + 1) k ≤ b0 + 130
    unfold upN
    split <;> omega
theorem sCut_B (hw : sW S) (h : sB S b0) : sB (sCut S a) (b0 + 130) := by
  intro k hk
  have hn := hw.1.1
  have hkk := h k hk
  have h1 := h 1 (by omega)
  have h7 := h 7 (by omega)
  have hx := xN_le S a
  unfold xN at hx
  unfold sCut
  split
  · rename_i hin
    rw [if_pos hin] at hx
    show (if k = 1 then sAc S 1 + 1 else if k = 7 then sAc S 7 + (if (xL S a).length = 1 then 0 else (xL S a).length) else sAc S k) ≤ b0 + 130
    repeat' split
    all_goals omega
  · show upN (sAc S) 1 (sAc S 1 + 1) k ≤ b0 + 130
    unfold upN
    split <;> omega
theorem sSw_B {p : Nat} (h : sB S b0) : sB (sSw S p) (b0 + 130) := by
  intro k hk
  have hkk := h k hk
  have h8 := h 8 (by omega)
  show upN (sAc S) 8 (sAc S 8 + 1) k ≤ b0 + 130
  unfold upN
  split <;> omega
def DcR (c : Nat) : Prop := (1 ≤ c ∧ c ≤ 10) ∨ (41 ≤ c ∧ c ≤ 48)
def DrR (c k : Nat) : Prop := c = 1 ∨ c = 6 ∨ (8 ≤ c ∧ c ≤ 11) ∨ (c = 0 ∧ ((10 ≤ k ∧ k ≤ 14) ∨ k = 16))
/-- one order is obeyed by both -/
def DO (M N : gMem) (S : gS) (x y : Option (Int32 × gMem)) : Prop := ∃ M' N' S' v w, x = some (ib v, M') ∧ y = some (w, N') ∧ (if v = true then ∃ z, w = nI z ∧ z < 2147483648 else ∃ z, w = mO z ∧ 0 < z ∧ z < 100) ∧ gFr (fun c _ => DcR c) M M' ∧ gFr DrR N N' ∧ CS M' 1 S' ∧ RS N' S' ∧ sN S' = sN S ∧ ∀ b0, sB S b0 → sB S' (b0 + 130)
theorem DO_zv {x y : Option (Int32 × gMem)} (h : DO M N S x y) : DO M N S (x.bind fun v => (zv v.1).bind fun w => some (w, v.2)) (y.bind fun v => some (v.1, v.2)) := by
  obtain ⟨M', N', S', v, w, hx, hy, q⟩ := h
  refine ⟨M', N', S', v, w, ?_, ?_, q⟩
  · rw [hx, p_bnd]
    show (zv (ib v)).bind _ = _
    rw [p_zvib, p_bnd]
  · rw [hy, p_bnd]
theorem DO_no {x y : Option (Int32 × gMem)} {z : Nat} (hc : CS M 1 S) (hr : RS N S) (hx : x = some (nI 0, M)) (hy : y = some (mO z, N)) (h0 : 0 < z) (h9 : z < 100) : DO M N S x y :=
  ⟨M, N, S, false, mO z, hx, hy, ⟨z, rfl, h0, h9⟩, gFr_rf, gFr_rf, hc, hr, rfl, fun b0 h => sB_le h (by omega)⟩
theorem do_arrow (hc : CS M 1 S) (hr : RS N S) (ha : a < sN S) (hb : b < sN S) : DO M N S (fX3_runArrow (nI a) (nI b) 1 M) (fX11_comes (nI a) (nI b) N) := by
  obtain ⟨n1, n2⟩ := rs_comes hr (a := a) (b := b) ha hb
  have cr := cs_refusal hc ha hb
  have zle := sRz_le (S := S) (a := a) (b := b)
  unfold fX3_runArrow
  rw [cr, p_bnd]
  by_cases rz : sRz S a b = 0
  · obtain ⟨o1, o2, o3, o4⟩ := sRz_0 rz
    have hm := hc.2.1.2.1
    obtain ⟨M4, e4, F4, C4⟩ := cs_bring hc (by decide) ha hb o1 o2 (by omega)
    obtain ⟨N4, g4, G4, R4⟩ := n2 rz
    have mvl : (if sPl S b < sPl S a then pMv S a b (sMo S) else 0) ≤ 24 := by
      split
      · exact pMv_le hr.2 ha hb
      · omega
    refine ⟨M4, N4, _, true, _, ?_, g4, ⟨_, rfl, by omega⟩, gFr_mo F4 (fun c k z => by unfold DcR; omega), gFr_mo G4 (fun c k z => by unfold Dco at z; unfold DrR; omega), C4, R4, sAdd_n, fun b0 h => sAdd_B hc.2 ha hb (by omega) h⟩
    rw [rz, if_pos (show nI 0 = 0 from rfl), e4]; rfl
  · obtain ⟨N4, g4, G4⟩ := n1 rz
    refine ⟨M, N4, S, false, _, ?_, g4, ⟨_, rfl, by omega, by omega⟩, gFr_rf, gFr_mo G4 (fun c k z => by unfold Dpt at z; unfold DrR; omega), hc, RS_of hr (gFr_c1 G4 fun k z => by unfold Dpt at z; omega), rfl, fun b0 h => sB_le h (by omega)⟩
    rw [if_neg (show ¬ nI (sRz S a b) = 0 by rw [show (0 : Int32) = nI 0 from rfl, p_eq (by omega) (by omega)]; exact rz)]; rfl
theorem do_cut (hc : CS M 1 S) (hr : RS N S) (ha : a < sN S) (hb : b < sN S) : DO M N S (fX3_runCut (nI a) (nI b) 1 M) (fX11_cutsFrom (nI a) (nI b) N) := by
  have hn := hc.2.1.1
  have hm := hc.2.1.2.1
  unfold fX3_runCut fX11_cutsFrom
  rw [cs_numberOf hc (by omega) (by omega), rs_arrowFrom hr (by omega) (by omega), p_bnd, p_bnd]
  generalize sAr S a b = i
  unfold gNo
  by_cases c : i < sM S
  · have ne : ¬ nI i = (-1 : Int32) := by rw [show (-1 : Int32) = mO 1 from rfl, p_eq_mO (by omega) (by omega) (by omega)]; exact id
    rw [if_pos c, if_neg ne, if_neg ne]
    obtain ⟨M4, e4, F4, C4⟩ := cs_cutOff hc (by decide) c
    obtain ⟨N4, g4, G4, R4⟩ := rs_cuts hr c
    have := xN_le S i
    refine ⟨M4, N4, _, true, nI (xN S i), ?_, ?_, ⟨_, rfl, by omega⟩, gFr_mo F4 (fun c k z => by unfold Dcf at z; unfold DcR; omega), gFr_mo G4 (fun c k z => by unfold Dcu at z; unfold DrR; omega), C4, R4, sCut_n, fun b0 h => sCut_B hc.2 h⟩
    · rw [e4]; rfl
    · rw [g4]; rfl
  · rw [if_neg c, if_pos (show mO 1 = (-1 : Int32) from rfl), if_pos (show mO 1 = (-1 : Int32) from rfl)]
    exact DO_no (z := 9) hc hr rfl rfl (by omega) (by omega)
theorem do_swap (hc : CS M 1 S) (hr : RS N S) (ha : a ≤ 22) : DO M N S (fX3_runSwap (nI a) 1 M) ((rI N 1 374 (2 : Int32)).bind fun v11 => if nI a ≤ (v11 - (2 : Int32)) then ((fX11_swaps (nI a) N).bind fun v13 => some (v13.1, v13.2)) else some ((-9 : Int32), N)) := by
  have hn := hc.2.1.1
  have hg := hc.2.1.2.2.1
  unfold fX3_runSwap
  rw [cs_g hc, show nI a + (1 : Int32) = nI (a + 1) from nI_add _ _, show (2 : Int32) = nI 2 from rfl, p_rI (by omega) (by omega), p_bnd, hr.1.1.2.2.1]
  by_cases c : a + 1 < sG S
  · rw [if_neg (by rw [p_le (by omega) (by omega)]; omega), p_sub (by omega), if_pos (by rw [p_le (by omega) (by omega)]; omega), cs_leadsOn hc (by omega), p_bnd]
    obtain ⟨s1, s2⟩ := rs_swaps hr c
    cases hl : sLd S a (a + 1)
    · obtain ⟨M4, e4, F4, C4⟩ := cs_swapAt hc (by decide) c hl
      obtain ⟨N4, g4, G4, R4⟩ := s2 hl
      have hh := (sHd_ok hc.2.2.2.1 c).1
      refine ⟨M4, N4, _, true, nI (sHd S (a + 1)), ?_, ?_, ⟨_, rfl, by omega⟩, gFr_mo F4 (fun c k z => by unfold DcR; omega), gFr_mo G4 (fun c k z => by unfold DrR; omega), C4, R4, rfl, fun b0 h => sSw_B h⟩
      · rw [if_pos (show ib false = 0 from rfl), e4]; rfl
      · rw [g4]; rfl
    · rw [if_neg (show ¬ ib true = 0 by decide), s1 hl]
      exact DO_no (z := 5) hc hr rfl rfl (by omega) (by omega)
  · rw [if_pos (by rw [p_le (by omega) (by omega)]; omega)]
    have nn : ¬ nI a ≤ nI (sG S) - nI 2 := by
      rcases (show sG S = 0 ∨ sG S = 1 ∨ 2 ≤ sG S by omega) with e | e | e
      · rw [e, show nI 0 - nI 2 = mO 2 from by decide, p_le_mO (by omega) (by omega) (by omega)]; exact id
      · rw [e, show nI 1 - nI 2 = mO 1 from by decide, p_le_mO (by omega) (by omega) (by omega)]; exact id
      · rw [p_sub e, p_le (by omega) (by omega)]; omega
    rw [if_neg nn]
    exact DO_no (z := 9) hc hr rfl rfl (by omega) (by omega)
theorem do_run (hc : CS M 1 S) (hr : RS N S) (hk : k < 30) (h : ORD M N (sN S) k) : DO M N S (fX3_run (nI k) 1 M) (fX11_does (nI k) N) := by
  obtain ⟨q, a, b, q6, k38, k13, ka, kb, ha, hb, h2, h3, h4, h5⟩ := h
  have hn := hc.2.1.1
  have hm := hc.2.1.2.2.2.1
  have hjo := hc.2.1.2.2.2.2
  have cx : fX3_run (nI k) 1 M = if nI (q + 1) = (1 : Int32) then ((fX3_runArrow (M.1 39 k) (M.1 40 k) 1 M).bind fun v5 => (zv v5.1).bind fun v6 => some (v6, v5.2)) else if nI (q + 1) = (2 : Int32) then ((fX3_runCut (M.1 39 k) (M.1 40 k) 1 M).bind fun v8 => (zv v8.1).bind fun v9 => some (v9, v8.2)) else if nI (q + 1) = (3 : Int32) then ((wI M 3 24 (M.1 39 k) (M.1 40 k)).bind fun M11 => some ((1 : Int32), M11)) else if nI (q + 1) = (4 : Int32) then ((fX3_runSwap (M.1 39 k) 1 M).bind fun v13 => (zv v13.1).bind fun v14 => some (v14, v13.2)) else if nI (q + 1) = (5 : Int32) then ((wF M 1 12 (M.1 39 k)).bind fun M16 => some ((1 : Int32), M16)) else if nI (q + 1) = (6 : Int32) then ((wF M 1 13 (M.1 39 k)).bind fun M18 => some ((1 : Int32), M18)) else (fX8_renew 1 M).bind fun v19 => some ((1 : Int32), v19.2) := by
    unfold fX3_run
    rw [p_rI (by omega) (by omega), p_bnd, p_rI (by omega) (by omega), p_bnd, p_rI (by omega) (by omega), p_bnd, k38]
  have ry : fX11_does (nI k) N = if nI q = (0 : Int32) then ((fX11_comes (N.1 13 (3 * k + 1)) (N.1 13 (3 * k + 2)) N).bind fun v5 => some (v5.1, v5.2)) else if nI q = (1 : Int32) then ((fX11_cutsFrom (N.1 13 (3 * k + 1)) (N.1 13 (3 * k + 2)) N).bind fun v7 => some (v7.1, v7.2)) else if nI q = (2 : Int32) then ((fX11_becomes (((158 : Int32) + ((9 : Int32) * (N.1 13 (3 * k + 1)))) + (0 : Int32)) (N.1 13 (3 * k + 2)) N).bind fun v9 => some (v9.1, v9.2)) else if nI q = (3 : Int32) then ((rI N 1 374 (2 : Int32)).bind fun v11 => if (N.1 13 (3 * k + 1)) ≤ (v11 - (2 : Int32)) then ((fX11_swaps (N.1 13 (3 * k + 1)) N).bind fun v13 => some (v13.1, v13.2)) else some ((-9 : Int32), N)) else if nI q = (4 : Int32) then ((fX11_becomes (3 : Int32) (N.1 13 (3 * k + 1)) N).bind fun v15 => some (v15.1, v15.2)) else if nI q = (5 : Int32) then ((fX11_becomes (4 : Int32) (N.1 13 (3 * k + 1)) N).bind fun v17 => some (v17.1, v17.2)) else (fX11_refreshes N).bind fun v18 => some (v18.1, v18.2) := by
    unfold fX11_does
    have e1 : ((3 : Int32) * nI k) + (1 : Int32) = nI (3 * k + 1) := by rw [show (3 : Int32) = nI 3 from rfl, p_mul, show (1 : Int32) = nI 1 from rfl, nI_add]
    have e2 : ((3 : Int32) * nI k) + (2 : Int32) = nI (3 * k + 2) := by rw [show (3 : Int32) = nI 3 from rfl, p_mul, show (2 : Int32) = nI 2 from rfl, nI_add]
    have e0 : ((3 : Int32) * nI k) = nI (3 * k) := by rw [show (3 : Int32) = nI 3 from rfl, p_mul]
    rw [e1, e2, e0, p_rI (by omega) (by omega), p_bnd, p_rI (by omega) (by omega), p_bnd, p_rI (by omega) (by omega), p_bnd, k13]
  rw [cx, ry]
  rcases (show q = 0 ∨ q = 1 ∨ q = 2 ∨ q = 3 ∨ q = 4 ∨ q = 5 ∨ q = 6 by omega) with rfl | rfl | rfl | rfl | rfl | rfl | rfl
  · rw [if_pos (show nI (0 + 1) = (1 : Int32) from rfl), if_pos (show nI 0 = (0 : Int32) from rfl), (ka (by omega)).1, (ka (by omega)).2, (kb (by omega)).1, (kb (by omega)).2]
    exact DO_zv (do_arrow hc hr (ha (by omega)) (hb (by omega)))
  · rw [if_neg (by decide), if_pos (show nI (1 + 1) = (2 : Int32) from rfl), if_neg (by decide), if_pos (show nI 1 = (1 : Int32) from rfl), (ka (by omega)).1, (ka (by omega)).2, (kb (by omega)).1, (kb (by omega)).2]
    exact DO_zv (do_cut hc hr (ha (by omega)) (hb (by omega)))
  · have ha := ha (by omega)
    obtain ⟨b1, b9⟩ := h2 rfl
    have r1 := (hr.1.2.2.2.2 a ha).1
    have hh := hr.2.2.2.2.2.1 a ha
    rw [if_neg (by decide), if_neg (by decide), if_pos (show nI (2 + 1) = (3 : Int32) from rfl), if_neg (by decide), if_neg (by decide), if_pos (show nI 2 = (2 : Int32) from rfl), (ka (by omega)).1, (ka (by omega)).2, (kb (by omega)).1, (kb (by omega)).2]
    refine ⟨gI M 3 a (nI b), gI N 1 (158 + 9 * a) (nI b), _, true, nI (sHr S a), ?_, ?_, ⟨_, rfl, by omega⟩, gFr_I (by unfold DcR; omega), gFr_I (by unfold DrR; omega), CS_hours hc b1 b9, RS_hours hr ha b1 b9, rfl, fun b0 h => sB_le h (by omega)⟩
    · rw [p_wI (by omega) (by omega)]; rfl
    · unfold fX11_becomes
      rw [show (158 : Int32) = nI 158 from rfl, show (9 : Int32) = nI 9 from rfl, show (0 : Int32) = nI 0 from rfl, p_mul, nI_add, nI_add, Nat.add_zero, p_rI (by omega) (by omega), p_bnd, r1, p_wI (by omega) (by omega), p_bnd, p_bnd]
  · rw [if_neg (by decide), if_neg (by decide), if_neg (by decide), if_pos (show nI (3 + 1) = (4 : Int32) from rfl), if_neg (by decide), if_neg (by decide), if_neg (by decide), if_pos (show nI 3 = (3 : Int32) from rfl), (ka (by omega)).1, (ka (by omega)).2]
    obtain ⟨M', N', S', v, w, hx, hy, q⟩ := do_swap hc hr (h3 rfl)
    refine ⟨M', N', S', v, w, ?_, hy, q⟩
    rw [hx, p_bnd]
    show (zv (ib v)).bind _ = _
    rw [p_zvib, p_bnd]
  · have r3 : N.1 1 3 = nI (sMo S) := hr.1.1.2.2.2.1
    rw [if_neg (by decide), if_neg (by decide), if_neg (by decide), if_neg (by decide), if_pos (show nI (4 + 1) = (5 : Int32) from rfl), if_neg (by decide), if_neg (by decide), if_neg (by decide), if_neg (by decide), if_pos (show nI 4 = (4 : Int32) from rfl), (ka (by omega)).1, (ka (by omega)).2]
    refine ⟨gI M 1 12 (nI a), gI N 1 3 (nI a), _, true, nI (sMo S), ?_, ?_, ⟨_, rfl, by omega⟩, gFr_I (by unfold DcR; omega), gFr_I (by unfold DrR; omega), CS_mode hc (h4 rfl), RS_mode hr (h4 rfl), rfl, fun b0 h => sB_le h (by omega)⟩
    · rfl
    · unfold fX11_becomes
      rw [show (3 : Int32) = nI 3 from rfl, p_rI (by omega) (by omega), p_bnd, r3, p_wI (by omega) (by omega), p_bnd, p_bnd]
  · have r4 : N.1 1 4 = nI (sJo S) := hr.1.1.2.2.2.2
    rw [if_neg (by decide), if_neg (by decide), if_neg (by decide), if_neg (by decide), if_neg (by decide), if_pos (show nI (5 + 1) = (6 : Int32) from rfl), if_neg (by decide), if_neg (by decide), if_neg (by decide), if_neg (by decide), if_neg (by decide), if_pos (show nI 5 = (5 : Int32) from rfl), (ka (by omega)).1, (ka (by omega)).2]
    refine ⟨gI M 1 13 (nI a), gI N 1 4 (nI a), _, true, nI (sJo S), ?_, ?_, ⟨_, rfl, by omega⟩, gFr_I (by unfold DcR; omega), gFr_I (by unfold DrR; omega), CS_join hc (h5 rfl), RS_join hr (h5 rfl), rfl, fun b0 h => sB_le h (by omega)⟩
    · rfl
    · unfold fX11_becomes
      rw [show (4 : Int32) = nI 4 from rfl, p_rI (by omega) (by omega), p_bnd, r4, p_wI (by omega) (by omega), p_bnd, p_bnd]
  · rw [if_neg (by decide), if_neg (by decide), if_neg (by decide), if_neg (by decide), if_neg (by decide), if_neg (by decide), if_neg (by decide), if_neg (by decide), if_neg (by decide), if_neg (by decide), if_neg (by decide), if_neg (by decide)]
    obtain ⟨M4, e4, F4, C4⟩ := cs_renew hc (by decide)
    obtain ⟨N4, g4, G4, R4⟩ := rs_refreshes hr
    have hg := hc.2.1.2.2.1
    have := fb_ct_le (fun p => !decide ((fO S).getD p 0 = sHd S p)) (sG S)
    refine ⟨M4, N4, _, true, nI (fMv S), ?_, ?_, ⟨_, rfl, by unfold fMv; omega⟩, gFr_mo F4 (fun c k z => by unfold Dcf at z; unfold DcR; omega), gFr_mo G4 (fun c k z => by unfold Dcu at z; unfold DrR; omega), C4, R4, rfl, fun b0 h => sB_le h (by omega)⟩
    · rw [e4]; rfl
    · rw [g4]; rfl
end RUN
