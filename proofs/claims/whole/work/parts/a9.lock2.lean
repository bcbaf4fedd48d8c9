/-! LOCKSTEP: arrow, MODE, JOIN, the statement -/
section LK2
variable {M N : gMem} {B : Nat → Nat} {L i j t : Nat} {S : gS} {m0 m1 : Bool} {x y : Option (Int32 × gMem)}
theorem lk_arrow (h : SB M N B L j S m0 m1) (h1n : 1 ≤ sN S) : OC M N B L j (fX1_readArrow 11 M) (fX11_readsArrow N) := by
  classical
  obtain ⟨hl, p3, p2, ⟨tc, tr⟩, rt, ⟨ec4, ec5⟩, ⟨er6, er7⟩, ⟨hc, hr⟩, f0, f1, f2⟩ := h
  have hjL : j < L := (of_decide_eq_true hl).1
  have hL := tc.2.1
  have hn := hc.2.1.1
  have hm := hc.2.1.2.1
  obtain ⟨b1, b2⟩ := tWe_b (B := B) (Nat.le_of_lt hjL)
  have gt := tWe_gt hl
  have en := cs_m hc
  have rn : N.1 1 1 = nI (sM S) := hr.1.1.2.1
  have cx : fX1_readArrow 11 M = if nI (sM S) < (60 : Int32) then ((fX5_readTask 11 M).bind fun v2 => if v2.1 = (-1 : Int32) then (some ((0 : Int32), v2.2)) else (fX5_readTask 11 v2.2).bind fun v4 => if v4.1 = (-1 : Int32) then (some ((0 : Int32), v4.2)) else (fX2_refusal 11 v2.1 v4.1 v4.2).bind fun v6 => if v6 = 0 then ((fX6_bring 11 v2.1 v4.1 v4.2).bind fun v8 => some ((1 : Int32), v8.2)) else (fX5_fail (3 : Int32) (v4.2.1 32 3) v4.2).bind fun v9 => (zv v9.1).bind fun v10 => some (v10, v9.2)) else (fX5_fail (4 : Int32) (nI j) M).bind fun v11 => (zv v11.1).bind fun v12 => some (v12, v11.2) := by
    unfold fX1_readArrow
    rw [en, p3]
  have ry : fX11_readsArrow N = if nI (sM S) = (60 : Int32) then ((fX11_fails (4 : Int32) N).bind fun v3 => (zv v3.1).bind fun v4 => some (v4, v3.2)) else (fX11_goesOn N).bind fun v5 => (fX11_takesTask v5).bind fun v6 => if v6.1 = 0 then (some ((0 : Int32), v6.2)) else (nm (v6.2.1 0 30)).bind fun v8 => (fX11_seesTask v6.2).bind fun v9 => if v9.1 = 0 then (some ((0 : Int32), v9.2)) else (fX11_comes v8 (v9.2.1 0 30) v9.2).bind fun v11 => if 0 ≤ v11.1 then ((fX11_goesOn v11.2).bind fun v13 => some ((1 : Int32), v13)) else (fX11_fails (3 : Int32) v11.2).bind fun v14 => (zv v14.1).bind fun v15 => some (v15, v14.2) := by
    unfold fX11_readsArrow
    rw [show (1 : Int32) = nI 1 from rfl, p_rI (by omega) (by omega), rn, p_bnd]
  rw [cx, ry]
  by_cases c60 : sM S < 60
  · rw [if_pos (by rw [show (60 : Int32) = nI 60 from rfl, p_lt (by omega) (by omega)]; exact c60), if_neg (by rw [show (60 : Int32) = nI 60 from rfl, p_eq (by omega) (by omega)]; omega)]
    obtain ⟨M1, v, e1, F1, y1, y2, y3⟩ := c_readTask hc (by decide) tc p2 b2
    obtain ⟨N1, g1, G1, T1⟩ := r_goT tr rt (Nat.le_of_lt hjL)
    rw [tTe_L hl] at T1
    have tr1 := Dto_TX tr G1
    have hr1 := Dto_RS hr G1
    have tc1 := TXc_fr tc F1
    have hc1 := Drd_CS hc F1
    obtain ⟨d1, d2⟩ := tSk_b (B := B) b2
    generalize hj2 : tSk B L (tWe B L j) = j2 at y1 y2 y3 T1 d1 d2
    have er1 : N1.1 0 26 = nI 0 := by rw [(G1 0 26 (by unfold Dto; omega)).1]; exact er6
    have er2 : N1.1 0 27 = mO 1 := by rw [(G1 0 27 (by unfold Dto; omega)).1]; exact er7
    obtain ⟨N2, bb, g2, G2, x1, x2, x3⟩ := r_takesTask hr1 tr1 T1 d2 er1
    have FM : gFr DcT M M1 := gFr_mo F1 (fun _ _ => Drd_DcT)
    have FN : gFr DrT N N2 := gFr_tr (gFr_mo G1 (fun _ _ => Dto_DrT)) (gFr_mo G2 (fun _ _ => Drr_DrT))
    rw [e1, g1, p_bnd, p_bnd, g2, p_bnd]
    dsimp only
    by_cases c : tNm B L j2
    · by_cases d : nmF S (tW B L j2) < sN S
      · obtain ⟨z1, z2, z3, z4, z5⟩ := y3 c d
        obtain ⟨u1, u2, u3, u4, u5⟩ := x3 c d
        obtain ⟨k1, k2⟩ := tWe_b (B := B) d2
        have gt2 := tWe_gt c.1
        have tr2 := Drr_TX tr1 G2
        have hr2 := Drr_RS hr1 G2
        obtain ⟨d3, d4⟩ := tSk_b (B := B) k2
        obtain ⟨M2, v2, e2, F2, w1, w2, w3⟩ := c_readTask hc1 (by decide) tc1 z3 k2
        obtain ⟨N3, b3, g3, G3, T3, q1, q2, q3⟩ := r_seesTask hr2 tr2 u5 d4 u3
        have tc2 := TXc_fr tc1 F2
        have hc2 := Drd_CS hc1 F2
        have tr3 := Drr_TX tr2 G3
        have hr3 := Drr_RS hr2 G3
        generalize hj3 : tSk B L (tWe B L j2) = j3 at w1 w2 w3 T3 d3 d4 q1 q2 q3
        have FM2 : gFr DcT M M2 := gFr_tr FM (gFr_mo F2 (fun _ _ => Drd_DcT))
        have FN2 : gFr DrT N N3 := gFr_tr FN (gFr_mo G3 (fun _ _ => Drr_DrT))
        rw [z1, u1, if_neg (show ¬ nI (nmF S (tW B L j2)) = (-1 : Int32) by rw [show (-1 : Int32) = mO 1 from rfl, p_eq_mO (by omega) (by omega) (by omega)]; exact id), if_neg (show ¬ ib true = 0 by decide), p_nm, p_bnd, e2, g3, p_bnd, p_bnd]
        dsimp only
        rw [u2]
        by_cases c' : tNm B L j3
        · by_cases d' : nmF S (tW B L j3) < sN S
          · obtain ⟨r1, r2, r3, r4, r5⟩ := w3 c' d'
            obtain ⟨s1, s2, s3, s4⟩ := q3 c' d'
            obtain ⟨n1, n2⟩ := rs_comes hr3 (a := nmF S (tW B L j2)) (b := nmF S (tW B L j3)) d d'
            have cr := cs_refusal hc2 d d'
            have zle := sRz_le (S := S) (a := nmF S (tW B L j2)) (b := nmF S (tW B L j3))
            rw [r1, s1, if_neg (show ¬ nI (nmF S (tW B L j3)) = (-1 : Int32) by rw [show (-1 : Int32) = mO 1 from rfl, p_eq_mO (by omega) (by omega) (by omega)]; exact id), if_neg (show ¬ ib true = 0 by decide), cr, p_bnd, s2]
            generalize hA : nmF S (tW B L j2) = a at n1 n2 zle d
            generalize hB : nmF S (tW B L j3) = b at n1 n2 zle d'
            obtain ⟨k3, k4⟩ := tWe_b (B := B) d4
            have gt3 := tWe_gt c'.1
            by_cases rz : sRz S a b = 0
            · obtain ⟨o1, o2, o3, o4⟩ := sRz_0 rz
              obtain ⟨M4, e4, F4, C4⟩ := cs_bring hc2 (by decide) d d' o1 o2 c60
              obtain ⟨N4, g4, G4, R4⟩ := n2 rz
              have RT4 : RT N4 B L j3 := RT_of T3 G4 (fun k a b z => by unfold Dco at z; omega)
              have tr4 : TXr N4 B L := TXr_fr tr3 G4 (fun c k z w => by unfold Dco at w; omega)
              obtain ⟨N5, g5, G5, T5⟩ := r_goT tr4 RT4 d4
              rw [tTe_L c'.1] at T5
              have mvl : (if sPl S b < sPl S a then pMv S a b (sMo S) else 0) ≤ 24 := by
                split
                · exact pMv_le hr3.2 d d'
                · omega
              have FM4 : ∀ c k, ¬ ((11 ≤ c ∧ c ≤ 20) ∨ (41 ≤ c ∧ c ≤ 43)) → M4.1 c k = M2.1 c k := fun c k z => (F4 c k z).1
              have FN4 : ∀ k, ¬ ((10 ≤ k ∧ k ≤ 14) ∨ k = 16 ∨ (22 ≤ k ∧ k ≤ 25)) → N5.1 0 k = N3.1 0 k := fun k z => by rw [(G5 0 k (by unfold Dto; omega)).1, (G4 0 k (by unfold Dco; omega)).1]
              refine ⟨true, M4, N5, ?_, ?_, gFr_tr FM2 (gFr_mo F4 (fun c k z => by unfold DcT; omega)), gFr_tr FN2 (gFr_tr (gFr_mo G4 (fun c k z => by unfold Dco at z; unfold DrT; omega)) (gFr_mo G5 (fun _ _ => Dto_DrT))), fun z => Bool.noConfusion z, fun _ => ⟨tWe B L j3, _, m0, m1, by omega, ?_, k4, ?_, ⟨?_, ?_⟩, T5, ⟨?_, ?_⟩, ⟨?_, ?_⟩, ⟨C4, Dto_RS R4 G5⟩, ?_, ?_, ?_⟩⟩
              · rw [rz, if_pos (show nI 0 = 0 from rfl), e4]; rfl
              · rw [g4, p_bnd]
                dsimp only
                rw [if_pos (by rw [show (0 : Int32) = nI 0 from rfl, p_le (by omega) (by omega)]; omega), g5]; rfl
              · rw [sAdd_n]; exact h1n
              · rw [FM4 _ _ (by omega)]; exact r3
              · exact TXc_of tc2 (FM4 _ _ (by omega)) (funext fun k => FM4 _ _ (by omega))
              · exact Dto_TX tr4 G5
              · rw [FM4 _ _ (by omega), r4, z4]; exact ec4
              · rw [FM4 _ _ (by omega), r5, z5]; exact ec5
              · rw [FN4 _ (by omega)]; exact s3
              · rw [FN4 _ (by omega), s4, u4]; exact er2
              · rw [FM4 _ _ (by omega), (F2 36 0 (by unfold Drd; omega)).1, (F1 36 0 (by unfold Drd; omega)).1]; exact f0
              · rw [FM4 _ _ (by omega), (F2 36 1 (by unfold Drd; omega)).1, (F1 36 1 (by unfold Drd; omega)).1]; exact f1
              · rw [FN4 _ (by omega), (G3 0 31 (by unfold Drr; omega)).1, (G2 0 31 (by unfold Drr; omega)).1, (G1 0 31 (by unfold Dto; omega)).1]; exact f2
            · obtain ⟨N4, g4, G4⟩ := n1 rz
              have k26 : N4.1 0 26 = nI 0 := by rw [(G4 0 26 (by unfold Dpt; omega)).1]; exact s3
              have k23 : N4.1 0 23 = nI j3 := by rw [(G4 0 23 (by unfold Dpt; omega)).1]; exact T3.1
              obtain ⟨M5, e5, F5, E5⟩ := c_failT M2 3 j3
              obtain ⟨N5, g5, G5, E6⟩ := r_failsT k26 k23 3
              refine OC_no (c := 3) (p := j3) (M' := M5) (N' := N5) ?_ ?_ (gFr_tr FM2 F5) (gFr_tr FN2 (gFr_tr (gFr_mo G4 (fun c k z => by unfold Dpt at z; unfold DrT; omega)) G5)) (by omega) (by omega) E5 E6
              · rw [if_neg (show ¬ nI (sRz S a b) = 0 by rw [show (0 : Int32) = nI 0 from rfl, p_eq (by omega) (by omega)]; exact rz), r2, show (3 : Int32) = nI 3 from rfl, e5]; rfl
              · rw [g4, p_bnd]
                dsimp only
                rw [if_neg (by rw [show (0 : Int32) = nI 0 from rfl, p_le_mO (by omega) (by omega) (by omega)]; exact id), show (3 : Int32) = nI 3 from rfl, g5]; rfl
          · obtain ⟨z1', z2'⟩ := w2 c' d'
            obtain ⟨u1', u2'⟩ := q2 c' d'
            refine OC_no (c := 3) (p := j3) (M' := M2) (N' := N3) ?_ ?_ FM2 FN2 (by omega) (by omega) z2' u2'
            · rw [z1', if_pos (show mO 1 = (-1 : Int32) from rfl)]; rfl
            · rw [u1', if_pos (show ib false = 0 from rfl)]; rfl
        · obtain ⟨z1', z2'⟩ := w1 c'
          obtain ⟨u1', u2'⟩ := q1 c'
          refine OC_no (c := 1) (p := j3) (M' := M2) (N' := N3) ?_ ?_ FM2 FN2 (by omega) (by omega) z2' u2'
          · rw [z1', if_pos (show mO 1 = (-1 : Int32) from rfl)]; rfl
          · rw [u1', if_pos (show ib false = 0 from rfl)]; rfl
      · obtain ⟨z1', z2'⟩ := y2 c d
        obtain ⟨u1', u2'⟩ := x2 c d
        refine OC_no (c := 3) (p := j2) (M' := M1) (N' := N2) ?_ ?_ FM FN (by omega) (by omega) z2' u2'
        · rw [z1', if_pos (show mO 1 = (-1 : Int32) from rfl)]; rfl
        · rw [u1', if_pos (show ib false = 0 from rfl)]; rfl
    · obtain ⟨z1', z2'⟩ := y1 c
      obtain ⟨u1', u2'⟩ := x1 c
      refine OC_no (c := 1) (p := j2) (M' := M1) (N' := N2) ?_ ?_ FM FN (by omega) (by omega) z2' u2'
      · rw [z1', if_pos (show mO 1 = (-1 : Int32) from rfl)]; rfl
      · rw [u1', if_pos (show ib false = 0 from rfl)]; rfl
  · rw [if_neg (by rw [show (60 : Int32) = nI 60 from rfl, p_lt (by omega) (by omega)]; exact c60), if_pos (by rw [show sM S = 60 by omega]; rfl)]
    obtain ⟨M2, e2, F2, E2⟩ := c_failT M 4 j
    obtain ⟨N2, g2, G2, R2⟩ := r_failsT er6 rt.1 4
    refine OC_no (c := 4) (p := j) (M' := M2) (N' := N2) ?_ ?_ F2 G2 (by omega) (by omega) E2 R2
    · rw [show (4 : Int32) = nI 4 from rfl, e2]; rfl
    · rw [show (4 : Int32) = nI 4 from rfl, g2]; rfl
/-- JOIN is laid -/
def sJoi (S : gS) (m : Nat) : gS := (upN S.1 4 m, sFr S, sTo S, sPl S, sHr S, sAc S, sNm S)
theorem sJoi_W (h : sW S) {m : Nat} (hm : m ≤ 1) : sW (sJoi S m) := ⟨⟨h.1.1, h.1.2.1, h.1.2.2.1, h.1.2.2.2.1, hm⟩, h.2⟩
theorem RS_join (h : RS M S) {m : Nat} (hm : m ≤ 1) : RS (gI M 1 4 (nI m)) (sJoi S m) := by
  obtain ⟨⟨⟨q0, q1, q2, q3, q4⟩, qa, qo, qf, qt⟩, hW⟩ := h
  obtain ⟨a1, a2, a3⟩ := sW_24 hW
  have o : ∀ {k : Nat}, k ≠ 4 → (gI M 1 4 (nI m)).1 1 k = M.1 1 k := fun z => p_gI_n (Or.inr z)
  refine ⟨⟨⟨?_, ?_, ?_, ?_, ?_⟩, fun k hk => ?_, fun p hp => ?_, fun i hi => ?_, fun t ht => ?_⟩, sJoi_W hW hm⟩
  · rw [o (by decide)]; exact q0
  · rw [o (by decide)]; exact q1
  · rw [o (by decide)]; exact q2
  · rw [o (by decide)]; exact q3
  · rw [p_gI_s]; rfl
  · rw [o (by omega)]; exact qa k hk
  · have hp : p < sG S := hp
    rw [o (by omega)]; exact qo p hp
  · have hi : i < sM S := hi
    rw [o (by omega), o (by omega)]; exact qf i hi
  · have ht : t < sN S := ht
    obtain ⟨t1, t2, t3, t4⟩ := qt t ht
    exact ⟨by rw [o (by omega)]; exact t1, by rw [o (by omega)]; exact t2, by rw [o (by omega)]; exact t3, fun k hk => by rw [o (by omega)]; exact t4 k hk⟩
theorem CS_mode (h : CS M t S) {m : Nat} (hm : m ≤ 2) : CS (gI M t 12 (nI m)) t (sMod S m) := by
  obtain ⟨⟨⟨q0, q1, q2, q3, q4⟩, qa, qp, qf, qu⟩, hW⟩ := h
  have o : ∀ {j k : Nat}, j ≠ 0 → (gI M t 12 (nI m)).1 (t + j) k = M.1 (t + j) k := fun z => p_gI_n (Or.inl (by omega))
  refine ⟨⟨⟨?_, ?_, ?_, ?_, ?_⟩, qa, fun p hp v hv => ?_, fun i hi => ?_, fun u hu => ?_⟩, sMod_W hW hm⟩
  · rw [p_gI_n (Or.inr (by decide))]; exact q0
  · rw [p_gI_n (Or.inr (by decide))]; exact q1
  · rw [p_gI_n (Or.inr (by decide))]; exact q2
  · rw [p_gI_s]; rfl
  · rw [p_gI_n (Or.inr (by decide))]; exact q4
  · rw [o (by decide)]; exact qp p hp v hv
  · rw [o (by decide), o (by decide)]; exact qf i hi
  · rw [o (by decide), o (by decide), o (by decide), o (by decide)]; exact qu u hu
theorem CS_join (h : CS M t S) {m : Nat} (hm : m ≤ 1) : CS (gI M t 13 (nI m)) t (sJoi S m) := by
  obtain ⟨⟨⟨q0, q1, q2, q3, q4⟩, qa, qp, qf, qu⟩, hW⟩ := h
  have o : ∀ {j k : Nat}, j ≠ 0 → (gI M t 13 (nI m)).1 (t + j) k = M.1 (t + j) k := fun z => p_gI_n (Or.inl (by omega))
  refine ⟨⟨⟨?_, ?_, ?_, ?_, ?_⟩, qa, fun p hp v hv => ?_, fun i hi => ?_, fun u hu => ?_⟩, sJoi_W hW hm⟩
  · rw [p_gI_n (Or.inr (by decide))]; exact q0
  · rw [p_gI_n (Or.inr (by decide))]; exact q1
  · rw [p_gI_n (Or.inr (by decide))]; exact q2
  · rw [p_gI_n (Or.inr (by decide))]; exact q3
  · rw [p_gI_s]; rfl
  · rw [o (by decide)]; exact qp p hp v hv
  · rw [o (by decide), o (by decide)]; exact qf i hi
  · rw [o (by decide), o (by decide), o (by decide), o (by decide)]; exact qu u hu
end LK2
