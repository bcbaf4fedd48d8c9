/-! LOCKSTEP: MODE and JOIN -/
section LK3
variable {M N : gMem} {B : Nat → Nat} {L i j t : Nat} {S : gS} {m0 m1 : Bool}
theorem lk_mode (h : SB M N B L j S m0 m1) (h1n : 1 ≤ sN S) : OC M N B L j (fX1_readMode 11 M) (fX11_readsOnce (nI 0) (nI 3) (nI 2) N) := by
  classical
  obtain ⟨hl, p3, p2, ⟨tc, tr⟩, rt, ⟨ec4, ec5⟩, ⟨er6, er7⟩, ⟨hc, hr⟩, f0, f1, f2⟩ := h
  have hjL : j < L := (of_decide_eq_true hl).1
  have hL := tc.2.1
  obtain ⟨b1, b2⟩ := tWe_b (B := B) (Nat.le_of_lt hjL)
  have gt := tWe_gt hl
  have hbt : bt (N.1 0 31) 0 = m0 := by rw [f2]; cases m0 <;> cases m1 <;> decide
  have cx : fX1_readMode 11 M = if ib m0 = 0 then ((fX5_readNumber (0 : Int32) (2 : Int32) (gI M 36 0 (nI 1))).bind fun v3 => (wF v3.2 11 12 v3.1).bind fun M4 => some (if (M4.1 11 12) = (-1 : Int32) then (0 : Int32) else (1 : Int32), M4)) else (fX5_fail (3 : Int32) (nI j) M).bind fun v6 => (zv v6.1).bind fun v7 => some (v7, v6.2) := by
    unfold fX1_readMode
    rw [f0, p3]; rfl
  have ry : fX11_readsOnce (nI 0) (nI 3) (nI 2) N = if ib m0 = 0 then ((fX11_goesOn (gI N 0 31 (N.1 0 31 ||| sb 0))).bind fun v4 => (fX11_takes (0 : Int32) (nI 2) v4).bind fun v5 => if v5.1 = 0 then (some ((0 : Int32), v5.2)) else (wI v5.2 1 374 (nI 3) (v5.2.1 0 30)).bind fun M7 => some ((1 : Int32), M7)) else (fX11_fails (3 : Int32) N).bind fun v8 => (zv v8.1).bind fun v9 => some (v9, v8.2) := by
    unfold fX11_readsOnce
    rw [p_has11 (by decide), hbt, p_bnd]; rfl
  rw [cx, ry]
  cases hm : m0
  · rw [if_pos (show ib false = 0 from rfl), if_pos (show ib false = 0 from rfl)]
    have tc0 : TXc (gI M 36 0 (nI 1)) B L := TXc_of tc (p_gI_n (Or.inl (by decide))) (p_gI_o (by decide))
    have hc0 : CS (gI M 36 0 (nI 1)) 11 S := CS_fr hc (gFr_I (D := fun c _ => c = 36) rfl) (fun k q hk z => by omega)
    have F0 : gFr DcT M (gI M 36 0 (nI 1)) := gFr_I (by unfold DcT; omega)
    have o32 : ∀ k, (gI M 36 0 (nI 1)).1 32 k = M.1 32 k := fun k => p_gI_n (Or.inl (by decide))
    have tr0 : TXr (gI N 0 31 (N.1 0 31 ||| sb 0)) B L := TXr_of tr (p_gI_n (Or.inr (by decide))) (p_gI_o (by decide))
    have rt0 : RT (gI N 0 31 (N.1 0 31 ||| sb 0)) B L j := RT_of rt (gFr_I (D := fun c k => c = 0 ∧ k = 31) ⟨rfl, rfl⟩) (fun k a b z => by omega)
    have hr0 : RS (gI N 0 31 (N.1 0 31 ||| sb 0)) S := RS_of hr (p_gI_o (by decide))
    have G0 : gFr DrT N (gI N 0 31 (N.1 0 31 ||| sb 0)) := gFr_I (by unfold DrT; omega)
    have on : ∀ k, k ≠ 31 → (gI N 0 31 (N.1 0 31 ||| sb 0)).1 0 k = N.1 0 k := fun k z => p_gI_n (Or.inr z)
    obtain ⟨M2, v2, e2, F2, w1, w2, w3⟩ := c_readNumber tc0 ((o32 2).trans p2) b2 (lo := 0) (hi' := 2) (by omega) (by omega)
    obtain ⟨N1, g1, G1, T1⟩ := r_goT tr0 rt0 (Nat.le_of_lt hjL)
    rw [tTe_L hl] at T1
    have tr1 := Dto_TX tr0 G1
    have hr1 := Dto_RS hr0 G1
    have tc2 := TXc_fr tc0 F2
    have hc2 := Drd_CS hc0 F2
    obtain ⟨d1, d2⟩ := tSk_b (B := B) b2
    have er1 : N1.1 0 26 = nI 0 := by rw [(G1 0 26 (by unfold Dto; omega)).1, on _ (by decide)]; exact er6
    have er2 : N1.1 0 27 = mO 1 := by rw [(G1 0 27 (by unfold Dto; omega)).1, on _ (by decide)]; exact er7
    obtain ⟨N2, b3, g2, G2, x1, x2, x3⟩ := r_takes tr1 T1 d2 er1 (lo := 0) (hi := 2) (by omega) (by omega)
    generalize hj2 : tSk B L (tWe B L j) = j2 at w1 w2 w3 T1 d1 d2 x1 x2 x3
    have FM : gFr DcT M (gI M2 11 12 v2) := gFr_trI (gFr_tr F0 (gFr_mo F2 (fun _ _ => Drd_DcT))) (by unfold DcT; omega)
    have FN : gFr DrT N N2 := gFr_tr G0 (gFr_tr (gFr_mo G1 (fun _ _ => Dto_DrT)) (gFr_mo G2 (fun _ _ => Drr_DrT)))
    rw [show fX5_readNumber (0 : Int32) (2 : Int32) (gI M 36 0 (nI 1)) = _ from e2, g1, p_bnd, p_bnd, show fX11_takes (0 : Int32) (nI 2) N1 = _ from g2, p_bnd]
    dsimp only
    rw [p_wF, p_bnd, p_gI_s]
    have no : ∀ c, v2 = mO 1 ∧ EC M2 c j2 → b3 = false ∧ ER N2 c j2 → 1 ≤ c → c ≤ 9 → OC M N B L j (some (if v2 = (-1 : Int32) then (0 : Int32) else (1 : Int32), gI M2 11 12 v2)) (if ib b3 = 0 then some ((0 : Int32), N2) else (wI N2 1 374 (nI 3) (N2.1 0 30)).bind fun M7 => some ((1 : Int32), M7)) := fun c q u c1 c9 => by
      obtain ⟨q1, q2⟩ := q
      obtain ⟨u1, u2⟩ := u
      refine OC_no (c := c) (p := j2) (M' := gI M2 11 12 v2) (N' := N2) ?_ ?_ FM FN ⟨c1, c9⟩ (by omega) ?_ u2
      · rw [q1, if_pos (show mO 1 = (-1 : Int32) from rfl)]; rfl
      · rw [u1, if_pos (show ib false = 0 from rfl)]; rfl
      · unfold EC; rw [p_gI_n (Or.inl (by decide)), p_gI_n (Or.inl (by decide))]; exact q2
    by_cases nu : tNu B L j2
    · by_cases rg : 0 ≤ tV B L j2 ∧ tV B L j2 ≤ 2
      · obtain ⟨q1, q2, q3, q4⟩ := w3 nu rg
        obtain ⟨u1, u2, u3, u4, u5⟩ := x3 nu rg
        have tr3 := Drr_TX tr1 G2
        have hr3 := Drr_RS hr1 G2
        obtain ⟨n1, n2⟩ := tNe_b (B := B) d2
        have gt3 := tNe_gt nu.1
        have oM : ∀ c k, c ≠ 11 → (gI M2 11 12 v2).1 c k = M2.1 c k := fun c k z => p_gI_n (Or.inl z)
        have oN : ∀ c k, c ≠ 1 → (gI N2 1 3 (nI (tV B L j2))).1 c k = N2.1 c k := fun c k z => p_gI_n (Or.inl z)
        refine ⟨true, gI M2 11 12 v2, gI N2 1 3 (nI (tV B L j2)), ?_, ?_, FM, gFr_trI FN (Or.inl rfl), fun z => Bool.noConfusion z, fun _ => ⟨tNe B L j2, sMod S (tV B L j2), true, m1, by omega, h1n, n2, ?_, ⟨?_, ?_⟩, ?_, ⟨?_, ?_⟩, ⟨?_, ?_⟩, ⟨?_, ?_⟩, ?_, ?_, ?_⟩⟩
        · rw [q1, if_neg (show ¬ nI (tV B L j2) = (-1 : Int32) by rw [show (-1 : Int32) = mO 1 from rfl, p_eq_mO (by omega) (by omega) (by omega)]; exact id)]; rfl
        · rw [u1, if_neg (show ¬ ib true = 0 by decide), u2, p_wI (by omega) (by omega), p_bnd]; rfl
        · rw [oM _ _ (by decide)]; exact q2
        · exact TXc_of tc2 (oM _ _ (by decide)) (funext fun k => oM _ _ (by decide))
        · exact TXr_of tr3 (oN _ _ (by decide)) (funext fun k => oN _ _ (by decide))
        · exact RT_of u3 (gFr_I (D := fun c _ => c = 1) rfl) (fun k a b z => by omega)
        · rw [oM _ _ (by decide), q3, o32]; exact ec4
        · rw [oM _ _ (by decide), q4, o32]; exact ec5
        · rw [oN _ _ (by decide)]; exact u4
        · rw [oN _ _ (by decide), u5]; exact er2
        · rw [q1]; exact CS_mode hc2 (by omega)
        · exact RS_mode hr3 (by omega)
        · rw [oM _ _ (by decide), (F2 36 0 (by unfold Drd; omega)).1]; rw [p_gI_s]; rfl
        · rw [oM _ _ (by decide), (F2 36 1 (by unfold Drd; omega)).1]; rw [p_gI_n (Or.inr (by decide))]; exact f1
        · rw [oN _ _ (by decide), (G2 0 31 (by unfold Drr; omega)).1, (G1 0 31 (by unfold Dto; omega)).1, p_gI_s, f2, hm]; cases m1 <;> decide
      · exact no 2 (w2 nu rg) (x2 nu rg) (by omega) (by omega)
    · exact no 1 (w1 nu) (x1 nu) (by omega) (by omega)
  · rw [if_neg (show ¬ ib true = 0 by decide), if_neg (show ¬ ib true = 0 by decide)]
    obtain ⟨M2, e2, F2, E2⟩ := c_failT M 3 j
    obtain ⟨N2, g2, G2, R2⟩ := r_failsT er6 rt.1 3
    refine OC_no (c := 3) (p := j) (M' := M2) (N' := N2) ?_ ?_ F2 G2 (by omega) (by omega) E2 R2
    · rw [show (3 : Int32) = nI 3 from rfl, e2]; rfl
    · rw [show (3 : Int32) = nI 3 from rfl, g2]; rfl
theorem lk_join (h : SB M N B L j S m0 m1) (h1n : 1 ≤ sN S) : OC M N B L j (fX1_readJoin 11 M) (fX11_readsOnce (nI 1) (nI 4) (nI 1) N) := by
  classical
  obtain ⟨hl, p3, p2, ⟨tc, tr⟩, rt, ⟨ec4, ec5⟩, ⟨er6, er7⟩, ⟨hc, hr⟩, f0, f1, f2⟩ := h
  have hjL : j < L := (of_decide_eq_true hl).1
  have hL := tc.2.1
  obtain ⟨b1, b2⟩ := tWe_b (B := B) (Nat.le_of_lt hjL)
  have gt := tWe_gt hl
  have hbt : bt (N.1 0 31) 1 = m1 := by rw [f2]; cases m0 <;> cases m1 <;> decide
  have cx : fX1_readJoin 11 M = if ib m1 = 0 then ((fX5_readNumber (0 : Int32) (1 : Int32) (gI M 36 1 (nI 1))).bind fun v3 => (wF v3.2 11 13 v3.1).bind fun M4 => some (if (M4.1 11 13) = (-1 : Int32) then (0 : Int32) else (1 : Int32), M4)) else (fX5_fail (3 : Int32) (nI j) M).bind fun v6 => (zv v6.1).bind fun v7 => some (v7, v6.2) := by
    unfold fX1_readJoin
    rw [f1, p3]; rfl
  have ry : fX11_readsOnce (nI 1) (nI 4) (nI 1) N = if ib m1 = 0 then ((fX11_goesOn (gI N 0 31 (N.1 0 31 ||| sb 1))).bind fun v4 => (fX11_takes (0 : Int32) (nI 1) v4).bind fun v5 => if v5.1 = 0 then (some ((0 : Int32), v5.2)) else (wI v5.2 1 374 (nI 4) (v5.2.1 0 30)).bind fun M7 => some ((1 : Int32), M7)) else (fX11_fails (3 : Int32) N).bind fun v8 => (zv v8.1).bind fun v9 => some (v9, v8.2) := by
    unfold fX11_readsOnce
    rw [p_has11 (by decide), hbt, p_bnd]; rfl
  rw [cx, ry]
  cases hm : m1
  · rw [if_pos (show ib false = 0 from rfl), if_pos (show ib false = 0 from rfl)]
    have tc0 : TXc (gI M 36 1 (nI 1)) B L := TXc_of tc (p_gI_n (Or.inl (by decide))) (p_gI_o (by decide))
    have hc0 : CS (gI M 36 1 (nI 1)) 11 S := CS_fr hc (gFr_I (D := fun c _ => c = 36) rfl) (fun k q hk z => by omega)
    have F0 : gFr DcT M (gI M 36 1 (nI 1)) := gFr_I (by unfold DcT; omega)
    have o32 : ∀ k, (gI M 36 1 (nI 1)).1 32 k = M.1 32 k := fun k => p_gI_n (Or.inl (by decide))
    have tr0 : TXr (gI N 0 31 (N.1 0 31 ||| sb 1)) B L := TXr_of tr (p_gI_n (Or.inr (by decide))) (p_gI_o (by decide))
    have rt0 : RT (gI N 0 31 (N.1 0 31 ||| sb 1)) B L j := RT_of rt (gFr_I (D := fun c k => c = 0 ∧ k = 31) ⟨rfl, rfl⟩) (fun k a b z => by omega)
    have hr0 : RS (gI N 0 31 (N.1 0 31 ||| sb 1)) S := RS_of hr (p_gI_o (by decide))
    have G0 : gFr DrT N (gI N 0 31 (N.1 0 31 ||| sb 1)) := gFr_I (by unfold DrT; omega)
    have on : ∀ k, k ≠ 31 → (gI N 0 31 (N.1 0 31 ||| sb 1)).1 0 k = N.1 0 k := fun k z => p_gI_n (Or.inr z)
    obtain ⟨M2, v2, e2, F2, w1, w2, w3⟩ := c_readNumber tc0 ((o32 2).trans p2) b2 (lo := 0) (hi' := 1) (by omega) (by omega)
    obtain ⟨N1, g1, G1, T1⟩ := r_goT tr0 rt0 (Nat.le_of_lt hjL)
    rw [tTe_L hl] at T1
    have tr1 := Dto_TX tr0 G1
    have hr1 := Dto_RS hr0 G1
    have tc2 := TXc_fr tc0 F2
    have hc2 := Drd_CS hc0 F2
    obtain ⟨d1, d2⟩ := tSk_b (B := B) b2
    have er1 : N1.1 0 26 = nI 0 := by rw [(G1 0 26 (by unfold Dto; omega)).1, on _ (by decide)]; exact er6
    have er2 : N1.1 0 27 = mO 1 := by rw [(G1 0 27 (by unfold Dto; omega)).1, on _ (by decide)]; exact er7
    obtain ⟨N2, b3, g2, G2, x1, x2, x3⟩ := r_takes tr1 T1 d2 er1 (lo := 0) (hi := 1) (by omega) (by omega)
    generalize hj2 : tSk B L (tWe B L j) = j2 at w1 w2 w3 T1 d1 d2 x1 x2 x3
    have FM : gFr DcT M (gI M2 11 13 v2) := gFr_trI (gFr_tr F0 (gFr_mo F2 (fun _ _ => Drd_DcT))) (by unfold DcT; omega)
    have FN : gFr DrT N N2 := gFr_tr G0 (gFr_tr (gFr_mo G1 (fun _ _ => Dto_DrT)) (gFr_mo G2 (fun _ _ => Drr_DrT)))
    rw [show fX5_readNumber (0 : Int32) (1 : Int32) (gI M 36 1 (nI 1)) = _ from e2, g1, p_bnd, p_bnd, show fX11_takes (0 : Int32) (nI 1) N1 = _ from g2, p_bnd]
    dsimp only
    rw [p_wF, p_bnd, p_gI_s]
    have no : ∀ c, v2 = mO 1 ∧ EC M2 c j2 → b3 = false ∧ ER N2 c j2 → 1 ≤ c → c ≤ 9 → OC M N B L j (some (if v2 = (-1 : Int32) then (0 : Int32) else (1 : Int32), gI M2 11 13 v2)) (if ib b3 = 0 then some ((0 : Int32), N2) else (wI N2 1 374 (nI 4) (N2.1 0 30)).bind fun M7 => some ((1 : Int32), M7)) := fun c q u c1 c9 => by
      obtain ⟨q1, q2⟩ := q
      obtain ⟨u1, u2⟩ := u
      refine OC_no (c := c) (p := j2) (M' := gI M2 11 13 v2) (N' := N2) ?_ ?_ FM FN ⟨c1, c9⟩ (by omega) ?_ u2
      · rw [q1, if_pos (show mO 1 = (-1 : Int32) from rfl)]; rfl
      · rw [u1, if_pos (show ib false = 0 from rfl)]; rfl
      · unfold EC; rw [p_gI_n (Or.inl (by decide)), p_gI_n (Or.inl (by decide))]; exact q2
    by_cases nu : tNu B L j2
    · by_cases rg : 0 ≤ tV B L j2 ∧ tV B L j2 ≤ 1
      · obtain ⟨q1, q2, q3, q4⟩ := w3 nu rg
        obtain ⟨u1, u2, u3, u4, u5⟩ := x3 nu rg
        have tr3 := Drr_TX tr1 G2
        have hr3 := Drr_RS hr1 G2
        obtain ⟨n1, n2⟩ := tNe_b (B := B) d2
        have gt3 := tNe_gt nu.1
        have oM : ∀ c k, c ≠ 11 → (gI M2 11 13 v2).1 c k = M2.1 c k := fun c k z => p_gI_n (Or.inl z)
        have oN : ∀ c k, c ≠ 1 → (gI N2 1 4 (nI (tV B L j2))).1 c k = N2.1 c k := fun c k z => p_gI_n (Or.inl z)
        refine ⟨true, gI M2 11 13 v2, gI N2 1 4 (nI (tV B L j2)), ?_, ?_, FM, gFr_trI FN (Or.inl rfl), fun z => Bool.noConfusion z, fun _ => ⟨tNe B L j2, sJoi S (tV B L j2), m0, true, by omega, h1n, n2, ?_, ⟨?_, ?_⟩, ?_, ⟨?_, ?_⟩, ⟨?_, ?_⟩, ⟨?_, ?_⟩, ?_, ?_, ?_⟩⟩
        · rw [q1, if_neg (show ¬ nI (tV B L j2) = (-1 : Int32) by rw [show (-1 : Int32) = mO 1 from rfl, p_eq_mO (by omega) (by omega) (by omega)]; exact id)]; rfl
        · rw [u1, if_neg (show ¬ ib true = 0 by decide), u2, p_wI (by omega) (by omega), p_bnd]; rfl
        · rw [oM _ _ (by decide)]; exact q2
        · exact TXc_of tc2 (oM _ _ (by decide)) (funext fun k => oM _ _ (by decide))
        · exact TXr_of tr3 (oN _ _ (by decide)) (funext fun k => oN _ _ (by decide))
        · exact RT_of u3 (gFr_I (D := fun c _ => c = 1) rfl) (fun k a b z => by omega)
        · rw [oM _ _ (by decide), q3, o32]; exact ec4
        · rw [oM _ _ (by decide), q4, o32]; exact ec5
        · rw [oN _ _ (by decide)]; exact u4
        · rw [oN _ _ (by decide), u5]; exact er2
        · rw [q1]; exact CS_join hc2 (by omega)
        · exact RS_join hr3 (by omega)
        · rw [oM _ _ (by decide), (F2 36 0 (by unfold Drd; omega)).1]; rw [p_gI_n (Or.inr (by decide))]; exact f0
        · rw [oM _ _ (by decide), (F2 36 1 (by unfold Drd; omega)).1]; rw [p_gI_s]; rfl
        · rw [oN _ _ (by decide), (G2 0 31 (by unfold Drr; omega)).1, (G1 0 31 (by unfold Dto; omega)).1, p_gI_s, f2, hm]; cases m0 <;> decide
      · exact no 2 (w2 nu rg) (x2 nu rg) (by omega) (by omega)
    · exact no 1 (w1 nu) (x1 nu) (by omega) (by omega)
  · rw [if_neg (show ¬ ib true = 0 by decide), if_neg (show ¬ ib true = 0 by decide)]
    obtain ⟨M2, e2, F2, E2⟩ := c_failT M 3 j
    obtain ⟨N2, g2, G2, R2⟩ := r_failsT er6 rt.1 3
    refine OC_no (c := 3) (p := j) (M' := M2) (N' := N2) ?_ ?_ F2 G2 (by omega) (by omega) E2 R2
    · rw [show (3 : Int32) = nI 3 from rfl, e2]; rfl
    · rw [show (3 : Int32) = nI 3 from rfl, g2]; rfl
end LK3
