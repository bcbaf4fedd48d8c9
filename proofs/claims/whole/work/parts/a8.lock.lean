/-! LOCKSTEP of both readers: one statement -/
def DcT (c k : Nat) : Prop := (11 ≤ c ∧ c ≤ 20) ∨ (41 ≤ c ∧ c ≤ 43) ∨ (c = 32 ∧ 2 ≤ k ∧ k ≤ 5) ∨ c = 36
def DrT (c k : Nat) : Prop := c = 1 ∨ c = 6 ∨ c = 8 ∨ c = 9 ∨ c = 10 ∨ (c = 0 ∧ ((10 ≤ k ∧ k ≤ 14) ∨ k = 16 ∨ (22 ≤ k ∧ k ≤ 27) ∨ k = 30 ∨ k = 31))
def sbits (m0 m1 : Bool) : Int32 := nI ((if m0 = true then 1 else 0) + (if m1 = true then 2 else 0))
/-- both stand in the text without an error -/
def SQ (M N : gMem) (B : Nat → Nat) (L j : Nat) (S : gS) (m0 m1 : Bool) : Prop := (TXc M B L ∧ TXr N B L) ∧ RT N B L j ∧ (M.1 32 4 = nI 0 ∧ M.1 32 5 = mO 1) ∧ (N.1 0 26 = nI 0 ∧ N.1 0 27 = mO 1) ∧ (CS M 11 S ∧ RS N S) ∧ M.1 36 0 = ib m0 ∧ M.1 36 1 = ib m1 ∧ N.1 0 31 = sbits m0 m1
/-- behind i; the token behind the spaces is looked at -/
def SR (M N : gMem) (B : Nat → Nat) (L i : Nat) (S : gS) (m0 m1 : Bool) : Prop := i ≤ L ∧ M.1 32 2 = nI i ∧ SQ M N B L (tSk B L i) S m0 m1
/-- behind the word at j -/
def SB (M N : gMem) (B : Nat → Nat) (L j : Nat) (S : gS) (m0 m1 : Bool) : Prop := tL B L j = true ∧ M.1 32 3 = nI j ∧ M.1 32 2 = nI (tWe B L j) ∧ SQ M N B L j S m0 m1
/-- both agree -/
def OC (M N : gMem) (B : Nat → Nat) (L j : Nat) (x y : Option (Int32 × gMem)) : Prop := ∃ b M' N', x = some (ib b, M') ∧ y = some (ib b, N') ∧ gFr DcT M M' ∧ gFr DrT N N' ∧ (b = false → ∃ c p, 1 ≤ c ∧ c ≤ 9 ∧ p ≤ 900 ∧ EC M' c p ∧ ER N' c p) ∧ (b = true → ∃ i S' m0 m1, j < i ∧ 1 ≤ sN S' ∧ SR M' N' B L i S' m0 m1)
section LK
variable {M N : gMem} {B : Nat → Nat} {L i j : Nat} {S : gS} {m0 m1 : Bool} {x y : Option (Int32 × gMem)}
theorem OC_no {M' N' : gMem} {c p : Nat} (hx : x = some (nI 0, M')) (hy : y = some (nI 0, N')) (F : gFr DcT M M') (G : gFr DrT N N') (hc : 1 ≤ c ∧ c ≤ 9) (hp : p ≤ 900) (e : EC M' c p) (r : ER N' c p) : OC M N B L j x y :=
  ⟨false, M', N', hx, hy, F, G, fun _ => ⟨c, p, hc.1, hc.2, hp, e, r⟩, fun z => by cases z⟩
theorem Drd_DcT {c k : Nat} (z : Drd c k) : DcT c k := by unfold Drd at z; unfold DcT; omega
theorem Drr_DrT {c k : Nat} (z : Drr c k) : DrT c k := by unfold Drr at z; unfold DrT; omega
theorem Dto_DrT {c k : Nat} (z : Dto c k) : DrT c k := by unfold Dto at z; unfold DrT; omega
theorem Drd_CS {M' : gMem} (h : CS M 11 S) (F : gFr Drd M M') : CS M' 11 S := CS_fr h F (fun j k hj z => by unfold Drd at z; omega)
theorem Dto_RS {N' : gMem} (h : RS N S) (F : gFr Dto N N') : RS N' S := RS_of h (gFr_c1 F (fun k z => by unfold Dto at z; omega))
theorem Dto_TX {N' : gMem} (h : TXr N B L) (F : gFr Dto N N') : TXr N' B L := TXr_fr h F (fun c k z w => by unfold Dto at w; omega)
theorem c_failT (M : gMem) (c p : Nat) : ∃ r, fX5_fail (nI c) (nI p) M = some (nI 0, r) ∧ gFr DcT M r ∧ EC r c p := by
  obtain ⟨r, e, F, E⟩ := c_fail M c p
  exact ⟨r, e, gFr_mo F (fun c k z => by unfold DcT; omega), E⟩
theorem r_failsT (h : N.1 0 26 = nI 0) (hj : N.1 0 23 = nI j) (c : Nat) : ∃ r, fX11_fails (nI c) N = some (nI 0, r) ∧ gFr DrT N r ∧ ER r c j := by
  obtain ⟨r, e, F, E⟩ := r_fails h hj c
  exact ⟨r, e, gFr_mo F (fun c k z => by unfold DrT; omega), E⟩
/-- the reference goes on from its token -/
theorem r_goT (hx : TXr N B L) (h : RT N B L j) (hj : j ≤ L) : ∃ r, fX11_goesOn N = some r ∧ gFr Dto N r ∧ RT r B L (tSk B L (tTe B L j)) := r_goesOn hx h.2.1 (tTe_b hj).2
theorem lk_task (h : SB M N B L j S m0 m1) : OC M N B L j (fX1_readNewTask 11 M) (fX11_readsTask N) := by
  classical
  obtain ⟨hl, p3, p2, ⟨tc, tr⟩, rt, ⟨ec4, ec5⟩, ⟨er6, er7⟩, ⟨hc, hr⟩, f0, f1, f2⟩ := h
  have hjL : j < L := (of_decide_eq_true hl).1
  have hL := tc.2.1
  have hn := hc.2.1.1
  obtain ⟨b1, b2⟩ := tWe_b (B := B) (Nat.le_of_lt hjL)
  have gt := tWe_gt hl
  have en := cs_n hc
  have rn : N.1 1 0 = nI (sN S) := hr.1.1.1
  have cx : fX1_readNewTask 11 M = if nI (sN S) < (24 : Int32) then ((fX5_readName M).bind fun v2 => if (lg_cmp v2.1 (0 : Int64)) = 0 then (some ((0 : Int32), v2.2)) else (fX2_taskNamed 11 v2.1 v2.2).bind fun v4 => if v4 = (-1 : Int32) then ((fX5_readNumber (1 : Int32) (9 : Int32) v2.2).bind fun v6 => if v6.1 = (-1 : Int32) then (some ((0 : Int32), v6.2)) else (fX2_addTask 11 v2.1 v6.1 v6.2).bind fun v8 => some ((1 : Int32), v8)) else (fX5_fail (3 : Int32) (v2.2.1 32 3) v2.2).bind fun v9 => (zv v9.1).bind fun v10 => some (v10, v9.2)) else (fX5_fail (4 : Int32) (nI j) M).bind fun v11 => (zv v11.1).bind fun v12 => some (v12, v11.2) := by
    unfold fX1_readNewTask
    rw [en, p3]
  have ry : fX11_readsTask N = if nI (sN S) = (24 : Int32) then ((fX11_fails (4 : Int32) N).bind fun v3 => (zv v3.1).bind fun v4 => some (v4, v3.2)) else (fX11_goesOn N).bind fun v5 => (fX11_isNameHere v5).bind fun v6 => if v6 = 0 then ((fX11_fails (1 : Int32) v5).bind fun v8 => (zv v8.1).bind fun v9 => some (v9, v8.2)) else (fX11_named (v5.1 0 23) ((v5.1 0 22) - (v5.1 0 23)) v5).bind fun v10 => if v10 = (-1 : Int32) then ((nm (v5.1 0 23)).bind fun v12 => (nm ((v5.1 0 22) - (v5.1 0 23))).bind fun v13 => (fX11_goesOn v5).bind fun v14 => (fX11_takes (1 : Int32) (9 : Int32) v14).bind fun v15 => if v15.1 = 0 then (some ((0 : Int32), v15.2)) else (fX11_joins v12 v13 (v15.2.1 0 30) v15.2).bind fun v17 => some ((1 : Int32), v17.2)) else (fX11_fails (3 : Int32) v5).bind fun v18 => (zv v18.1).bind fun v19 => some (v19, v18.2) := by
    unfold fX11_readsTask
    rw [show (0 : Int32) = nI 0 from rfl, p_rI (by omega) (by omega), rn, p_bnd]
  rw [cx, ry]
  by_cases c24 : sN S < 24
  · rw [if_pos (by rw [show (24 : Int32) = nI 24 from rfl, p_lt (by omega) (by omega)]; exact c24), if_neg (by rw [show (24 : Int32) = nI 24 from rfl, p_eq (by omega) (by omega)]; omega)]
    obtain ⟨M1, v, e1, F1, y1, y2⟩ := c_readName tc p2 b2
    obtain ⟨N1, g1, G1, T1⟩ := r_goT tr rt (Nat.le_of_lt hjL)
    rw [tTe_L hl] at T1
    have tr1 := Dto_TX tr G1
    have hr1 := Dto_RS hr G1
    have tc1 := TXc_fr tc F1
    have hc1 := Drd_CS hc F1
    obtain ⟨d1, d2⟩ := tSk_b (B := B) b2
    generalize hj2 : tSk B L (tWe B L j) = j2 at y1 y2 T1 d1 d2
    have er1 : N1.1 0 26 = nI 0 := by rw [(G1 0 26 (by unfold Dto; omega)).1]; exact er6
    have er2 : N1.1 0 27 = mO 1 := by rw [(G1 0 27 (by unfold Dto; omega)).1]; exact er7
    rw [e1, g1, p_bnd, p_bnd, r_isNameHere T1 d2 hL, p_bnd]
    by_cases c : tNm B L j2
    · obtain ⟨z1, z2, z3, z4, z5⟩ := y1 c
      have ok := tW_ok c
      have nz : ¬ lg_cmp (lN (gPk (tW B L j2))) (0 : Int64) = 0 := by
        show ¬ lg_cmp (lN (gPk (tW B L j2))) (lN 0) = nI 0
        rw [cmp_0 (sNok_48 ok) (by decide)]; have := sNok_0 ok; omega
      rw [z1]
      dsimp only
      rw [if_neg nz, decide_eq_true c, if_neg (show ¬ ib true = 0 by decide), cs_taskNamed hc1 ok, r_namedHere hr1 tr1 T1 d2 c, p_bnd, p_bnd]
      by_cases d : nmF S (tW B L j2) < sN S
      · have eg : gNo (nmF S (tW B L j2)) (sN S) = nI (nmF S (tW B L j2)) := if_pos d
        have ne : ¬ nI (nmF S (tW B L j2)) = (-1 : Int32) := by rw [show (-1 : Int32) = mO 1 from rfl, p_eq_mO (by omega) (by omega) (by omega)]; exact id
        rw [eg, if_neg ne, if_neg ne, z2]
        obtain ⟨M2, e2, F2, E2⟩ := c_failT M1 3 j2
        obtain ⟨N2, g2, G2, R2⟩ := r_failsT er1 T1.1 3
        refine OC_no (c := 3) (p := j2) (M' := M2) (N' := N2) ?_ ?_ (gFr_tr (gFr_mo F1 (fun _ _ => Drd_DcT)) F2) (gFr_tr (gFr_mo G1 (fun _ _ => Dto_DrT)) G2) (by omega) (by omega) E2 R2
        · rw [show (3 : Int32) = nI 3 from rfl, e2]; rfl
        · rw [show (3 : Int32) = nI 3 from rfl, g2]; rfl
      · have eg : gNo (nmF S (tW B L j2)) (sN S) = (-1 : Int32) := if_neg d
        rw [eg, if_pos rfl, if_pos rfl, p_nm, p_bnd, p_nm, p_bnd]
        obtain ⟨k1, k2⟩ := tWe_b (B := B) d2
        have gt2 := tWe_gt c.1
        obtain ⟨M2, v2, e2, F2, w1, w2, w3⟩ := c_readNumber tc1 z3 k2 (lo := 1) (hi' := 9) (by omega) (by omega)
        obtain ⟨N2, g2, G2, T2⟩ := r_goT tr1 T1 d2
        rw [tTe_L c.1] at T2
        have tr2 := Dto_TX tr1 G2
        have hr2 := Dto_RS hr1 G2
        have tc2 := TXc_fr tc1 F2
        have hc2 := Drd_CS hc1 F2
        obtain ⟨d3, d4⟩ := tSk_b (B := B) k2
        have er3 : N2.1 0 26 = nI 0 := by rw [(G2 0 26 (by unfold Dto; omega)).1]; exact er1
        have er4 : N2.1 0 27 = mO 1 := by rw [(G2 0 27 (by unfold Dto; omega)).1]; exact er2
        obtain ⟨N3, b3, g3, G3, x1, x2, x3⟩ := r_takes tr2 T2 d4 er3 (lo := 1) (hi := 9) (by omega) (by omega)
        generalize hj3 : tSk B L (tWe B L j2) = j3 at w1 w2 w3 T2 d3 d4 x1 x2 x3
        have FM : gFr DcT M M2 := gFr_tr (gFr_mo F1 (fun _ _ => Drd_DcT)) (gFr_mo F2 (fun _ _ => Drd_DcT))
        have FN : gFr DrT N N3 := gFr_tr (gFr_mo (gFr_tr G1 G2) (fun _ _ => Dto_DrT)) (gFr_mo G3 (fun _ _ => Drr_DrT))
        rw [show fX5_readNumber (1 : Int32) (9 : Int32) M1 = _ from e2, g2, p_bnd, p_bnd, show fX11_takes (1 : Int32) (9 : Int32) N2 = _ from g3, p_bnd]
        dsimp only
        by_cases nu : tNu B L j3
        · by_cases rg : 1 ≤ tV B L j3 ∧ tV B L j3 ≤ 9
          · obtain ⟨q1, q2, q3, q4⟩ := w3 nu rg
            obtain ⟨u1, u2, u3, u4, u5⟩ := x3 nu rg
            have tr3 := Drr_TX tr2 G3
            have hr3 := Drr_RS hr2 G3
            obtain ⟨M4, e4, F4, C4⟩ := cs_addTask (h := tV B L j3) hc2 c24 ok d rg.1 rg.2
            obtain ⟨N4, g4, G4, R4⟩ := rs_joins (B := B) (j := j2) (n := tWe B L j2 - j2) (h := tV B L j3) hr3 c24 ok d rg.1 rg.2 (by omega) (fun k hk => (tr3.2.2 _ (tWe_bytes hk).1).2)
            obtain ⟨n1, n2⟩ := tNe_b (B := B) d4
            have gt3 := tNe_gt nu.1
            have FM4 : ∀ c k, ¬ (11 ≤ c ∧ c ≤ 20) → M4.1 c k = M2.1 c k := fun c k z => (F4 c k (by unfold Dnw; omega)).1
            have FN4 : ∀ c k, c ≠ 1 → N4.1 c k = N3.1 c k := fun c k z => (G4 c k z).1
            refine ⟨true, M4, N4, ?_, ?_, gFr_tr FM (gFr_mo F4 (fun c k z => by unfold Dnw at z; unfold DcT; omega)), gFr_tr FN (gFr_mo G4 (fun c k z => Or.inl z)), fun z => Bool.noConfusion z, fun _ => ⟨tNe B L j3, _, m0, m1, by omega, ?_, n2, ?_, ⟨?_, ?_⟩, ?_, ⟨?_, ?_⟩, ⟨?_, ?_⟩, ⟨C4, R4⟩, ?_, ?_, ?_⟩⟩
            · rw [q1, if_neg (show ¬ nI (tV B L j3) = (-1 : Int32) by rw [show (-1 : Int32) = mO 1 from rfl, p_eq_mO (by omega) (by omega) (by omega)]; exact id), e4]; rfl
            · rw [u1, if_neg (show ¬ ib true = 0 by decide), RT_len T1 d2, T1.1, tTe_L c.1, u2, g4]; rfl
            · rw [sNew_n]; omega
            · rw [FM4 _ _ (by omega)]; exact q2
            · exact TXc_of tc2 (FM4 _ _ (by omega)) (funext fun k => FM4 _ _ (by omega))
            · exact TXr_of tr3 (FN4 _ _ (by omega)) (funext fun k => FN4 _ _ (by omega))
            · exact RT_of u3 G4 (fun k a b z => by omega)
            · rw [FM4 _ _ (by omega), q3, z4]; exact ec4
            · rw [FM4 _ _ (by omega), q4, z5]; exact ec5
            · rw [FN4 _ _ (by omega)]; exact u4
            · rw [FN4 _ _ (by omega), u5]; exact er4
            · rw [FM4 _ _ (by omega), (F2 36 0 (by unfold Drd; omega)).1, (F1 36 0 (by unfold Drd; omega)).1]; exact f0
            · rw [FM4 _ _ (by omega), (F2 36 1 (by unfold Drd; omega)).1, (F1 36 1 (by unfold Drd; omega)).1]; exact f1
            · rw [FN4 _ _ (by omega), (G3 0 31 (by unfold Drr; omega)).1, (G2 0 31 (by unfold Dto; omega)).1, (G1 0 31 (by unfold Dto; omega)).1]; exact f2
          · obtain ⟨q1, q2⟩ := w2 nu rg
            obtain ⟨u1, u2⟩ := x2 nu rg
            refine OC_no (c := 2) (p := j3) (M' := M2) (N' := N3) ?_ ?_ FM FN (by omega) (by omega) q2 u2
            · rw [q1, if_pos (show mO 1 = (-1 : Int32) from rfl)]; rfl
            · rw [u1, if_pos (show ib false = 0 from rfl)]; rfl
        · obtain ⟨q1, q2⟩ := w1 nu
          obtain ⟨u1, u2⟩ := x1 nu
          refine OC_no (c := 1) (p := j3) (M' := M2) (N' := N3) ?_ ?_ FM FN (by omega) (by omega) q2 u2
          · rw [q1, if_pos (show mO 1 = (-1 : Int32) from rfl)]; rfl
          · rw [u1, if_pos (show ib false = 0 from rfl)]; rfl
    · obtain ⟨z1, z2⟩ := y2 c
      obtain ⟨N2, g2, G2, R2⟩ := r_failsT er1 T1.1 1
      refine OC_no (c := 1) (p := j2) (M' := M1) (N' := N2) ?_ ?_ (gFr_mo F1 (fun _ _ => Drd_DcT)) (gFr_tr (gFr_mo G1 (fun _ _ => Dto_DrT)) G2) (by omega) (by omega) z2 R2
      · rw [z1]; rfl
      · rw [decide_eq_false c, if_pos (show ib false = 0 from rfl), show (1 : Int32) = nI 1 from rfl, g2]; rfl
  · rw [if_neg (by rw [show (24 : Int32) = nI 24 from rfl, p_lt (by omega) (by omega)]; exact c24), if_pos (by rw [show sN S = 24 by omega]; rfl)]
    obtain ⟨M2, e2, F2, E2⟩ := c_failT M 4 j
    obtain ⟨N2, g2, G2, R2⟩ := r_failsT er6 rt.1 4
    refine OC_no (c := 4) (p := j) (M' := M2) (N' := N2) ?_ ?_ F2 G2 (by omega) (by omega) E2 R2
    · rw [show (4 : Int32) = nI 4 from rfl, e2]; rfl
    · rw [show (4 : Int32) = nI 4 from rfl, g2]; rfl
end LK
