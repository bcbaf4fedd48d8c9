/-! ORDERS are read: an order, the loops -/
section OD3
variable {M N M1 N1 : gMem} {B : Nat → Nat} {L i j n q : Nat} {S : gS} {x y : Option (Int32 × gMem)}
theorem OLD_tr {M2 N2 : gMem} (h : OLD M N M1 N1 n) (h2 : OLD M1 N1 M2 N2 n) : OLD M N M2 N2 n :=
  ⟨fun k hk => ⟨(h2.1 k hk).1.trans (h.1 k hk).1, (h2.1 k hk).2.1.trans (h.1 k hk).2.1, (h2.1 k hk).2.2.trans (h.1 k hk).2.2⟩, fun k hk => (h2.2 k hk).trans (h.2 k hk)⟩
theorem OF_fr (h : OF M1 N1 B L j n S x y) (F : gFr DcO M M1) (G : gFr DrO N N1) (o : OLD M N M1 N1 n) : OF M N B L j n S x y := by
  obtain ⟨M', N', F1, G1, q⟩ := h
  refine ⟨M', N', gFr_tr F F1, gFr_tr G G1, q.imp id ?_⟩
  rintro ⟨a, b, i, c, d, e, f, g⟩
  exact ⟨a, b, i, c, d, e, OLD_tr o f, g⟩
theorem OF_zv (h : OF M N B L j n S x y) : OF M N B L j n S (x.bind fun v => (zv v.1).bind fun w => some (w, v.2)) y := by
  obtain ⟨M', N', F1, G1, q⟩ := h
  refine ⟨M', N', F1, G1, ?_⟩
  rcases q with ⟨a, b⟩ | ⟨a, b⟩
  · exact Or.inl ⟨by rw [a, p_bnd]; rfl, b⟩
  · exact Or.inr ⟨by rw [a, p_bnd]; rfl, b⟩
theorem OF_no {M' N' : gMem} {c p : Nat} (hx : x = some (nI 0, M')) (hy : y = some (nI 0, N')) (F : gFr DcO M M') (G : gFr DrO N N') (hc : 1 ≤ c ∧ c ≤ 9) (hp : p ≤ 900) (e : EC M' c p) (r : ER N' c p) : OF M N B L j n S x y :=
  ⟨M', N', F, G, Or.inl ⟨hx, hy, c, p, hc.1, hc.2, hp, e, r⟩⟩
theorem lk_front (h : SO M N B L i n S) : OF M N B L i n S (fX3_readOrder 1 M) (fX11_readsOrder N) := by
  obtain ⟨hi, p2, ⟨tc, tr⟩, rt, ⟨a4, a5⟩, ⟨a6, a7⟩, ⟨hc, hr⟩, ⟨c37, c33⟩, n30⟩ := id h
  have hL := tc.2.1
  obtain ⟨b1, b2⟩ := tSk_b (B := B) hi
  obtain ⟨M1, e1, F1, s1, y1, y2⟩ := c_readWord tc p2 hi
  have sy := r_says tr rt b2 a6
  have tc1 := TXc_fr tc F1
  have F1' : gFr DcO M M1 := gFr_mo F1 (fun _ _ => Drd_DcO)
  have ry : fX11_readsOrder N = (fX11_orderHere N).bind fun v1 => if v1 = (-1 : Int32) then ((fX11_fails (1 : Int32) N).bind fun v3 => (zv v3.1).bind fun v4 => some (v4, v3.2)) else if nI n = (30 : Int32) then ((fX11_fails (4 : Int32) N).bind fun v6 => (zv v6.1).bind fun v7 => some (v7, v6.2)) else (fX11_goesOn N).bind fun v8 => (wI v8 13 90 ((3 : Int32) * (v8.1 0 33)) v1).bind fun M9 => yR v1 M9 := by
    unfold fX11_readsOrder
    rw [c33]; rfl
  generalize hjj : tSk B L i = j at *
  rw [ry]
  cases hl : tL B L j
  · have k0 : decide (tTk B L j = 1) = false := decide_eq_false (fun z => by rw [tTk_1.mp z] at hl; cases hl)
    have rk : fX11_orderHere N = some (mO 1) := by
      unfold fX11_orderHere
      rw [sy 1, sy 4, sy 5, sy 6, sy 2, sy 3, sy 7, k0]; rfl
    obtain ⟨N2, g2, G2, R2⟩ := r_fails a6 rt.1 1
    refine OF_no (c := 1) (p := j) (M' := M1) (N' := N2) ?_ ?_ F1' (gFr_mo G2 (fun c k z => by unfold DrO; omega)) (by omega) (by omega) (y2 hl) R2
    · unfold fX3_readOrder
      rw [e1, p_bnd, hl]; rfl
    · rw [rk, p_bnd, if_pos (show mO 1 = (-1 : Int32) from rfl), show (1 : Int32) = nI 1 from rfl, g2]; rfl
  · obtain ⟨z1, z2, z3⟩ := y1 hl
    obtain ⟨c1, c2⟩ := tWe_b (B := B) b2
    have gt := tWe_gt hl
    have wi : ∀ k, fX5_wordIs k M1 = some (ib (tWd B j (tWe B L j - j) k)) := fun k => c_wordIs (M := M1) (B := B) s1 (by rw [z1]; congr 1; omega) (by omega) (fun q hq => by
      obtain ⟨w1, w2, w3⟩ := tWe_bytes hq
      rw [(tc1.2.2 _ w1).2, sg_lo (by omega)]) k
    have wr : ∀ k, fX11_says k N = some (ib (tWd B j (tWe B L j - j) k)) := fun k => by
      rw [sy k, decide_eq_true (tTk_1.mpr hl), tTe_L hl]; rfl
    have ck := c_kind wi
    have rk := r_kind wr
    have k7 := kd_le (B := B) (j := j) (n := tWe B L j - j)
    generalize kd B j (tWe B L j - j) = q at ck rk k7
    have m37 : M1.1 37 3 = nI n := by rw [(F1 37 3 (by unfold Drd; omega)).1]; exact c37
    have cx : fX3_readOrder 1 M = if nI q = 0 then ((fX5_fail (1 : Int32) (nI j) M1).bind fun v5 => (zv v5.1).bind fun v6 => some (v6, v5.2)) else if nI n < (30 : Int32) then ((wI M1 38 30 (nI n) (nI q)).bind fun M8 => (wI M8 39 30 (M8.1 37 3) (0 : Int32)).bind fun M9 => (wI M9 40 30 (M9.1 37 3) (0 : Int32)).bind fun M10 => if nI q = (4 : Int32) then ((fX3_readFirst (22 : Int32) M10).bind fun v12 => (zv v12.1).bind fun v13 => some (v13, v12.2)) else if nI q = (5 : Int32) then ((fX3_readFirst (2 : Int32) M10).bind fun v15 => (zv v15.1).bind fun v16 => some (v16, v15.2)) else if nI q = (6 : Int32) then ((fX3_readFirst (1 : Int32) M10).bind fun v18 => (zv v18.1).bind fun v19 => some (v19, v18.2)) else if nI q = (7 : Int32) then (some ((1 : Int32), M10)) else (fX3_readTasks 1 (nI q) M10).bind fun v21 => (zv v21.1).bind fun v22 => some (v22, v21.2)) else (fX5_fail (4 : Int32) (nI j) M1).bind fun v23 => (zv v23.1).bind fun v24 => some (v24, v23.2) := by
      unfold fX3_readOrder
      rw [e1, p_bnd, hl]
      dsimp only
      rw [if_neg (show ¬ ib true = 0 by decide), ck, p_bnd, s1, m37]
    rw [cx, rk, p_bnd]
    by_cases q0 : q = 0
    · rw [if_pos q0, if_pos (show mO 1 = (-1 : Int32) from rfl), if_pos (by rw [q0]; rfl)]
      obtain ⟨M2, e2, F2, E2⟩ := c_fail M1 1 j
      obtain ⟨N2, g2, G2, R2⟩ := r_fails a6 rt.1 1
      refine OF_no (c := 1) (p := j) (M' := M2) (N' := N2) ?_ ?_ (gFr_tr F1' (gFr_mo F2 (fun c k z => by unfold DcO; omega))) (gFr_mo G2 (fun c k z => by unfold DrO; omega)) (by omega) (by omega) E2 R2
      · rw [show (1 : Int32) = nI 1 from rfl, e2]; rfl
      · rw [show (1 : Int32) = nI 1 from rfl, g2]; rfl
    · rw [if_neg q0, if_neg (show ¬ nI (q - 1) = (-1 : Int32) by rw [show (-1 : Int32) = mO 1 from rfl, p_eq_mO (by omega) (by omega) (by omega)]; exact id), if_neg (show ¬ nI q = 0 by rw [show (0 : Int32) = nI 0 from rfl, p_eq (by omega) (by omega)]; exact q0)]
      by_cases n3 : n < 30
      · rw [if_pos (by rw [show (30 : Int32) = nI 30 from rfl, p_lt (by omega) (by omega)]; exact n3), if_neg (by rw [show (30 : Int32) = nI 30 from rfl, p_eq (by omega) (by omega)]; omega)]
        obtain ⟨N1, g1, G1, T1⟩ := r_goT tr rt b2
        rw [tTe_L hl] at T1
        have n33 : N1.1 0 33 = nI n := by rw [(G1 0 33 (by unfold Dto; omega)).1]; exact c33
        generalize hM10 : gI (gI (gI M1 38 n (nI q)) 39 n (nI 0)) 40 n (nI 0) = M10
        have F10 : gFr (fun c k => (38 ≤ c ∧ c ≤ 40) ∧ k = n) M1 M10 := by rw [← hM10]; exact gFr_trI (gFr_trI (gFr_I (by omega)) (by omega)) (by omega)
        have G9 : gFr (fun c k => c = 13 ∧ k = 3 * n) N1 (gI N1 13 (3 * n) (nI (q - 1))) := gFr_I ⟨rfl, rfl⟩
        have FM : gFr DcO M M10 := gFr_tr F1' (gFr_mo F10 (fun c k z => by unfold DcO; omega))
        have FN : gFr DrO N (gI N1 13 (3 * n) (nI (q - 1))) := gFr_tr (gFr_mo G1 (fun _ _ => Dto_DrO)) (gFr_mo G9 (fun c k z => by unfold DrO; omega))
        have hs : BS M10 (gI N1 13 (3 * n) (nI (q - 1))) B L (tWe B L j) n S (q - 1) := by
          refine ⟨SO_fr h FM FN c2 ((F10 32 2 (by omega)).1.trans z1) (RT_of T1 G9 (fun k a b z => by omega)) ((F10 32 4 (by omega)).1.trans z2) ((F10 32 5 (by omega)).1.trans z3) ?_ ?_ ((F10 37 3 (by omega)).1.trans m37) ((G9 0 33 (by omega)).1.trans n33), n3, ?_, p_gI_s _ _ _ _⟩
          · rw [(G9 0 26 (by omega)).1, (G1 0 26 (by unfold Dto; omega)).1]; exact a6
          · rw [(G9 0 27 (by omega)).1, (G1 0 27 (by unfold Dto; omega)).1]
          · rw [← hM10, p_gI_n (Or.inl (by decide)), p_gI_n (Or.inl (by decide)), p_gI_s]; congr 1; omega
        have old : OLD M N M10 (gI N1 13 (3 * n) (nI (q - 1))) n := ⟨fun k hk => ⟨by rw [(F10 38 k (by omega)).1, (F1 38 k (by unfold Drd; omega)).1], by rw [(F10 39 k (by omega)).1, (F1 39 k (by unfold Drd; omega)).1], by rw [(F10 40 k (by omega)).1, (F1 40 k (by unfold Drd; omega)).1]⟩, fun k hk => by rw [(G9 13 k (by omega)).1, (G1 13 k (by unfold Dto; omega)).1]⟩
        have w37 : (gI M1 38 n (nI q)).1 37 3 = nI n := by rw [p_gI_n (Or.inl (by decide))]; exact m37
        have w37' : (gI (gI M1 38 n (nI q)) 39 n (nI 0)).1 37 3 = nI n := by rw [p_gI_n (Or.inl (by decide))]; exact w37
        rw [p_wI (by omega) (by omega), p_bnd, w37, show (0 : Int32) = nI 0 from rfl, p_wI (by omega) (by omega), p_bnd, w37', p_wI (by omega) (by omega), p_bnd, hM10, g1, p_bnd, n33, show (3 : Int32) = nI 3 from rfl, p_mul, p_wI (by omega) (by omega), p_bnd]
        refine OF_fr ?_ FM FN old
        have ji : i < tWe B L j := by omega
        rcases (show q = 1 ∨ q = 2 ∨ q = 3 ∨ q = 4 ∨ q = 5 ∨ q = 6 ∨ q = 7 by omega) with rfl | rfl | rfl | rfl | rfl | rfl | rfl
        · rw [if_neg (by decide), if_neg (by decide), if_neg (by decide), if_neg (by decide)]
          exact OF_zv (fo_task (q := 0) hs ji (by omega))
        · rw [if_neg (by decide), if_neg (by decide), if_neg (by decide), if_neg (by decide)]
          exact OF_zv (fo_task (q := 1) hs ji (by omega))
        · rw [if_neg (by decide), if_neg (by decide), if_neg (by decide), if_neg (by decide)]
          exact OF_zv (fo_task (q := 2) hs ji (by omega))
        · rw [if_pos (show nI 4 = (4 : Int32) from rfl)]
          exact OF_zv (fo_num (q := 3) (hh := 22) hs ji (by omega))
        · rw [if_neg (by decide), if_pos (show nI 5 = (5 : Int32) from rfl)]
          exact OF_zv (fo_num (q := 4) (hh := 2) hs ji (by omega))
        · rw [if_neg (by decide), if_neg (by decide), if_pos (show nI 6 = (6 : Int32) from rfl)]
          exact OF_zv (fo_num (q := 5) (hh := 1) hs ji (by omega))
        · rw [if_neg (by decide), if_neg (by decide), if_neg (by decide), if_pos (show nI 7 = (7 : Int32) from rfl)]
          exact fo_ref hs ji
      · rw [if_neg (by rw [show (30 : Int32) = nI 30 from rfl, p_lt (by omega) (by omega)]; exact n3), if_pos (by rw [show n = 30 by omega]; rfl)]
        obtain ⟨M2, e2, F2, E2⟩ := c_fail M1 4 j
        obtain ⟨N2, g2, G2, R2⟩ := r_fails a6 rt.1 4
        refine OF_no (c := 4) (p := j) (M' := M2) (N' := N2) ?_ ?_ (gFr_tr F1' (gFr_mo F2 (fun c k z => by unfold DcO; omega))) (gFr_mo G2 (fun c k z => by unfold DrO; omega)) (by omega) (by omega) E2 R2
        · rw [show (4 : Int32) = nI 4 from rfl, e2]; rfl
        · rw [show (4 : Int32) = nI 4 from rfl, g2]; rfl
/-- both have read the orders -/
def FIO (M N : gMem) (B : Nat → Nat) (L : Nat) (S : gS) (x y : Option (gMem ⊕ (Int32 × gMem))) : Prop := ∃ M' N', gFr DcO M M' ∧ gFr DrO N N' ∧ ((x = some (.inl M') ∧ y = some (.inl N') ∧ ∃ i n, SO M' N' B L i n S ∧ ∀ k, k < n → ORD M' N' (sN S) k) ∨ (x = some (.inr (nI 0, M')) ∧ y = some (.inr (nI 0, N')) ∧ ∃ c p, 1 ≤ c ∧ c ≤ 9 ∧ p ≤ 900 ∧ EC M' c p ∧ ER N' c p))
theorem lk_ords : ∀ (d : Nat) (M N : gMem) (i n f f' : Nat), 31 - n < d → d < f → d < f' → SO M N B L i n S → tSk B L i = i → (∀ k, k < n → ORD M N (sN S) k) → FIO M N B L S (gLoop (fun z9 => fX3_readAll_l15 1 z9.1 z9.2) f (nI n, M)) (gLoop (fun z9 => fX11_readsOrders_l5 z9) f' N) := by
  intro d
  induction d with
  | zero => intro M N i n f f' h; omega
  | succ d ih =>
    intro M N i n f f' hd hf hf' h id0 od
    obtain ⟨hi, p2, ⟨tc, tr⟩, rt, ⟨a4, a5⟩, ⟨a6, a7⟩, ⟨hc, hr⟩, ⟨c37, c33⟩, n30⟩ := id h
    have hL := tc.2.1
    have ie := c_isAtEnd tc p2 hi
    rw [id0] at rt
    have k4 := tTk_le (B := B) (L := L) (j := i)
    obtain ⟨f1', rfl⟩ : ∃ q, f' = q + 1 := ⟨f' - 1, by omega⟩
    obtain ⟨f1, rfl⟩ : ∃ q, f = q + 1 := ⟨f - 1, by omega⟩
    have cx : gLoop (fun z9 => fX3_readAll_l15 1 z9.1 z9.2) (f1 + 1) (nI n, M) = (if ib (decide (L ≤ i)) = 0 then ((fX3_readOrder 1 M).bind fun v7 => if v7.1 = 0 then (some (.inr (.inr ((0 : Int32), v7.2)))) else (fX5_readSemicolon v7.2).bind fun v9 => if v9.1 = 0 then (some (.inr (.inr ((0 : Int32), v9.2)))) else (fX5_skipSpaces v9.2).bind fun v11 => (wF v11 37 3 ((v11.1 37 3) + (1 : Int32))).bind fun M12 => some (.inl (nI n + (1 : Int32), M12))) else some (.inr (.inl M)) : Option ((Int32 × gMem) ⊕ (gMem ⊕ (Int32 × gMem)))).bind (gLc (fun z9 => fX3_readAll_l15 1 z9.1 z9.2) f1) := by
      rw [gLoop_s]
      congr 1
      show fX3_readAll_l15 1 (nI n) M = _
      unfold fX3_readAll_l15
      rw [if_neg (by rw [show (30 : Int32) = nI 30 from rfl, p_lt (by omega) (by omega)]; omega), ie, p_bnd]
    have rx : gLoop (fun z9 => fX11_readsOrders_l5 z9) (f1' + 1) N = (if nI (tTk B L i) = 0 then (some (.inr (.inl N))) else (fX11_readsOrder N).bind fun v3 => if v3.1 = 0 then (some (.inr (.inr ((0 : Int32), v3.2)))) else some (.inl v3.2) : Option (gMem ⊕ (gMem ⊕ (Int32 × gMem)))).bind (gLc (fun z9 => fX11_readsOrders_l5 z9) f1') := by
      rw [gLoop_s, ← rt.2.2.1]; rfl
    rw [cx, rx]
    by_cases c : i = L
    · rw [decide_eq_true (show L ≤ i by omega), if_neg (show ¬ ib true = 0 by decide), tTk_0.mpr c, if_pos (show nI 0 = 0 from rfl)]
      exact ⟨M, N, gFr_rf, gFr_rf, Or.inl ⟨rfl, rfl, i, n, h, od⟩⟩
    · rw [decide_eq_false (show ¬ L ≤ i by omega), if_pos (show ib false = 0 from rfl), if_neg (show ¬ nI (tTk B L i) = 0 by rw [show (0 : Int32) = nI 0 from rfl, p_eq (by omega) (by omega)]; exact fun z => c (tTk_0.mp z))]
      obtain ⟨M1, N1, F1, G1, o⟩ := lk_front h
      rcases o with ⟨ex, ey, q⟩ | ⟨ex, ey, i', li, hs, n3, old, new⟩
      · rw [ex, ey]
        exact ⟨M1, N1, F1, G1, Or.inr ⟨rfl, rfl, q⟩⟩
      · obtain ⟨hi', p2', ⟨tc1, tr1⟩, rt1, ⟨d4, d5⟩, ⟨d6, d7⟩, ⟨hc1, hr1⟩, ⟨e37, e33⟩, -⟩ := id hs
        obtain ⟨b1, b2⟩ := tSk_b (B := B) hi'
        obtain ⟨M2, e2, F2, y1, y2⟩ := c_readSemicolon tc1 p2' hi'
        have k3 := tTk_3 (B := B) b2
        have k4' := tTk_le (B := B) (L := L) (j := tSk B L i')
        generalize hj : tSk B L i' = j at *
        have G2 : gFr (fun c k => c = 0 ∧ k = 33) N1 (gI N1 0 33 (nI (n + 1))) := gFr_I ⟨rfl, rfl⟩
        have ty : tR N1 = if nI (tTk B L j) = (3 : Int32) then ((fX11_goesOn (gI N1 0 33 (nI (n + 1)))).bind fun v18 => some ((1 : Int32), v18)) else (fX11_fails (1 : Int32) (gI N1 0 33 (nI (n + 1)))).bind fun v19 => (zv v19.1).bind fun v20 => some (v20, v19.2) := by
          unfold tR
          rw [e33, show nI n + (1 : Int32) = nI (n + 1) from nI_add _ _, p_wF, p_bnd, (G2 0 25 (by omega)).1, rt1.2.2.1]
        rw [ex, p_bnd]
        dsimp only
        rw [if_neg (show ¬ nI 1 = 0 by decide), e2, p_bnd, ey, ty]
        have F2' : gFr DcO M M2 := gFr_tr F1 (gFr_mo F2 (fun _ _ => Drd_DcO))
        by_cases q : j < L ∧ B j = 59
        · obtain ⟨z1, z2, z3⟩ := y1 q
          have q3 : nI (tTk B L j) = (3 : Int32) := by rw [k3.mpr q]; rfl
          rw [decide_eq_true q, if_pos q3]
          dsimp only
          rw [if_neg (show ¬ ib true = 0 by decide)]
          have tc2 := TXc_fr tc1 F2
          obtain ⟨M3, e3, F3, s3⟩ := c_skip tc2 z1 (by omega)
          have tr2 : TXr (gI N1 0 33 (nI (n + 1))) B L := TXr_fr tr1 G2 (fun c k z => by omega)
          have rt2 : RT (gI N1 0 33 (nI (n + 1))) B L j := RT_of rt1 G2 (fun k a b z => by omega)
          obtain ⟨N3, g3, G3, T3⟩ := r_goT tr2 rt2 b2
          have te : tTe B L j = j + 1 := by
            unfold tTe
            rw [if_neg (by omega), if_neg (fun z => by have := of_decide_eq_true z; omega), if_neg (fun z => by have := of_decide_eq_true z; omega)]
          rw [te] at T3
          have id3 := tSk_id (B := B) (L := L) (i := j + 1) (by omega)
          have m3 : M3.1 37 3 = nI n := by rw [(F3 37 3 (by omega)).1, (F2 37 3 (by unfold Drd; omega)).1]; exact e37
          have F4 : gFr (fun c k => c = 37 ∧ k = 3) M3 (gI M3 37 3 (nI (n + 1))) := gFr_I ⟨rfl, rfl⟩
          have FA : gFr DcO M (gI M3 37 3 (nI (n + 1))) := gFr_tr F2' (gFr_tr (gFr_mo F3 (fun c k z => by unfold DcO; omega)) (gFr_mo F4 (fun c k z => by unfold DcO; omega)))
          have GA : gFr DrO N N3 := gFr_tr G1 (gFr_tr (gFr_mo G2 (fun c k z => by unfold DrO; omega)) (gFr_mo G3 (fun _ _ => Dto_DrO)))
          have FB : gFr (fun c k => (c = 32 ∧ 2 ≤ k ∧ k ≤ 5) ∨ (c = 37 ∧ k = 3)) M1 (gI M3 37 3 (nI (n + 1))) := gFr_tr (gFr_mo F2 (fun c k z => by unfold Drd at z; omega)) (gFr_tr (gFr_mo F3 (fun c k z => by omega)) (gFr_mo F4 (fun c k z => by omega)))
          have GB : gFr (fun c k => c = 0 ∧ ((22 ≤ k ∧ k ≤ 25) ∨ k = 33)) N1 N3 := gFr_tr (gFr_mo G2 (fun c k z => by omega)) (gFr_mo G3 (fun c k z => by unfold Dto at z; omega))
          have so : SO (gI M3 37 3 (nI (n + 1))) N3 B L (tSk B L (j + 1)) (n + 1) S := by
            refine ⟨(tSk_b (by omega)).2, (F4 32 2 (by omega)).1.trans s3, ⟨TXc_of tc1 (FB 32 1 (by omega)).1 (gFr_c1 FB fun k z => by omega), TXr_fr tr1 GB (fun c k z => by omega)⟩, by rw [id3]; exact T3, ⟨?_, ?_⟩, ⟨(GB 0 26 (by omega)).1.trans d6, (GB 0 27 (by omega)).1.trans d7⟩, ⟨CS_fr hc1 FB (fun j k hj z => by omega), RS_of hr1 (gFr_c1 GB fun k z => by omega)⟩, ⟨p_gI_s _ _ _ _, ?_⟩, by omega⟩
            · rw [(F4 32 4 (by omega)).1, (F3 32 4 (by omega)).1, z2]; exact d4
            · rw [(F4 32 5 (by omega)).1, (F3 32 5 (by omega)).1, z3]; exact d5
            · rw [(G3 0 33 (by unfold Dto; omega)).1, p_gI_s]
          have od' : ∀ k, k < n + 1 → ORD (gI M3 37 3 (nI (n + 1))) N3 (sN S) k := fun k hk => by
            have oo : OLD M1 N1 (gI M3 37 3 (nI (n + 1))) N3 (n + 1) := ⟨fun k hk => ⟨(FB 38 k (by omega)).1, (FB 39 k (by omega)).1, (FB 40 k (by omega)).1⟩, fun k hk => (GB 13 k (by omega)).1⟩
            refine ORD_old ?_ oo hk
            rcases Nat.lt_or_ge k n with e | e
            · exact ORD_old (od k e) old e
            · rw [show k = n by omega]; exact new
          have := ih _ _ (tSk B L (j + 1)) (n + 1) f1 f1' (by omega) (by omega) (by omega) so id3 od'
          rw [e3, p_bnd, m3, show nI n + (1 : Int32) = nI (n + 1) from nI_add _ _, p_wF, p_bnd, gLc_l, g3, p_bnd, p_bnd]
          dsimp only
          rw [if_neg (show ¬ (1 : Int32) = 0 by decide), gLc_l]
          obtain ⟨M', N', Fz, Gz, qz⟩ := this
          exact ⟨M', N', gFr_tr FA Fz, gFr_tr GA Gz, qz⟩
        · have h26 : (gI N1 0 33 (nI (n + 1))).1 0 26 = nI 0 := by rw [(G2 0 26 (by omega)).1]; exact d6
          have h23 : (gI N1 0 33 (nI (n + 1))).1 0 23 = nI j := by rw [(G2 0 23 (by omega)).1]; exact rt1.1
          obtain ⟨N3, g3, G3, R3⟩ := r_fails h26 h23 1
          rw [decide_eq_false q, if_neg (show ¬ nI (tTk B L j) = (3 : Int32) by rw [show (3 : Int32) = nI 3 from rfl, p_eq (by omega) (by omega)]; exact fun z => q (k3.mp z))]
          dsimp only
          rw [if_pos (show ib false = 0 from rfl), show (1 : Int32) = nI 1 from rfl, g3]
          exact ⟨M2, N3, F2', gFr_tr G1 (gFr_tr (gFr_mo G2 (fun c k z => by unfold DrO; omega)) (gFr_mo G3 (fun c k z => by unfold DrO; omega))), Or.inr ⟨rfl, rfl, 1, j, by omega, by omega, by omega, y2 q, R3⟩⟩
end OD3
