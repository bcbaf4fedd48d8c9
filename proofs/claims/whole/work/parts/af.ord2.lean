/-! ORDERS are read: the front of an order -/
section OD2
variable {M N M1 N1 : gMem} {B : Nat → Nat} {L i j n q hh : Nat} {S : gS} {x y : Option (Int32 × gMem)}
def yR (v1 : Int32) (M9 : gMem) : Option (Int32 × gMem) := (fX11_readsFirst v1 M9).bind fun v10 => if v10.1 = 0 then (some ((0 : Int32), v10.2)) else (wI v10.2 13 90 (((3 : Int32) * (v10.2.1 0 33)) + (1 : Int32)) (v10.2.1 0 30)).bind fun M12 => (fX11_readsSecond v1 M12).bind fun v13 => if v13.1 = 0 then (some ((0 : Int32), v13.2)) else (wI v13.2 13 90 (((3 : Int32) * (v13.2.1 0 33)) + (2 : Int32)) (v13.2.1 0 30)).bind fun M15 => tR M15
def BS (M N : gMem) (B : Nat → Nat) (L i n : Nat) (S : gS) (q : Nat) : Prop := SO M N B L i n S ∧ n < 30 ∧ M.1 38 n = nI (q + 1) ∧ N.1 13 (3 * n) = nI q
theorem SO_fr {M' N' : gMem} {i' : Nat} (h : SO M N B L i n S) (F : gFr DcO M M') (G : gFr DrO N N') (hi : i' ≤ L) (p2 : M'.1 32 2 = nI i') (rt : RT N' B L (tSk B L i')) (e4 : M'.1 32 4 = M.1 32 4) (e5 : M'.1 32 5 = M.1 32 5) (e6 : N'.1 0 26 = nI 0) (e7 : N'.1 0 27 = N.1 0 27) (c1 : M'.1 37 3 = nI n) (c2 : N'.1 0 33 = nI n) : SO M' N' B L i' n S := by
  obtain ⟨-, -, ⟨tc, tr⟩, -, ⟨a4, a5⟩, ⟨a6, a7⟩, ⟨hc, hr⟩, -, n30⟩ := h
  exact ⟨hi, p2, ⟨TXc_of tc (F 32 1 (by unfold DcO; omega)).1 (gFr_c1 F fun k z => by unfold DcO at z; omega), TXr_fr tr G (fun c k z w => by unfold DrO at w; omega)⟩, rt, ⟨e4.trans a4, e5.trans a5⟩, ⟨e6, e7.trans a7⟩, ⟨CS_fr hc F (fun j k hj z => by unfold DcO at z; omega), RS_of hr (gFr_c1 G fun k z => by unfold DrO at z; omega)⟩, ⟨c1, c2⟩, n30⟩
theorem fo_num (h : BS M N B L i n S q) (hj : j < i) (hq : (q = 3 ∧ hh = 22) ∨ (q = 4 ∧ hh = 2) ∨ (q = 5 ∧ hh = 1)) : OF M N B L j n S (fX3_readFirst (nI hh) M) (yR (nI q) N) := by
  obtain ⟨hs, n30, k38, k13⟩ := h
  obtain ⟨hi, p2, ⟨tc, tr⟩, rt, ⟨a4, a5⟩, ⟨a6, a7⟩, ⟨hc, hr⟩, ⟨c37, c33⟩, -⟩ := id hs
  obtain ⟨M1, N1, v, b, e1, g1, F1, G1, o⟩ := ar_num tc tr hi p2 rt a6 (lo := 0) (hh := hh) (by omega) (by omega)
  have m37 : M1.1 37 3 = nI n := by rw [(F1 37 3 (by unfold Drd; omega)).1]; exact c37
  have n33 : N1.1 0 33 = nI n := by rw [(G1 0 33 (by unfold Drr; omega)).1]; exact c33
  have w37 : (gI M1 39 n v).1 37 3 = nI n := by rw [p_gI_n (Or.inl (by decide))]; exact m37
  have cx : fX3_readFirst (nI hh) M = some (if v = (-1 : Int32) then (0 : Int32) else (1 : Int32), gI M1 39 n v) := by
    unfold fX3_readFirst
    rw [show fX5_readNumber (0 : Int32) (nI hh) M = _ from e1, p_bnd]
    dsimp only
    rw [c37, p_wI (by omega) (by omega), p_bnd, w37, p_rI (by omega) (by omega), p_bnd, p_gI_s]
  have rf : fX11_readsFirst (nI q) N = some (ib b, N1) := by
    unfold fX11_readsFirst
    rcases hq with ⟨rfl, rfl⟩ | ⟨rfl, rfl⟩ | ⟨rfl, rfl⟩
    · rw [if_pos (show nI 3 = (3 : Int32) from rfl), show fX11_takes (0 : Int32) (22 : Int32) N = _ from g1, p_bnd]
      show (zv (ib b)).bind _ = _
      rw [p_zvib, p_bnd]
    · rw [if_neg (by decide), if_pos (show nI 4 = (4 : Int32) from rfl), show fX11_takes (0 : Int32) (2 : Int32) N = _ from g1, p_bnd]
      show (zv (ib b)).bind _ = _
      rw [p_zvib, p_bnd]
    · rw [if_neg (by decide), if_neg (by decide), if_pos (show nI 5 = (5 : Int32) from rfl), show fX11_takes (0 : Int32) (1 : Int32) N = _ from g1, p_bnd]
      show (zv (ib b)).bind _ = _
      rw [p_zvib, p_bnd]
  have rs2 : ∀ X, fX11_readsSecond (nI q) X = some (nI 1, X) := fun X => by
    unfold fX11_readsSecond
    rcases hq with ⟨rfl, rfl⟩ | ⟨rfl, rfl⟩ | ⟨rfl, rfl⟩ <;> rw [if_neg (by decide), if_neg (by decide), if_neg (by decide)] <;> rfl
  have FM : gFr DcO M (gI M1 39 n v) := gFr_trI (gFr_mo F1 (fun _ _ => Drd_DcO)) (by unfold DcO; omega)
  have FN : gFr DrO N N1 := gFr_mo G1 (fun _ _ => Drr_DrO)
  rw [cx]
  rcases o with ⟨rfl, rfl, c, p, c1, c9, p9, E1, E2⟩ | ⟨rfl, a, i', rfl, a9, ok, li, lL, q2, q30, T, q4, q5, q6, q7⟩
  · refine ⟨gI M1 39 n (mO 1), N1, FM, FN, Or.inl ⟨?_, ?_, c, p, c1, c9, p9, ?_, E2⟩⟩
    · rw [if_pos (show mO 1 = (-1 : Int32) from rfl)]; rfl
    · unfold yR
      rw [rf]; rfl
    · unfold EC; rw [p_gI_n (Or.inl (by decide)), p_gI_n (Or.inl (by decide))]; exact E1
  · generalize hN2 : gI N1 13 (3 * n + 1) (nI a) = N2
    have z33 : N2.1 0 33 = nI n := by rw [← hN2, p_gI_n (Or.inl (by decide))]; exact n33
    have z30 : N2.1 0 30 = nI a := by rw [← hN2, p_gI_n (Or.inl (by decide))]; exact q30
    have FN2 : gFr DrO N (gI N2 13 (3 * n + 2) (nI a)) := by rw [← hN2]; exact gFr_trI (gFr_trI FN (Or.inr rfl)) (Or.inr rfl)
    have GN : gFr (fun c _ => c = 13) N1 (gI N2 13 (3 * n + 2) (nI a)) := by rw [← hN2]; exact gFr_trI (gFr_I rfl) rfl
    have o0 : ∀ k, (gI N2 13 (3 * n + 2) (nI a)).1 0 k = N1.1 0 k := fun k => by rw [p_gI_n (Or.inl (by decide)), ← hN2, p_gI_n (Or.inl (by decide))]
    refine ⟨gI M1 39 n (nI a), gI N2 13 (3 * n + 2) (nI a), FM, FN2, Or.inr ⟨?_, ?_, i', by omega, SO_fr hs FM FN2 lL ?_ (RT_of T GN (fun k a b z => by omega)) ?_ ?_ ?_ ?_ w37 ?_, n30, ⟨fun k hk => ⟨?_, ?_, ?_⟩, fun k hk => ?_⟩, ⟨q, a, 0, by omega, ?_, ?_, fun _ => ⟨?_, ?_⟩, fun z => by omega, fun z => by omega, fun z => by omega, fun z => by omega, fun z => by omega, fun z => by omega, fun z => by omega⟩⟩⟩
    · rw [if_neg (show ¬ nI a = (-1 : Int32) by rw [show (-1 : Int32) = mO 1 from rfl, p_eq_mO (by omega) (by omega) (by omega)]; exact id)]; rfl
    · unfold yR
      rw [rf, p_bnd]
      dsimp only
      rw [if_neg (show ¬ ib true = 0 by decide), n33, q30, show (3 : Int32) = nI 3 from rfl, show (1 : Int32) = nI 1 from rfl, p_mul, nI_add, p_wI (by omega) (by omega), p_bnd, hN2, rs2, p_bnd]
      dsimp only
      rw [if_neg (show ¬ nI 1 = 0 by decide), z33, z30, show (2 : Int32) = nI 2 from rfl, p_mul, nI_add, p_wI (by omega) (by omega), p_bnd]
    · rw [p_gI_n (Or.inl (by decide))]; exact q2
    · rw [p_gI_n (Or.inl (by decide))]; exact q4
    · rw [p_gI_n (Or.inl (by decide))]; exact q5
    · rw [o0]; exact q6
    · rw [o0]; exact q7
    · rw [o0]; exact n33
    · rw [p_gI_n (Or.inl (by decide)), (F1 38 k (by unfold Drd; omega)).1]
    · rw [p_gI_n (Or.inr (by omega)), (F1 39 k (by unfold Drd; omega)).1]
    · rw [p_gI_n (Or.inl (by decide)), (F1 40 k (by unfold Drd; omega)).1]
    · rw [p_gI_n (Or.inr (by omega)), ← hN2, p_gI_n (Or.inr (by omega)), (G1 13 k (by unfold Drr; omega)).1]
    · rw [p_gI_n (Or.inl (by decide)), (F1 38 n (by unfold Drd; omega)).1]; exact k38
    · rw [p_gI_n (Or.inr (by omega)), ← hN2, p_gI_n (Or.inr (by omega)), (G1 13 _ (by unfold Drr; omega)).1]; exact k13
    · rw [p_gI_s]
    · rw [p_gI_n (Or.inr (by omega)), ← hN2, p_gI_s]
theorem fo_ref (h : BS M N B L i n S 6) (hj : j < i) : OF M N B L j n S (some ((1 : Int32), M)) (yR (nI 6) N) := by
  obtain ⟨hs, n30, k38, k13⟩ := h
  obtain ⟨hi, p2, ⟨tc, tr⟩, rt, ⟨a4, a5⟩, ⟨a6, a7⟩, ⟨hc, hr⟩, ⟨c37, c33⟩, -⟩ := id hs
  generalize hN2 : gI N 13 (3 * n + 1) (N.1 0 30) = N2
  have z33 : N2.1 0 33 = nI n := by rw [← hN2, p_gI_n (Or.inl (by decide))]; exact c33
  generalize hN3 : gI N2 13 (3 * n + 2) (N2.1 0 30) = N3
  have FN2 : gFr (fun c _ => c = 13) N N3 := by rw [← hN3, ← hN2]; exact gFr_trI (gFr_I rfl) rfl
  have FN3 : gFr DrO N N3 := gFr_mo FN2 (fun c k z => Or.inr z)
  refine ⟨M, N3, gFr_rf, FN3, Or.inr ⟨rfl, ?_, i, by omega, SO_fr hs gFr_rf FN3 hi p2 (RT_of rt FN2 (fun k a b z => by omega)) rfl rfl ?_ ?_ c37 ?_, n30, ⟨fun k hk => ⟨rfl, rfl, rfl⟩, fun k hk => ?_⟩, ⟨6, 0, 0, by omega, k38, ?_, fun z => by omega, fun z => by omega, fun z => by omega, fun z => by omega, fun z => by omega, fun z => by omega, fun z => by omega, fun z => by omega⟩⟩⟩
  · unfold yR
    have rf : fX11_readsFirst (nI 6) N = some (nI 1, N) := by
      unfold fX11_readsFirst
      rw [if_neg (by decide), if_neg (by decide), if_neg (by decide), if_pos (show nI 6 = (6 : Int32) from rfl)]; rfl
    have rs2 : fX11_readsSecond (nI 6) N2 = some (nI 1, N2) := by
      unfold fX11_readsSecond
      rw [if_neg (by decide), if_neg (by decide), if_neg (by decide)]; rfl
    rw [rf, p_bnd]
    dsimp only
    rw [if_neg (show ¬ nI 1 = 0 by decide), c33, show (3 : Int32) = nI 3 from rfl, show (1 : Int32) = nI 1 from rfl, p_mul, nI_add, p_wI (by omega) (by omega), p_bnd, hN2, rs2, p_bnd]
    dsimp only
    rw [if_neg (show ¬ nI 1 = 0 by decide), z33, show (2 : Int32) = nI 2 from rfl, p_mul, nI_add, p_wI (by omega) (by omega), p_bnd, hN3]
  · rw [(FN2 0 26 (by omega)).1]; exact a6
  · rw [(FN2 0 27 (by omega)).1]
  · rw [(FN2 0 33 (by omega)).1]; exact c33
  · rw [← hN3, p_gI_n (Or.inr (by omega)), ← hN2, p_gI_n (Or.inr (by omega))]
  · rw [← hN3, p_gI_n (Or.inr (by omega)), ← hN2, p_gI_n (Or.inr (by omega))]; exact k13
theorem fo_task (h : BS M N B L i n S q) (hj : j < i) (hq : q ≤ 2) : OF M N B L j n S (fX3_readTasks 1 (nI (q + 1)) M) (yR (nI q) N) := by
  obtain ⟨hs, n30, k38, k13⟩ := h
  obtain ⟨hi, p2, ⟨tc, tr⟩, rt, ⟨a4, a5⟩, ⟨a6, a7⟩, ⟨hc, hr⟩, ⟨c37, c33⟩, -⟩ := id hs
  obtain ⟨M1, N1, v, b, e1, g1, F1, G1, o⟩ := ar_task hc hr tc tr hi p2 rt a6
  have m37 : M1.1 37 3 = nI n := by rw [(F1 37 3 (by unfold Drd; omega)).1]; exact c37
  have n33 : N1.1 0 33 = nI n := by rw [(G1 0 33 (by unfold Drr; omega)).1]; exact c33
  have w37 : (gI M1 39 n v).1 37 3 = nI n := by rw [p_gI_n (Or.inl (by decide))]; exact m37
  have cx : fX3_readTasks 1 (nI (q + 1)) M = if v = (-1 : Int32) then (some ((0 : Int32), gI M1 39 n v)) else if nI (q + 1) = (3 : Int32) then ((fX5_readNumber (1 : Int32) (9 : Int32) (gI M1 39 n v)).bind fun v6 => fX3_readTasks_b57 1 (nI n) v6.1 v6.2) else (fX5_readTask 1 (gI M1 39 n v)).bind fun v10 => fX3_readTasks_b57 1 (nI n) v10.1 v10.2 := by
    unfold fX3_readTasks
    rw [e1, p_bnd]
    dsimp only
    rw [c37, p_wI (by omega) (by omega), p_bnd, w37, p_rI (by omega) (by omega), p_bnd, p_gI_s]
  have rf : fX11_readsFirst (nI q) N = some (ib b, N1) := by
    unfold fX11_readsFirst
    rw [if_neg (show ¬ nI q = (3 : Int32) by rw [show (3 : Int32) = nI 3 from rfl, p_eq (by omega) (by omega)]; omega), if_neg (show ¬ nI q = (4 : Int32) by rw [show (4 : Int32) = nI 4 from rfl, p_eq (by omega) (by omega)]; omega), if_neg (show ¬ nI q = (5 : Int32) by rw [show (5 : Int32) = nI 5 from rfl, p_eq (by omega) (by omega)]; omega), if_neg (show ¬ nI q = (6 : Int32) by rw [show (6 : Int32) = nI 6 from rfl, p_eq (by omega) (by omega)]; omega), g1, p_bnd]
    show (zv (ib b)).bind _ = _
    rw [p_zvib, p_bnd]
  have FM : gFr DcO M (gI M1 39 n v) := gFr_trI (gFr_mo F1 (fun _ _ => Drd_DcO)) (by unfold DcO; omega)
  have FN : gFr DrO N N1 := gFr_mo G1 (fun _ _ => Drr_DrO)
  rw [cx]
  rcases o with ⟨rfl, rfl, c, p, c1, c9, p9, E1, E2⟩ | ⟨rfl, a, i', rfl, a9, ok, li, lL, q2, q30, T, q4, q5, q6, q7⟩
  · refine ⟨gI M1 39 n (mO 1), N1, FM, FN, Or.inl ⟨?_, ?_, c, p, c1, c9, p9, ?_, E2⟩⟩
    · rw [if_pos (show mO 1 = (-1 : Int32) from rfl)]; rfl
    · unfold yR
      rw [rf]; rfl
    · unfold EC; rw [p_gI_n (Or.inl (by decide)), p_gI_n (Or.inl (by decide))]; exact E1
  · generalize hN2 : gI N1 13 (3 * n + 1) (nI a) = N2
    generalize hM2 : gI M1 39 n (nI a) = M2 at w37 FM
    have G2 : gFr (fun c _ => c = 13) N1 N2 := by rw [← hN2]; exact gFr_I rfl
    have F2 : gFr (fun c _ => c = 39) M1 M2 := by rw [← hM2]; exact gFr_I rfl
    have FN2 : gFr DrO N N2 := gFr_tr FN (gFr_mo G2 (fun c k z => Or.inr z))
    have hs2 : SO M2 N2 B L i' n S := SO_fr hs FM FN2 lL ((F2 32 2 (by omega)).1.trans q2) (RT_of T G2 (fun k a b z => by omega)) ((F2 32 4 (by omega)).1.trans q4) ((F2 32 5 (by omega)).1.trans q5) ((G2 0 26 (by omega)).1.trans q6) ((G2 0 27 (by omega)).1.trans q7) w37 ((G2 0 33 (by omega)).1.trans n33)
    obtain ⟨-, p2', ⟨tc2, tr2⟩, rt2, ⟨b4, b5⟩, ⟨b6, b7⟩, ⟨hc2, hr2⟩, ⟨d37, d33⟩, -⟩ := id hs2
    -- the second argument
    have AR2 : ∃ x y, AR M2 N2 B L i' (fun b => (q < 2 → b < sN S) ∧ (q = 2 → 1 ≤ b ∧ b ≤ 9)) x y ∧ (if nI (q + 1) = (3 : Int32) then ((fX5_readNumber (1 : Int32) (9 : Int32) M2).bind fun v6 => fX3_readTasks_b57 1 (nI n) v6.1 v6.2) else (fX5_readTask 1 M2).bind fun v10 => fX3_readTasks_b57 1 (nI n) v10.1 v10.2) = (x.bind fun v6 => fX3_readTasks_b57 1 (nI n) v6.1 v6.2) ∧ fX11_readsSecond (nI q) N2 = y.bind fun v => (zv v.1).bind fun w => some (w, v.2) := by
      by_cases c : q = 2
      · subst c
        obtain ⟨X, Y, v, b, e, g, F, G, o⟩ := ar_num tc2 tr2 lL p2' rt2 b6 (lo := 1) (hh := 9) (by omega) (by omega)
        refine ⟨_, _, ⟨X, Y, v, b, e, g, F, G, o.imp id (fun ⟨o1, o2, o3, o4, o5, o6, o7⟩ => ⟨o1, o2, o3, o4, o5, ⟨fun z => by omega, fun _ => o6⟩, o7⟩)⟩, if_pos rfl, ?_⟩
        unfold fX11_readsSecond
        rw [if_neg (by decide), if_neg (by decide), if_pos (show nI 2 = (2 : Int32) from rfl)]; rfl
      · obtain ⟨X, Y, v, b, e, g, F, G, o⟩ := ar_task hc2 hr2 tc2 tr2 lL p2' rt2 b6
        refine ⟨_, _, ⟨X, Y, v, b, e, g, F, G, o.imp id (fun ⟨o1, o2, o3, o4, o5, o6, o7⟩ => ⟨o1, o2, o3, o4, o5, ⟨fun _ => o6, fun z => absurd z c⟩, o7⟩)⟩, if_neg (by rw [show (3 : Int32) = nI 3 from rfl, p_eq (by omega) (by omega)]; omega), ?_⟩
        unfold fX11_readsSecond
        rcases (show q = 0 ∨ q = 1 by omega) with rfl | rfl
        · rw [if_pos (show nI 0 = (0 : Int32) from rfl)]
        · rw [if_neg (by decide), if_pos (show nI 1 = (1 : Int32) from rfl)]
    obtain ⟨x, y, ⟨M3, N3, v3, b3, e3, g3, F3, G3, o3⟩, ex, ey⟩ := AR2
    have m37' : M3.1 37 3 = nI n := by rw [(F3 37 3 (by unfold Drd; omega)).1]; exact d37
    have n33' : N3.1 0 33 = nI n := by rw [(G3 0 33 (by unfold Drr; omega)).1]; exact d33
    have x37 : (gI M3 40 n v3).1 37 3 = nI n := by rw [p_gI_n (Or.inl (by decide))]; exact m37'
    have rs2 : fX11_readsSecond (nI q) N2 = some (ib b3, N3) := by
      rw [ey, g3, p_bnd]
      show (zv (ib b3)).bind _ = _
      rw [p_zvib, p_bnd]
    have cx2 : (x.bind fun v6 => fX3_readTasks_b57 1 (nI n) v6.1 v6.2) = some (if v3 = (-1 : Int32) then (0 : Int32) else (1 : Int32), gI M3 40 n v3) := by
      rw [e3, p_bnd]
      unfold fX3_readTasks_b57
      dsimp only
      rw [p_wI (by omega) (by omega), p_bnd, x37, p_rI (by omega) (by omega), p_bnd, p_gI_s]
    have ry2 : yR (nI q) N = if ib b3 = 0 then some ((0 : Int32), N3) else (wI N3 13 90 (((3 : Int32) * (N3.1 0 33)) + (2 : Int32)) (N3.1 0 30)).bind fun M15 => tR M15 := by
      unfold yR
      rw [rf, p_bnd]
      dsimp only
      rw [if_neg (show ¬ ib true = 0 by decide), n33, q30, show (3 : Int32) = nI 3 from rfl, show (1 : Int32) = nI 1 from rfl, p_mul, nI_add, p_wI (by omega) (by omega), p_bnd, hN2, rs2, p_bnd]
    have FM3 : gFr DcO M (gI M3 40 n v3) := gFr_trI (gFr_tr FM (gFr_mo F3 (fun _ _ => Drd_DcO))) (by unfold DcO; omega)
    have FN3 : gFr DrO N N3 := gFr_tr FN2 (gFr_mo G3 (fun _ _ => Drr_DrO))
    rw [if_neg (show ¬ nI a = (-1 : Int32) by rw [show (-1 : Int32) = mO 1 from rfl, p_eq_mO (by omega) (by omega) (by omega)]; exact id), ex, cx2, ry2]
    rcases o3 with ⟨rfl, rfl, c, p, c1, c9, p9, E1, E2⟩ | ⟨rfl, a', i'', rfl, a9', ok', li', lL', q2', q30', T', q4', q5', q6', q7'⟩
    · refine ⟨gI M3 40 n (mO 1), N3, FM3, FN3, Or.inl ⟨?_, ?_, c, p, c1, c9, p9, ?_, E2⟩⟩
      · rw [if_pos (show mO 1 = (-1 : Int32) from rfl)]; rfl
      · rw [if_pos (show ib false = 0 from rfl)]; rfl
      · unfold EC; rw [p_gI_n (Or.inl (by decide)), p_gI_n (Or.inl (by decide))]; exact E1
    · have G4 : gFr (fun c _ => c = 13) N3 (gI N3 13 (3 * n + 2) (nI a')) := gFr_I rfl
      have F4 : gFr (fun c _ => c = 40) M3 (gI M3 40 n (nI a')) := gFr_I rfl
      have FN4 : gFr DrO N (gI N3 13 (3 * n + 2) (nI a')) := gFr_tr FN3 (gFr_mo G4 (fun c k z => Or.inr z))
      have u1 : (gI M3 40 n (nI a')).1 39 n = nI a := by rw [(F4 39 n (by omega)).1, (F3 39 n (by unfold Drd; omega)).1, ← hM2, p_gI_s]
      have u2 : (gI N3 13 (3 * n + 2) (nI a')).1 13 (3 * n + 1) = nI a := by rw [p_gI_n (Or.inr (by omega)), (G3 13 _ (by unfold Drr; omega)).1, ← hN2, p_gI_s]
      refine ⟨gI M3 40 n (nI a'), gI N3 13 (3 * n + 2) (nI a'), FM3, FN4, Or.inr ⟨?_, ?_, i'', by omega, SO_fr hs FM3 FN4 lL' ((F4 32 2 (by omega)).1.trans q2') (RT_of T' G4 (fun k a b z => by omega)) ?_ ?_ ((G4 0 26 (by omega)).1.trans q6') ?_ x37 ((G4 0 33 (by omega)).1.trans n33'), n30, ⟨fun k hk => ⟨?_, ?_, ?_⟩, fun k hk => ?_⟩, ⟨q, a, a', by omega, ?_, ?_, fun _ => ⟨u1, u2⟩, fun _ => ⟨p_gI_s _ _ _ _, p_gI_s _ _ _ _⟩, fun _ => ok, ok'.1, ok'.2, fun z => by omega, fun z => by omega, fun z => by omega⟩⟩⟩
      · rw [if_neg (show ¬ nI a' = (-1 : Int32) by rw [show (-1 : Int32) = mO 1 from rfl, p_eq_mO (by omega) (by omega) (by omega)]; exact id)]; rfl
      · rw [if_neg (show ¬ ib true = 0 by decide), n33', q30', show (3 : Int32) = nI 3 from rfl, show (2 : Int32) = nI 2 from rfl, p_mul, nI_add, p_wI (by omega) (by omega), p_bnd]
      · rw [(F4 32 4 (by omega)).1, q4', (F2 32 4 (by omega)).1]; exact q4
      · rw [(F4 32 5 (by omega)).1, q5', (F2 32 5 (by omega)).1]; exact q5
      · rw [(G4 0 27 (by omega)).1, q7', (G2 0 27 (by omega)).1]; exact q7
      · rw [(F4 38 k (by omega)).1, (F3 38 k (by unfold Drd; omega)).1, (F2 38 k (by omega)).1, (F1 38 k (by unfold Drd; omega)).1]
      · rw [(F4 39 k (by omega)).1, (F3 39 k (by unfold Drd; omega)).1, ← hM2, p_gI_n (Or.inr (by omega)), (F1 39 k (by unfold Drd; omega)).1]
      · rw [p_gI_n (Or.inr (by omega)), (F3 40 k (by unfold Drd; omega)).1, (F2 40 k (by omega)).1, (F1 40 k (by unfold Drd; omega)).1]
      · rw [p_gI_n (Or.inr (by omega)), (G3 13 k (by unfold Drr; omega)).1, ← hN2, p_gI_n (Or.inr (by omega)), (G1 13 k (by unfold Drr; omega)).1]
      · rw [(F4 38 n (by omega)).1, (F3 38 n (by unfold Drd; omega)).1, (F2 38 n (by omega)).1, (F1 38 n (by unfold Drd; omega)).1]; exact k38
      · rw [p_gI_n (Or.inr (by omega)), (G3 13 _ (by unfold Drr; omega)).1, ← hN2, p_gI_n (Or.inr (by omega)), (G1 13 _ (by unfold Drr; omega)).1]; exact k13
end OD2
