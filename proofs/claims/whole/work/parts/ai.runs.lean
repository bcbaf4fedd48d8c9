/-! runOrders: the step -/
section RUO
variable {M N : gMem} {B : Nat → Nat} {L t a b k n b0 c : Nat} {S : gS} {P : List gS}
theorem r_starts (hr : TXr N B L) : ∃ N0, fX11_starts N = some N0 ∧ gFr (fun c k => c = 0 ∧ 22 ≤ k ∧ k ≤ 27) N N0 ∧ RT N0 B L (tSk B L 0) ∧ N0.1 0 26 = nI 0 ∧ N0.1 0 27 = mO 1 := by
  generalize hN : gI (gI (gI N 0 22 (nI 0)) 0 26 (nI 0)) 0 27 (mO 1) = N3
  have G3 : gFr (fun c k => c = 0 ∧ (k = 22 ∨ k = 26 ∨ k = 27)) N N3 := by
    rw [← hN]; exact gFr_trI (gFr_trI (gFr_I (by omega)) (by omega)) (by omega)
  have t3 : TXr N3 B L := TXr_fr hr G3 (fun c k z w => by omega)
  have a22 : N3.1 0 22 = nI 0 := by rw [← hN, p_gI_n (Or.inr (by decide)), p_gI_n (Or.inr (by decide)), p_gI_s]
  have a26 : N3.1 0 26 = nI 0 := by rw [← hN, p_gI_n (Or.inr (by decide)), p_gI_s]
  have a27 : N3.1 0 27 = mO 1 := by rw [← hN, p_gI_s]
  obtain ⟨N0, g, G, T⟩ := r_goesOn t3 a22 (by omega)
  refine ⟨N0, ?_, gFr_tr (gFr_mo G3 (fun c k z => by omega)) (gFr_mo G (fun c k z => by unfold Dto at z; omega)), T, ?_, ?_⟩
  · unfold fX11_starts
    rw [show (0 : Int32) = nI 0 from rfl, p_wF, p_bnd, p_wF, p_bnd, show (-1 : Int32) = mO 1 from rfl, p_wF, p_bnd, hN, g, p_bnd]
  · rw [(G 0 26 (by unfold Dto; omega)).1]; exact a26
  · rw [(G 0 27 (by unfold Dto; omega)).1]; exact a27
theorem lk_runs : ∀ (d : Nat) (M N : gMem) (k f f' : Nat) (S : gS), n - k < d → n ≤ 30 → k ≤ n → d < f → d < f' → CS M 1 S → RS N S → M.1 37 3 = nI n → N.1 0 33 = nI n → (∀ j, j < n → ORD M N (sN S) j) → sB S b0 →
    ∃ M' N' S' j, gLoop (fun z9 => fX3_runAll_l3 1 z9.1 z9.2) f (nI k, M) = some (nI j, M') ∧ gLoop (fun z9 => fX11_runOrders_l38 z9.1 z9.2) f' (nI k, N) = some (nI j, N') ∧ gFr (fun c _ => DcR c) M M' ∧ gFr DrR N N' ∧ CS M' 1 S' ∧ RS N' S' ∧ sN S' = sN S ∧ sB S' (b0 + 130 * (n - k)) := by
  intro d
  induction d generalizing b0 with
  | zero => intro M N k f f' S h; omega
  | succ d ih =>
    intro M N k f f' S hd hn hk hf hf' hc hr c37 c33 od hb
    obtain ⟨f1', rfl⟩ : ∃ q, f' = q + 1 := ⟨f' - 1, by omega⟩
    obtain ⟨f1, rfl⟩ : ∃ q, f = q + 1 := ⟨f - 1, by omega⟩
    rw [gLoop_s, gLoop_s]
    show ∃ M' N' S' j, (fX3_runAll_l3 1 (nI k) M).bind _ = some (nI j, M') ∧ (fX11_runOrders_l38 (nI k) N).bind _ = some (nI j, N') ∧ _
    unfold fX3_runAll_l3 fX11_runOrders_l38
    rw [c37, c33]
    by_cases c : n ≤ k
    · rw [if_pos (by rw [p_le (by omega) (by omega)]; exact c)]
      rw [if_pos (by rw [p_le (by omega) (by omega)]; exact c)]
      exact ⟨M, N, S, k, rfl, rfl, gFr_rf, gFr_rf, hc, hr, rfl, sB_le hb (by omega)⟩
    · rw [if_neg (by rw [p_le (by omega) (by omega)]; exact c)]
      rw [if_neg (by rw [p_le (by omega) (by omega)]; exact c)]
      obtain ⟨M1, N1, S1, v, w, hx, hy, hv, F, G, C1, R1, en, eb⟩ := do_run hc hr (by omega) (od k (by omega))
      rw [hx, hy, p_bnd, p_bnd]
      dsimp only
      cases v
      · rw [if_neg (by decide)] at hv
        obtain ⟨z, rfl, h0, h9⟩ := hv
        rw [if_pos (show ib false = 0 from rfl), if_pos (show mO z < (0 : Int32) by rw [show (0 : Int32) = nI 0 from rfl, p_mO_lt (by omega) (by omega) (by omega)]; trivial)]
        exact ⟨M1, N1, S1, k, rfl, rfl, F, G, C1, R1, en, sB_le (eb _ hb) (by omega)⟩
      · rw [if_pos rfl] at hv
        obtain ⟨z, rfl, h0⟩ := hv
        rw [if_neg (show ¬ ib true = 0 by decide), if_neg (show ¬ nI z < (0 : Int32) by rw [show (0 : Int32) = nI 0 from rfl, p_lt (by omega) (by omega)]; omega), show nI k + (1 : Int32) = nI (k + 1) from nI_add _ _, gLc_l, gLc_l]
        have oo : OLD M N M1 N1 30 := ⟨fun k hk => ⟨(F 38 k (by unfold DcR; omega)).1, (F 39 k (by unfold DcR; omega)).1, (F 40 k (by unfold DcR; omega)).1⟩, fun k hk => (G 13 k (by unfold DrR; omega)).1⟩
        obtain ⟨M', N', S', j, e1, e2, F2, G2, C2, R2, en2, eb2⟩ := ih (b0 := b0 + 130) M1 N1 (k + 1) f1 f1' S1 (by omega) hn (by omega) (by omega) (by omega) C1 R1 ((F 37 3 (by unfold DcR; omega)).1.trans c37) ((G 0 33 (by unfold DrR; omega)).1.trans c33) (fun j hj => by rw [en]; exact ORD_old (od j hj) oo (by omega)) (eb _ hb)
        exact ⟨M', N', S', j, e1, e2, gFr_tr F F2, gFr_tr G G2, C2, R2, en2.trans en, sB_le eb2 (by omega)⟩
theorem mem_pPs {T : gS} (h : T ∈ pPs P S) : T ∈ P ∨ T = S := by
  unfold pPs at h
  rcases List.mem_append.mp h with h | h
  · left
    split at h
    · exact List.mem_of_mem_drop h
    · exact h
  · right; exact List.mem_singleton.mp h
theorem st_runOrders (h : REL c M N) : STL (c + 1) (fL_runOrders M) (fX11_runOrders N) := by
  obtain ⟨S, P, h1, h2, h3, ⟨B, L, tc, tr⟩, h5, h6⟩ := h
  have hL := tc.2.1
  -- the class reads
  generalize hM0 : gI (gI (gI (gI (gI M 37 3 (nI 0)) 32 2 (nI 0)) 32 3 (nI 0)) 32 4 (nI 0)) 32 5 (mO 1) = M0
  have F0 : gFr DcO M M0 := by rw [← hM0]; refine gFr_trI (gFr_trI (gFr_trI (gFr_trI (gFr_I ?_) ?_) ?_) ?_) ?_ <;> (unfold DcO; omega)
  have t0 : TXc M0 B L := TXc_of tc (F0 32 1 (by unfold DcO; omega)).1 (gFr_c1 F0 fun k z => by unfold DcO at z; omega)
  have i2 : M0.1 32 2 = nI 0 := by rw [← hM0, p_gI_n (Or.inr (by decide)), p_gI_n (Or.inr (by decide)), p_gI_n (Or.inr (by decide)), p_gI_s]
  have i4 : M0.1 32 4 = nI 0 := by rw [← hM0, p_gI_n (Or.inr (by decide)), p_gI_s]
  have i5 : M0.1 32 5 = mO 1 := by rw [← hM0, p_gI_s]
  have i37 : M0.1 37 3 = nI 0 := by rw [← hM0, p_gI_n (Or.inl (by decide)), p_gI_n (Or.inl (by decide)), p_gI_n (Or.inl (by decide)), p_gI_n (Or.inl (by decide)), p_gI_s]
  obtain ⟨M1, e1, F1, s1⟩ := c_skip t0 i2 (Nat.zero_le L)
  have F1' : gFr DcO M M1 := gFr_tr F0 (gFr_mo F1 (fun c k z => by unfold DcO; omega))
  -- the reference
  have tra : TXr (gI N 0 0 (nI 0)) B L := TXr_of tr (p_gI_n (Or.inr (by decide))) (p_gI_o (by decide))
  obtain ⟨N1, g1, G1, T1, a26, a27⟩ := r_starts tra
  have G2 : gFr (fun c k => c = 0 ∧ k = 33) N1 (gI N1 0 33 (nI 0)) := gFr_I ⟨rfl, rfl⟩
  have GA : gFr (fun c k => DrO c k ∨ (c = 0 ∧ k = 0)) N (gI N1 0 33 (nI 0)) := gFr_tr (gFr_I (Or.inr ⟨rfl, rfl⟩)) (gFr_tr (gFr_mo G1 (fun c k z => by unfold DrO; omega)) (gFr_mo G2 (fun c k z => by unfold DrO; omega)))
  have ids := tSk_id (B := B) (Nat.zero_le L)
  have so : SO M1 (gI N1 0 33 (nI 0)) B L (tSk B L 0) 0 S := by
    refine ⟨(tSk_b (Nat.zero_le L)).2, s1, ⟨TXc_of t0 (F1 32 1 (by omega)).1 (gFr_c1 F1 fun k z => by omega), TXr_fr tr GA (fun c k z w => by unfold DrO at w; omega)⟩, by rw [ids]; exact RT_of T1 G2 (fun k a b z => by omega), ⟨(F1 32 4 (by omega)).1.trans i4, (F1 32 5 (by omega)).1.trans i5⟩, ⟨(G2 0 26 (by omega)).1.trans a26, (G2 0 27 (by omega)).1.trans a27⟩, ⟨CS_fr h1.1 F1' (fun j k hj z => by unfold DcO at z; omega), RS_of h1.2.1 (gFr_c1 GA fun k z => by unfold DrO at z; omega)⟩, ⟨(F1 37 3 (by omega)).1.trans i37, p_gI_s _ _ _ _⟩, by omega⟩
  obtain ⟨M2, N2, F2, G2', o⟩ := lk_ords 40 M1 _ (tSk B L 0) 0 gFu gFu (by omega) (by decide) (by decide) so ids (fun k hk => absurd hk (Nat.not_lt_zero k))
  have FA : gFr DcO M M2 := gFr_tr F1' F2
  have GB : gFr (fun c k => DrO c k ∨ (c = 0 ∧ k = 0)) N N2 := gFr_tr GA (gFr_mo G2' (fun c k z => Or.inl z))
  have cx : fX3_readAll 1 M = (gLoop (fun z9 => fX3_readAll_l15 1 z9.1 z9.2) gFu (nI 0, M1)).bind fun w13 => gSE w13 (fun y14 => some ((1 : Int32), y14)) (fun r15 => some r15) := by
    unfold fX3_readAll fX5_begin
    rw [show (0 : Int32) = nI 0 from rfl, p_wF, p_bnd, p_wF, p_bnd, p_wF, p_bnd, p_wF, p_bnd, show (-1 : Int32) = mO 1 from rfl, p_wF, p_bnd, hM0, p_bnd, e1, p_bnd]
  generalize hN5 : gI (gI (gI N2 0 21 (nI 0)) 0 28 (N2.1 0 26)) 0 29 (N2.1 0 27) = N5
  have ee : fX11_ends N2 = some (if N2.1 0 26 = 0 then (1 : Int32) else (0 : Int32), N5) := by
    unfold fX11_ends
    rw [show (0 : Int32) = nI 0 from rfl, p_wF, p_bnd, p_gI_n (Or.inr (by decide)), p_wF, p_bnd, p_gI_n (Or.inr (by decide)), p_gI_n (Or.inr (by decide)), p_wF, p_bnd, hN5]
    rw [show N5.1 0 26 = N2.1 0 26 by rw [← hN5, p_gI_n (Or.inr (by decide)), p_gI_n (Or.inr (by decide)), p_gI_n (Or.inr (by decide))]]
  have G5 : gFr (fun c k => c = 0 ∧ (k = 21 ∨ k = 28 ∨ k = 29)) N2 N5 := by rw [← hN5]; exact gFr_trI (gFr_trI (gFr_I (by omega)) (by omega)) (by omega)
  have v21 : N5.1 0 21 = nI 0 := by rw [← hN5, p_gI_n (Or.inr (by decide)), p_gI_n (Or.inr (by decide)), p_gI_s]
  have v28 : N5.1 0 28 = N2.1 0 26 := by rw [← hN5, p_gI_n (Or.inr (by decide)), p_gI_s]
  have v29 : N5.1 0 29 = N2.1 0 27 := by rw [← hN5, p_gI_s]
  have GC : gFr (fun c k => c = 13 ∨ (c = 0 ∧ k ≠ 6 ∧ k ≠ 7 ∧ k ≠ 40)) N N5 := gFr_tr (gFr_mo GB (fun c k z => by unfold DrO at z; omega)) (gFr_mo G5 (fun c k z => by omega))
  have ry : ∀ z X, (gLoop (fun z9 => fX11_readsOrders_l5 z9) gFu (gI N1 0 33 (nI 0))).bind (fun w5 => gSE w5 (fun y6 => some ((1 : Int32), y6)) (fun r7 => some r7)) = some (z, X) → fX11_runOrders N = (fX11_ends X).bind fun v4 => if v4.1 = 0 then ((wF v4.2 0 0 (1 : Int32)).bind fun M6 => some ((0 : Int32), M6)) else (fX11_goesAside v4.2).bind fun v7 => (fX11_keeps v7).bind fun v8 => (gLoop (fun z9 => fX11_runOrders_l38 z9.1 z9.2) gFu ((0 : Int32), v8)).bind fun w12 => some (w12.1, w12.2) := fun z X e => by
    unfold fX11_runOrders fX11_readsOrders
    rw [show (0 : Int32) = nI 0 from rfl, p_wF, p_bnd, g1, p_bnd, p_wF, p_bnd]
    rw [show ((gLoop (fun z9 => fX11_readsOrders_l5 z9) gFu (gI N1 0 33 (nI 0))).bind fun w5 => gSE w5 (fun y6 => some ((1 : Int32), y6)) (fun r7 => some r7)) = _ from e, p_bnd]
  rcases o with ⟨ex, ey, i, n, hs, od⟩ | ⟨ex, ey, e, p, c1, c9, p9, E1, E2⟩
  · obtain ⟨-, -, -, -, ⟨d4, d5⟩, ⟨d6, d7⟩, ⟨hc2, hr2⟩, ⟨e37, e33⟩, n30⟩ := hs
    have hc3 : CS (gI M2 32 1 (nI 0)) 1 S := CS_fr hc2 (gFr_I (D := fun c _ => c = 32) rfl) (fun j k hj z => by omega)
    have F3 : gFr (fun c k => DcO c k ∨ (c = 32 ∧ k = 1)) M (gI M2 32 1 (nI 0)) := gFr_trI (gFr_mo FA (fun c k z => Or.inl z)) (Or.inr ⟨rfl, rfl⟩)
    have pc3 : PC (gI M2 32 1 (nI 0)) P := PC_of h2.1 (F3 0 5 (by unfold DcO; omega)).1 (fun d k z => F3 d k (by unfold DcO; omega))
    obtain ⟨M4, e4, F4, P4⟩ := c_remember pc3 hc3
    have hc4 : CS M4 1 S := CS_fr hc3 F4 (fun j k hj z => by unfold Drb at z; omega)
    obtain ⟨N6, g6, G6, I6⟩ := r_goesAside N5
    have rr6 : RR (N6.1 2) S := RR_ew (RS_of hr2 (gFr_c1 G5 fun k z => by omega)).1 hr2.2 (fun k hk => I6 k hk)
    have pr6 : PR N6 P := PR_of h2.2.1 (by rw [(G6 0 6 (by omega)).1]; exact (GC 0 6 (by omega)).1) (by rw [gFr_c1 G6 fun k z => by omega]; exact gFr_c1 GC fun k z => by omega)
    obtain ⟨N7, g7, G7, P7⟩ := r_keeps pr6 rr6 hr2.2
    have hr7 : RS N7 S := RS_of hr2 (by rw [gFr_c1 G7 fun k z => by omega, gFr_c1 G6 fun k z => by omega, gFr_c1 G5 fun k z => by omega])
    have od7 : ∀ k, k < n → ORD M4 N7 (sN S) k := fun k hk => by
      refine ORD_old (n := n) (od k hk) ⟨fun k hk => ⟨?_, ?_, ?_⟩, fun k hk => ?_⟩ hk
      · rw [(F4 38 k (by unfold Drb; omega)).1, p_gI_n (Or.inl (by decide))]
      · rw [(F4 39 k (by unfold Drb; omega)).1, p_gI_n (Or.inl (by decide))]
      · rw [(F4 40 k (by unfold Drb; omega)).1, p_gI_n (Or.inl (by decide))]
      · rw [(G7 13 k (by omega)).1, (G6 13 k (by omega)).1, (G5 13 k (by omega)).1]
    have x37 : M4.1 37 3 = nI n := by rw [(F4 37 3 (by unfold Drb; omega)).1, p_gI_n (Or.inl (by decide))]; exact e37
    have x33 : N7.1 0 33 = nI n := by rw [(G7 0 33 (by omega)).1, (G6 0 33 (by omega)).1, (G5 0 33 (by omega)).1]; exact e33
    obtain ⟨M8, N8, S8, j, e8, g8, F8, G8, C8, R8, en8, eb8⟩ := lk_runs (n := n) (b0 := 4000 * c) 40 M4 N7 0 gFu gFu S (by omega) n30 (Nat.zero_le n) (by decide) (by decide) hc4 hr7 x37 x33 od7 h1.2.2.1
    have sm : ∀ T, T ∈ pPs P S → sB T (4000 * (c + 1)) ∧ 1 ≤ sN T := fun T hT => by
      rcases mem_pPs hT with z | rfl
      · obtain ⟨q1, q2⟩ := h2.2.2 T z
        exact ⟨sB_le q1 (by omega), q2⟩
      · exact ⟨sB_le h1.2.2.1 (by omega), h1.2.2.2⟩
    have FZ : gFr (fun c k => DcR c ∨ Drb c k ∨ DcO c k ∨ (c = 32 ∧ k = 1)) M M8 := gFr_tr (gFr_mo F3 (fun c k z => Or.inr (Or.inr z))) (gFr_tr (gFr_mo F4 (fun c k z => Or.inr (Or.inl z))) (gFr_mo F8 (fun c k z => Or.inl z)))
    have GZ : gFr (fun c k => DrR c k ∨ c = 5 ∨ c = 2 ∨ c = 13 ∨ (c = 0 ∧ k ≠ 7 ∧ k ≠ 40)) N N8 := gFr_tr (gFr_mo GC (fun c k z => by omega)) (gFr_tr (gFr_mo G6 (fun c k z => by omega)) (gFr_tr (gFr_mo G7 (fun c k z => by omega)) (gFr_mo G8 (fun c k z => Or.inl z))))
    have n8 : ∀ k, k ≠ 6 → ¬ ((10 ≤ k ∧ k ≤ 14) ∨ k = 16) → N8.1 0 k = N5.1 0 k := fun k z z2 => by rw [(G8 0 k (by unfold DrR; omega)).1, (G7 0 k (by omega)).1, (G6 0 k (by omega)).1]
    refine STL_ok (M' := M8) (N' := N8) (b := nI j) ?_ ?_ ?_ ⟨S8, pPs P S, ⟨C8, R8, sB_le eb8 (by omega), by rw [en8]; exact h1.2.2.2⟩, ⟨PC_of P4 (F8 0 5 (by unfold DcR; omega)).1 (fun d k z => F8 d k (by unfold DcR; omega)), PR_of P7 (G8 0 6 (by unfold DrR; omega)).1 (gFr_c1 G8 fun k z => by unfold DrR at z; omega), sm⟩, ?_, ⟨B, 0, ⟨?_, by omega, fun i hi => absurd hi (Nat.not_lt_zero i)⟩, ⟨?_, by omega, fun i hi => absurd hi (Nat.not_lt_zero i)⟩⟩, ⟨?_, ?_⟩, rOut_fr h6 FZ GZ (fun c k a z => by unfold DcR Drb DcO at z; omega) (fun c k a z => by unfold DrR at z; omega)⟩
    · refine fl_ok ?_ _
      unfold fX10_runOrders
      rw [cx, ex, p_bnd, gSE_l, p_bnd]
      dsimp only
      rw [show (0 : Int32) = nI 0 from rfl, p_wF, p_bnd, if_neg (show ¬ (1 : Int32) = nI 0 by decide), e4, p_bnd]
      unfold fX3_runAll
      rw [show (0 : Int32) = nI 0 from rfl, e8]; rfl
    · rw [ry (1 : Int32) N2 (by rw [ey]; rfl), ee, p_bnd]
      dsimp only
      rw [d6, if_pos (show nI 0 = 0 from rfl), if_neg (show ¬ (1 : Int32) = 0 by decide), g6, p_bnd, g7, p_bnd, show (0 : Int32) = nI 0 from rfl, g8]; rfl
    · rw [n8 _ (by decide) (by decide), (G5 0 0 (by omega)).1, (G2' 0 0 (by unfold DrO; omega)).1, (G2 0 0 (by omega)).1, (G1 0 0 (by omega)).1, p_gI_s]
    · have := rKept_fr h3 FZ GZ (fun c k a z => by unfold DcR Drb DcO at z; omega) (fun c k a z => by unfold DrR at z; omega)
      rcases this with h | ⟨K, q1, q2, q3, q4, q5, q6⟩
      · exact Or.inl h
      · exact Or.inr ⟨K, q1, q2, q3, q4, sB_le q5 (by omega), q6⟩
    · rw [(F8 32 1 (by unfold DcR; omega)).1, (F4 32 1 (by unfold Drb; omega)).1, p_gI_s]
    · rw [n8 _ (by decide) (by decide)]; exact v21
    · rw [(F8 32 4 (by unfold DcR; omega)).1, (F4 32 4 (by unfold Drb; omega)).1, p_gI_n (Or.inr (by decide)), n8 _ (by decide) (by decide), v28, d4, d6]
    · rw [(F8 32 5 (by unfold DcR; omega)).1, (F4 32 5 (by unfold Drb; omega)).1, p_gI_n (Or.inr (by decide)), n8 _ (by decide) (by decide), v29, d5, d7]
  · have FZ : gFr (fun c k => DcO c k ∨ (c = 32 ∧ k = 1)) M (gI M2 32 1 (nI 0)) := gFr_trI (gFr_mo FA (fun c k z => Or.inl z)) (Or.inr ⟨rfl, rfl⟩)
    have GZ : gFr (fun c k => c = 13 ∨ (c = 0 ∧ k ≠ 6 ∧ k ≠ 7 ∧ k ≠ 40)) N (gI N5 0 0 (nI 1)) := gFr_trI GC (by omega)
    refine STL_no (k := 1) (M' := gI M2 32 1 (nI 0)) (N' := gI N5 0 0 (nI 1)) (b := nI 0) ?_ ?_ (by omega) (by omega) (p_gI_s _ _ _ _) (REL_mono (c := c) ⟨S, P, rNow_fr h1 FZ GZ (fun c k a b z => by unfold DcO at z; omega) (fun k z => by omega), rPast_fr h2 FZ GZ (fun c k a z => by unfold DcO at z; omega) (fun c k a z => by omega), rKept_fr h3 FZ GZ (fun c k a z => by unfold DcO at z; omega) (fun c k a z => by omega), ⟨B, 0, ⟨p_gI_s _ _ _ _, by omega, fun i hi => absurd hi (Nat.not_lt_zero i)⟩, ⟨by rw [p_gI_n (Or.inr (by decide))]; exact v21, by omega, fun i hi => absurd hi (Nat.not_lt_zero i)⟩⟩, ⟨?_, ?_⟩, rOut_fr h6 FZ GZ (fun c k a z => by unfold DcO at z; omega) (fun c k a z => by omega)⟩ (by omega))
    · unfold fL_runOrders fX10_runOrders
      rw [cx, ex, p_bnd, gSE_r, p_bnd]
      rfl
    · rw [ry (nI 0) N2 (by rw [ey]; rfl), ee, p_bnd]
      dsimp only
      rw [E2.1, if_neg (show ¬ nI e = 0 by rw [show (0 : Int32) = nI 0 from rfl, p_eq (by omega) (by omega)]; omega), if_pos rfl]
      rfl
    · rw [p_gI_n (Or.inr (by decide)), p_gI_n (Or.inr (by decide)), v28, E1.1, E2.1]
    · rw [p_gI_n (Or.inr (by decide)), p_gI_n (Or.inr (by decide)), v29, E1.2, E2.2]
end RUO
