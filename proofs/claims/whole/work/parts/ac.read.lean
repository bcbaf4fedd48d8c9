/-! A TEXT is read: both sides -/
def sNil : gS := (fun _ => 0, fun _ => 0, fun _ => 0, fun _ => 0, fun _ => 0, fun _ => 0, fun _ => [])
/-- the accounts are zero -/
def sZa (S : gS) : gS := (S.1, sFr S, sTo S, sPl S, sHr S, fun _ => 0, sNm S)
section RDT
variable {M N : gMem} {B : Nat → Nat} {L t : Nat} {S : gS}
theorem sNil_n : sN sNil = 0 := rfl
theorem sNil_W : sW sNil := by
  refine ⟨⟨by decide, by decide, by decide, by decide, by decide⟩, ⟨fun i hi => absurd hi (Nat.not_lt_zero i), fun i _ hi => absurd hi (Nat.not_lt_zero i)⟩, ⟨fun i hi => absurd hi (Nat.not_lt_zero i), fun i hi => absurd hi (Nat.not_lt_zero i)⟩, ⟨fun i hi => absurd hi (Nat.not_lt_zero i), fun i _ hi => absurd hi (Nat.not_lt_zero i)⟩, fun i hi => absurd hi (Nat.not_lt_zero i), fun i hi => absurd hi (Nat.not_lt_zero i), fun i _ hi => absurd hi (Nat.not_lt_zero i)⟩
theorem sZa_W (h : sW S) : sW (sZa S) := h
theorem c_fillL {c n : Nat} (hn : n ≤ 4000) (x : Int64) : ∃ M', fJ7_fill_d0a16 c n x M = some M' ∧ gFr (fun d _ => d = c) M M' ∧ (∀ k, k < n → M'.2.1 c k = x) ∧ M'.1 = M.1 := by
  have e0 : Int32.ofNat n = nI n := rfl
  obtain ⟨r, e, F, I, J⟩ : ∃ r, gLoop (fun z9 => fJ7_fill_d0a16_l6 c n x (Int32.ofNat n) z9.1 z9.2) gFu ((0 : Int32), M) = some r ∧ gFr (fun d _ => d = c) M r ∧ (∀ k, k < n → r.2.1 c k = x) ∧ r.1 = M.1 := by
    refine gLoop_i (fun k s => ∃ M', s = (nI k, M') ∧ k ≤ n ∧ gFr (fun d _ => d = c) M M' ∧ (∀ j, j < k → M'.2.1 c j = x) ∧ M'.1 = M.1) _ n ⟨M, rfl, by omega, gFr_rf, fun j hj => absurd hj (Nat.not_lt_zero j), rfl⟩ (by show n < 4096; omega) ?_
    rintro k s hk ⟨M', rfl, hkn, hF, hI, hJ⟩
    rcases Nat.lt_or_ge k n with q | q
    · refine Or.inl ⟨(nI (k + 1), gL M' c k x), ?_, q, gL M' c k x, rfl, by omega, gFr_trL hF rfl, fun j hj => ?_, hJ⟩
      · simp (disch := omega) only [p_bnd, p_nm, p_gSEl, p_gSEr, p_l0, p_l1, p_l2, p_l3, p_l4, p_l5, p_l6, p_l7, p_l8, p_l9, p_l10, p_l14, p_l16, p_l20, p_l22, p_l24, p_l30, p_l31, p_l32, p_l38, p_l40, p_l41, p_l43, p_l48, p_l57, p_l59, p_l60, p_l61, p_l62, p_l63, p_l97, p_l98, p_l101, p_l122, p_l158, p_l201, p_l255, p_l256, p_l374, p_l880, p_l900, p_l1000, p_l2618, p_neg, nI_add, p_mul, p_sub, p_addm, p_addm0, p_subm, p_le, p_lt, p_eq, p_mO_eq, p_eq_mO, p_mO_lt, p_nlt_mO, p_mO_le, p_le_mO, p_rI, p_rL, p_wI, p_wL, p_wF, p_has10, p_has11, p_ib0, p_ib1, p_shl1, p_zv0, p_zv1, p_zvib, p_ibd, p_ibn, if_pos, if_neg, if_true, if_false, ne_eq, not_true, not_false_iff, Decidable.not_not, Nat.not_lt, Nat.not_le, Bool.true_eq_false, Bool.false_eq_true, eq_self, reduceIte, Nat.reduceAdd, Nat.reduceMul, Nat.reduceSub, Nat.reduceEqDiff, Nat.reduceLT, Nat.reduceLeDiff, reduceCtorEq, fJ7_fill_d0a16_l6, e0]
      · rw [p_gL]
        by_cases d : j = k
        · rw [if_pos ⟨rfl, d⟩]
        · rw [if_neg (fun z => d z.2)]; exact hI j (by omega)
    · exact Or.inr ⟨M', by simp (disch := omega) only [p_bnd, p_nm, p_gSEl, p_gSEr, p_l0, p_l1, p_l2, p_l3, p_l4, p_l5, p_l6, p_l7, p_l8, p_l9, p_l10, p_l14, p_l16, p_l20, p_l22, p_l24, p_l30, p_l31, p_l32, p_l38, p_l40, p_l41, p_l43, p_l48, p_l57, p_l59, p_l60, p_l61, p_l62, p_l63, p_l97, p_l98, p_l101, p_l122, p_l158, p_l201, p_l255, p_l256, p_l374, p_l880, p_l900, p_l1000, p_l2618, p_neg, nI_add, p_mul, p_sub, p_addm, p_addm0, p_subm, p_le, p_lt, p_eq, p_mO_eq, p_eq_mO, p_mO_lt, p_nlt_mO, p_mO_le, p_le_mO, p_rI, p_rL, p_wI, p_wL, p_wF, p_has10, p_has11, p_ib0, p_ib1, p_shl1, p_zv0, p_zv1, p_zvib, p_ibd, p_ibn, if_pos, if_neg, if_true, if_false, ne_eq, not_true, not_false_iff, Decidable.not_not, Nat.not_lt, Nat.not_le, Bool.true_eq_false, Bool.false_eq_true, eq_self, reduceIte, Nat.reduceAdd, Nat.reduceMul, Nat.reduceSub, Nat.reduceEqDiff, Nat.reduceLT, Nat.reduceLeDiff, reduceCtorEq, fJ7_fill_d0a16_l6, e0], hF, fun j hj => hI j (by omega), hJ⟩
  refine ⟨r, ?_, F, I, J⟩
  unfold fJ7_fill_d0a16
  rw [p_nm, p_bnd, e, p_bnd]
theorem cs_clear (ht : t = 11) : ∃ r, fX2_clear t M = some r ∧ gFr (fun c _ => c = t ∨ c = t + 9) M r ∧ CS r t sNil := by
  subst ht
  obtain ⟨M6, e6, F6, I6, J6⟩ := c_fillL (M := gI (gI (gI (gI (gI M 11 9 (nI 0)) 11 10 (nI 0)) 11 11 (nI 0)) 11 12 (nI 0)) 11 13 (nI 0)) (c := 20) (n := 9) (by decide) (0 : Int64)
  refine ⟨M6, ?_, gFr_tr (gFr_trI (gFr_trI (gFr_trI (gFr_trI (gFr_I (Or.inl rfl)) (Or.inl rfl)) (Or.inl rfl)) (Or.inl rfl)) (Or.inl rfl)) (gFr_mo F6 (fun c k z => Or.inr z)), ⟨⟨?_, ?_, ?_, ?_, ?_⟩, fun a ha => I6 a ha, fun i hi => absurd hi (Nat.not_lt_zero i), fun i hi => absurd hi (Nat.not_lt_zero i), fun i hi => absurd hi (Nat.not_lt_zero i)⟩, sNil_W⟩
  · unfold fX2_clear fX2_clearAccounts
    rw [show (0 : Int32) = nI 0 from rfl, p_wF, p_bnd, p_wF, p_bnd, p_wF, p_bnd, p_wF, p_bnd, p_wF, p_bnd, e6]; rfl
  · rw [J6, p_gI_n (Or.inr (by decide)), p_gI_n (Or.inr (by decide)), p_gI_n (Or.inr (by decide)), p_gI_n (Or.inr (by decide)), p_gI_s]; rfl
  · rw [J6, p_gI_n (Or.inr (by decide)), p_gI_n (Or.inr (by decide)), p_gI_n (Or.inr (by decide)), p_gI_s]; rfl
  · rw [J6, p_gI_n (Or.inr (by decide)), p_gI_n (Or.inr (by decide)), p_gI_s]; rfl
  · rw [J6, p_gI_n (Or.inr (by decide)), p_gI_s]; rfl
  · rw [J6, p_gI_s]; rfl
theorem cs_clearA (h : CS M t S) : ∃ r, fX2_clearAccounts t M = some r ∧ gFr (fun c _ => c = t + 9) M r ∧ CS r t (sZa S) := by
  obtain ⟨M6, e6, F6, I6, J6⟩ := c_fillL (M := M) (c := t + 9) (n := 9) (by decide) (0 : Int64)
  obtain ⟨⟨q0, qa, qp, qf, qu⟩, hW⟩ := h
  refine ⟨M6, ?_, F6, ⟨?_, fun a ha => I6 a ha, ?_, ?_, fun u hu => ?_⟩, sZa_W hW⟩
  · unfold fX2_clearAccounts
    rw [e6]; rfl
  · rw [J6]; exact q0
  · rw [J6]; exact qp
  · rw [J6]; exact qf
  · rw [J6, (F6 (t + 1) u (by omega)).2.1]; exact qu u hu
theorem rs_nil {w : Nat → Int32} (h : ∀ k, k < 374 → w k = nI 0) : RR w sNil :=
  ⟨⟨h 0 (by decide), h 1 (by decide), h 2 (by decide), h 3 (by decide), h 4 (by decide)⟩, fun a ha => h _ (by omega), fun i hi => absurd hi (Nat.not_lt_zero i), fun i hi => absurd hi (Nat.not_lt_zero i), fun i hi => absurd hi (Nat.not_lt_zero i)⟩
/-- both read all -/
theorem lk_all (hc : TXc M B L) (hr : TXr N B L) (h31 : N.1 0 31 = nI 0) (hz : ∀ k, k < 374 → N.1 1 k = nI 0) : ∃ b M' N' N0, fX11_starts N = some N0 ∧ gFr DcT M M' ∧ gFr DrT N N' ∧ fX11_readsAll N0 = some (ib b, N') ∧ (b = true → ∃ S, 1 ≤ sN S ∧ CS M' 11 S ∧ RS N' S ∧ (M'.1 32 4 = nI 0 ∧ M'.1 32 5 = mO 1) ∧ (N'.1 0 26 = nI 0 ∧ N'.1 0 27 = mO 1) ∧ ∃ M2, fX2_clearAccounts 11 M' = some M2 ∧ fX1_readAll 11 M = some (nI 1, M2)) ∧ (b = false → fX1_readAll 11 M = some (nI 0, M') ∧ ∃ c p, 1 ≤ c ∧ c ≤ 9 ∧ p ≤ 900 ∧ EC M' c p ∧ ER N' c p) := by
  have hL := hc.2.1
  obtain ⟨M1, e1, F1, C1⟩ := cs_clear (M := M) (t := 11) rfl
  generalize hM4 : gI (gI (gI (gI (gI (gI M1 36 0 (nI 0)) 36 1 (nI 0)) 32 2 (nI 0)) 32 3 (nI 0)) 32 4 (nI 0)) 32 5 (mO 1) = M4
  have F4 : gFr DcT M M4 := by
    rw [← hM4]
    refine gFr_trI (gFr_trI (gFr_trI (gFr_trI (gFr_trI (gFr_trI (gFr_mo F1 (fun c k z => ?_)) ?_) ?_) ?_) ?_) ?_) ?_ <;> (unfold DcT; omega)
  have F4' : gFr (fun c _ => c = 36 ∨ c = 32) M1 M4 := by
    rw [← hM4]
    refine gFr_trI (gFr_trI (gFr_trI (gFr_trI (gFr_trI (gFr_I ?_) ?_) ?_) ?_) ?_) ?_ <;> omega
  have C4 : CS M4 11 sNil := CS_fr C1 F4' (fun j k hj z => by omega)
  have T4 : TXc M4 B L := TXc_of hc (F4 32 1 (by unfold DcT; omega)).1 (gFr_c1 F4 (fun k z => by unfold DcT at z; omega))
  have r4 : M4.1 36 0 = nI 0 ∧ M4.1 36 1 = nI 0 ∧ M4.1 32 2 = nI 0 ∧ M4.1 32 4 = nI 0 ∧ M4.1 32 5 = mO 1 := by
    rw [← hM4]
    refine ⟨?_, ?_, ?_, ?_, p_gI_s _ _ _ _⟩
    · rw [p_gI_n (Or.inl (by decide)), p_gI_n (Or.inl (by decide)), p_gI_n (Or.inl (by decide)), p_gI_n (Or.inl (by decide)), p_gI_n (Or.inr (by decide)), p_gI_s]
    · rw [p_gI_n (Or.inl (by decide)), p_gI_n (Or.inl (by decide)), p_gI_n (Or.inl (by decide)), p_gI_n (Or.inl (by decide)), p_gI_s]
    · rw [p_gI_n (Or.inr (by decide)), p_gI_n (Or.inr (by decide)), p_gI_n (Or.inr (by decide)), p_gI_s]
    · rw [p_gI_n (Or.inr (by decide)), p_gI_s]
  have cx : fX1_readAll 11 M = (gLoop (fun z9 => fX1_readAll_l24 11 z9.1 z9.2.1 z9.2.2) gFu ((1 : Int32), (0 : Int32), M4)).bind fun w16 => gSE w16 (fun y17 => fX1_readAll_b87 11 y17) (fun r19 => some r19) := by
    unfold fX1_readAll fX5_begin
    rw [e1, p_bnd]
    show ((some (gI M1 36 0 (nI 0))).bind _) = _
    rw [p_bnd]
    show ((some (gI (gI M1 36 0 (nI 0)) 36 1 (nI 0))).bind _) = _
    rw [p_bnd, show (0 : Int32) = nI 0 from rfl, p_wF, p_bnd, p_wF, p_bnd, p_wF, p_bnd, show (-1 : Int32) = mO 1 from rfl, p_wF, p_bnd, hM4, p_bnd]
  -- the reference
  have ns : ∃ N0, fX11_starts N = some N0 ∧ gFr DrT N N0 ∧ RT N0 B L (tSk B L 0) ∧ TXr N0 B L ∧ N0.1 0 26 = nI 0 ∧ N0.1 0 27 = mO 1 ∧ N0.1 0 31 = nI 0 ∧ N0.1 1 = N.1 1 := by
    generalize hN : gI (gI (gI N 0 22 (nI 0)) 0 26 (nI 0)) 0 27 (mO 1) = N3
    have G3 : gFr (fun c k => c = 0 ∧ (k = 22 ∨ k = 26 ∨ k = 27)) N N3 := by
      rw [← hN]; exact gFr_trI (gFr_trI (gFr_I (by omega)) (by omega)) (by omega)
    have t3 : TXr N3 B L := TXr_fr hr G3 (fun c k z w => by omega)
    have a22 : N3.1 0 22 = nI 0 := by rw [← hN, p_gI_n (Or.inr (by decide)), p_gI_n (Or.inr (by decide)), p_gI_s]
    have a26 : N3.1 0 26 = nI 0 := by rw [← hN, p_gI_n (Or.inr (by decide)), p_gI_s]
    have a27 : N3.1 0 27 = mO 1 := by rw [← hN, p_gI_s]
    obtain ⟨N0, g, G, T⟩ := r_goesOn t3 a22 (by omega)
    refine ⟨N0, ?_, gFr_tr (gFr_mo G3 (fun c k z => by unfold DrT; omega)) (gFr_mo G (fun _ _ => Dto_DrT)), T, Dto_TX t3 G, ?_, ?_, ?_, ?_⟩
    · unfold fX11_starts
      rw [show (0 : Int32) = nI 0 from rfl, p_wF, p_bnd, p_wF, p_bnd, show (-1 : Int32) = mO 1 from rfl, p_wF, p_bnd, hN, g, p_bnd]
    · rw [(G 0 26 (by unfold Dto; omega)).1]; exact a26
    · rw [(G 0 27 (by unfold Dto; omega)).1]; exact a27
    · rw [(G 0 31 (by unfold Dto; omega)).1, (G3 0 31 (by omega)).1]; exact h31
    · rw [gFr_c1 G (fun k z => by unfold Dto at z; omega), gFr_c1 G3 (fun k z => by omega)]
  obtain ⟨N0, g0, G0, T0, t0, a26, a27, a31, a1⟩ := ns
  have R0 : RS N0 sNil := ⟨by rw [a1]; exact rs_nil hz, sNil_W⟩
  have sr : SR M4 N0 B L 0 sNil false false := ⟨Nat.zero_le _, r4.2.2.1, ⟨T4, t0⟩, T0, r4.2.2.2, ⟨a26, a27⟩, ⟨C4, R0⟩, r4.1, r4.2.1, a31⟩
  obtain ⟨b1, b2⟩ := tSk_b (B := B) (Nat.zero_le L)
  have sy := r_says t0 T0 b2 a26 0
  have g4096 : gFu = 4095 + 1 := rfl
  by_cases hw : tL B L (tSk B L 0) = true ∧ tWd B (tSk B L 0) (tWe B L (tSk B L 0) - tSk B L 0) 0 = true
  · have sy1 : fX11_says 0 N0 = some (ib true) := by
      rw [sy, decide_eq_true (tTk_1.mpr hw.1), tTe_L hw.1, hw.2]; rfl
    have ry : fX11_readsAll N0 = (fX11_readsStatement N0).bind fun v5 => if v5.1 = 0 then (some ((0 : Int32), v5.2)) else (gLoop (fun z9 => fX11_readsAll_l25 z9) gFu v5.2).bind fun w14 => gSE w14 (fun y15 => some ((1 : Int32), y15)) (fun r16 => some r16) := by
      unfold fX11_readsAll
      rw [sy1, p_bnd, if_neg (show ¬ ib true = 0 by decide)]
    obtain ⟨b, M5, N5, hx, hy, F5, G5, no, yes⟩ := lk_stmt sr (Or.inr hw)
    cases b
    · obtain ⟨c, p, c1, c9, p9, E1, E2⟩ := no rfl
      refine ⟨false, M5, N5, N0, g0, gFr_tr F4 F5, gFr_tr G0 G5, ?_, fun z => Bool.noConfusion z, fun _ => ⟨?_, c, p, c1, c9, p9, E1, E2⟩⟩
      · rw [ry, hy]; rfl
      · rw [cx, g4096, show (0 : Int32) = nI 0 from rfl, cT_n (by decide) hx]; rfl
    · obtain ⟨i, S, n0, n1, lt, h1n, sr'⟩ := yes rfl
      have hi := sr'.1
      obtain ⟨M6, N6, F6, G6, q⟩ := lk_tail 1000 M5 N5 i 0 4095 gFu S n0 n1 (by omega) lt (by decide) (by decide) sr' h1n
      have ry2 : fX11_readsAll N0 = (gLoop (fun z9 => fX11_readsAll_l25 z9) gFu N5).bind fun w14 => gSE w14 (fun y15 => some ((1 : Int32), y15)) (fun r16 => some r16) := by
        rw [ry, hy, p_bnd]
        dsimp only
        rw [if_neg (show ¬ ib true = 0 by decide)]
      have cx2 : fX1_readAll 11 M = (cT M5 (nI 0) 4095).bind fun w16 => gSE w16 (fun y17 => fX1_readAll_b87 11 y17) (fun r19 => some r19) := by
        rw [cx, g4096, show (0 : Int32) = nI 0 from rfl, cT_y (by decide) hx]
      rcases q with ⟨q1, q2, S', h1', C', R', E', E6, E7⟩ | ⟨q1, q2, q3⟩
      · obtain ⟨M7, e7, F7, C7⟩ := cs_clearA C'
        refine ⟨true, M6, N6, N0, g0, gFr_tr F4 (gFr_tr F5 F6), gFr_tr G0 (gFr_tr G5 G6), ?_, fun _ => ⟨S', h1', C', R', E', ⟨E6, E7⟩, M7, e7, ?_⟩, fun z => Bool.noConfusion z⟩
        · rw [ry2, q2]; rfl
        · rw [cx2, q1, p_bnd]
          show fX1_readAll_b87 11 M6 = _
          unfold fX1_readAll_b87
          rw [e7]; rfl
      · refine ⟨false, M6, N6, N0, g0, gFr_tr F4 (gFr_tr F5 F6), gFr_tr G0 (gFr_tr G5 G6), ?_, fun z => Bool.noConfusion z, fun _ => ⟨?_, q3⟩⟩
        · rw [ry2, q2]; rfl
        · rw [cx2, q1]; rfl
  · have sy1 : fX11_says 0 N0 = some (ib false) := by
      rw [sy]
      cases hl : tL B L (tSk B L 0)
      · rw [decide_eq_false (fun z => by rw [tTk_1.mp z] at hl; cases hl)]; rfl
      · rw [decide_eq_true (tTk_1.mpr hl), tTe_L hl, Bool.eq_false_iff.mpr (fun z => hw ⟨hl, z⟩)]; rfl
    obtain ⟨N5, g5, G5, E5⟩ := r_failsT a26 T0.1 1
    obtain ⟨M5, e5, F5, s5, y5, z5⟩ := c_readWord T4 r4.2.2.1 (Nat.zero_le L)
    have F5' : gFr DcT M4 M5 := gFr_mo F5 (fun _ _ => Drd_DcT)
    have ry : fX11_readsAll N0 = some (ib false, N5) := by
      unfold fX11_readsAll
      rw [sy1, p_bnd, if_pos (show ib false = 0 from rfl), show (1 : Int32) = nI 1 from rfl, g5]; rfl
    have hx : ∃ M6, fX1_readStatement 11 M4 = some (ib false, M6) ∧ gFr DcT M4 M6 ∧ EC M6 1 (tSk B L 0) := by
      cases hl : tL B L (tSk B L 0)
      · refine ⟨M5, ?_, F5', z5 hl⟩
        unfold fX1_readStatement
        rw [e5, p_bnd, hl]; rfl
      · obtain ⟨z1, z2, z3⟩ := y5 hl
        have w0 : tWd B (tSk B L 0) (tWe B L (tSk B L 0) - tSk B L 0) 0 = false := Bool.eq_false_iff.mpr (fun z => hw ⟨hl, z⟩)
        obtain ⟨c1, c2⟩ := tWe_b (B := B) b2
        have tc5 := TXc_fr T4 F5
        have wi := c_wordIs (M := M5) (B := B) (n := tWe B L (tSk B L 0) - tSk B L 0) s5 (by rw [z1]; congr 1; omega) (by omega) (fun q hq => by
          obtain ⟨w1, w2, w3⟩ := tWe_bytes hq
          rw [(tc5.2.2 _ w1).2, sg_lo (by omega)]) 0
        have en : M5.1 11 9 = nI 0 := cs_n (Drd_CS C4 F5)
        obtain ⟨M6, e6, F6, E6⟩ := c_failT M5 1 (tSk B L 0)
        refine ⟨M6, ?_, gFr_tr F5' F6, E6⟩
        unfold fX1_readStatement
        rw [e5, p_bnd, hl]
        dsimp only
        rw [if_neg (show ¬ ib true = 0 by decide), wi, p_bnd, w0, if_pos (show ib false = 0 from rfl), en, if_pos (show nI 0 = 0 from rfl), s5, show (1 : Int32) = nI 1 from rfl, e6]; rfl
    obtain ⟨M6, hx, F6, E6⟩ := hx
    refine ⟨false, M6, N5, N0, g0, gFr_tr F4 F6, gFr_tr G0 G5, ry, fun z => Bool.noConfusion z, fun _ => ⟨?_, 1, tSk B L 0, by omega, by omega, by omega, E6, E5⟩⟩
    rw [cx, g4096, show (0 : Int32) = nI 0 from rfl, cT_n (by decide) hx]; rfl
end RDT
