/-! LOCKSTEP: the statement, the loops -/
section LK4
variable {M N M1 N1 : gMem} {B : Nat → Nat} {L i j t : Nat} {S : gS} {m0 m1 : Bool} {x y : Option (Int32 × gMem)}
theorem OC_zv (h : OC M N B L j x y) : OC M N B L j (x.bind fun v => (zv v.1).bind fun w => some (w, v.2)) (y.bind fun v => (zv v.1).bind fun w => some (w, v.2)) := by
  obtain ⟨b, M', N', hx, hy, q⟩ := h
  refine ⟨b, M', N', ?_, ?_, q⟩
  · rw [hx, p_bnd]
    show (zv (ib b)).bind _ = _
    rw [p_zvib, p_bnd]
  · rw [hy, p_bnd]
    show (zv (ib b)).bind _ = _
    rw [p_zvib, p_bnd]
theorem OC_fr (h : OC M1 N1 B L j x y) (F : gFr DcT M M1) (G : gFr DrT N N1) : OC M N B L j x y := by
  obtain ⟨b, M', N', hx, hy, F1, G1, q⟩ := h
  exact ⟨b, M', N', hx, hy, gFr_tr F F1, gFr_tr G G1, q⟩
theorem OC_le (h : OC M N B L j x y) (hi : i ≤ j) : OC M N B L i x y := by
  obtain ⟨b, M', N', hx, hy, F1, G1, q, z⟩ := h
  refine ⟨b, M', N', hx, hy, F1, G1, q, fun e => ?_⟩
  obtain ⟨i', S', n0, n1, a, r⟩ := z e
  exact ⟨i', S', n0, n1, by omega, r⟩
theorem lk_stmt (h : SR M N B L i S m0 m1) (hw : 1 ≤ sN S ∨ (tL B L (tSk B L i) = true ∧ tWd B (tSk B L i) (tWe B L (tSk B L i) - tSk B L i) 0 = true)) : OC M N B L i (fX1_readStatement 11 M) (fX11_readsStatement N) := by
  obtain ⟨hi, p2, ⟨tc, tr⟩, rt, ⟨ec4, ec5⟩, ⟨er6, er7⟩, ⟨hc, hr⟩, f0, f1, f2⟩ := h
  have hL := tc.2.1
  obtain ⟨b1, b2⟩ := tSk_b (B := B) hi
  obtain ⟨M1, e1, F1, s1, y1, y2⟩ := c_readWord tc p2 hi
  generalize tSk B L i = j at b1 b2 hw rt e1 s1 y1 y2
  have sy := r_says tr rt b2 er6
  have tc1 := TXc_fr tc F1
  have hc1 := Drd_CS hc F1
  have en := cs_n hc1
  have hn := hc.2.1.1
  have F1' : gFr DcT M M1 := gFr_mo F1 (fun _ _ => Drd_DcT)
  unfold fX1_readStatement fX11_readsStatement
  rw [e1, p_bnd, sy 0, sy 1, sy 2, sy 3, p_bnd, p_bnd, p_bnd, p_bnd]
  dsimp only
  cases hl : tL B L j
  · have k1 : decide (tTk B L j = 1) = false := decide_eq_false (fun z => by rw [tTk_1.mp z] at hl; cases hl)
    rw [k1, if_pos (show ib false = 0 from rfl), Bool.false_and, Bool.false_and, Bool.false_and, Bool.false_and, if_pos (show ib false = 0 from rfl), if_pos (show ib false = 0 from rfl), if_pos (show ib false = 0 from rfl), if_pos (show ib false = 0 from rfl)]
    obtain ⟨N2, g2, G2, R2⟩ := r_failsT er6 rt.1 1
    refine OC_no (c := 1) (p := j) (M' := M1) (N' := N2) rfl ?_ F1' G2 (by omega) (by omega) (y2 hl) R2
    rw [show (1 : Int32) = nI 1 from rfl, g2]; rfl
  · obtain ⟨z1, z2, z3⟩ := y1 hl
    have k1 : decide (tTk B L j = 1) = true := decide_eq_true (tTk_1.mpr hl)
    obtain ⟨c1, c2⟩ := tWe_b (B := B) b2
    have wi : ∀ k, fX5_wordIs k M1 = some (ib (tWd B j (tWe B L j - j) k)) := fun k => c_wordIs (M := M1) (B := B) s1 (by rw [z1]; congr 1; omega) (by omega) (fun q hq => by
      obtain ⟨w1, w2, w3⟩ := tWe_bytes hq
      rw [(tc1.2.2 _ w1).2, sg_lo (by omega)]) k
    have hB : SB M1 N B L j S m0 m1 := ⟨hl, s1, z1, ⟨tc1, tr⟩, rt, ⟨z2.trans ec4, z3.trans ec5⟩, ⟨er6, er7⟩, ⟨hc1, hr⟩, (F1 36 0 (by unfold Drd; omega)).1.trans f0, (F1 36 1 (by unfold Drd; omega)).1.trans f1, f2⟩
    rw [if_neg (show ¬ ib true = 0 by decide), wi 0, wi 1, wi 2, wi 3, p_bnd, p_bnd, p_bnd, p_bnd, k1, tTe_L hl, Bool.true_and, Bool.true_and, Bool.true_and, Bool.true_and, en]
    refine OC_le (OC_fr ?_ F1' gFr_rf) b1
    cases w0 : tWd B j (tWe B L j - j) 0
    · have h1n : 1 ≤ sN S := hw.elim id (fun z => by rw [w0] at z; cases z.2)
      rw [if_pos (show ib false = 0 from rfl), if_pos (show ib false = 0 from rfl), if_neg (show ¬ nI (sN S) = 0 by rw [show (0 : Int32) = nI 0 from rfl, p_eq (by omega) (by omega)]; omega)]
      cases w1 : tWd B j (tWe B L j - j) 1
      · rw [if_pos (show ib false = 0 from rfl), if_pos (show ib false = 0 from rfl)]
        cases w2 : tWd B j (tWe B L j - j) 2
        · rw [if_pos (show ib false = 0 from rfl), if_pos (show ib false = 0 from rfl)]
          cases w3 : tWd B j (tWe B L j - j) 3
          · rw [if_pos (show ib false = 0 from rfl), if_pos (show ib false = 0 from rfl)]
            obtain ⟨M2, e2, F2, E2⟩ := c_failT M1 1 j
            obtain ⟨N2, g2, G2, R2⟩ := r_failsT er6 rt.1 1
            refine OC_no (c := 1) (p := j) (M' := M2) (N' := N2) ?_ ?_ F2 G2 (by omega) (by omega) E2 R2
            · rw [s1, show (1 : Int32) = nI 1 from rfl, e2]; rfl
            · rw [show (1 : Int32) = nI 1 from rfl, g2]; rfl
          · rw [if_neg (show ¬ ib true = 0 by decide), if_neg (show ¬ ib true = 0 by decide)]
            exact OC_zv (lk_join hB h1n)
        · rw [if_neg (show ¬ ib true = 0 by decide), if_neg (show ¬ ib true = 0 by decide)]
          exact OC_zv (lk_mode hB h1n)
      · rw [if_neg (show ¬ ib true = 0 by decide), if_neg (show ¬ ib true = 0 by decide)]
        exact OC_zv (lk_arrow hB h1n)
    · rw [if_neg (show ¬ ib true = 0 by decide), if_neg (show ¬ ib true = 0 by decide)]
      exact OC_zv (lk_task hB)
/-- both are through -/
def FIN (M N : gMem) (x y : Option (gMem ⊕ (Int32 × gMem))) : Prop := ∃ M' N', gFr DcT M M' ∧ gFr DrT N N' ∧ ((x = some (.inl M') ∧ y = some (.inl N') ∧ ∃ S', 1 ≤ sN S' ∧ CS M' 11 S' ∧ RS N' S' ∧ (M'.1 32 4 = nI 0 ∧ M'.1 32 5 = mO 1) ∧ N'.1 0 26 = nI 0 ∧ N'.1 0 27 = mO 1) ∨ (x = some (.inr (nI 0, M')) ∧ y = some (.inr (nI 0, N')) ∧ ∃ c p, 1 ≤ c ∧ c ≤ 9 ∧ p ≤ 900 ∧ EC M' c p ∧ ER N' c p))
theorem FIN_fr {x y : Option (gMem ⊕ (Int32 × gMem))} (h : FIN M1 N1 x y) (F : gFr DcT M M1) (G : gFr DrT N N1) : FIN M N x y := by
  obtain ⟨M', N', F1, G1, q⟩ := h
  exact ⟨M', N', gFr_tr F F1, gFr_tr G G1, q⟩
def gLc {σ ρ : Type} (body : σ → Option (σ ⊕ ρ)) (n : Nat) : σ ⊕ ρ → Option ρ
  | .inl s => gLoop body n s
  | .inr r => some r
theorem gLoop_s {σ ρ : Type} {body : σ → Option (σ ⊕ ρ)} {n : Nat} {s : σ} : gLoop body (n + 1) s = (body s).bind (gLc body n) := by
  show (body s).bind _ = _
  congr 1
theorem gLc_l {σ ρ : Type} {body : σ → Option (σ ⊕ ρ)} {n : Nat} {s : σ} : (some (.inl s : σ ⊕ ρ)).bind (gLc body n) = gLoop body n s := rfl
theorem gLc_r {σ ρ : Type} {body : σ → Option (σ ⊕ ρ)} {n : Nat} {r : ρ} : (some (.inr r : σ ⊕ ρ)).bind (gLc body n) = some r := rfl
/-- the class's way behind a statement -/
def cT (M : gMem) (x5 : Int32) (f : Nat) : Option (gMem ⊕ (Int32 × gMem)) :=
  ((fX5_skipSpaces M).bind fun v9 => (fX5_isAtEnd v9).bind fun v10 => (nm (if v10 = 0 then (1 : Int32) else (0 : Int32))).bind fun v12 => if v12 = 0 then (fX1_readAll_b81 11 v12 x5 v9) else (fX5_readSemicolon v9).bind fun v14 => if v14.1 = 0 then (some (.inr (.inr ((0 : Int32), v14.2)))) else fX1_readAll_b81 11 v12 x5 v14.2).bind (gLc (fun z9 => fX1_readAll_l24 11 z9.1 z9.2.1 z9.2.2) f)
theorem cT_y {M' : gMem} {k f : Nat} (hk : k < 900) (e : fX1_readStatement 11 M = some (ib true, M')) : gLoop (fun z9 => fX1_readAll_l24 11 z9.1 z9.2.1 z9.2.2) (f + 1) ((1 : Int32), nI k, M) = cT M' (nI k) f := by
  rw [gLoop_s]
  show (fX1_readAll_l24 11 (1 : Int32) (nI k) M).bind _ = _
  unfold fX1_readAll_l24
  rw [if_neg (by rw [show (900 : Int32) = nI 900 from rfl, p_le (by omega) (by omega)]; omega), if_neg (show ¬ (1 : Int32) = 0 by decide), e, p_bnd]
  dsimp only
  rw [if_neg (show ¬ ib true = 0 by decide)]
  rfl
theorem cT_n {M' : gMem} {k f : Nat} (hk : k < 900) (e : fX1_readStatement 11 M = some (ib false, M')) : gLoop (fun z9 => fX1_readAll_l24 11 z9.1 z9.2.1 z9.2.2) (f + 1) ((1 : Int32), nI k, M) = some (.inr (nI 0, M')) := by
  rw [gLoop_s]
  show (fX1_readAll_l24 11 (1 : Int32) (nI k) M).bind _ = _
  unfold fX1_readAll_l24
  rw [if_neg (by rw [show (900 : Int32) = nI 900 from rfl, p_le (by omega) (by omega)]; omega), if_neg (show ¬ (1 : Int32) = 0 by decide), e, p_bnd]
  dsimp only
  rw [if_pos (show ib false = 0 from rfl)]
  rfl
theorem lk_tail : ∀ (d : Nat) (M N : gMem) (i k f f' : Nat) (S : gS) (m0 m1 : Bool), L - i < d → k < i → d < f → d < f' → SR M N B L i S m0 m1 → 1 ≤ sN S → FIN M N (cT M (nI k) f) (gLoop (fun z9 => fX11_readsAll_l25 z9) f' N) := by
  intro d
  induction d with
  | zero => intro M N i k f f' S m0 m1 h; omega
  | succ d ih =>
    intro M N i k f f' S m0 m1 hd hk hf hf' h h1n
    obtain ⟨hi, p2, ⟨tc, tr⟩, rt, ⟨ec4, ec5⟩, ⟨er6, er7⟩, ⟨hc, hr⟩, f0, f1, f2⟩ := h
    have hL := tc.2.1
    obtain ⟨b1, b2⟩ := tSk_b (B := B) hi
    have ids := tSk_id (B := B) hi
    obtain ⟨M1, e1, F1, s1⟩ := c_skip tc p2 hi
    have F1d : gFr Drd M M1 := gFr_mo F1 (fun c k z => by unfold Drd; omega)
    have tc1 := TXc_fr tc F1d
    have hc1 := Drd_CS hc F1d
    have F1' : gFr DcT M M1 := gFr_mo F1d (fun _ _ => Drd_DcT)
    generalize tSk B L i = j at b1 b2 rt s1 ids
    have ie := c_isAtEnd tc1 s1 b2
    have k4 := tTk_le (B := B) (L := L) (j := j)
    obtain ⟨f1', rfl⟩ : ∃ q, f' = q + 1 := ⟨f' - 1, by omega⟩
    obtain ⟨f1'', rfl⟩ : ∃ q, f = q + 1 := ⟨f - 1, by omega⟩
    have hrl : gLoop (fun z9 => fX11_readsAll_l25 z9) (f1' + 1) N = (if nI (tTk B L j) = 0 then (some (.inr (.inl N))) else if nI (tTk B L j) = (3 : Int32) then ((fX11_goesOn N).bind fun v9 => (fX11_readsStatement v9).bind fun v10 => if v10.1 = 0 then (some (.inr (.inr ((0 : Int32), v10.2)))) else some (.inl v10.2)) else (fX11_fails (1 : Int32) N).bind fun v12 => (zv v12.1).bind fun v13 => some (.inr (.inr (v13, v12.2))) : Option (gMem ⊕ (gMem ⊕ (Int32 × gMem)))).bind (gLc (fun z9 => fX11_readsAll_l25 z9) f1') := by
      rw [gLoop_s, ← rt.2.2.1]; rfl
    rw [hrl]
    unfold cT
    rw [e1, p_bnd, ie, p_bnd]
    by_cases c : j = L
    · rw [decide_eq_true (show L ≤ j by omega), if_neg (show ¬ ib true = 0 by decide), p_nm, p_bnd, if_pos rfl, tTk_0.mpr c, if_pos (show nI 0 = 0 from rfl)]
      refine ⟨M1, N, F1', gFr_rf, Or.inl ⟨?_, rfl, S, h1n, hc1, hr, ⟨?_, ?_⟩, er6, er7⟩⟩
      · unfold fX1_readAll_b81
        rw [gLc_l, gLoop_s]
        show (fX1_readAll_l24 11 (0 : Int32) (nI k + 1) M1).bind _ = _
        unfold fX1_readAll_l24
        split
        · rfl
        · rfl
      · rw [(F1 32 4 (by omega)).1]; exact ec4
      · rw [(F1 32 5 (by omega)).1]; exact ec5
    · have k0 : tTk B L j ≠ 0 := fun z => c (tTk_0.mp z)
      have k3 := tTk_3 (B := B) b2
      obtain ⟨M2, e2, F2, y1, y2⟩ := c_readSemicolon tc1 s1 b2
      rw [ids] at e2 y1 y2
      have F2' : gFr DcT M M2 := gFr_tr F1' (gFr_mo F2 (fun _ _ => Drd_DcT))
      rw [decide_eq_false (show ¬ L ≤ j by omega), if_pos (show ib false = 0 from rfl), p_nm, p_bnd, if_neg (show ¬ (1 : Int32) = 0 by decide), e2, p_bnd, if_neg (show ¬ nI (tTk B L j) = 0 by rw [show (0 : Int32) = nI 0 from rfl, p_eq (by omega) (by omega)]; exact k0)]
      by_cases q : j < L ∧ B j = 59
      · obtain ⟨z1, z2, z3⟩ := y1 q
        have q3 : nI (tTk B L j) = (3 : Int32) := by rw [k3.mpr q]; rfl
        rw [decide_eq_true q]
        dsimp only
        rw [if_neg (show ¬ ib true = 0 by decide), if_pos q3]
        unfold fX1_readAll_b81
        rw [gLc_l]
        have tc2 := TXc_fr tc1 F2
        have hc2 := Drd_CS hc1 F2
        obtain ⟨N1, g1, G1, T1⟩ := r_goT tr rt b2
        have te : tTe B L j = j + 1 := by
          unfold tTe
          rw [if_neg c, if_neg (fun z => by have := of_decide_eq_true z; omega), if_neg (fun z => by have := of_decide_eq_true z; omega)]
        rw [te] at T1
        have sr : SR M2 N1 B L (j + 1) S m0 m1 := by
          refine ⟨by omega, z1, ⟨tc2, Dto_TX tr G1⟩, T1, ⟨?_, ?_⟩, ⟨?_, ?_⟩, ⟨hc2, Dto_RS hr G1⟩, ?_, ?_, ?_⟩
          · rw [z2, (F1 32 4 (by omega)).1]; exact ec4
          · rw [z3, (F1 32 5 (by omega)).1]; exact ec5
          · rw [(G1 0 26 (by unfold Dto; omega)).1]; exact er6
          · rw [(G1 0 27 (by unfold Dto; omega)).1]; exact er7
          · rw [(F2 36 0 (by unfold Drd; omega)).1, (F1 36 0 (by omega)).1]; exact f0
          · rw [(F2 36 1 (by unfold Drd; omega)).1, (F1 36 1 (by omega)).1]; exact f1
          · rw [(G1 0 31 (by unfold Dto; omega)).1]; exact f2
        obtain ⟨b, M', N', hx, hy, F3, G3, no, yes⟩ := lk_stmt sr (Or.inl h1n)
        have kk : nI k + (1 : Int32) = nI (k + 1) := nI_add _ _
        cases b
        · obtain ⟨c', p, c1, c9, p9, E1, E2⟩ := no rfl
          refine ⟨M', N', gFr_tr F2' F3, gFr_tr (gFr_mo G1 (fun _ _ => Dto_DrT)) G3, Or.inr ⟨?_, ?_, c', p, c1, c9, p9, E1, E2⟩⟩
          · rw [kk]
            exact cT_n (by omega) hx
          · rw [g1, p_bnd, hy, p_bnd]
            dsimp only
            rw [if_pos (show ib false = 0 from rfl), gLc_r]; rfl
        · obtain ⟨i', S', n0, n1, lt, h1', sr'⟩ := yes rfl
          have := ih M' N' i' (k + 1) f1'' f1' S' n0 n1 (by omega) (by omega) (by omega) (by omega) sr' h1'
          refine FIN_fr (M1 := M') (N1 := N') ?_ (gFr_tr F2' F3) (gFr_tr (gFr_mo G1 (fun _ _ => Dto_DrT)) G3)
          have ex : gLoop (fun z9 => fX1_readAll_l24 11 z9.1 z9.2.1 z9.2.2) (f1'' + 1) ((1 : Int32), nI k + (1 : Int32), M2) = cT M' (nI (k + 1)) f1'' := by
            rw [kk]
            exact cT_y (by omega) hx
          rw [g1, p_bnd, hy, p_bnd]
          dsimp only
          rw [if_neg (show ¬ ib true = 0 by decide), gLc_l, ex]
          exact this
      · obtain ⟨N2, g2, G2, R2⟩ := r_failsT er6 rt.1 1
        rw [decide_eq_false q]
        dsimp only
        rw [if_pos (show ib false = 0 from rfl), gLc_r, if_neg (show ¬ nI (tTk B L j) = (3 : Int32) by rw [show (3 : Int32) = nI 3 from rfl, p_eq (by omega) (by omega)]; exact fun z => q (k3.mp z)), show (1 : Int32) = nI 1 from rfl, g2]
        exact ⟨M2, N2, F2', G2, Or.inr ⟨rfl, rfl, 1, j, by omega, by omega, by omega, y2 q, R2⟩⟩
end LK4
