/-! TEXT: the rest of the reference's tokens; a task by its NAME, both sides -/
section TR4
variable {M N : gMem} {B : Nat → Nat} {L i j t : Nat} {S : gS}
def ER (N : gMem) (c p : Nat) : Prop := N.1 0 26 = nI c ∧ N.1 0 27 = nI p
def Drr (c k : Nat) : Prop := c = 0 ∧ ((22 ≤ k ∧ k ≤ 27) ∨ k = 30)
theorem RT_of {N' : gMem} {D : Nat → Nat → Prop} (h : RT N B L j) (F : gFr D N N') (hd : ∀ k, 22 ≤ k → k ≤ 25 → ¬ D 0 k) : RT N' B L j := by
  unfold RT
  rw [(F 0 23 (hd 23 (by omega) (by omega))).1, (F 0 22 (hd 22 (by omega) (by omega))).1, (F 0 25 (hd 25 (by omega) (by omega))).1, (F 0 24 (hd 24 (by omega) (by omega))).1]
  exact h
theorem r_fails (h : N.1 0 26 = nI 0) (hj : N.1 0 23 = nI j) (c : Nat) : ∃ r, fX11_fails (nI c) N = some (nI 0, r) ∧ gFr (fun c k => c = 0 ∧ (k = 26 ∨ k = 27)) N r ∧ ER r c j := by
  refine ⟨gI (gI N 0 26 (nI c)) 0 27 (nI j), ?_, gFr_trI (gFr_trI gFr_rf (by omega)) (by omega), ?_, p_gI_s _ _ _ _⟩
  · unfold fX11_fails
    rw [if_pos (show N.1 0 26 = 0 from h), p_wF, p_bnd, p_gI_n (Or.inr (by decide)), hj, p_wF, p_bnd]; rfl
  · rw [p_gI_n (Or.inr (by decide)), p_gI_s]
theorem r_inn {lo hi b : Nat} (hb : b < 2000) (hl : lo < 2000) (hh : hi < 2000) : fX11_in (nI b) (nI lo) (nI hi) = some (ib (decide (lo ≤ b ∧ b ≤ hi))) := by
  unfold fX11_in
  by_cases c : b < lo
  · rw [if_pos (by rw [p_lt (by omega) (by omega)]; exact c), decide_eq_false (by omega)]; rfl
  · rw [if_neg (by rw [p_lt (by omega) (by omega)]; exact c)]
    by_cases d : hi < b
    · rw [if_pos (by rw [p_lt (by omega) (by omega)]; exact d), decide_eq_false (by omega)]; rfl
    · rw [if_neg (by rw [p_lt (by omega) (by omega)]; exact d), decide_eq_true (by omega)]; rfl
theorem RT_len (h : RT N B L j) (hj : j ≤ L) : N.1 0 22 - N.1 0 23 = nI (tTe B L j - j) := by
  rw [h.1, h.2.1, p_sub (tTe_b hj).1]
theorem r_says (hx : TXr N B L) (h : RT N B L j) (hj : j ≤ L) (h0 : N.1 0 26 = nI 0) (t : Nat) : fX11_says t N = some (ib (decide (tTk B L j = 1) && tWd B j (tTe B L j - j) t)) := by
  obtain ⟨x1, x2, x3⟩ := hx
  obtain ⟨b1, b2⟩ := tTe_b (B := B) hj
  have k4 := tTk_le (B := B) (L := L) (j := j)
  have g7 := gSl_le t
  have sl : sLen t = nI (gSl.getD t 0) := rfl
  have e0 := RT_len h hj
  obtain ⟨h1, h2, h3, -⟩ := h
  unfold fX11_says tWd
  rw [if_pos (show N.1 0 26 = 0 from h0), h3, e0, sl]
  by_cases kc : tTk B L j = 1
  · rw [if_pos (by rw [kc]; rfl), decide_eq_true kc, Bool.true_and]
    generalize hn : tTe B L j - j = n
    have hn9 : j + n ≤ 900 := by omega
    by_cases c : n = gSl.getD t 0
    · rw [if_pos (by rw [c]), decide_eq_true c, Bool.true_and]
      have hB : ∀ k, k < n → N.1 12 (j + k) = nI (B (j + k)) := fun k hk => (x3 _ (by omega)).2
      have sc : ∀ k, k < gSl.getD t 0 → sChr t (nI k) = some (sCh t (nI k)) := fun k hk => by
        unfold sChr; rw [if_pos (p_gIn hk (by omega))]
      have sl2 := sl
      generalize gSl.getD t 0 = m at c g7 sc sl2
      generalize hq : fa_first (fun k => !decide (nI (B (j + k)) = sCh t (nI k))) m = q
      have hle : q ≤ m := hq ▸ fa_first_le _ _
      have hstep : ∀ k, k < q → fX11_says_l35 t N (nI k) = some (.inl (nI (k + 1))) := fun k hk => by
        have := fa_first_no (fun k => !decide (nI (B (j + k)) = sCh t (nI k))) m k (by rw [hq]; exact hk)
        have he : nI (B (j + k)) = sCh t (nI k) := by simpa using this
        have hb := hB k (by omega)
        rw [he] at hb
        unfold fX11_says_l35
        rw [sl2, if_neg (by rw [p_le (by omega) (by omega)]; omega), h1, nI_add, p_rI (by omega) (by omega), p_bnd, hb, sc k (by omega), p_bnd, if_pos rfl, show (1 : Int32) = nI 1 from rfl, nI_add]
      rcases Nat.lt_or_ge q m with d | d
      · have hne : ¬ nI (B (j + q)) = sCh t (nI q) := by
          have := fa_first_yes (fun k => !decide (nI (B (j + k)) = sCh t (nI k))) m (by rw [hq]; exact d)
          rw [hq] at this; simpa using this
        have e := gLoop_f (body := fun z9 => fX11_says_l35 t N z9) (fun k => nI k) (r := .inr (nI 0)) q gFu (by show q < 4096; omega) hstep (by
          show fX11_says_l35 t N (nI q) = _
          unfold fX11_says_l35
          rw [sl2, if_neg (by rw [p_le (by omega) (by omega)]; omega), h1, nI_add, p_rI (by omega) (by omega), p_bnd, hB q (by omega), sc q d, p_bnd, if_neg hne]; rfl)
        rw [show gLoop (fun z9 => fX11_says_l35 t N z9) gFu (0 : Int32) = some (.inr (nI 0)) from e, decide_eq_false (by omega)]; rfl
      · have e := gLoop_f (body := fun z9 => fX11_says_l35 t N z9) (fun k => nI k) (r := .inl ()) q gFu (by show q < 4096; omega) hstep (by
          show fX11_says_l35 t N (nI q) = _
          unfold fX11_says_l35
          rw [sl2, if_pos (by rw [p_le (by omega) (by omega)]; omega)])
        rw [show gLoop (fun z9 => fX11_says_l35 t N z9) gFu (0 : Int32) = some (.inl ()) from e, decide_eq_true (by omega)]; rfl
    · rw [if_neg (by rw [p_eq (by omega) (by omega)]; exact c), decide_eq_false c, Bool.false_and]; rfl
  · rw [if_neg (by rw [show (1 : Int32) = nI 1 from rfl, p_eq (by omega) (by omega)]; exact kc), decide_eq_false kc]; rfl
theorem tNu_k (hj : j ≤ L) : tNu B L j ↔ tTk B L j = 2 ∧ tTe B L j - j ≤ 3 := by
  unfold tNu
  rw [tTk_2]
  exact ⟨fun ⟨a, b⟩ => ⟨a, by rw [tTe_D a]; exact b⟩, fun ⟨a, b⟩ => ⟨a, by rw [tTe_D a] at b; exact b⟩⟩
theorem tNm_k (hj : j ≤ L) : tNm B L j ↔ tTk B L j = 1 ∧ tTe B L j - j ≤ 6 := by
  unfold tNm
  rw [tTk_1]
  exact ⟨fun ⟨a, b⟩ => ⟨a, by rw [tTe_L a]; exact b⟩, fun ⟨a, b⟩ => ⟨a, by rw [tTe_L a] at b; exact b⟩⟩
theorem r_takes_b (h : RT N B L j) (h0 : N.1 0 26 = nI 0) : ∃ r, fX11_takes_b30 N = some (ib false, r) ∧ gFr Drr N r ∧ ER r 1 j := by
  obtain ⟨r, e, F, E⟩ := r_fails h0 h.1 1
  refine ⟨r, ?_, gFr_mo F (fun c k z => by unfold Drr; omega), E⟩
  unfold fX11_takes_b30
  rw [show (1 : Int32) = nI 1 from rfl, e, p_bnd]
  show (zv (nI 0)).bind _ = _
  rw [p_zv0, p_bnd]; rfl
theorem r_takes (hx : TXr N B L) (h : RT N B L j) (hj : j ≤ L) (h0 : N.1 0 26 = nI 0) {lo hi : Nat} (hl : lo < 1000) (hh : hi < 1000) : ∃ r b, fX11_takes (nI lo) (nI hi) N = some (ib b, r) ∧ gFr Drr N r ∧ (¬ tNu B L j → b = false ∧ ER r 1 j) ∧ (tNu B L j → ¬ (lo ≤ tV B L j ∧ tV B L j ≤ hi) → b = false ∧ ER r 2 j) ∧ (tNu B L j → lo ≤ tV B L j ∧ tV B L j ≤ hi → b = true ∧ r.1 0 30 = nI (tV B L j) ∧ RT r B L (tSk B L (tNe B L j)) ∧ r.1 0 26 = nI 0 ∧ r.1 0 27 = N.1 0 27) := by
  have hL := hx.2.1
  obtain ⟨b1, b2⟩ := tTe_b (B := B) hj
  have k4 := tTk_le (B := B) (L := L) (j := j)
  have e0 := RT_len h hj
  have nk := tNu_k (B := B) hj
  have hs : fX11_takes (nI lo) (nI hi) N = if nI (tTk B L j) = (2 : Int32) then (if nI (tTe B L j - j) ≤ (3 : Int32) then ((fX11_in (N.1 0 24) (nI lo) (nI hi)).bind fun v4 => if v4 = 0 then ((fX11_fails (2 : Int32) N).bind fun v6 => (zv v6.1).bind fun v7 => some (v7, v6.2)) else (wF N 0 30 (N.1 0 24)).bind fun M8 => (fX11_goesOn M8).bind fun v9 => some ((1 : Int32), v9)) else fX11_takes_b30 N) else fX11_takes_b30 N := by
    unfold fX11_takes
    rw [if_pos (show N.1 0 26 = 0 from h0), h.2.2.1, e0]
  rw [hs]
  by_cases c : tTk B L j = 2
  · rw [if_pos (by rw [c]; rfl)]
    by_cases d : tTe B L j - j ≤ 3
    · have nu : tNu B L j := nk.mpr ⟨c, d⟩
      have v9 := tV_le nu
      rw [if_pos (by rw [show (3 : Int32) = nI 3 from rfl, p_le (by omega) (by omega)]; exact d), h.2.2.2 nu, r_inn (by omega) (by omega) (by omega), p_bnd]
      by_cases q : lo ≤ tV B L j ∧ tV B L j ≤ hi
      · have x2 : TXr (gI N 0 30 (nI (tV B L j))) B L := TXr_of hx (p_gI_n (Or.inr (by decide))) (p_gI_o (by decide))
        have dd := (tTk_2 (B := B) (L := L) (j := j)).mp c
        have he := tTe_D dd
        have n22 : (gI N 0 30 (nI (tV B L j))).1 0 22 = nI (tNe B L j) := by rw [p_gI_n (Or.inr (by decide)), h.2.1, he]
        obtain ⟨r, e, F, T⟩ := r_goesOn x2 n22 (tNe_b hj).2
        refine ⟨r, true, ?_, gFr_tr (gFr_I (by unfold Drr; omega)) (gFr_mo F (fun c k z => by unfold Dto at z; unfold Drr; omega)), fun z => absurd nu z, fun _ z => absurd q z, fun _ _ => ⟨rfl, ?_, T, ?_, ?_⟩⟩
        · rw [decide_eq_true q, if_neg (show ¬ ib true = 0 by decide), p_wF, p_bnd, e, p_bnd]; rfl
        · rw [(F 0 30 (by unfold Dto; omega)).1, p_gI_s]
        · rw [(F 0 26 (by unfold Dto; omega)).1, p_gI_n (Or.inr (by decide))]; exact h0
        · rw [(F 0 27 (by unfold Dto; omega)).1, p_gI_n (Or.inr (by decide))]
      · obtain ⟨r, e, F, E⟩ := r_fails h0 h.1 2
        refine ⟨r, false, ?_, gFr_mo F (fun c k z => by unfold Drr; omega), fun z => absurd nu z, fun _ _ => ⟨rfl, E⟩, fun _ z => absurd z q⟩
        rw [decide_eq_false q, if_pos (show ib false = 0 from rfl), show (2 : Int32) = nI 2 from rfl, e, p_bnd]
        show (zv (nI 0)).bind _ = _
        rw [p_zv0, p_bnd]; rfl
    · have nu : ¬ tNu B L j := fun z => d (nk.mp z).2
      obtain ⟨r, e, F, E⟩ := r_takes_b h h0
      refine ⟨r, false, ?_, F, fun _ => ⟨rfl, E⟩, fun z => absurd z nu, fun z => absurd z nu⟩
      rw [if_neg (by rw [show (3 : Int32) = nI 3 from rfl, p_le (by omega) (by omega)]; exact d)]; exact e
  · have nu : ¬ tNu B L j := fun z => c (nk.mp z).1
    obtain ⟨r, e, F, E⟩ := r_takes_b h h0
    refine ⟨r, false, ?_, F, fun _ => ⟨rfl, E⟩, fun z => absurd z nu, fun z => absurd z nu⟩
    rw [if_neg (by rw [show (2 : Int32) = nI 2 from rfl, p_eq (by omega) (by omega)]; exact c)]; exact e
theorem r_isNameHere (h : RT N B L j) (hj : j ≤ L) (hL : L ≤ 900) [Decidable (tNm B L j)] : fX11_isNameHere N = some (ib (decide (tNm B L j))) := by
  have k4 := tTk_le (B := B) (L := L) (j := j)
  obtain ⟨b1, b2⟩ := tTe_b (B := B) hj
  unfold fX11_isNameHere
  rw [RT_len h hj, h.2.2.1]
  by_cases c : tTk B L j = 1
  · rw [if_pos (by rw [c]; rfl)]
    by_cases d : tTe B L j - j ≤ 6
    · rw [if_neg (by rw [show (6 : Int32) = nI 6 from rfl, p_lt (by omega) (by omega)]; omega), decide_eq_true ((tNm_k hj).mpr ⟨c, d⟩)]; rfl
    · rw [if_pos (by rw [show (6 : Int32) = nI 6 from rfl, p_lt (by omega) (by omega)]; omega), decide_eq_false (fun z => d ((tNm_k hj).mp z).2)]; rfl
  · rw [if_neg (by rw [show (1 : Int32) = nI 1 from rfl, p_eq (by omega) (by omega)]; exact c), decide_eq_false (fun z => c ((tNm_k hj).mp z).1)]; rfl
theorem r_namedHere (hr : RS N S) (hx : TXr N B L) (h : RT N B L j) (hj : j ≤ L) (hm : tNm B L j) : fX11_named (N.1 0 23) (N.1 0 22 - N.1 0 23) N = some (gNo (nmF S (tW B L j)) (sN S)) := by
  have hL := hx.2.1
  rw [RT_len h hj, h.1, tTe_L hm.1]
  have c2 := tWe_b (B := B) hj
  exact rs_named hr (fun k hk => by have w := (tWe_bytes hk).1; exact ⟨(hx.2.2 _ w).2, (hx.2.2 _ w).1⟩) (by omega) hm.2
theorem Drr_RS {N' : gMem} (h : RS N S) (F : gFr Drr N N') : RS N' S := RS_of h (gFr_c1 F (fun k z => by unfold Drr at z; omega))
theorem Drr_TX {N' : gMem} (h : TXr N B L) (F : gFr Drr N N') : TXr N' B L := TXr_fr h F (fun c k z w => by unfold Drr at w; omega)
theorem r_seesTask (hr : RS N S) (hx : TXr N B L) (h : RT N B L j) (hj : j ≤ L) (h0 : N.1 0 26 = nI 0) : ∃ r b, fX11_seesTask N = some (ib b, r) ∧ gFr Drr N r ∧ RT r B L j ∧ (¬ tNm B L j → b = false ∧ ER r 1 j) ∧ (tNm B L j → ¬ nmF S (tW B L j) < sN S → b = false ∧ ER r 3 j) ∧ (tNm B L j → nmF S (tW B L j) < sN S → b = true ∧ r.1 0 30 = nI (nmF S (tW B L j)) ∧ r.1 0 26 = nI 0 ∧ r.1 0 27 = N.1 0 27) := by
  classical
  have hL := hx.2.1
  have hn := hr.2.1.1
  by_cases c : tNm B L j
  · have e2 := r_namedHere hr hx h hj c
    have hs : fX11_seesTask N = if gNo (nmF S (tW B L j)) (sN S) = (-1 : Int32) then ((fX11_fails (3 : Int32) (gI N 0 30 (gNo (nmF S (tW B L j)) (sN S)))).bind fun v9 => if v9.1 = 0 then (some ((0 : Int32), v9.2)) else fX11_seesTask_b59 v9.2) else fX11_seesTask_b59 (gI N 0 30 (gNo (nmF S (tW B L j)) (sN S))) := by
      unfold fX11_seesTask
      rw [if_pos (show N.1 0 26 = 0 from h0), r_isNameHere h hj hL, p_bnd, decide_eq_true c, if_neg (show ¬ ib true = 0 by decide), e2, p_bnd, p_wF, p_bnd, p_gI_s]
    rw [hs]
    by_cases d : nmF S (tW B L j) < sN S
    · refine ⟨gI N 0 30 (nI (nmF S (tW B L j))), true, ?_, gFr_I (by unfold Drr; omega), RT_of h (gFr_I (D := fun c k => c = 0 ∧ k = 30) ⟨rfl, rfl⟩) (fun k a b z => by omega), fun z => absurd c z, fun _ z => absurd d z, fun _ _ => ⟨rfl, p_gI_s _ _ _ _, ?_, ?_⟩⟩
      · unfold gNo
        rw [if_pos d, if_neg (show ¬ nI (nmF S (tW B L j)) = (-1 : Int32) by rw [show (-1 : Int32) = mO 1 from rfl, p_eq_mO (by omega) (by omega) (by omega)]; exact id)]; rfl
      · rw [p_gI_n (Or.inr (by decide))]; exact h0
      · rw [p_gI_n (Or.inr (by decide))]
    · obtain ⟨r, e, F, E⟩ := r_fails (N := gI N 0 30 (mO 1)) (j := j) (by rw [p_gI_n (Or.inr (by decide))]; exact h0) (by rw [p_gI_n (Or.inr (by decide))]; exact h.1) 3
      refine ⟨r, false, ?_, gFr_tr (gFr_I (by unfold Drr; omega)) (gFr_mo F (fun c k z => by unfold Drr; omega)), RT_of (RT_of h (gFr_I (D := fun c k => c = 0 ∧ k = 30) ⟨rfl, rfl⟩) (fun k a b z => by omega)) F (fun k a b z => by omega), fun z => absurd c z, fun _ _ => ⟨rfl, E⟩, fun _ z => absurd z d⟩
      unfold gNo
      rw [if_neg d, if_pos (show mO 1 = (-1 : Int32) from rfl), show (3 : Int32) = nI 3 from rfl, e, p_bnd]; rfl
  · obtain ⟨r, e, F, E⟩ := r_fails h0 h.1 1
    refine ⟨r, false, ?_, gFr_mo F (fun c k z => by unfold Drr; omega), RT_of h F (fun k a b z => by omega), fun _ => ⟨rfl, E⟩, fun z => absurd z c, fun z => absurd z c⟩
    unfold fX11_seesTask
    rw [if_pos (show N.1 0 26 = 0 from h0), r_isNameHere h hj hL, p_bnd, decide_eq_false c, if_pos (show ib false = 0 from rfl), show (1 : Int32) = nI 1 from rfl, e, p_bnd]
    show (zv (nI 0)).bind _ = _
    rw [p_zv0, p_bnd]; rfl
theorem r_takesTask (hr : RS N S) (hx : TXr N B L) (h : RT N B L j) (hj : j ≤ L) (h0 : N.1 0 26 = nI 0) : ∃ r b, fX11_takesTask N = some (ib b, r) ∧ gFr Drr N r ∧ (¬ tNm B L j → b = false ∧ ER r 1 j) ∧ (tNm B L j → ¬ nmF S (tW B L j) < sN S → b = false ∧ ER r 3 j) ∧ (tNm B L j → nmF S (tW B L j) < sN S → b = true ∧ r.1 0 30 = nI (nmF S (tW B L j)) ∧ r.1 0 26 = nI 0 ∧ r.1 0 27 = N.1 0 27 ∧ RT r B L (tSk B L (tWe B L j))) := by
  obtain ⟨r, b, e, F, T, y1, y2, y3⟩ := r_seesTask hr hx h hj h0
  unfold fX11_takesTask
  rw [e, p_bnd]
  cases b
  · refine ⟨r, false, by rw [if_pos (show ib false = 0 from rfl)]; rfl, F, y1, y2, fun c d => ?_⟩
    cases (y3 c d).1
  · have c : tNm B L j := Classical.byContradiction fun z => by cases (y1 z).1
    have d : nmF S (tW B L j) < sN S := Classical.byContradiction fun z => by cases (y2 c z).1
    obtain ⟨-, y4, y5, y6⟩ := y3 c d
    obtain ⟨r2, e2, F2, T2⟩ := r_goesOn (Drr_TX hx F) (i := tWe B L j) (by rw [T.2.1, tTe_L c.1]) (tWe_b hj).2
    refine ⟨r2, true, ?_, gFr_tr F (gFr_mo F2 (fun c k z => by unfold Dto at z; unfold Drr; omega)), fun z => absurd c z, fun _ z => absurd d z, fun _ _ => ⟨rfl, ?_, ?_, ?_, T2⟩⟩
    · rw [if_neg (show ¬ ib true = 0 by decide)]
      show (fX11_goesOn r).bind _ = _
      rw [e2, p_bnd]; rfl
    · rw [(F2 0 30 (by unfold Dto; omega)).1]; exact y4
    · rw [(F2 0 26 (by unfold Dto; omega)).1]; exact y5
    · rw [(F2 0 27 (by unfold Dto; omega)).1]; exact y6
/-- the class's -/
theorem c_readTask (hc : CS M t S) (ht : t + 10 ≤ 32) (h : TXc M B L) (ha : M.1 32 2 = nI i) (hi : i ≤ L) : ∃ r v, fX5_readTask t M = some (v, r) ∧ gFr Drd M r ∧ (¬ tNm B L (tSk B L i) → v = mO 1 ∧ EC r 1 (tSk B L i)) ∧ (tNm B L (tSk B L i) → ¬ nmF S (tW B L (tSk B L i)) < sN S → v = mO 1 ∧ EC r 3 (tSk B L i)) ∧ (tNm B L (tSk B L i) → nmF S (tW B L (tSk B L i)) < sN S → v = nI (nmF S (tW B L (tSk B L i))) ∧ r.1 32 3 = nI (tSk B L i) ∧ r.1 32 2 = nI (tWe B L (tSk B L i)) ∧ r.1 32 4 = M.1 32 4 ∧ r.1 32 5 = M.1 32 5) := by
  have hn := hc.2.1.1
  obtain ⟨M1, v, e1, F1, y1, y2⟩ := c_readName h ha hi
  have c1 : CS M1 t S := CS_fr hc F1 (fun j k hj z => by unfold Drd at z; omega)
  unfold fX5_readTask
  rw [e1, p_bnd]
  by_cases c : tNm B L (tSk B L i)
  · obtain ⟨z1, z2, z3, z4, z5⟩ := y1 c
    have ok := tW_ok c
    have nz : ¬ lg_cmp (lN (gPk (tW B L (tSk B L i)))) (0 : Int64) = 0 := by
      show ¬ lg_cmp (lN (gPk (tW B L (tSk B L i)))) (lN 0) = nI 0
      rw [cmp_0 (sNok_48 ok) (by decide)]; have := sNok_0 ok; omega
    rw [z1]
    dsimp only
    rw [if_neg nz]
    show ∃ r v, ((fX2_taskNamed t (lN (gPk (tW B L (tSk B L i)))) M1).bind fun v3 => if v3 = (-1 : Int32) then ((fX5_fail (3 : Int32) (M1.1 32 3) M1).bind fun v5 => some (v3, v5.2)) else some (v3, M1)) = some (v, r) ∧ _
    rw [cs_taskNamed c1 ok, p_bnd, z2]
    unfold gNo
    by_cases d : nmF S (tW B L (tSk B L i)) < sN S
    · refine ⟨M1, nI (nmF S (tW B L (tSk B L i))), ?_, F1, fun z => absurd c z, fun _ z => absurd d z, fun _ _ => ⟨rfl, z2, z3, z4, z5⟩⟩
      rw [if_pos d, if_neg (show ¬ nI (nmF S (tW B L (tSk B L i))) = (-1 : Int32) by rw [show (-1 : Int32) = mO 1 from rfl, p_eq_mO (by omega) (by omega) (by omega)]; exact id)]
    · obtain ⟨M4, e4, F4, E4⟩ := c_fail M1 3 (tSk B L i)
      refine ⟨M4, mO 1, ?_, gFr_tr F1 (gFr_mo F4 (fun c k z => by unfold Drd; omega)), fun z => absurd c z, fun _ _ => ⟨rfl, E4⟩, fun _ z => absurd z d⟩
      rw [if_neg d, if_pos (show mO 1 = (-1 : Int32) from rfl), show (3 : Int32) = nI 3 from rfl, e4]; rfl
  · obtain ⟨z1, z2⟩ := y2 c
    refine ⟨M1, mO 1, ?_, F1, fun _ => ⟨rfl, z2⟩, fun z => absurd z c, fun z => absurd z c⟩
    rw [z1]; rfl
end TR4
