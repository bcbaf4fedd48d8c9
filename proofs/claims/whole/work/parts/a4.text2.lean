/-! TEXT: names and numbers of the class; the reference's tokens -/
section TN
variable {M : gMem} {B : Nat → Nat} {L i j : Nat}
/-- packed -/
theorem c_packed {n : Nat} (hB : ∀ k, k < n → M.1 33 (j + k) = nI (B (j + k)) ∧ B (j + k) < 256) (hj : j + n ≤ 900) (hn : n ≤ 6) (hn1 : 0 < n) : fX5_packed (nI j) (nI (j + n)) M = some (lN (gPk (wrd B j n))) := by
  have lt : ∀ k, gPk (wrd B (j + k) (n - k)) < 2 ^ 48 := fun k => by
    refine gPk_48 (fun c hc => ?_) (by rw [wrd_len]; omega)
    obtain ⟨q, hq, e⟩ := List.getElem_of_mem hc
    rw [wrd_len] at hq
    have e2 := wrd_at (B := B) (j := j + k) (n := n - k) hq
    rw [List.getD_eq_getElem?_getD, List.getElem?_eq_getElem (by rw [wrd_len]; exact hq)] at e2
    have e2 : (wrd B (j + k) (n - k))[q] = B (j + k + q) := e2
    rw [← e, e2, Nat.add_assoc]
    exact (hB (k + q) (by omega)).2
  obtain ⟨r, e, R⟩ : ∃ r, gLoop (fun z9 => fX5_packed_l7 (nI j) M z9.1 z9.2) gFu (lN 0, nI (j + n - 1)) = some r ∧ r = lN (gPk (wrd B j n)) := by
    refine gLoop_i (fun k s => s = (lN (gPk (wrd B (j + (n - k)) k)), if k < n then nI (j + (n - 1 - k)) else nI j - nI 1) ∧ k ≤ n) _ n ⟨by rw [if_pos hn1, show j + (n - 1 - 0) = j + n - 1 by omega]; rfl, Nat.zero_le _⟩ (by show n < 4096; omega) ?_
    rintro k s hk ⟨rfl, -⟩
    rcases Nat.lt_or_ge k n with q | q
    · rw [if_pos q]
      obtain ⟨b1, b2⟩ := hB (n - 1 - k) (by omega)
      have l1 := lt (n - k)
      rw [show n - (n - k) = k by omega] at l1
      have ew : wrd B (j + (n - (k + 1))) (k + 1) = B (j + (n - 1 - k)) :: wrd B (j + (n - k)) k := by
        rw [wrd_s, show j + (n - (k + 1)) = j + (n - 1 - k) by omega, show j + (n - 1 - k) + 1 = j + (n - k) by omega]
      refine Or.inl ⟨(lN (gPk (wrd B (j + (n - (k + 1))) (k + 1))), if k + 1 < n then nI (j + (n - 1 - (k + 1))) else nI j - nI 1), ?_, q, rfl, by omega⟩
      rw [ew]
      have eg : gPk (B (j + (n - 1 - k)) :: wrd B (j + (n - k)) k) = gPk (wrd B (j + (n - k)) k) * 256 + B (j + (n - 1 - k)) := by
        show B (j + (n - 1 - k)) + 256 * gPk (wrd B (j + (n - k)) k) = _
        omega
      rw [eg]
      have es : (lN (gPk (wrd B (j + (n - k)) k)) <<< ((8 : Int32).toInt64 &&& 63)) ||| (nI (B (j + (n - 1 - k)))).toInt64 = lN (gPk (wrd B (j + (n - k)) k) * 256 + B (j + (n - 1 - k))) := by
        have s1 : lN (gPk (wrd B (j + (n - k)) k)) <<< ((8 : Int32).toInt64 &&& 63) = lN (gPk (wrd B (j + (n - k)) k) * 2 ^ 8) := wb_shl _ (k := 8) (by decide)
        rw [s1, nI_l (by omega), wb_or (by omega) (by omega)]
        congr 1
        rw [Nat.mul_comm, ← Nat.two_pow_add_eq_or_of_lt (show B (j + (n - 1 - k)) < 2 ^ 8 from b2)]
      have ex : nI (j + (n - 1 - k)) + (-1 : Int32) = if k + 1 < n then nI (j + (n - 1 - (k + 1))) else nI j - nI 1 := by
        by_cases c : k + 1 < n
        · rw [if_pos c, show (-1 : Int32) = mO 1 from rfl, p_addm (by omega), show j + (n - 1 - (k + 1)) = j + (n - 1 - k) - 1 by omega]
        · rw [if_neg c, show j + (n - 1 - k) = j by omega, show (-1 : Int32) = mO 1 from rfl, Int32.sub_eq_add_neg]; rfl
      show fX5_packed_l7 (nI j) M (lN (gPk (wrd B (j + (n - k)) k))) (nI (j + (n - 1 - k))) = _
      unfold fX5_packed_l7
      rw [if_neg (by rw [p_lt (by omega) (by omega)]; omega), p_rI (by omega) (by omega), p_bnd, b1, es, p_nm, p_bnd, ex]
    · have e9 : k = n := by omega
      rw [e9, if_neg (Nat.lt_irrefl n), Nat.sub_self, Nat.add_zero]
      refine Or.inr ⟨lN (gPk (wrd B j n)), ?_, rfl⟩
      show fX5_packed_l7 (nI j) M (lN (gPk (wrd B j n))) (nI j - nI 1) = _
      unfold fX5_packed_l7
      rw [if_pos (lo_1 j (by omega))]
  unfold fX5_packed
  rw [show nI (j + n) - (1 : Int32) = nI (j + n - 1) from p_sub (a := j + n) (b := 1) (by omega), p_nm, p_bnd]
  rw [show gLoop (fun z9 => fX5_packed_l7 (nI j) M z9.1 z9.2) gFu ((0 : Int64), nI (j + n - 1)) = some r from e, p_bnd, R]
theorem wrd_ok {n : Nat} (hB : ∀ k, k < n → 97 ≤ B (j + k) ∧ B (j + k) ≤ 122) (h1 : 0 < n) (h6 : n ≤ 6) : sNok (wrd B j n) := by
  refine ⟨by rw [wrd_len]; exact h1, by rw [wrd_len]; exact h6, fun c hc => ?_⟩
  obtain ⟨q, hq, e⟩ := List.getElem_of_mem hc
  rw [wrd_len] at hq
  have e2 := wrd_at (B := B) (j := j) (n := n) hq
  rw [List.getD_eq_getElem?_getD, List.getElem?_eq_getElem (by rw [wrd_len]; exact hq)] at e2
  have e2 : (wrd B j n)[q] = B (j + q) := e2
  rw [← e, e2]; exact hB q hq
/-- the word at j -/
def tW (B : Nat → Nat) (L j : Nat) : List Nat := wrd B j (tWe B L j - j)
def tNm (B : Nat → Nat) (L j : Nat) : Prop := tL B L j = true ∧ tWe B L j - j ≤ 6
theorem tWe_bytes {k : Nat} (h : k < tWe B L j - j) : j + k < L ∧ 97 ≤ B (j + k) ∧ B (j + k) ≤ 122 := of_decide_eq_true (tWe_in h)
theorem tW_ok (h : tNm B L j) : sNok (tW B L j) := wrd_ok (fun k hk => (tWe_bytes hk).2) (by have := tWe_gt h.1; omega) h.2
/-- a NAME -/
theorem c_readName (h : TXc M B L) (ha : M.1 32 2 = nI i) (hi : i ≤ L) : ∃ r v, fX5_readName M = some (v, r) ∧ gFr Drd M r ∧ (tNm B L (tSk B L i) → v = lN (gPk (tW B L (tSk B L i))) ∧ r.1 32 3 = nI (tSk B L i) ∧ r.1 32 2 = nI (tWe B L (tSk B L i)) ∧ r.1 32 4 = M.1 32 4 ∧ r.1 32 5 = M.1 32 5) ∧ (¬ tNm B L (tSk B L i) → v = lN 0 ∧ EC r 1 (tSk B L i)) := by
  obtain ⟨b1, b2⟩ := tSk_b (B := B) hi
  obtain ⟨M1, e1, F1, s1, y1, n1⟩ := c_readWord h ha hi
  have t1 := TXc_fr h F1
  have hL := h.2.1
  obtain ⟨c1, c2⟩ := tWe_b (B := B) b2
  cases hb : tL B L (tSk B L i)
  · refine ⟨M1, lN 0, ?_, F1, fun z => ?_, fun _ => ⟨rfl, n1 hb⟩⟩
    · unfold fX5_readName
      rw [e1, p_bnd, hb]; rfl
    · rw [z.1] at hb; cases hb
  · obtain ⟨y2, y3, y4⟩ := y1 hb
    have es : M1.1 32 2 - M1.1 32 3 = nI (tWe B L (tSk B L i) - tSk B L i) := by rw [y2, s1, p_sub c1]
    by_cases c : tWe B L (tSk B L i) - tSk B L i ≤ 6
    · have gt := tWe_gt hb
      have ep := c_packed (M := M1) (B := B) (j := tSk B L i) (n := tWe B L (tSk B L i) - tSk B L i) (fun k hk => by
        obtain ⟨w1, w2, w3⟩ := tWe_bytes hk
        obtain ⟨w4, w5⟩ := t1.2.2 _ w1
        exact ⟨by rw [w5, sg_lo (by omega)], w4⟩) (by omega) c (by omega)
      rw [show tSk B L i + (tWe B L (tSk B L i) - tSk B L i) = tWe B L (tSk B L i) by omega] at ep
      refine ⟨M1, _, ?_, F1, fun _ => ⟨rfl, s1, y2, y3, y4⟩, fun z => absurd ⟨hb, c⟩ z⟩
      unfold fX5_readName
      rw [e1, p_bnd, hb, if_neg (show ¬ ib true = 0 by decide)]
      show (if M1.1 32 2 - M1.1 32 3 ≤ (6 : Int32) then _ else _) = _
      rw [es, if_pos (by rw [show (6 : Int32) = nI 6 from rfl, p_le (by omega) (by omega)]; exact c)]
      show (fX5_packed (M1.1 32 3) (M1.1 32 2) M1).bind _ = _
      rw [s1, y2, ep]; rfl
    · obtain ⟨M4, e4, F4, E4⟩ := c_fail M1 1 (tSk B L i)
      refine ⟨M4, lN 0, ?_, gFr_tr F1 (gFr_mo F4 (fun c k z => by unfold Drd; omega)), fun z => absurd z.2 c, fun _ => ⟨rfl, E4⟩⟩
      unfold fX5_readName
      rw [e1, p_bnd, hb, if_neg (show ¬ ib true = 0 by decide)]
      show (if M1.1 32 2 - M1.1 32 3 ≤ (6 : Int32) then _ else _) = _
      rw [es, if_neg (by rw [show (6 : Int32) = nI 6 from rfl, p_le (by omega) (by omega)]; exact c)]
      show (fX5_fail (1 : Int32) (M1.1 32 3) M1).bind _ = _
      rw [s1, show (1 : Int32) = nI 1 from rfl, e4]; rfl
/-- a number -/
def tNu (B : Nat → Nat) (L j : Nat) : Prop := tD B L j = true ∧ tNe B L j - j ≤ 3
def tV (B : Nat → Nat) (L j : Nat) : Nat := tVl B j (tNe B L j - j)
theorem tNe_bytes {k : Nat} (h : k < tNe B L j - j) : j + k < L ∧ 48 ≤ B (j + k) ∧ B (j + k) ≤ 57 := of_decide_eq_true (tNe_in h)
theorem tV_le (h : tNu B L j) : tV B L j ≤ 999 := tVl_le (fun m hm => (tNe_bytes hm).2.2) h.2
theorem c_readNumber (h : TXc M B L) (ha : M.1 32 2 = nI i) (hi : i ≤ L) {lo hi' : Nat} (hh : hi' < 1000) (hl : lo < 1000) : ∃ r v, fX5_readNumber (nI lo) (nI hi') M = some (v, r) ∧ gFr Drd M r ∧ (¬ tNu B L (tSk B L i) → v = mO 1 ∧ EC r 1 (tSk B L i)) ∧ (tNu B L (tSk B L i) → ¬ (lo ≤ tV B L (tSk B L i) ∧ tV B L (tSk B L i) ≤ hi') → v = mO 1 ∧ EC r 2 (tSk B L i)) ∧ (tNu B L (tSk B L i) → lo ≤ tV B L (tSk B L i) ∧ tV B L (tSk B L i) ≤ hi' → v = nI (tV B L (tSk B L i)) ∧ r.1 32 2 = nI (tNe B L (tSk B L i)) ∧ r.1 32 4 = M.1 32 4 ∧ r.1 32 5 = M.1 32 5) := by
  obtain ⟨h1, h2, h3⟩ := id h
  obtain ⟨b1, b2⟩ := tSk_b (B := B) hi
  obtain ⟨M1, e1, F1, A1⟩ := c_skip h ha hi
  obtain ⟨c1, c2⟩ := tNe_b (B := B) b2
  have F2 : gFr Drd M (gI M1 32 3 (nI (tSk B L i))) := gFr_trI (gFr_mo F1 (fun c k z => by unfold Drd; omega)) (by unfold Drd; omega)
  have t2 : TXc (gI M1 32 3 (nI (tSk B L i))) B L := TXc_fr h F2
  obtain ⟨r3, e3, F3, A3, V3⟩ : ∃ r, gLoop (fun z9 => fX5_readNumber_l14 (nI lo) (nI hi') z9.1 z9.2) gFu (nI 0, gI M1 32 3 (nI (tSk B L i))) = some r ∧ gFr (fun c k => c = 32 ∧ k = 2) (gI M1 32 3 (nI (tSk B L i))) r.2 ∧ r.2.1 32 2 = nI (tNe B L (tSk B L i)) ∧ (tNe B L (tSk B L i) - tSk B L i ≤ 3 → r.1 = nI (tV B L (tSk B L i))) := by
    refine gLoop_i (fun k s => ∃ x M', s = (x, M') ∧ tSk B L i + k ≤ tNe B L (tSk B L i) ∧ gFr (fun c k => c = 32 ∧ k = 2) (gI M1 32 3 (nI (tSk B L i))) M' ∧ M'.1 32 2 = nI (tSk B L i + k) ∧ (k ≤ 3 → x = nI (tVl B (tSk B L i) k))) _ (tNe B L (tSk B L i) - tSk B L i) ⟨_, _, rfl, c1, gFr_rf, by rw [p_gI_n (Or.inr (by decide))]; exact A1, fun _ => rfl⟩ (by show tNe B L (tSk B L i) - tSk B L i < 4096; omega) ?_
    rintro k s hk ⟨x, M', rfl, hk2, hF, hA, hV⟩
    have t' : TXc M' B L := TXc_fr t2 (gFr_mo hF (fun c k z => by unfold Drd; omega))
    have il := c_isDigitAt t' (j := tSk B L i + k) (by omega)
    rcases Nat.lt_or_ge (tSk B L i + k) (tNe B L (tSk B L i)) with q | q
    · have hb := tNe_in (B := B) (L := L) (j := tSk B L i) (k := k) (by omega)
      obtain ⟨w1, w2, w3⟩ := tNe_bytes (B := B) (L := L) (j := tSk B L i) (k := k) (by omega)
      have w4 : M'.1 33 (tSk B L i + k) = nI (B (tSk B L i + k)) := by rw [(t'.2.2 _ w1).2, sg_lo (by omega)]
      refine Or.inl ⟨(x * nI 10 + nI (B (tSk B L i + k)) - nI 48, gI M' 32 2 (nI (tSk B L i + k + 1))), ?_, by omega, _, _, rfl, by omega, gFr_trI hF ⟨rfl, rfl⟩, p_gI_s _ _ _ _, fun k3 => ?_⟩
      · rw [hb] at il
        show fX5_readNumber_l14 (nI lo) (nI hi') x M' = _
        unfold fX5_readNumber_l14
        rw [hA, if_neg (by rw [show (900 : Int32) = nI 900 from rfl, p_le (by omega) (by omega)]; omega), il, p_bnd, if_neg (show ¬ ib true = 0 by decide), p_rI (by omega) (by omega), p_bnd, w4, p_nm, p_bnd, show nI (tSk B L i + k) + (1 : Int32) = nI (tSk B L i + k + 1) from nI_add _ _, p_wF, p_bnd]; rfl
      · have hv := hV (by omega)
        have le := tVl_le (B := B) (j := tSk B L i) (k := k) (fun m hm => by have := tNe_bytes (B := B) (L := L) (j := tSk B L i) (k := m) (by omega); omega) (by omega)
        rw [hv, p_mul, nI_add, p_sub (by omega)]
        congr 1
        show _ = 10 * tVl B (tSk B L i) k + (B (tSk B L i + k) - 48)
        omega
    · have e9 : tSk B L i + k = tNe B L (tSk B L i) := by omega
      refine Or.inr ⟨(x, M'), ?_, hF, by rw [hA, e9], fun z => ?_⟩
      · have hb := tNe_out (B := B) b2
        rw [← e9] at hb
        rw [hb] at il
        show fX5_readNumber_l14 (nI lo) (nI hi') x M' = _
        unfold fX5_readNumber_l14
        rw [hA]
        by_cases c : 900 ≤ tSk B L i + k
        · rw [if_pos (by rw [show (900 : Int32) = nI 900 from rfl, p_le (by omega) (by omega)]; exact c)]
        · rw [if_neg (by rw [show (900 : Int32) = nI 900 from rfl, p_le (by omega) (by omega)]; exact c), il, p_bnd, if_pos (show ib false = 0 from rfl)]
      · rw [hV (by omega)]
        unfold tV
        rw [← e9, Nat.add_sub_cancel_left]
  have F3' : gFr Drd M r3.2 := gFr_tr F2 (gFr_mo F3 (fun c k z => by unfold Drd; omega))
  have s3 : r3.2.1 32 3 = nI (tSk B L i) := by rw [(F3 32 3 (by omega)).1, p_gI_s]
  have k4 : r3.2.1 32 4 = M.1 32 4 := by rw [(F3 32 4 (by omega)).1, p_gI_n (Or.inr (by decide)), (F1 32 4 (by omega)).1]
  have k5 : r3.2.1 32 5 = M.1 32 5 := by rw [(F3 32 5 (by omega)).1, p_gI_n (Or.inr (by decide)), (F1 32 5 (by omega)).1]
  have hu : fX5_readNumber (nI lo) (nI hi') M = fX5_readNumber_b66 (nI lo) (nI hi') r3.1 r3.2 := by
    unfold fX5_readNumber
    rw [e1, p_bnd, A1, p_wF, p_bnd]
    rw [show gLoop (fun z9 => fX5_readNumber_l14 (nI lo) (nI hi') z9.1 z9.2) gFu ((0 : Int32), gI M1 32 3 (nI (tSk B L i))) = some r3 from e3, p_bnd]
  rw [hu]
  have er1 : ∃ r, fX5_readNumber_b90 r3.2 = some (mO 1, r) ∧ gFr Drd M r ∧ EC r 1 (tSk B L i) := by
    obtain ⟨M4, e4, F4, E4⟩ := c_fail r3.2 1 (tSk B L i)
    refine ⟨M4, ?_, gFr_tr F3' (gFr_mo F4 (fun c k z => by unfold Drd; omega)), E4⟩
    unfold fX5_readNumber_b90
    rw [s3, show (1 : Int32) = nI 1 from rfl, e4]; rfl
  have er2 : ∃ r, fX5_readNumber_b112 r3.2 = some (mO 1, r) ∧ gFr Drd M r ∧ EC r 2 (tSk B L i) := by
    obtain ⟨M4, e4, F4, E4⟩ := c_fail r3.2 2 (tSk B L i)
    refine ⟨M4, ?_, gFr_tr F3' (gFr_mo F4 (fun c k z => by unfold Drd; omega)), E4⟩
    unfold fX5_readNumber_b112
    rw [s3, show (2 : Int32) = nI 2 from rfl, e4]; rfl
  unfold fX5_readNumber_b66
  rw [A3, s3]
  cases hb : tD B L (tSk B L i)
  · have e0 := tNe_0 hb b2
    obtain ⟨r, r1, r2, r3⟩ := er1
    refine ⟨r, mO 1, ?_, r2, fun _ => ⟨rfl, r3⟩, fun z => ?_, fun z => ?_⟩
    · rw [e0, if_pos rfl]; exact r1
    · rw [z.1] at hb; cases hb
    · rw [z.1] at hb; cases hb
  · have gt := tNe_gt hb
    rw [if_neg (by rw [p_eq (by omega) (by omega)]; omega), p_sub c1]
    by_cases c : tNe B L (tSk B L i) - tSk B L i ≤ 3
    · have hnu : tNu B L (tSk B L i) := ⟨hb, c⟩
      have vle := tV_le hnu
      rw [if_pos (by rw [show (3 : Int32) = nI 3 from rfl, p_le (by omega) (by omega)]; exact c), V3 c]
      by_cases g : lo ≤ tV B L (tSk B L i) ∧ tV B L (tSk B L i) ≤ hi'
      · refine ⟨r3.2, nI (tV B L (tSk B L i)), ?_, F3', fun z => absurd hnu z, fun _ z => absurd g z, fun _ _ => ⟨rfl, A3, k4, k5⟩⟩
        rw [if_neg (by rw [p_lt (by omega) (by omega)]; omega), if_pos (by rw [p_le (by omega) (by omega)]; exact g.2)]
      · obtain ⟨r, r1, r2, r3⟩ := er2
        refine ⟨r, mO 1, ?_, r2, fun z => absurd hnu z, fun _ _ => ⟨rfl, r3⟩, fun _ z => absurd z g⟩
        by_cases g2 : tV B L (tSk B L i) < lo
        · rw [if_pos (by rw [p_lt (by omega) (by omega)]; exact g2)]; exact r1
        · rw [if_neg (by rw [p_lt (by omega) (by omega)]; exact g2), if_neg (by rw [p_le (by omega) (by omega)]; omega)]; exact r1
    · obtain ⟨r, r1, r2, r3⟩ := er1
      refine ⟨r, mO 1, ?_, r2, fun _ => ⟨rfl, r3⟩, fun z => absurd z.2 c, fun z => absurd z.2 c⟩
      rw [if_neg (by rw [show (3 : Int32) = nI 3 from rfl, p_le (by omega) (by omega)]; exact c)]; exact r1
/-- a semicolon -/
theorem c_isAtEnd (h : TXc M B L) (ha : M.1 32 2 = nI i) (hi : i ≤ L) : fX5_isAtEnd M = some (ib (decide (L ≤ i))) := by
  obtain ⟨h1, h2, h3⟩ := id h
  unfold fX5_isAtEnd
  rw [ha, h1]
  by_cases c : L ≤ i
  · rw [decide_eq_true c]
    simp only [p_lt (show i < 2147483648 by omega) (show L < 2147483648 by omega), p_le (show L < 2147483648 by omega) (show i < 2147483648 by omega), c, show ¬ i < L by omega, if_true, if_false]; rfl
  · rw [decide_eq_false c]
    simp only [p_lt (show i < 2147483648 by omega) (show L < 2147483648 by omega), p_le (show L < 2147483648 by omega) (show i < 2147483648 by omega), c, show i < L by omega, if_true, if_false]; rfl
theorem c_readSemicolon (h : TXc M B L) (ha : M.1 32 2 = nI i) (hi : i ≤ L) : ∃ r, fX5_readSemicolon M = some (ib (decide (tSk B L i < L ∧ B (tSk B L i) = 59)), r) ∧ gFr Drd M r ∧ ((tSk B L i < L ∧ B (tSk B L i) = 59) → r.1 32 2 = nI (tSk B L i + 1) ∧ r.1 32 4 = M.1 32 4 ∧ r.1 32 5 = M.1 32 5) ∧ (¬ (tSk B L i < L ∧ B (tSk B L i) = 59) → EC r 1 (tSk B L i)) := by
  obtain ⟨b1, b2⟩ := tSk_b (B := B) hi
  obtain ⟨M1, e1, F1, A1⟩ := c_skip h ha hi
  have F1' : gFr Drd M M1 := gFr_mo F1 (fun c k z => by unfold Drd; omega)
  have t1 := TXc_fr h F1'
  have ie := c_isAtEnd t1 A1 b2
  have hL := h.2.1
  have er : ∃ r, fX5_readSemicolon_b25 M1 = some (nI 0, r) ∧ gFr Drd M r ∧ EC r 1 (tSk B L i) := by
    obtain ⟨M4, e4, F4, E4⟩ := c_fail M1 1 (tSk B L i)
    refine ⟨M4, ?_, gFr_tr F1' (gFr_mo F4 (fun c k z => by unfold Drd; omega)), E4⟩
    unfold fX5_readSemicolon_b25
    rw [A1, show (1 : Int32) = nI 1 from rfl, e4]; rfl
  unfold fX5_readSemicolon
  rw [e1, p_bnd, ie, p_bnd]
  by_cases c : L ≤ tSk B L i
  · obtain ⟨r, r1, r2, r3⟩ := er
    refine ⟨r, ?_, r2, fun z => by omega, fun _ => r3⟩
    rw [decide_eq_true c, if_neg (show ¬ ib true = 0 by decide), r1, decide_eq_false (by omega)]; rfl
  · obtain ⟨w1, w2⟩ := t1.2.2 (tSk B L i) (by omega)
    rw [decide_eq_false c, if_pos (show ib false = 0 from rfl), A1, p_rI (by omega) (by omega), p_bnd, w2]
    by_cases d : B (tSk B L i) = 59
    · refine ⟨gI M1 32 2 (nI (tSk B L i + 1)), ?_, gFr_trI F1' (by unfold Drd; omega), fun _ => ⟨p_gI_s _ _ _ _, ?_, ?_⟩, fun z => absurd ⟨by omega, d⟩ z⟩
      · rw [if_pos (by rw [show (59 : Int32) = nI 59 from rfl, sg_eq w1 (by decide)]; exact d), show nI (tSk B L i) + (1 : Int32) = nI (tSk B L i + 1) from nI_add _ _, p_wF, p_bnd, decide_eq_true ⟨by omega, d⟩]; rfl
      · rw [p_gI_n (Or.inr (by decide)), (F1 32 4 (by omega)).1]
      · rw [p_gI_n (Or.inr (by decide)), (F1 32 5 (by omega)).1]
    · obtain ⟨r, r1, r2, r3⟩ := er
      refine ⟨r, ?_, r2, fun z => absurd z.2 d, fun _ => r3⟩
      rw [if_neg (by rw [show (59 : Int32) = nI 59 from rfl, sg_eq w1 (by decide)]; exact d), r1, decide_eq_false (fun z => d z.2)]; rfl
end TN
