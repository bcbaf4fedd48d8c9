/-! TEXT: the reference's tokens -/
section TR3
variable {M : gMem} {B : Nat → Nat} {L i j : Nat} {S : gS}
theorem r_at (h : TXr M B L) (hj : j < 2000) : fX11_at (nI j) M = some (if j < L then nI (B j) else mO 1) := by
  obtain ⟨h1, h2, h3⟩ := id h
  unfold fX11_at
  rw [h1]
  by_cases c : j < L
  · rw [if_neg (by rw [p_le (by omega) (by omega)]; omega), if_pos c, p_rI (by omega) (by omega), p_bnd, (h3 j c).2]
  · rw [if_pos (by rw [p_le (by omega) (by omega)]; omega), if_neg c]; rfl
theorem r_inb {lo hi b : Nat} (hb : b < 256) (hl : lo < 256) (hh : hi < 256) : fX11_in (nI b) (nI lo) (nI hi) = some (ib (decide (lo ≤ b ∧ b ≤ hi))) := by
  unfold fX11_in
  by_cases c : b < lo
  · rw [if_pos (by rw [p_lt (by omega) (by omega)]; exact c), decide_eq_false (by omega)]; rfl
  · rw [if_neg (by rw [p_lt (by omega) (by omega)]; exact c)]
    by_cases d : hi < b
    · rw [if_pos (by rw [p_lt (by omega) (by omega)]; exact d), decide_eq_false (by omega)]; rfl
    · rw [if_neg (by rw [p_lt (by omega) (by omega)]; exact d), decide_eq_true (by omega)]; rfl
theorem r_inm {lo hi : Nat} (hl : lo < 256) : fX11_in (mO 1) (nI lo) (nI hi) = some (ib false) := by
  unfold fX11_in
  rw [if_pos (by rw [p_mO_lt (by omega) (by omega) (by omega)]; trivial)]; rfl
theorem r_isLetter (h : TXr M B L) (hj : j < 2000) : fX11_isLetter (nI j) M = some (ib (tL B L j)) := by
  unfold fX11_isLetter
  rw [r_at h hj, p_bnd, show (97 : Int32) = nI 97 from rfl, show (122 : Int32) = nI 122 from rfl]
  by_cases c : j < L
  · rw [if_pos c, r_inb (h.2.2 j c).1 (by decide) (by decide), p_bnd, p_zvib, p_bnd]
    congr 2
    exact decide_eq_decide.mpr ⟨fun z => ⟨c, z⟩, fun z => z.2⟩
  · rw [if_neg c, r_inm (by decide), p_bnd, p_zvib, p_bnd]
    congr 2
    symm; exact decide_eq_false (fun z => c z.1)
theorem r_isDigit (h : TXr M B L) (hj : j < 2000) : fX11_isDigit (nI j) M = some (ib (tD B L j)) := by
  unfold fX11_isDigit
  rw [r_at h hj, p_bnd, show (48 : Int32) = nI 48 from rfl, show (57 : Int32) = nI 57 from rfl]
  by_cases c : j < L
  · rw [if_pos c, r_inb (h.2.2 j c).1 (by decide) (by decide), p_bnd, p_zvib, p_bnd]
    congr 2
    exact decide_eq_decide.mpr ⟨fun z => ⟨c, z⟩, fun z => z.2⟩
  · rw [if_neg c, r_inm (by decide), p_bnd, p_zvib, p_bnd]
    congr 2
    symm; exact decide_eq_false (fun z => c z.1)
/-- the token at j is looked at -/
def RT (N : gMem) (B : Nat → Nat) (L j : Nat) : Prop := N.1 0 23 = nI j ∧ N.1 0 22 = nI (tTe B L j) ∧ N.1 0 25 = nI (tTk B L j) ∧ (tNu B L j → N.1 0 24 = nI (tV B L j))
def Dto (c k : Nat) : Prop := c = 0 ∧ 22 ≤ k ∧ k ≤ 25
theorem TXr_fr {M' : gMem} {D : Nat → Nat → Prop} (h : TXr M B L) (F : gFr D M M') (hd : ∀ c k, (c = 12 ∨ (c = 0 ∧ k = 21)) → ¬ D c k) : TXr M' B L := TXr_of h (F 0 21 (hd _ _ (Or.inr ⟨rfl, rfl⟩))).1 (funext fun k => (F 12 k (hd _ _ (Or.inl rfl))).1)
theorem tTk_1 : tTk B L j = 1 ↔ tL B L j = true := by
  unfold tTk
  by_cases a : j = L
  · rw [if_pos a]
    exact ⟨fun z => by omega, fun z => by have := of_decide_eq_true z; omega⟩
  · rw [if_neg a]
    by_cases b : tL B L j = true
    · rw [if_pos b]; exact ⟨fun _ => b, fun _ => rfl⟩
    · rw [if_neg b]
      refine ⟨fun z => ?_, fun z => absurd z b⟩
      split at z
      · omega
      · split at z <;> omega
theorem tTk_2 : tTk B L j = 2 ↔ tD B L j = true := by
  unfold tTk
  by_cases a : j = L
  · rw [if_pos a]
    exact ⟨fun z => by omega, fun z => by have := of_decide_eq_true z; omega⟩
  · rw [if_neg a]
    by_cases b : tL B L j = true
    · rw [if_pos b]
      exact ⟨fun z => by omega, fun z => by rw [tD_L z] at b; cases b⟩
    · rw [if_neg b]
      by_cases c : tD B L j = true
      · rw [if_pos c]; exact ⟨fun _ => c, fun _ => rfl⟩
      · rw [if_neg c]
        refine ⟨fun z => ?_, fun z => absurd z c⟩
        split at z <;> omega
theorem tTk_0 : tTk B L j = 0 ↔ j = L := by
  unfold tTk
  by_cases a : j = L
  · rw [if_pos a]; exact ⟨fun _ => a, fun _ => rfl⟩
  · rw [if_neg a]
    refine ⟨fun z => ?_, fun z => absurd z a⟩
    split at z
    · omega
    · split at z
      · omega
      · split at z <;> omega
theorem tTk_3 (hj : j ≤ L) : tTk B L j = 3 ↔ (j < L ∧ B j = 59) := by
  unfold tTk
  by_cases a : j = L
  · rw [if_pos a]
    exact ⟨fun z => by omega, fun z => by omega⟩
  · rw [if_neg a]
    by_cases b : tL B L j = true
    · have := of_decide_eq_true b
      rw [if_pos b]
      exact ⟨fun z => by omega, fun z => by omega⟩
    · rw [if_neg b]
      by_cases c : tD B L j = true
      · have := of_decide_eq_true c
        rw [if_pos c]
        exact ⟨fun z => by omega, fun z => by omega⟩
      · rw [if_neg c]
        by_cases d : B j = 59
        · rw [if_pos d]; exact ⟨fun _ => ⟨by omega, d⟩, fun _ => rfl⟩
        · rw [if_neg d]; exact ⟨fun z => by omega, fun z => absurd z.2 d⟩
theorem tTk_le : tTk B L j ≤ 4 := by
  unfold tTk; split
  · omega
  · split
    · omega
    · split
      · omega
      · split <;> omega
theorem tTe_L (h : tL B L j = true) : tTe B L j = tWe B L j := by
  have := of_decide_eq_true h
  unfold tTe; rw [if_neg (by omega), if_pos h]
theorem tTe_D (h : tD B L j = true) : tTe B L j = tNe B L j := by
  have := of_decide_eq_true h
  unfold tTe; rw [if_neg (by omega), if_neg (by rw [tD_L h]; decide), if_pos h]
theorem tTe_b (hj : j ≤ L) : j ≤ tTe B L j ∧ tTe B L j ≤ L := by
  unfold tTe
  split
  · omega
  · split
    · exact tWe_b hj
    · split
      · exact tNe_b hj
      · omega
theorem r_goesOn (h : TXr M B L) (hn : M.1 0 22 = nI i) (hi : i ≤ L) : ∃ r, fX11_goesOn M = some r ∧ gFr Dto M r ∧ RT r B L (tSk B L i) := by
  obtain ⟨h1, h2, h3⟩ := id h
  obtain ⟨b1, b2⟩ := tSk_b (B := B) hi
  -- spaces
  obtain ⟨M1, e1, F1, A1⟩ : ∃ r, gLoop (fun z9 => fX11_goesOn_l0 z9) gFu M = some r ∧ gFr (fun c k => c = 0 ∧ k = 22) M r ∧ r.1 0 22 = nI (tSk B L i) := by
    refine gLoop_i (fun k M' => i + k ≤ tSk B L i ∧ gFr (fun c k => c = 0 ∧ k = 22) M M' ∧ M'.1 0 22 = nI (i + k)) _ (tSk B L i - i) ⟨b1, gFr_rf, hn⟩ (by show tSk B L i - i < 4096; omega) ?_
    rintro k M' hk ⟨hk2, hF, hA⟩
    have t' : TXr M' B L := TXr_fr h hF (fun c k z => by omega)
    have ra := r_at t' (j := i + k) (by omega)
    rcases Nat.lt_or_ge (i + k) (tSk B L i) with q | q
    · have sp := tSk_sp (B := B) (L := L) (i := i) (k := k) (by omega)
      refine Or.inl ⟨gI M' 0 22 (nI (i + k + 1)), ?_, by omega, by omega, gFr_trI hF ⟨rfl, rfl⟩, p_gI_s _ _ _ _⟩
      rw [if_pos (by omega), sp] at ra
      unfold fX11_goesOn_l0
      rw [hA, ra, p_bnd, if_pos (show nI 32 = (32 : Int32) from rfl), show nI (i + k) + (1 : Int32) = nI (i + k + 1) from nI_add _ _, p_wF, p_bnd]
    · have e9 : i + k = tSk B L i := by omega
      refine Or.inr ⟨M', ?_, hF, by rw [hA, e9]⟩
      unfold fX11_goesOn_l0
      rw [hA, ra, p_bnd]
      by_cases c : i + k < L
      · rw [if_pos c, if_neg]
        rw [show (32 : Int32) = nI 32 from rfl, p_eq (by have := (h3 _ c).1; omega) (by omega), e9]
        exact tSk_e hi (by omega)
      · rw [if_neg c, if_neg]
        rw [show (32 : Int32) = nI 32 from rfl, p_mO_eq (by omega) (by omega) (by omega)]; exact id
  -- the start
  generalize hj : tSk B L i = j at b1 b2 A1
  generalize hM6 : gI (gI M1 0 23 (nI j)) 0 24 (nI 0) = M6
  have F6 : gFr Dto M M6 := by rw [← hM6]; exact gFr_trI (gFr_trI (gFr_mo F1 (fun c k z => by unfold Dto; omega)) (by unfold Dto; omega)) (by unfold Dto; omega)
  have t6 : TXr M6 B L := TXr_fr h F6 (fun c k z w => by unfold Dto at w; omega)
  have m22 : M6.1 0 22 = nI j := by rw [← hM6, p_gI_n (Or.inr (by decide)), p_gI_n (Or.inr (by decide))]; exact A1
  have m23 : M6.1 0 23 = nI j := by rw [← hM6, p_gI_n (Or.inr (by decide)), p_gI_s]
  have m24 : M6.1 0 24 = nI 0 := by rw [← hM6, p_gI_s]
  have il := r_isLetter t6 (j := j) (by omega)
  have idd := r_isDigit t6 (j := j) (by omega)
  have ia := r_at t6 (j := j) (by omega)
  have hs : fX11_goesOn M = if nI j = nI L then ((wF M6 0 25 (0 : Int32)).bind fun M8 => some M8) else (fX11_isLetter (nI j) M6).bind fun v9 => if v9 = 0 then ((fX11_isDigit (nI j) M6).bind fun v11 => if v11 = 0 then ((fX11_at (nI j) M6).bind fun v13 => (wF M6 0 25 (if v13 = (59 : Int32) then (3 : Int32) else (4 : Int32))).bind fun M15 => (wF M15 0 22 ((M15.1 0 22) + (1 : Int32))).bind fun M16 => some M16) else (wF M6 0 25 (2 : Int32)).bind fun M17 => (gLoop (fun z9 => fX11_goesOn_l114 z9) gFu M17).bind fun w24 => some w24) else (wF M6 0 25 (1 : Int32)).bind fun M25 => (gLoop (fun z9 => fX11_goesOn_l74 z9) gFu M25).bind fun w29 => some w29 := by
    unfold fX11_goesOn
    rw [e1, p_bnd, A1, p_wF, p_bnd, show (0 : Int32) = nI 0 from rfl, p_wF, p_bnd, hM6, m23, t6.1]
  rw [hs]
  by_cases c : j = L
  · refine ⟨gI M6 0 25 (nI 0), ?_, gFr_trI F6 (by unfold Dto; omega), ?_, ?_, ?_, fun z => ?_⟩
    · rw [if_pos (by rw [c])]; rfl
    · rw [p_gI_n (Or.inr (by decide))]; exact m23
    · rw [p_gI_n (Or.inr (by decide)), m22]; unfold tTe; rw [if_pos c]
    · rw [p_gI_s, tTk_0.mpr c]
    · have := of_decide_eq_true z.1; omega
  · rw [if_neg (by rw [p_eq (by omega) (by omega)]; exact c), il, p_bnd]
    cases hb : tL B L j
    · rw [if_pos (show ib false = 0 from rfl), idd, p_bnd]
      cases hd : tD B L j
      · rw [if_pos (show ib false = 0 from rfl), ia, if_pos (show j < L by omega), p_bnd]
        have hB := (h3 j (by omega)).1
        refine ⟨gI (gI M6 0 25 (nI (tTk B L j))) 0 22 (nI (j + 1)), ?_, gFr_trI (gFr_trI F6 (by unfold Dto; omega)) (by unfold Dto; omega), ?_, ?_, ?_, fun z => ?_⟩
        · have ek2 : tTk B L j = if B j = 59 then 3 else 4 := by unfold tTk; rw [if_neg c, if_neg (by rw [hb]; decide), if_neg (by rw [hd]; decide)]
          have ek : (if nI (B j) = (59 : Int32) then (3 : Int32) else (4 : Int32)) = nI (tTk B L j) := by
            rw [ek2]
            by_cases d : B j = 59
            · rw [if_pos d, if_pos (by rw [d]; rfl)]; rfl
            · rw [if_neg d, if_neg (by rw [show (59 : Int32) = nI 59 from rfl, p_eq (by omega) (by omega)]; exact d)]; rfl
          rw [ek, p_wF, p_bnd, p_gI_n (Or.inr (by decide)), m22, show nI j + (1 : Int32) = nI (j + 1) from nI_add _ _, p_wF, p_bnd]
        · rw [p_gI_n (Or.inr (by decide)), p_gI_n (Or.inr (by decide))]; exact m23
        · rw [p_gI_s]; unfold tTe; rw [if_neg c, if_neg (by rw [hb]; decide), if_neg (by rw [hd]; decide)]
        · rw [p_gI_n (Or.inr (by decide)), p_gI_s]
        · rw [z.1] at hd; cases hd
      · -- digits
        obtain ⟨c1, c2⟩ := tNe_b (B := B) b2
        obtain ⟨M3, e3, F3, A3, V3⟩ : ∃ r, gLoop (fun z9 => fX11_goesOn_l114 z9) gFu (gI M6 0 25 (nI 2)) = some r ∧ gFr (fun c k => c = 0 ∧ (k = 22 ∨ k = 24)) (gI M6 0 25 (nI 2)) r ∧ r.1 0 22 = nI (tNe B L j) ∧ (tNe B L j - j ≤ 3 → r.1 0 24 = nI (tV B L j)) := by
          refine gLoop_i (fun k M' => j + k ≤ tNe B L j ∧ gFr (fun c k => c = 0 ∧ (k = 22 ∨ k = 24)) (gI M6 0 25 (nI 2)) M' ∧ M'.1 0 22 = nI (j + k) ∧ (k ≤ 3 → M'.1 0 24 = nI (tVl B j k))) _ (tNe B L j - j) ⟨c1, gFr_rf, by rw [p_gI_n (Or.inr (by decide))]; exact m22, fun _ => by rw [p_gI_n (Or.inr (by decide))]; exact m24⟩ (by show tNe B L j - j < 4096; omega) ?_
          rintro k M' hk ⟨hk2, hF, hA, hV⟩
          have t' : TXr M' B L := TXr_fr (TXr_of t6 (p_gI_n (Or.inr (by decide))) (p_gI_o (by decide))) hF (fun c k z => by omega)
          have m23' : M'.1 0 23 = nI j := by rw [(hF 0 23 (by omega)).1, p_gI_n (Or.inr (by decide))]; exact m23
          have id2 := r_isDigit t' (j := j + k) (by omega)
          have ia2 := r_at t' (j := j + k) (by omega)
          rcases Nat.lt_or_ge (j + k) (tNe B L j) with q | q
          · have hb2 := tNe_in (B := B) (L := L) (j := j) (k := k) (by omega)
            obtain ⟨w1, w2, w3⟩ := tNe_bytes (B := B) (L := L) (j := j) (k := k) (by omega)
            rw [hb2] at id2
            rw [if_pos w1] at ia2
            have e4 : nI (j + k) - nI j = nI k := by rw [p_sub (by omega), Nat.add_sub_cancel_left]
            by_cases k3 : 3 ≤ k
            · refine Or.inl ⟨gI (gI M' 0 24 (M'.1 0 24)) 0 22 (nI (j + k + 1)), ?_, by omega, by omega, gFr_trI (gFr_trI hF (by omega)) (by omega), p_gI_s _ _ _ _, fun z => by omega⟩
              unfold fX11_goesOn_l114 fX11_goesOn_b165
              rw [hA, id2, p_bnd, if_neg (show ¬ ib true = 0 by decide), m23', e4, if_pos (by rw [show (3 : Int32) = nI 3 from rfl, p_le (by omega) (by omega)]; exact k3), p_wF, p_bnd, p_gI_n (Or.inr (by decide)), hA, show nI (j + k) + (1 : Int32) = nI (j + k + 1) from nI_add _ _, p_wF, p_bnd]
            · have hv := hV (by omega)
              have le := tVl_le (B := B) (j := j) (k := k) (fun m hm => by have := tNe_bytes (B := B) (L := L) (j := j) (k := m) (by omega); omega) (by omega)
              have ev : ((10 : Int32) * nI (tVl B j k) + nI (B (j + k))) - (48 : Int32) = nI (tVl B j (k + 1)) := by
                rw [show (10 : Int32) = nI 10 from rfl, show (48 : Int32) = nI 48 from rfl, p_mul, nI_add, p_sub (by omega)]
                congr 1
                show _ = 10 * tVl B j k + (B (j + k) - 48)
                omega
              refine Or.inl ⟨gI (gI M' 0 24 (nI (tVl B j (k + 1)))) 0 22 (nI (j + k + 1)), ?_, by omega, by omega, gFr_trI (gFr_trI hF (by omega)) (by omega), p_gI_s _ _ _ _, fun z => by rw [p_gI_n (Or.inr (by decide)), p_gI_s]⟩
              unfold fX11_goesOn_l114 fX11_goesOn_b165
              rw [hA, id2, p_bnd, if_neg (show ¬ ib true = 0 by decide), m23', e4, if_neg (by rw [show (3 : Int32) = nI 3 from rfl, p_le (by omega) (by omega)]; exact k3), ia2, p_bnd, hv, ev, p_wF, p_bnd, p_gI_n (Or.inr (by decide)), hA, show nI (j + k) + (1 : Int32) = nI (j + k + 1) from nI_add _ _, p_wF, p_bnd]
          · have e9 : j + k = tNe B L j := by omega
            refine Or.inr ⟨M', ?_, hF, by rw [hA, e9], fun z => ?_⟩
            · have hb2 := tNe_out (B := B) b2
              rw [← e9] at hb2
              rw [hb2] at id2
              unfold fX11_goesOn_l114
              rw [hA, id2, p_bnd, if_pos (show ib false = 0 from rfl)]
            · rw [hV (by omega)]
              unfold tV
              rw [← e9, Nat.add_sub_cancel_left]
        refine ⟨M3, ?_, gFr_tr (gFr_trI F6 (by unfold Dto; omega)) (gFr_mo F3 (fun c k z => by unfold Dto; omega)), ?_, ?_, ?_, fun z => V3 z.2⟩
        · rw [if_neg (show ¬ ib true = 0 by decide), show (2 : Int32) = nI 2 from rfl, p_wF, p_bnd, e3, p_bnd]
        · rw [(F3 0 23 (by omega)).1, p_gI_n (Or.inr (by decide))]; exact m23
        · rw [A3, tTe_D hd]
        · rw [(F3 0 25 (by omega)).1, p_gI_s, tTk_2.mpr hd]
    · -- letters
      obtain ⟨c1, c2⟩ := tWe_b (B := B) b2
      obtain ⟨M3, e3, F3, A3⟩ : ∃ r, gLoop (fun z9 => fX11_goesOn_l74 z9) gFu (gI M6 0 25 (nI 1)) = some r ∧ gFr (fun c k => c = 0 ∧ k = 22) (gI M6 0 25 (nI 1)) r ∧ r.1 0 22 = nI (tWe B L j) := by
        refine gLoop_i (fun k M' => j + k ≤ tWe B L j ∧ gFr (fun c k => c = 0 ∧ k = 22) (gI M6 0 25 (nI 1)) M' ∧ M'.1 0 22 = nI (j + k)) _ (tWe B L j - j) ⟨c1, gFr_rf, by rw [p_gI_n (Or.inr (by decide))]; exact m22⟩ (by show tWe B L j - j < 4096; omega) ?_
        rintro k M' hk ⟨hk2, hF, hA⟩
        have t' : TXr M' B L := TXr_fr (TXr_of t6 (p_gI_n (Or.inr (by decide))) (p_gI_o (by decide))) hF (fun c k z => by omega)
        have id2 := r_isLetter t' (j := j + k) (by omega)
        rcases Nat.lt_or_ge (j + k) (tWe B L j) with q | q
        · have hb2 := tWe_in (B := B) (L := L) (j := j) (k := k) (by omega)
          rw [hb2] at id2
          refine Or.inl ⟨gI M' 0 22 (nI (j + k + 1)), ?_, by omega, by omega, gFr_trI hF ⟨rfl, rfl⟩, p_gI_s _ _ _ _⟩
          unfold fX11_goesOn_l74
          rw [hA, id2, p_bnd, if_neg (show ¬ ib true = 0 by decide), show nI (j + k) + (1 : Int32) = nI (j + k + 1) from nI_add _ _, p_wF, p_bnd]
        · have e9 : j + k = tWe B L j := by omega
          refine Or.inr ⟨M', ?_, hF, by rw [hA, e9]⟩
          have hb2 := tWe_out (B := B) b2
          rw [← e9] at hb2
          rw [hb2] at id2
          unfold fX11_goesOn_l74
          rw [hA, id2, p_bnd, if_pos (show ib false = 0 from rfl)]
      refine ⟨M3, ?_, gFr_tr (gFr_trI F6 (by unfold Dto; omega)) (gFr_mo F3 (fun c k z => by unfold Dto; omega)), ?_, ?_, ?_, fun z => ?_⟩
      · rw [if_neg (show ¬ ib true = 0 by decide), show (1 : Int32) = nI 1 from rfl, p_wF, p_bnd, e3, p_bnd]
      · rw [(F3 0 23 (by omega)).1, p_gI_n (Or.inr (by decide))]; exact m23
      · rw [A3, tTe_L hb]
      · rw [(F3 0 25 (by omega)).1, p_gI_s, tTk_1.mpr hb]
      · rw [tD_L z.1] at hb; cases hb
end TR3
