/-! ARGUMENTS of any size; append, truncate: the steps -/
section AP
variable {M N : gMem} {B : Nat → Nat} {L c : Nat} {S : gS} {P : List gS} {x : Int32}
theorem nI_int {k : Nat} (h : k < 2147483648) : (nI k).toInt = (k : Int) := by
  exact nI_toInt (by omega)
theorem x_of (h0 : ¬ x < nI 0) : ∃ a, a < 2147483648 ∧ x = nI a := by
  rw [Int32.lt_iff_toInt_lt, nI_int (by omega)] at h0
  have h1 := Int32.toInt_lt x
  refine ⟨x.toInt.toNat, by omega, ?_⟩
  apply Int32.toInt_inj.mp
  rw [nI_int (by omega)]
  omega
/-- an argument lies between, or both sides say no -/
theorem x_in (x : Int32) (lo hi : Nat) (h : hi < 2147483647) (hl : lo < 2147483647) : (∃ a, lo ≤ a ∧ a ≤ hi ∧ x = nI a ∧ fX11_in x (nI lo) (nI hi) = some (nI 1)) ∨ ((x < nI lo ∨ (¬ x < nI lo ∧ nI hi < x)) ∧ fX11_in x (nI lo) (nI hi) = some (nI 0)) := by
  unfold fX11_in
  by_cases c : x < nI lo
  · right; exact ⟨Or.inl c, by rw [if_pos c]; rfl⟩
  · by_cases d : nI hi < x
    · right; exact ⟨Or.inr ⟨c, d⟩, by rw [if_neg c, if_pos d]; rfl⟩
    · left
      have e1 := c
      have e2 := d
      rw [Int32.lt_iff_toInt_lt, nI_int (by omega)] at e1 e2
      obtain ⟨a, ha, rfl⟩ := x_of (x := x) (by rw [Int32.lt_iff_toInt_lt, nI_int (by omega)]; omega)
      rw [nI_int (by omega)] at e1 e2
      exact ⟨a, by omega, by omega, rfl, by rw [if_neg c, if_neg d]; rfl⟩
theorem x_lt {k : Nat} (hk : k < 2147483647) (h : nI k < x) : ¬ x < nI (k + 1) := by
  rw [Int32.lt_iff_toInt_lt, nI_int (by omega)] at h ⊢
  omega
theorem x_le {k : Nat} (hk : k < 2147483647) (h : nI k < x) : ¬ x ≤ nI k := by
  rw [Int32.lt_iff_toInt_lt] at h
  rw [Int32.le_iff_toInt_le]
  omega
theorem r_wr0 (N : gMem) : fX11_wrong (nI 0) N = some (nI 0, gI N 0 0 (nI 0)) := rfl
theorem r_wr1 (N : gMem) : fX11_wrong (nI 1) N = some (nI 1, gI N 0 0 (nI 1)) := rfl
theorem by_8 (y : Int32) : y.toInt8 = (y &&& 255).toInt8 := by
  apply Int8.toBitVec_inj.mp
  rw [Int32.toBitVec_toInt8, Int32.toBitVec_toInt8]
  apply BitVec.eq_of_getLsbD_eq
  intro i hi
  rw [BitVec.getLsbD_signExtend, BitVec.getLsbD_signExtend, if_pos (by omega), if_pos (by omega)]
  rw [show (y &&& 255).toBitVec = y.toBitVec &&& (255#32) from rfl, BitVec.getLsbD_and]
  have : ∀ i, i < 8 → (255#32).getLsbD i = true := by decide
  rw [this i hi, Bool.and_true]
theorem by_ok (y : Int32) : ∃ b, b < 256 ∧ y &&& 255 = nI b ∧ y.toInt8.toInt32.toInt8.toInt32 = sg b := by
  have e : y &&& 255 = nI (y &&& 255).toBitVec.toNat := by
    apply Int32.toBitVec_inj.mp
    show _ = BitVec.ofNat 32 _
    rw [BitVec.ofNat_toNat, BitVec.setWidth_eq]
  refine ⟨(y &&& 255).toBitVec.toNat, ?_, e, ?_⟩
  · rw [show (y &&& 255).toBitVec = y.toBitVec &&& (255#32) from rfl, BitVec.toNat_and]
    have := Nat.and_le_right (n := y.toBitVec.toNat) (m := (255#32).toNat)
    have e9 : (255#32).toNat = 255 := rfl
    omega
  · unfold sg
    rw [← e, ← by_8, Int8.toInt8_toInt32]
theorem put1 (hc : TXc M B L) (hr : TXr N B L) (hL : L < 900) {b : Nat} (hb : b < 256) : TXc (gI (gI M 33 L (sg b)) 32 1 (nI (L + 1))) (upN B L b) (L + 1) ∧ TXr (gI (gI N 12 L (nI b)) 0 21 (nI (L + 1))) (upN B L b) (L + 1) := by
  obtain ⟨a1, a2, a3⟩ := hc
  obtain ⟨b1, b2, b3⟩ := hr
  refine ⟨⟨p_gI_s _ _ _ _, by omega, fun i hi => ?_⟩, ⟨p_gI_s _ _ _ _, by omega, fun i hi => ?_⟩⟩
  · rw [p_gI_n (Or.inl (by decide)), p_gI]
    unfold upN
    by_cases e : i = L
    · rw [if_pos e, if_pos ⟨rfl, e⟩]; exact ⟨hb, rfl⟩
    · rw [if_neg e, if_neg (fun z => e z.2)]; exact a3 i (by omega)
  · rw [p_gI_n (Or.inl (by decide)), p_gI]
    unfold upN
    by_cases e : i = L
    · rw [if_pos e, if_pos ⟨rfl, e⟩]; exact ⟨hb, rfl⟩
    · rw [if_neg e, if_neg (fun z => e z.2)]; exact b3 i (by omega)
def DpA (c k : Nat) : Prop := (c = 32 ∧ k = 1) ∨ c = 33
def DpB (c k : Nat) : Prop := (c = 0 ∧ k = 21) ∨ c = 12
theorem put_st (hc : TXc M B L) (hr : TXr N B L) (hL : L < 900) (x s : Int32) (hs : ¬ s < 0) : ∃ M' N' B', fX5_putNumber_l3 x s M = some (.inl (s + (-8 : Int32), M')) ∧ fX11_four_l3 x s N = some (.inl (s + (-8 : Int32), N')) ∧ gFr DpA M M' ∧ gFr DpB N N' ∧ TXc M' B' (L + 1) ∧ TXr N' B' (L + 1) := by
  obtain ⟨b, hb, e1, e2⟩ := by_ok (x >>> (s &&& 31))
  obtain ⟨t1, t2⟩ := put1 hc hr hL hb
  refine ⟨_, _, _, ?_, ?_, gFr_trI (gFr_I (Or.inr rfl)) (Or.inl ⟨rfl, rfl⟩), gFr_trI (gFr_I (Or.inr rfl)) (Or.inl ⟨rfl, rfl⟩), t1, t2⟩
  · unfold fX5_putNumber_l3 fX5_putNumber_b40
    rw [if_neg hs, hc.1, if_neg (by rw [show (900 : Int32) = nI 900 from rfl, p_le (by omega) (by omega)]; omega), e2, p_wI hL (by omega), p_bnd, p_gI_n (Or.inl (by decide)), hc.1, show nI L + (1 : Int32) = nI (L + 1) from nI_add _ _, p_wF, p_bnd]
  · unfold fX11_four_l3
    rw [if_neg hs, hr.1, e1, p_wI hL (by omega), p_bnd, p_gI_n (Or.inl (by decide)), hr.1, show nI L + (1 : Int32) = nI (L + 1) from nI_add _ _, p_wF, p_bnd]
theorem put4 (hc : TXc M B L) (hr : TXr N B L) (hL : L + 4 ≤ 900) (x : Int32) : ∃ M' N' B', fX5_putNumber x M = some M' ∧ fX11_four x N = some N' ∧ gFr DpA M M' ∧ gFr DpB N N' ∧ TXc M' B' (L + 4) ∧ TXr N' B' (L + 4) := by
  obtain ⟨M1, N1, B1, a1, b1, F1, G1, c1, d1⟩ := put_st hc hr (by omega) x 24 (by decide)
  obtain ⟨M2, N2, B2, a2, b2, F2, G2, c2, d2⟩ := put_st c1 d1 (by omega) x 16 (by decide)
  obtain ⟨M3, N3, B3, a3, b3, F3, G3, c3, d3⟩ := put_st c2 d2 (by omega) x 8 (by decide)
  obtain ⟨M4, N4, B4, a4, b4, F4, G4, c4, d4⟩ := put_st c3 d3 (by omega) x 0 (by decide)
  refine ⟨M4, N4, B4, ?_, ?_, gFr_tr F1 (gFr_tr F2 (gFr_tr F3 F4)), gFr_tr G1 (gFr_tr G2 (gFr_tr G3 G4)), c4, d4⟩
  · unfold fX5_putNumber
    rw [show gFu = 4091 + 1 + 1 + 1 + 1 + 1 from rfl, gLoop_s]
    show (((fX5_putNumber_l3 x 24 M).bind _)).bind _ = _
    rw [a1, gLc_l, gLoop_s]
    show (((fX5_putNumber_l3 x 16 M1).bind _)).bind _ = _
    rw [a2, gLc_l, gLoop_s]
    show (((fX5_putNumber_l3 x 8 M2).bind _)).bind _ = _
    rw [a3, gLc_l, gLoop_s]
    show (((fX5_putNumber_l3 x 0 M3).bind _)).bind _ = _
    rw [a4, gLc_l, gLoop_s]
    rfl
  · unfold fX11_four
    rw [show gFu = 4091 + 1 + 1 + 1 + 1 + 1 from rfl, gLoop_s]
    show (((fX11_four_l3 x 24 N).bind _)).bind _ = _
    rw [b1, gLc_l, gLoop_s]
    show (((fX11_four_l3 x 16 N1).bind _)).bind _ = _
    rw [b2, gLc_l, gLoop_s]
    show (((fX11_four_l3 x 8 N2).bind _)).bind _ = _
    rw [b3, gLc_l, gLoop_s]
    show (((fX11_four_l3 x 0 N3).bind _)).bind _ = _
    rw [b4, gLc_l, gLoop_s]
    rfl
/-- only text and status change -/
theorem REL_tx {M' N' : gMem} {D D' : Nat → Nat → Prop} (h : REL c M N) (F : gFr D M M') (G : gFr D' N N') (hd : ∀ c k, D c k → DpA c k ∨ scD c k) (hd' : ∀ c k, D' c k → DpB c k ∨ srD c k) (t : rText M' N') : REL c M' N' := by
  obtain ⟨S, P, h1, h2, h3, h4, h5, h6⟩ := h
  have F' := gFr_mo F hd
  have G' := gFr_mo G hd'
  exact ⟨S, P, rNow_fr h1 F' G' (fun c k a b z => by unfold DpA scD at z; omega) (fun k z => by unfold DpB srD at z; omega), rPast_fr h2 F' G' (fun c k a z => by unfold DpA scD at z; omega) (fun c k a z => by unfold DpB srD at z; omega), rKept_fr h3 F' G' (fun c k a z => by unfold DpA scD at z; omega) (fun c k a z => by unfold DpB srD at z; omega), t, rErr_fr h5 F' G' (fun k a b z => by unfold DpA scD at z; omega) (fun k a b z => by unfold DpB srD at z; omega), rOut_fr h6 F' G' (fun c k a z => by unfold DpA scD at z; omega) (fun c k a z => by unfold DpB srD at z; omega)⟩
theorem st_append (h : REL c M N) (x1 x2 x3 x4 x5 : Int32) : STL c (fL_append x1 x2 x3 x4 x5 M) (fX11_append x1 x2 x3 x4 x5 N) := by
  obtain ⟨S, P, h1, h2, h3, ⟨B, L, tc, tr⟩, h5, h6⟩ := id h
  have hL := tc.2.1
  have er : nI L + (20 : Int32) = nI (L + 20) := nI_add _ _
  by_cases q : L ≤ 880
  · have tr0 : TXr (gI N 0 0 (nI 0)) B L := TXr_of tr (p_gI_n (Or.inr (by decide))) (p_gI_o (by decide))
    obtain ⟨M1, N1, B1, a1, b1, F1, G1, c1, d1⟩ := put4 tc tr0 (by omega) x1
    obtain ⟨M2, N2, B2, a2, b2, F2, G2, c2, d2⟩ := put4 c1 d1 (by omega) x2
    obtain ⟨M3, N3, B3, a3, b3, F3, G3, c3, d3⟩ := put4 c2 d2 (by omega) x3
    obtain ⟨M4, N4, B4, a4, b4, F4, G4, c4, d4⟩ := put4 c3 d3 (by omega) x4
    obtain ⟨M5, N5, B5, a5, b5, F5, G5, c5, d5⟩ := put4 c4 d4 (by omega) x5
    have F : gFr DpA M M5 := gFr_tr F1 (gFr_tr F2 (gFr_tr F3 (gFr_tr F4 F5)))
    have G : gFr (fun c k => DpB c k ∨ (c = 0 ∧ k = 0)) N N5 := gFr_tr (gFr_I (Or.inr ⟨rfl, rfl⟩)) (gFr_mo (gFr_tr G1 (gFr_tr G2 (gFr_tr G3 (gFr_tr G4 G5)))) (fun c k z => Or.inl z))
    have G0 : gFr DpB (gI N 0 0 (nI 0)) N5 := gFr_tr G1 (gFr_tr G2 (gFr_tr G3 (gFr_tr G4 G5)))
    refine STL_ok (M' := M5) (N' := N5) (b := nI (L + 20)) ?_ ?_ ?_ (REL_tx h F G (fun c k z => Or.inl z) (fun c k z => z.imp id (fun z => by unfold srD; omega)) ⟨B5, _, c5, d5⟩)
    · refine fl_ok ?_ _
      unfold fX10_append
      rw [tc.1, if_pos (by rw [show (880 : Int32) = nI 880 from rfl, p_le (by omega) (by omega)]; exact q), a1, p_bnd, a2, p_bnd, a3, p_bnd, a4, p_bnd, a5, p_bnd, c5.1]
    · unfold fX11_append
      rw [tr.1, er, if_pos (by rw [show (900 : Int32) = nI 900 from rfl, p_le (by omega) (by omega)]; omega), show (0 : Int32) = nI 0 from rfl, r_wr0, p_bnd]
      dsimp only
      rw [if_pos rfl, b1, p_bnd, b2, p_bnd, b3, p_bnd, b4, p_bnd, b5, p_bnd, d5.1]
    · rw [(G0 0 0 (by unfold DpB; omega)).1, p_gI_s]
  · refine STL_no (k := 1) (M' := M) (N' := gI N 0 0 (nI 1)) (b := nI 0) ?_ ?_ (by omega) (by omega) (p_gI_s _ _ _ _) (REL_sc h gFr_rf (gFr_I (by unfold srD; omega)))
    · unfold fL_append fX10_append
      rw [tc.1, if_neg (by rw [show (880 : Int32) = nI 880 from rfl, p_le (by omega) (by omega)]; exact q)]; rfl
    · unfold fX11_append
      rw [tr.1, er, if_neg (by rw [show (900 : Int32) = nI 900 from rfl, p_le (by omega) (by omega)]; omega), show (1 : Int32) = nI 1 from rfl, r_wr1, p_bnd]
      rfl
theorem st_truncate (h : REL c M N) (x : Int32) : STL c (fL_truncate x M) (fX11_truncate x N) := by
  obtain ⟨S, P, h1, h2, h3, ⟨B, L, tc, tr⟩, h5, h6⟩ := id h
  have hL := tc.2.1
  rcases x_in x 0 L (by omega) (by omega) with ⟨a, -, aL, rfl, e⟩ | ⟨o, e⟩
  · refine STL_ok (M' := gI M 32 1 (nI a)) (N' := gI (gI N 0 0 (nI 0)) 0 21 (nI a)) (b := nI a) ?_ ?_ ?_ (REL_tx h (gFr_I (D := DpA) (Or.inl ⟨rfl, rfl⟩)) (gFr_trI (gFr_I (D := fun c k => DpB c k ∨ (c = 0 ∧ k = 0)) (Or.inr ⟨rfl, rfl⟩)) (Or.inl (Or.inl ⟨rfl, rfl⟩))) (fun c k z => Or.inl z) (fun c k z => z.imp id (fun z => by unfold srD; omega)) ⟨B, a, ⟨p_gI_s _ _ _ _, by omega, fun i hi => ?_⟩, ⟨p_gI_s _ _ _ _, by omega, fun i hi => ?_⟩⟩)
    · refine fl_ok ?_ _
      unfold fX10_truncate
      rw [tc.1, if_neg (by rw [show (0 : Int32) = nI 0 from rfl, p_lt (by omega) (by omega)]; omega), if_pos (by rw [p_le (by omega) (by omega)]; exact aL), p_wF, p_bnd]
    · unfold fX11_truncate
      rw [tr.1, show (0 : Int32) = nI 0 from rfl, e, p_bnd, if_neg (show ¬ nI 1 = nI 0 by decide), r_wr0, p_bnd]
      dsimp only
      rw [if_pos rfl, p_wF, p_bnd, p_gI_s]
    · rw [p_gI_n (Or.inr (by decide)), p_gI_s]
    · rw [p_gI_o (by decide)]; exact tc.2.2 i (by omega)
    · rw [p_gI_o (by decide), p_gI_o (by decide)]; exact tr.2.2 i (by omega)
  · refine STL_no (k := 1) (M' := M) (N' := gI N 0 0 (nI 1)) (b := nI 0) ?_ ?_ (by omega) (by omega) (p_gI_s _ _ _ _) (REL_sc h gFr_rf (gFr_I (by unfold srD; omega)))
    · unfold fL_truncate fX10_truncate
      rw [tc.1]
      rcases o with o | ⟨o, o2⟩
      · rw [if_pos (show x < (0 : Int32) from o)]; rfl
      · rw [if_neg (show ¬ x < (0 : Int32) from o), if_neg (x_le (by omega) o2)]; rfl
    · unfold fX11_truncate
      rw [tr.1, show (0 : Int32) = nI 0 from rfl, e, p_bnd, if_pos rfl, show (1 : Int32) = nI 1 from rfl, r_wr1, p_bnd]
      rfl
end AP
