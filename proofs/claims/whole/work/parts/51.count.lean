/-! PURE LAYER: how many bits (both sides' counts) -/
theorem p_ush {n k : Nat} (hn : n < 2 ^ 32) (hk : k < 32) : ((nI n).toUInt32 >>> ((nI k).toUInt32 &&& Int32.toUInt32 31)).toInt32 = nI (n >>> k) := by
  refine b_ext fun i hi => ?_
  have e : bt (((nI n).toUInt32 >>> ((nI k).toUInt32 &&& Int32.toUInt32 31)).toInt32) i = bt (nI n) (k + i) := by
    show ((nI n).toUInt32 >>> ((nI k).toUInt32 &&& Int32.toUInt32 31)).toBitVec.getLsbD i = (nI n).toUInt32.toBitVec.getLsbD (k + i)
    rw [UInt32.toBitVec_shiftRight]
    show ((nI n).toUInt32.toBitVec >>> (((nI k).toUInt32 &&& Int32.toUInt32 31).toBitVec % 32).toNat).getLsbD i = _
    rw [s_u k hk, BitVec.getLsbD_ushiftRight]
  rw [e, p_btN hi, Nat.testBit_shiftRight]
  rcases Nat.lt_or_ge (k + i) 32 with h | h
  · rw [p_btN h]
  · rw [b_big h, Nat.testBit_lt_two_pow (Nat.lt_of_lt_of_le hn (Nat.pow_le_pow_right (by decide) h))]
theorem p_and16 {q r m c s : Nat} (hr : r < 16) (hc : c < 16) (hs : s ≤ 4) (h0 : ∀ i, i < 4 → 4 - s ≤ i → c.testBit i = false) : ((16 * q + r) >>> s) &&& (16 * m + c) = 16 * ((q >>> s) &&& m) + ((r >>> s) &&& c) := by
  have hlt : (r >>> s) &&& c < 2 ^ 4 := Nat.lt_of_le_of_lt Nat.and_le_right hc
  apply Nat.eq_of_testBit_eq
  intro i
  rw [show 16 * ((q >>> s) &&& m) + ((r >>> s) &&& c) = 2 ^ 4 * ((q >>> s) &&& m) + ((r >>> s) &&& c) from rfl, Nat.testBit_two_pow_mul_add _ hlt, Nat.testBit_and, Nat.testBit_shiftRight, show 16 * q + r = 2 ^ 4 * q + r from rfl, show 16 * m + c = 2 ^ 4 * m + c from rfl, Nat.testBit_two_pow_mul_add _ (show r < 2 ^ 4 from hr), Nat.testBit_two_pow_mul_add _ (show c < 2 ^ 4 from hc)]
  rcases Nat.lt_or_ge i 4 with h | h
  · rw [if_pos h, if_pos h, Nat.testBit_and, Nat.testBit_shiftRight]
    rcases Nat.lt_or_ge (s + i) 4 with h2 | h2
    · rw [if_pos h2]
    · rw [h0 i h (by omega), Bool.and_false, Bool.and_false]
  · rw [if_neg (by omega), if_neg (by omega), if_neg (by omega), Nat.testBit_and, Nat.testBit_shiftRight, show s + i - 4 = s + (i - 4) by omega]
def pS1 (m n : Nat) : Nat := n - ((n >>> 1) &&& m)
def pS2 (m v : Nat) : Nat := (v &&& m) + ((v >>> 2) &&& m)
theorem p_and1 (q m : Nat) : (q >>> 1) &&& m ≤ q := Nat.le_trans Nat.and_le_left (by rw [Nat.shiftRight_eq_div_pow]; exact Nat.div_le_self _ _)
theorem p_nib (m5 m3 q : Nat) {r : Nat} (hr : r < 16) : pS2 (16 * m3 + 3) (pS1 (16 * m5 + 5) (16 * q + r)) = 16 * pS2 m3 (pS1 m5 q) + fb_ct r.testBit 4 := by
  have e1 : pS1 (16 * m5 + 5) (16 * q + r) = 16 * pS1 m5 q + pS1 5 r := by
    unfold pS1
    rw [p_and16 hr (by decide) (by decide) (by decide)]
    have := p_and1 q m5
    have := p_and1 r 5
    omega
  have h2 : pS1 5 r < 16 := Nat.lt_of_le_of_lt (Nat.sub_le _ _) hr
  have e2 : pS2 (16 * m3 + 3) (16 * pS1 m5 q + pS1 5 r) = 16 * pS2 m3 (pS1 m5 q) + pS2 3 (pS1 5 r) := by
    unfold pS2
    rw [p_and16 (s := 2) h2 (by decide) (by decide) (by decide)]
    have h3 := p_and16 (q := pS1 m5 q) (r := pS1 5 r) (m := m3) (c := 3) (s := 0) h2 (by decide) (by decide) (by decide)
    simp only [Nat.shiftRight_zero] at h3
    rw [h3]; omega
  rw [e1, e2, (by decide : ∀ r, r < 16 → pS2 3 (pS1 5 r) = fb_ct r.testBit 4) r hr]
theorem p_pc4 (n N : Nat) : fb_ct n.testBit (4 + N) = fb_ct (n % 16).testBit 4 + fb_ct (n / 16).testBit N := by
  rw [fb_ct_split]
  congr 1
  · refine fb_ct_cong fun k hk => ?_
    rw [show n % 16 = n % 2 ^ 4 from rfl, Nat.testBit_mod_two_pow]; simp [hk]
  · refine fb_ct_cong fun k _ => ?_
    rw [show n / 16 = n / 2 ^ 4 from rfl, Nat.testBit_div_two_pow, Nat.add_comm]
theorem p_mask (q m : Nat) {r c : Nat} (hr : r < 16) (hc : c < 16) : (16 * q + r) &&& (16 * m + c) = 16 * (q &&& m) + (r &&& c) := by
  have h3 := p_and16 (q := q) (r := r) (m := m) (c := c) (s := 0) hr hc (by decide) (by intro i h1 h2; omega)
  simpa only [Nat.shiftRight_zero] using h3
theorem p_15 {r : Nat} (hr : r < 16) : r &&& 15 = r := by
  have := Nat.and_two_pow_sub_one_eq_mod r 4
  rw [show 2 ^ 4 - 1 = 15 from rfl] at this
  rw [this]; omega
theorem p_nibs {n : Nat} : n = 16 * (n / 16) + n % 16 := (Nat.div_add_mod n 16).symm
theorem p_step (m5 m3 n : Nat) : pS2 (16 * m3 + 3) (pS1 (16 * m5 + 5) n) = 16 * pS2 m3 (pS1 m5 (n / 16)) + fb_ct (n % 16).testBit 4 := by
  have h := p_nib m5 m3 (n / 16) (r := n % 16) (Nat.mod_lt _ (by decide))
  rw [← p_nibs] at h
  exact h
theorem p_swar {n : Nat} (hn : n < 2 ^ 32) : ∃ a b c d e f g h : Nat, a ≤ 4 ∧ b ≤ 4 ∧ c ≤ 4 ∧ d ≤ 4 ∧ e ≤ 4 ∧ f ≤ 4 ∧ g ≤ 4 ∧ h ≤ 4 ∧ fb_ct n.testBit 32 = a + (b + (c + (d + (e + (f + (g + h)))))) ∧ pS2 858993459 (pS1 1431655765 n) = 16 * (16 * (16 * (16 * (16 * (16 * (16 * h + g) + f) + e) + d) + c) + b) + a := by
  refine ⟨_, _, _, _, _, _, _, _, fb_ct_le _ 4, fb_ct_le _ 4, fb_ct_le _ 4, fb_ct_le _ 4, fb_ct_le _ 4, fb_ct_le _ 4, fb_ct_le _ 4, fb_ct_le _ 4, ?_, ?_⟩
  rotate_left
  · rw [show 858993459 = 16 * 53687091 + 3 from rfl, show 1431655765 = 16 * 89478485 + 5 from rfl, p_step]
    rw [show 53687091 = 16 * 3355443 + 3 from rfl, show 89478485 = 16 * 5592405 + 5 from rfl, p_step]
    rw [show 3355443 = 16 * 209715 + 3 from rfl, show 5592405 = 16 * 349525 + 5 from rfl, p_step]
    rw [show 209715 = 16 * 13107 + 3 from rfl, show 349525 = 16 * 21845 + 5 from rfl, p_step]
    rw [show 13107 = 16 * 819 + 3 from rfl, show 21845 = 16 * 1365 + 5 from rfl, p_step]
    rw [show 819 = 16 * 51 + 3 from rfl, show 1365 = 16 * 85 + 5 from rfl, p_step]
    rw [show 51 = 16 * 3 + 3 from rfl, show 85 = 16 * 5 + 5 from rfl, p_step]
    rw [show 3 = 16 * 0 + 3 from rfl, show 5 = 16 * 0 + 5 from rfl, p_step]
    rw [show n / 16 / 16 / 16 / 16 / 16 / 16 / 16 / 16 = 0 by omega]
    rfl
  · rw [show 32 = 4 + (4 + (4 + (4 + (4 + (4 + (4 + (4 + 0))))))) from rfl, p_pc4, p_pc4, p_pc4, p_pc4, p_pc4, p_pc4, p_pc4, p_pc4]
    rfl
theorem p_bitCount (x : Int32) : fJ6_bitCount_0f7a4 x = some (nI (fb_ct (bt x) 32)) := by
  obtain ⟨n, hn, rfl⟩ := p_of32 x
  have ec : fb_ct (bt (nI n)) 32 = fb_ct n.testBit 32 := fb_ct_cong (fun k hk => p_btN hk)
  rw [ec]
  obtain ⟨a, b, c, d, e, f, g, h, ha, hb, hc, hd, he, hf, hg, hh, hs, hv⟩ := p_swar hn
  have h1 : (n >>> 1) &&& 1431655765 ≤ n := p_and1 n _
  have hv1 : n - ((n >>> 1) &&& 1431655765) < 2 ^ 32 := Nat.lt_of_le_of_lt (Nat.sub_le _ _) hn
  generalize hw : pS2 858993459 (pS1 1431655765 n) = w at hv
  have hw2 : w < 2 ^ 32 := by omega
  have hu : (w + w >>> 4) &&& 252645135 = (a + b) + 256 * (c + d) + 65536 * (e + f) + 16777216 * (g + h) := by
    have e4 : w + w >>> 4 = 16 * (16 * (16 * (16 * (16 * (16 * (16 * h + (g + h)) + (f + g)) + (e + f)) + (d + e)) + (c + d)) + (b + c)) + (a + b) := by
      rw [Nat.shiftRight_eq_div_pow]; omega
    rw [e4, show 252645135 = 16 * (16 * (16 * (16 * (16 * (16 * (16 * 0 + 15) + 0) + 15) + 0) + 15) + 0) + 15 from rfl]
    rw [p_mask _ _ (by omega) (by omega), p_mask _ _ (by omega) (by omega), p_mask _ _ (by omega) (by omega), p_mask _ _ (by omega) (by omega), p_mask _ _ (by omega) (by omega), p_mask _ _ (by omega) (by omega), p_mask _ _ (by omega) (by omega)]
    rw [p_15 (by omega), p_15 (by omega), p_15 (by omega), p_15 (by omega)]
    simp only [Nat.and_zero]
    omega
  unfold fJ6_bitCount_0f7a4
  simp only [p_nm, p_bnd]
  rw [show (1 : Int32) = nI 1 from rfl, show (2 : Int32) = nI 2 from rfl, show (4 : Int32) = nI 4 from rfl, show (8 : Int32) = nI 8 from rfl, show (16 : Int32) = nI 16 from rfl, show (63 : Int32) = nI 63 from rfl, show (1431655765 : Int32) = nI 1431655765 from rfl, show (858993459 : Int32) = nI 858993459 from rfl, show (252645135 : Int32) = nI 252645135 from rfl]
  rw [p_ush hn (by decide), fa_and, p_sub h1, p_ush hv1 (by decide), fa_and, fa_and, nI_add]
  rw [show ((n - ((n >>> 1) &&& 1431655765)) &&& 858993459) + (((n - ((n >>> 1) &&& 1431655765)) >>> 2) &&& 858993459) = w from hw]
  rw [p_ush hw2 (by decide), nI_add, fa_and, hu]
  generalize hz : (a + b) + 256 * (c + d) + 65536 * (e + f) + 16777216 * (g + h) = z
  rw [p_ush (by omega) (by decide), nI_add, p_ush (by rw [Nat.shiftRight_eq_div_pow]; omega) (by decide), nI_add, fa_and, hs]
  congr 2
  rw [show 63 = 2 ^ 6 - 1 from rfl, Nat.and_two_pow_sub_one_eq_mod]
  simp only [Nat.shiftRight_eq_div_pow]
  omega
theorem p_many (x : Int32) : fX11_many x = some (nI (fb_ct (bt x) 32)) := by
  unfold fX11_many
  obtain ⟨r, h1, h2⟩ := gLoop_i (body := fun z9 => fX11_many_l4 z9.1 z9.2) (fuel := gFu) (s := ((0 : Int32), x)) (fun k s => ∃ y, s = (nI k, y) ∧ k + fb_ct (bt y) 32 = fb_ct (bt x) 32) (fun r => r = nI (fb_ct (bt x) 32)) 32 ⟨x, rfl, by omega⟩ (by decide) (by
    rintro k s hk ⟨y, rfl, hy⟩
    by_cases h : y = nI 0
    · refine Or.inr ⟨nI k, by show fX11_many_l4 (nI k) y = _; unfold fX11_many_l4; exact if_pos h, ?_⟩
      have : fb_ct (bt y) 32 = 0 := fb_ct_zero.mpr (fun k hk => p_z.mp h k hk)
      rw [← hy, this]; rfl
    · obtain ⟨j, h32, hj, hl⟩ := p_low h
      have e : fb_ct (bt (y &&& (y - nI 1))) 32 + 1 = fb_ct (bt y) 32 := by
        have := fb_ct_upd (bt y) false (n := 32) h32
        rw [if_pos hj] at this
        rw [show fb_ct (bt (y &&& (y - nI 1))) 32 = fb_ct (fun k => if k = j then false else bt y k) 32 from fb_ct_cong (fun k hk => by
          rw [p_drop h32 hj hl hk]; by_cases e : k = j <;> simp [e])]
        simpa using this
      have := fb_ct_le (bt x) 32
      refine Or.inl ⟨(nI (k + 1), y &&& (y - nI 1)), ?_, by omega, _, rfl, by omega⟩
      show fX11_many_l4 (nI k) y = _
      unfold fX11_many_l4
      rw [if_neg h, p_nm, p_bnd, nI_succ]; rfl)
  rw [h1, h2]; rfl
theorem p_bc_eq (x : Int32) : fJ6_bitCount_0f7a4 x = fX11_many x := by rw [p_bitCount, p_many]
