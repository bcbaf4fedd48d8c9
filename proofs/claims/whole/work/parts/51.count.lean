/-! PURE LAYER: how many bits (both sides' counts) -/
theorem p_ush {n k : Nat} (hn : n < 2 ^ 32) (hk : k < 32) : ((nI n).toUInt32 >>> ((nI k).toUInt32 &&& Int32.toUInt32 31)).toInt32 = nI (n >>> k) := by
  refine b_ext fun i hi => ?_
  have e : bt (((nI n).toUInt32 >>> ((nI k).toUInt32 &&& Int32.toUInt32 31)).toInt32) i = bt (nI n) (k + i) := by
    show ((nI n).toUInt32 >>> ((nI k).toUInt32 &&& Int32.toUInt32 31)).toBitVec.getLsbD i = (nI n).toUInt32.toBitVec.getLsbD (k + i)
    rw [UInt32.toBitVec_shiftRight]
    show ((nI n).toUInt32.toBitVec >>> (((nI k).toUInt32 &&& Int32.toUInt32 31).toBitVec % 32).toNat).getLsbD i = _
    rw [s_u k hk, BitVec.getLsbD_ushiftRight]
  rw [e, p_btN hi, Nat.testBit_shiftRight]
  rcases Nat.lt_or_ge (k + i) 32 with h | h
  · rw [p_btN h]
  · rw [b_big h, Nat.testBit_lt_two_pow (Nat.lt_of_lt_of_le hn (Nat.pow_le_pow_right (by decide) h))]
theorem p_and16 {q r m c s : Nat} (hr : r < 16) (hc : c < 16) (hs : s ≤ 4) (h0 : ∀ i, i < 4 → 4 - s ≤ i → c.testBit i = false) : ((16 * q + r) >>> s) &&& (16 * m + c) = 16 * ((q >>> s) &&& m) + ((r >>> s) &&& c) := by
  have hlt : (r >>> s) &&& c < 2 ^ 4 := Nat.lt_of_le_of_lt Nat.and_le_right hc
  apply Nat.eq_of_testBit_eq
  intro i
  rw [show 16 * ((q >>> s) &&& m) + ((r >>> s) &&& c) = 2 ^ 4 * ((q >>> s) &&& m) + ((r >>> s) &&& c) from rfl, Nat.testBit_two_pow_mul_add _ hlt, Nat.testBit_and, Nat.testBit_shiftRight, show 16 * q + r = 2 ^ 4 * q + r from rfl, show 16 * m + c = 2 ^ 4 * m + c from rfl, Nat.testBit_two_pow_mul_add _ (show r < 2 ^ 4 from hr), Nat.testBit_two_pow_mul_add _ (show c < 2 ^ 4 from hc)]
  rcases Nat.lt_or_ge i 4 with h | h
  · rw [if_pos h, if_pos h, Nat.testBit_and, Nat.testBit_shiftRight]
    rcases Nat.lt_or_ge (s + i) 4 with h2 | h2
    · rw [if_pos h2]
    · rw [h0 i h (by omega), Bool.and_false, Bool.and_false]
  · rw [if_neg (by omega), if_neg (by omega), if_neg (by omega), Nat.testBit_and, Nat.testBit_shiftRight, show s + i - 4 = s + (i - 4) by omega]
def pS1 (m n : Nat) : Nat := n - ((n >>> 1) &&& m)
def pS2 (m v : Nat) : Nat := (v &&& m) + ((v >>> 2) &&& m)
theorem p_and1 (q m : Nat) : (q >>> 1) &&& m ≤ q := Nat.le_trans Nat.and_le_left (by rw [Nat.shiftRight_eq_div_pow]; exact Nat.div_le_self _ _)
theorem p_nib (m5 m3 q : Nat) {r : Nat} (hr : r < 16) : pS2 (16 * m3 + 3) (pS1 (16 * m5 + 5) (16 * q + r)) = 16 * pS2 m3 (pS1 m5 q) + fb_ct r.testBit 4 := by
  have e1 : pS1 (16 * m5 + 5) (16 * q + r) = 16 * pS1 m5 q + pS1 5 r := by
    unfold pS1
    rw [p_and16 hr (by decide) (by decide) (by decide)]
    have := p_and1 q m5
    have := p_and1 r 5
    omega
  have h2 : pS1 5 r < 16 := Nat.lt_of_le_of_lt (Nat.sub_le _ _) hr
  have e2 : pS2 (16 * m3 + 3) (16 * pS1 m5 q + pS1 5 r) = 16 * pS2 m3 (pS1 m5 q) + pS2 3 (pS1 5 r) := by
    unfold pS2
    rw [p_and16 (s := 2) h2 (by decide) (by decide) (by decide)]
    have h3 := p_and16 (q := pS1 m5 q) (r := pS1 5 r) (m := m3) (c := 3) (s := 0) h2 (by decide) (by decide) (by decide)
    simp only [Nat.shiftRight_zero] at h3
    rw [h3]; omega
  rw [e1, e2, (by decide : ∀ r, r < 16 → pS2 3 (pS1 5 r) = fb_ct r.testBit 4) r hr]
theorem p_pc4 (n N : Nat) : fb_ct n.testBit (4 + N) = fb_ct (n % 16).testBit 4 + fb_ct (n / 16).testBit N := by
  rw [fb_ct_split]
  congr 1
  · refine fb_ct_cong fun k hk => ?_
    rw [show n % 16 = n % 2 ^ 4 from rfl, Nat.testBit_mod_two_pow]; simp [hk]
  · refine fb_ct_cong fun k _ => ?_
    rw [show n / 16 = n / 2 ^ 4 from rfl, Nat.testBit_div_two_pow, Nat.add_comm]
theorem p_mask (q m : Nat) {r c : Nat} (hr : r < 16) (hc : c < 16) : (16 * q + r) &&& (16 * m + c) = 16 * (q &&& m) + (r &&& c) := by
  have h3 := p_and16 (q := q) (r := r) (m := m) (c := c) (s := 0) hr hc (by decide) (by intro i h1 h2; omega)
  simpa only [Nat.shiftRight_zero] using h3
theorem p_15 {r : Nat} (hr : r < 16) : r &&& 15 = r := by
  have := Nat.and_two_pow_sub_one_eq_mod r 4
  rw [show 2 ^ 4 - 1 = 15 from rfl] at this
  rw [this]; omega
theorem p_nibs {n : Nat} : n = 16 * (n / 16) + n % 16 := (Nat.div_add_mod n 16).symm
theorem p_step (m5 m3 n : Nat) : pS2 (16 * m3 + 3) (pS1 (16 * m5 + 5) n) = 16 * pS2 m3 (pS1 m5 (n / 16)) + fb_ct (n % 16).testBit 4 := by
  have h := p_nib m5 m3 (n / 16) (r := n % 16) (Nat.mod_lt _ (by decide))
  rw [← p_nibs] at h
  exact h
theorem p_dq {k X a : Nat} (h : a < k) : (k * X + a) / k = X := by
  rw [Nat.mul_add_div (by omega), Nat.div_eq_of_lt h, Nat.add_zero]
theorem p_dm {k X a : Nat} (h : a < k) : (k * X + a) % k = a := by
  rw [Nat.mul_add_mod, Nat.mod_eq_of_lt h]
def pDg (n : Nat) : Nat := fb_ct (n % 16).testBit 4
theorem pDg_le (n : Nat) : pDg n ≤ 4 := fb_ct_le _ 4
theorem p_step2 (m5 m3 n : Nat) : pS2 (16 * m3 + 3) (pS1 (16 * m5 + 5) n) = 16 * pS2 m3 (pS1 m5 (n / 16)) + pDg n := p_step m5 m3 n
theorem p_pc42 (n N : Nat) : fb_ct n.testBit (4 + N) = pDg n + fb_ct (n / 16).testBit N := p_pc4 n N
theorem p_sw1 (n : Nat) : pS2 858993459 (pS1 1431655765 n) = 16 * pS2 53687091 (pS1 89478485 (n / 16)) + pDg n := p_step2 89478485 53687091 n
theorem p_sw2 (n : Nat) : pS2 53687091 (pS1 89478485 n) = 16 * pS2 3355443 (pS1 5592405 (n / 16)) + pDg n := p_step2 5592405 3355443 n
theorem p_sw3 (n : Nat) : pS2 3355443 (pS1 5592405 n) = 16 * pS2 209715 (pS1 349525 (n / 16)) + pDg n := p_step2 349525 209715 n
theorem p_sw4 (n : Nat) : pS2 209715 (pS1 349525 n) = 16 * pS2 13107 (pS1 21845 (n / 16)) + pDg n := p_step2 21845 13107 n
theorem p_sw5 (n : Nat) : pS2 13107 (pS1 21845 n) = 16 * pS2 819 (pS1 1365 (n / 16)) + pDg n := p_step2 1365 819 n
theorem p_sw6 (n : Nat) : pS2 819 (pS1 1365 n) = 16 * pS2 51 (pS1 85 (n / 16)) + pDg n := p_step2 85 51 n
theorem p_sw7 (n : Nat) : pS2 51 (pS1 85 n) = 16 * pS2 3 (pS1 5 (n / 16)) + pDg n := p_step2 5 3 n
theorem p_sw8 (n : Nat) : pS2 3 (pS1 5 n) = 16 * pS2 0 (pS1 0 (n / 16)) + pDg n := p_step2 0 0 n
theorem p_sw9 (n : Nat) : pS2 0 (pS1 0 n) = 0 := by unfold pS2; rw [Nat.and_zero, Nat.and_zero]
theorem p_cnt32 (n : Nat) : fb_ct n.testBit 32 = pDg n + (pDg (n / 16) + (pDg (n / 16 / 16) + (pDg (n / 16 / 16 / 16) + (pDg (n / 16 / 16 / 16 / 16) + (pDg (n / 16 / 16 / 16 / 16 / 16) + (pDg (n / 16 / 16 / 16 / 16 / 16 / 16) + pDg (n / 16 / 16 / 16 / 16 / 16 / 16 / 16))))))) := by
  have h0 := p_pc42 (n / 16 / 16 / 16 / 16 / 16 / 16 / 16) 0
  have h1 := p_pc42 (n / 16 / 16 / 16 / 16 / 16 / 16) 4
  have h2 := p_pc42 (n / 16 / 16 / 16 / 16 / 16) 8
  have h3 := p_pc42 (n / 16 / 16 / 16 / 16) 12
  have h4 := p_pc42 (n / 16 / 16 / 16) 16
  have h5 := p_pc42 (n / 16 / 16) 20
  have h6 := p_pc42 (n / 16) 24
  have h7 := p_pc42 n 28
  have hz : fb_ct (n / 16 / 16 / 16 / 16 / 16 / 16 / 16 / 16).testBit 0 = 0 := rfl
  rw [hz] at h0
  simp only [Nat.reduceAdd] at h0 h1 h2 h3 h4 h5 h6 h7
  rw [h7, h6, h5, h4, h3, h2, h1, h0, Nat.add_zero]
theorem p_swar (n : Nat) : ∃ a b c d e f g h : Nat, a ≤ 4 ∧ b ≤ 4 ∧ c ≤ 4 ∧ d ≤ 4 ∧ e ≤ 4 ∧ f ≤ 4 ∧ g ≤ 4 ∧ h ≤ 4 ∧ fb_ct n.testBit 32 = a + (b + (c + (d + (e + (f + (g + h)))))) ∧ pS2 858993459 (pS1 1431655765 n) = 16 * (16 * (16 * (16 * (16 * (16 * (16 * h + g) + f) + e) + d) + c) + b) + a :=
  ⟨_, _, _, _, _, _, _, _, pDg_le _, pDg_le _, pDg_le _, pDg_le _, pDg_le _, pDg_le _, pDg_le _, pDg_le _, p_cnt32 n, by
    rw [p_sw1, p_sw2, p_sw3, p_sw4, p_sw5, p_sw6, p_sw7, p_sw8, p_sw9, Nat.mul_zero, Nat.zero_add]⟩
/-- the last steps, on four counts of bytes -/
theorem p_fold {A B C D : Nat} (hA : A ≤ 8) (hB : B ≤ 8) (hC : C ≤ 8) (hD : D ≤ 8) : ∀ z, z = 256 * (256 * (256 * D + C) + B) + A → ((z + z >>> 8) + (z + z >>> 8) >>> 16) &&& 63 = A + B + C + D := by
  intro z hz
  have e1 : z >>> 8 = 256 * (256 * D + C) + B := by
    rw [Nat.shiftRight_eq_div_pow, hz]; exact p_dq (k := 256) (by omega)
  have e2 : z + z >>> 8 = 65536 * (256 * D + (C + D)) + (256 * (B + C) + (A + B)) := by rw [e1, hz]; omega
  have e3 : (z + z >>> 8) >>> 16 = 256 * D + (C + D) := by
    rw [Nat.shiftRight_eq_div_pow, e2]; exact p_dq (k := 65536) (by omega)
  rw [e3, e2, show 63 = 2 ^ 6 - 1 from rfl, Nat.and_two_pow_sub_one_eq_mod]
  have e4 : 65536 * (256 * D + (C + D)) + (256 * (B + C) + (A + B)) + (256 * D + (C + D)) = 64 * (1024 * (256 * D + (C + D)) + 4 * (B + C) + 4 * D) + (A + B + C + D) := by omega
  rw [e4]
  exact p_dm (k := 64) (by omega)
theorem p_bytes {a b c d e f g h : Nat} (ha : a ≤ 4) (hb : b ≤ 4) (hc : c ≤ 4) (hd : d ≤ 4) (he : e ≤ 4) (hf : f ≤ 4) (hg : g ≤ 4) (hh : h ≤ 4) {w : Nat} (hv : w = 16 * (16 * (16 * (16 * (16 * (16 * (16 * h + g) + f) + e) + d) + c) + b) + a) : (w + w >>> 4) &&& 252645135 = 256 * (256 * (256 * (g + h) + (e + f)) + (c + d)) + (a + b) := by
  have e4 : w >>> 4 = 16 * (16 * (16 * (16 * (16 * (16 * h + g) + f) + e) + d) + c) + b := by
    rw [Nat.shiftRight_eq_div_pow, hv]; exact p_dq (k := 16) (by omega)
  have e5 : w + w >>> 4 = 16 * (16 * (16 * (16 * (16 * (16 * (16 * h + (g + h)) + (f + g)) + (e + f)) + (d + e)) + (c + d)) + (b + c)) + (a + b) := by
    rw [e4, hv]; omega
  have m1 : (16 * (16 * h + (g + h)) + (f + g)) &&& (16 * 15 + 0) = 16 * (g + h) := by
    rw [p_mask _ _ (by omega) (by omega), Nat.and_zero, Nat.add_zero]
    congr 1
    have := p_mask h 0 (r := g + h) (c := 15) (by omega) (by omega)
    rw [show 16 * 0 + 15 = 15 from rfl, Nat.and_zero, p_15 (r := g + h) (by omega)] at this
    omega
  have m2 : (16 * (16 * (16 * (16 * h + (g + h)) + (f + g)) + (e + f)) + (d + e)) &&& (16 * (16 * (16 * 15 + 0) + 15) + 0) = 16 * (16 * (16 * (g + h)) + (e + f)) := by
    rw [p_mask _ _ (by omega) (by omega), p_mask _ _ (by omega) (by omega), m1, Nat.and_zero, p_15 (by omega), Nat.add_zero]
  rw [e5, show 252645135 = 16 * (16 * (16 * (16 * (16 * (16 * 15 + 0) + 15) + 0) + 15) + 0) + 15 from rfl, p_mask _ _ (by omega) (by omega), p_mask _ _ (by omega) (by omega), p_mask _ _ (by omega) (by omega), m2, p_15 (by omega), p_15 (by omega), Nat.and_zero]
  omega
theorem p_bitCount (x : Int32) : fJ6_bitCount_0f7a4 x = some (nI (fb_ct (bt x) 32)) := by
  obtain ⟨n, hn, rfl⟩ := p_of32 x
  have ec : fb_ct (bt (nI n)) 32 = fb_ct n.testBit 32 := fb_ct_cong (fun k hk => p_btN hk)
  rw [ec]
  obtain ⟨a, b, c, d, e, f, g, h, ha, hb, hc, hd, he, hf, hg, hh, hs, hv⟩ := p_swar n
  have h1 : (n >>> 1) &&& 1431655765 ≤ n := p_and1 n _
  have hv1 : n - ((n >>> 1) &&& 1431655765) < 2 ^ 32 := Nat.lt_of_le_of_lt (Nat.sub_le _ _) hn
  generalize hw : pS2 858993459 (pS1 1431655765 n) = w at hv
  have hw2 : w < 2 ^ 32 := by omega
  have hu := p_bytes ha hb hc hd he hf hg hh hv
  have hf9 := p_fold (A := a + b) (B := c + d) (C := e + f) (D := g + h) (by omega) (by omega) (by omega) (by omega) _ rfl
  unfold fJ6_bitCount_0f7a4
  simp only [p_nm, p_bnd]
  rw [show (1 : Int32) = nI 1 from rfl, show (2 : Int32) = nI 2 from rfl, show (4 : Int32) = nI 4 from rfl, show (8 : Int32) = nI 8 from rfl, show (16 : Int32) = nI 16 from rfl, show (63 : Int32) = nI 63 from rfl, show (1431655765 : Int32) = nI 1431655765 from rfl, show (858993459 : Int32) = nI 858993459 from rfl, show (252645135 : Int32) = nI 252645135 from rfl]
  rw [p_ush hn (by decide), fa_and, p_sub h1, p_ush hv1 (by decide), fa_and, fa_and, nI_add]
  rw [show ((n - ((n >>> 1) &&& 1431655765)) &&& 858993459) + (((n - ((n >>> 1) &&& 1431655765)) >>> 2) &&& 858993459) = w from hw]
  rw [p_ush hw2 (by decide), nI_add, fa_and, hu]
  have hz : 256 * (256 * (256 * (g + h) + (e + f)) + (c + d)) + (a + b) < 2 ^ 31 := by omega
  generalize 256 * (256 * (256 * (g + h) + (e + f)) + (c + d)) + (a + b) = z at hf9 hz
  have hz1 : z >>> 8 ≤ z := by rw [Nat.shiftRight_eq_div_pow]; exact Nat.div_le_self _ _
  rw [p_ush (by omega) (by decide), nI_add, p_ush (by omega) (by decide), nI_add, fa_and, hf9, hs]
  congr 2
  omega
theorem p_many (x : Int32) : fX11_many x = some (nI (fb_ct (bt x) 32)) := by
  unfold fX11_many
  obtain ⟨r, h1, h2⟩ := gLoop_i (body := fun z9 => fX11_many_l4 z9.1 z9.2) (fuel := gFu) (s := ((0 : Int32), x)) (fun k s => ∃ y, s = (nI k, y) ∧ k + fb_ct (bt y) 32 = fb_ct (bt x) 32) (fun r => r = nI (fb_ct (bt x) 32)) 32 ⟨x, rfl, by omega⟩ (by decide) (by
    rintro k s hk ⟨y, rfl, hy⟩
    by_cases h : y = nI 0
    · refine Or.inr ⟨nI k, by show fX11_many_l4 (nI k) y = _; unfold fX11_many_l4; exact if_pos h, ?_⟩
      have : fb_ct (bt y) 32 = 0 := fb_ct_zero.mpr (fun k hk => p_z.mp h k hk)
      rw [← hy, this]; rfl
    · obtain ⟨j, h32, hj, hl⟩ := p_low h
      have e : fb_ct (bt (y &&& (y - nI 1))) 32 + 1 = fb_ct (bt y) 32 := by
        have := fb_ct_upd (bt y) false (n := 32) h32
        rw [if_pos hj] at this
        rw [show fb_ct (bt (y &&& (y - nI 1))) 32 = fb_ct (fun k => if k = j then false else bt y k) 32 from fb_ct_cong (fun k hk => by
          rw [p_drop h32 hj hl hk]; by_cases e : k = j <;> simp [e])]
        simpa using this
      have := fb_ct_le (bt x) 32
      refine Or.inl ⟨(nI (k + 1), y &&& (y - nI 1)), ?_, by omega, _, rfl, by omega⟩
      show fX11_many_l4 (nI k) y = _
      unfold fX11_many_l4
      refine (if_neg h).trans ?_
      rw [p_nm, p_bnd, nI_succ]; rfl)
  rw [h1, h2]; rfl
theorem p_bc_eq (x : Int32) : fJ6_bitCount_0f7a4 x = fX11_many x := by rw [p_bitCount, p_many]
