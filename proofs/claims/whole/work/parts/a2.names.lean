/-! NAMES: a word as a number; bytes; who has a NAME -/
theorem fa_byte_small {n : Nat} (h : n < 128) : (nI n).toInt8.toInt32 = nI n := by
  have : ∀ j : Fin 128, (nI j.val).toInt8.toInt32 = nI j.val := by decide +kernel
  exact this ⟨n, h⟩
theorem wb_tb (n : Nat) : (lN n).toBitVec = BitVec.ofNat 64 n := rfl
theorem wb_inj {a b : Int64} (h : a.toBitVec = b.toBitVec) : a = b := Int64.toBitVec_inj.mp h
theorem wb_tn {n : Nat} (h : n < 2 ^ 64) : (lN n).toBitVec.toNat = n := by rw [wb_tb, BitVec.toNat_ofNat, Nat.mod_eq_of_lt h]
theorem wb_of (x : Int64) : ∃ n, n < 2 ^ 64 ∧ x = lN n := ⟨x.toBitVec.toNat, x.toBitVec.isLt, wb_inj (by rw [wb_tb]; simp)⟩
theorem wb_of32 (x : Int32) : ∃ n, n < 2 ^ 32 ∧ x = nI n := ⟨x.toBitVec.toNat, x.toBitVec.isLt, Int32.toBitVec_inj.mp (by show _ = BitVec.ofNat 32 _; simp)⟩
theorem wb_c : ∀ k, k < 64 → ((nI k).toInt64 &&& 63) = lN k := by decide +kernel
theorem wb_cu : ∀ k, k < 64 → ((nI k).toInt64.toUInt64 &&& Int64.toUInt64 63) = UInt64.ofNat k := by decide +kernel
theorem wb_sm : ∀ k, k < 64 → (BitVec.ofNat 64 k).smod 64 = BitVec.ofNat 64 k := by decide +kernel
theorem wb_pw {a b : Nat} (h : a ≤ b) : 2 ^ b = 2 ^ a * 2 ^ (b - a) := by rw [← Nat.pow_add]; congr 1; omega
theorem wb_lt2 {a b : Nat} (h : a < b) : 2 ^ a < 2 ^ b := Nat.pow_lt_pow_right (by decide) h
theorem wb_mod (n : Nat) : lN n = lN (n % 2 ^ 64) := wb_inj (by rw [wb_tb, wb_tb]; apply BitVec.eq_of_toNat_eq; rw [BitVec.toNat_ofNat, BitVec.toNat_ofNat, Nat.mod_mod])
theorem wb_shr {n k : Nat} (hn : n < 2 ^ 64) (hk : k < 64) : ((lN n).toUInt64 >>> ((nI k).toInt64.toUInt64 &&& Int64.toUInt64 63)).toInt64 = lN (n / 2 ^ k) := by
  rw [wb_cu k hk]
  apply wb_inj
  apply BitVec.eq_of_toNat_eq
  show ((lN n).toUInt64 >>> UInt64.ofNat k).toNat = (BitVec.ofNat 64 _).toNat
  have h1 : (UInt64.ofNat k).toNat = k := by
    show (BitVec.ofNat 64 k).toNat = k
    rw [BitVec.toNat_ofNat, Nat.mod_eq_of_lt (by omega)]
  have h2 : (lN n).toUInt64.toNat = n := wb_tn hn
  rw [UInt64.toNat_shiftRight, h1, h2, Nat.mod_eq_of_lt hk, Nat.shiftRight_eq_div_pow, BitVec.toNat_ofNat, Nat.mod_eq_of_lt (Nat.lt_of_le_of_lt (Nat.div_le_self _ _) hn)]
theorem wb_shl (n : Nat) {k : Nat} (hk : k < 64) : lN n <<< ((nI k).toInt64 &&& 63) = lN (n * 2 ^ k) := by
  rw [wb_c k hk]
  apply wb_inj
  rw [Int64.toBitVec_shiftLeft, wb_tb, wb_tb, wb_tb, wb_sm k hk]
  apply BitVec.eq_of_toNat_eq
  rw [BitVec.shiftLeft_eq', BitVec.toNat_shiftLeft, BitVec.toNat_ofNat, BitVec.toNat_ofNat, BitVec.toNat_ofNat, Nat.mod_eq_of_lt (show k < 2 ^ 64 by omega), Nat.shiftLeft_eq, Nat.mul_mod, Nat.mod_mod, ← Nat.mul_mod]
theorem wb_and {a b : Nat} (ha : a < 2 ^ 64) (hb : b < 2 ^ 64) : lN a &&& lN b = lN (a &&& b) := by
  apply wb_inj
  rw [Int64.toBitVec_and, wb_tb, wb_tb, wb_tb]
  apply BitVec.eq_of_toNat_eq
  rw [BitVec.toNat_and, BitVec.toNat_ofNat, BitVec.toNat_ofNat, BitVec.toNat_ofNat, Nat.mod_eq_of_lt ha, Nat.mod_eq_of_lt hb, Nat.mod_eq_of_lt (Nat.and_lt_two_pow _ hb)]
theorem wb_or {a b : Nat} (ha : a < 2 ^ 64) (hb : b < 2 ^ 64) : lN a ||| lN b = lN (a ||| b) := by
  apply wb_inj
  rw [Int64.toBitVec_or, wb_tb, wb_tb, wb_tb]
  apply BitVec.eq_of_toNat_eq
  rw [BitVec.toNat_or, BitVec.toNat_ofNat, BitVec.toNat_ofNat, BitVec.toNat_ofNat, Nat.mod_eq_of_lt ha, Nat.mod_eq_of_lt hb, Nat.mod_eq_of_lt (Nat.or_lt_two_pow ha hb)]
theorem pf_lI {a : Nat} (h : a < 2 ^ 63) : (lN a).toInt = (a : Int) := lg_ofNat_toInt h
theorem pf_shr {a d : Nat} {D : Int64} (hD : (D.toBitVec.smod 64).toNat = d) (h : a < 2 ^ 62) : lN a >>> D = lN (a / 2 ^ d) := by
  have hd : a / 2 ^ d ≤ a := Nat.div_le_self _ _
  apply Int64.toInt_inj.mp
  have e : (lN a >>> D).toInt = (lN a).toInt >>> d := by
    rw [← hD]
    exact BitVec.toInt_sshiftRight ..
  rw [e, Int.shiftRight_eq_div_pow, pf_lI (by omega), pf_lI (by omega)]
  rfl
section NM
theorem gPk_at : ∀ (l : List Nat) (k : Nat), (∀ c, c ∈ l → c < 256) → gPk l / 256 ^ k % 256 = l.getD k 0
  | [], k, _ => by
    show 0 / 256 ^ k % 256 = _
    rw [Nat.zero_div]; simp
  | c :: l, 0, h => by
    have := h c List.mem_cons_self
    show (c + 256 * gPk l) / 1 % 256 = c
    omega
  | c :: l, k + 1, h => by
    have hc := h c List.mem_cons_self
    have e : (c + 256 * gPk l) / 256 ^ (k + 1) = gPk l / 256 ^ k := by
      rw [Nat.pow_succ, Nat.mul_comm (256 ^ k) 256, ← Nat.div_div_eq_div_mul]
      congr 1
      omega
    show (c + 256 * gPk l) / 256 ^ (k + 1) % 256 = (c :: l).getD (k + 1) 0
    rw [e, gPk_at l k (fun c hc => h c (List.mem_cons_of_mem _ hc))]
    rfl
theorem gPk_lt : ∀ (l : List Nat), (∀ c, c ∈ l → c < 256) → gPk l < 256 ^ l.length
  | [], _ => by decide
  | c :: l, h => by
    have hc := h c List.mem_cons_self
    have ih := gPk_lt l (fun c hc => h c (List.mem_cons_of_mem _ hc))
    show c + 256 * gPk l < 256 ^ (l.length + 1)
    rw [Nat.pow_succ]
    omega
theorem gPk_48 {l : List Nat} (h : ∀ c, c ∈ l → c < 256) (hl : l.length ≤ 6) : gPk l < 2 ^ 48 := by
  have h1 := gPk_lt l h
  have h2 : 256 ^ l.length ≤ 256 ^ 6 := Nat.pow_le_pow_right (by decide) hl
  have h3 : (256 : Nat) ^ 6 = 2 ^ 48 := by decide
  omega
theorem gPk_inj : ∀ (l m : List Nat), (∀ c, c ∈ l → 0 < c ∧ c < 256) → (∀ c, c ∈ m → 0 < c ∧ c < 256) → gPk l = gPk m → l = m
  | [], [], _, _, _ => rfl
  | [], c :: m, _, h, e => by
    have := h c List.mem_cons_self
    have e : 0 = c + 256 * gPk m := e
    omega
  | c :: l, [], h, _, e => by
    have := h c List.mem_cons_self
    have e : c + 256 * gPk l = 0 := e
    omega
  | c :: l, d :: m, h1, h2, e => by
    have hc := h1 c List.mem_cons_self
    have hd := h2 d List.mem_cons_self
    have e : c + 256 * gPk l = d + 256 * gPk m := e
    rw [gPk_inj l m (fun c hc => h1 c (List.mem_cons_of_mem _ hc)) (fun c hc => h2 c (List.mem_cons_of_mem _ hc)) (by omega), show c = d by omega]
theorem sNok_b {l : List Nat} (h : sNok l) : ∀ c, c ∈ l → 0 < c ∧ c < 256 := fun c hc => by have := h.2.2 c hc; omega
theorem sNok_48 {l : List Nat} (h : sNok l) : gPk l < 2 ^ 48 := gPk_48 (fun c hc => (sNok_b h c hc).2) h.2.1
theorem sNok_0 {l : List Nat} (h : sNok l) : 0 < gPk l := by
  cases l with
  | nil => exact absurd h.1 (by decide)
  | cons c l =>
    have := sNok_b h c List.mem_cons_self
    show 0 < c + 256 * gPk l
    omega
theorem sNok_getD {l : List Nat} (h : sNok l) {k : Nat} (hk : k < l.length) : 97 ≤ l.getD k 0 ∧ l.getD k 0 ≤ 122 := h.2.2 _ (getD_mem hk)
theorem getD_out {l : List Nat} {k : Nat} (hk : l.length ≤ k) : l.getD k 0 = 0 := by
  rw [List.getD_eq_getElem?_getD, List.getElem?_eq_none hk]; rfl
theorem sh_amt : ∀ k, k < 6 → ((((8 : Int32) * nI k).toInt64 &&& 63).toBitVec.smod 64).toNat = 8 * k := by decide +kernel
theorem p_letter {l : List Nat} (h : ∀ c, c ∈ l → c < 256) (hl : l.length ≤ 6) {k : Nat} (hk : k < 6) : fX10_letterOf (lN (gPk l)) (nI k) = some (nI (l.getD k 0)) := by
  have h1 := gPk_48 h hl
  have e1 := pf_shr (a := gPk l) (D := ((8 : Int32) * nI k).toInt64 &&& 63) (sh_amt k hk) (by omega)
  unfold fX10_letterOf
  rw [if_neg (show ¬ nI k < 0 by rw [show (0 : Int32) = nI 0 from rfl, p_lt (by omega) (by omega)]; omega), if_pos (show nI k < (6 : Int32) by rw [show (6 : Int32) = nI 6 from rfl, p_lt (by omega) (by omega)]; exact hk), e1, lN_i, show (255 : Int32) = nI (2 ^ 8 - 1) from rfl, fa_and, Nat.and_two_pow_sub_one_eq_mod, show (2 : Nat) ^ (8 * k) = 256 ^ k by rw [Nat.pow_mul]]
  rw [show (2 : Nat) ^ 8 = 256 from rfl, gPk_at l k h]
theorem fa_lt9 {a b : Int32} : (a < b) = (a.toInt < b.toInt) := propext Int32.lt_iff_toInt_lt
theorem p_letter0 {x : Int64} {y : Int32} (h : ∀ k, k < 6 → y ≠ nI k) : fX10_letterOf x y = some (nI 0) := by
  unfold fX10_letterOf fX10_letterOf_b10
  by_cases c : y < 0
  · rw [if_pos c]; rfl
  · rw [if_neg c, if_neg]
    · rfl
    · intro d
      rw [fa_lt9] at c d
      have h0 : (0 : Int32).toInt = 0 := rfl
      have h6 : (6 : Int32).toInt = 6 := rfl
      rw [h0] at c
      rw [h6] at d
      refine h y.toInt.toNat (by omega) ?_
      apply Int32.toInt.inj
      rw [nI_toInt (by omega)]
      omega
theorem p_lettersOf {l : List Nat} (h : sNok l) : fX10_lettersOf (lN (gPk l)) = some (nI l.length) := by
  have h1 := h.1
  have h2 := h.2.1
  have e := gLoop_f (body := fun z9 => fX10_lettersOf_l4 (lN (gPk l)) z9.1 z9.2) (fun k => (nI (if k < l.length then k else l.length), nI k)) (r := nI l.length) 6 gFu (by decide) (fun k hk => by
    have e1 := p_letter (fun c hc => (sNok_b h c hc).2) h2 hk
    by_cases c : k < l.length
    · obtain ⟨a, b⟩ := sNok_getD h c
      have c2 : (if k + 1 < l.length then k + 1 else l.length) = k + 1 := by split <;> omega
      rw [c2, if_pos c]
      simp (disch := omega) only [p_bnd, p_nm, p_gSEl, p_gSEr, p_l0, p_l1, p_l2, p_l3, p_l4, p_l5, p_l6, p_l7, p_l8, p_l9, p_l10, p_l14, p_l16, p_l20, p_l22, p_l24, p_l30, p_l31, p_l32, p_l38, p_l40, p_l41, p_l43, p_l48, p_l57, p_l59, p_l60, p_l61, p_l62, p_l63, p_l97, p_l98, p_l101, p_l122, p_l158, p_l201, p_l255, p_l256, p_l374, p_l880, p_l900, p_l1000, p_l2618, p_neg, nI_add, p_mul, p_sub, p_addm, p_addm0, p_subm, p_le, p_lt, p_eq, p_mO_eq, p_eq_mO, p_mO_lt, p_nlt_mO, p_mO_le, p_le_mO, p_rI, p_rL, p_wI, p_wL, p_wF, p_has10, p_has11, p_ib0, p_ib1, p_shl1, p_zv0, p_zv1, p_zvib, p_ibd, p_ibn, if_pos, if_neg, if_true, if_false, ne_eq, not_true, not_false_iff, Decidable.not_not, Nat.not_lt, Nat.not_le, Bool.true_eq_false, Bool.false_eq_true, eq_self, reduceIte, Nat.reduceAdd, Nat.reduceMul, Nat.reduceSub, Nat.reduceEqDiff, Nat.reduceLT, Nat.reduceLeDiff, reduceCtorEq, fX10_lettersOf_l4, fX10_lettersOf_b21, e1]
    · have z := getD_out (l := l) (k := k) (by omega)
      rw [z] at e1
      have c2 : (if k + 1 < l.length then k + 1 else l.length) = l.length := if_neg (by omega)
      rw [c2, if_neg c]
      simp (disch := omega) only [p_bnd, p_nm, p_gSEl, p_gSEr, p_l0, p_l1, p_l2, p_l3, p_l4, p_l5, p_l6, p_l7, p_l8, p_l9, p_l10, p_l14, p_l16, p_l20, p_l22, p_l24, p_l30, p_l31, p_l32, p_l38, p_l40, p_l41, p_l43, p_l48, p_l57, p_l59, p_l60, p_l61, p_l62, p_l63, p_l97, p_l98, p_l101, p_l122, p_l158, p_l201, p_l255, p_l256, p_l374, p_l880, p_l900, p_l1000, p_l2618, p_neg, nI_add, p_mul, p_sub, p_addm, p_addm0, p_subm, p_le, p_lt, p_eq, p_mO_eq, p_eq_mO, p_mO_lt, p_nlt_mO, p_mO_le, p_le_mO, p_rI, p_rL, p_wI, p_wL, p_wF, p_has10, p_has11, p_ib0, p_ib1, p_shl1, p_zv0, p_zv1, p_zvib, p_ibd, p_ibn, if_pos, if_neg, if_true, if_false, ne_eq, not_true, not_false_iff, Decidable.not_not, Nat.not_lt, Nat.not_le, Bool.true_eq_false, Bool.false_eq_true, eq_self, reduceIte, Nat.reduceAdd, Nat.reduceMul, Nat.reduceSub, Nat.reduceEqDiff, Nat.reduceLT, Nat.reduceLeDiff, reduceCtorEq, fX10_lettersOf_l4, fX10_lettersOf_b21, e1]) (by
    rw [if_neg (by omega)]
    simp (disch := omega) only [p_bnd, p_nm, p_gSEl, p_gSEr, p_l0, p_l1, p_l2, p_l3, p_l4, p_l5, p_l6, p_l7, p_l8, p_l9, p_l10, p_l14, p_l16, p_l20, p_l22, p_l24, p_l30, p_l31, p_l32, p_l38, p_l40, p_l41, p_l43, p_l48, p_l57, p_l59, p_l60, p_l61, p_l62, p_l63, p_l97, p_l98, p_l101, p_l122, p_l158, p_l201, p_l255, p_l256, p_l374, p_l880, p_l900, p_l1000, p_l2618, p_neg, nI_add, p_mul, p_sub, p_addm, p_addm0, p_subm, p_le, p_lt, p_eq, p_mO_eq, p_eq_mO, p_mO_lt, p_nlt_mO, p_mO_le, p_le_mO, p_rI, p_rL, p_wI, p_wL, p_wF, p_has10, p_has11, p_ib0, p_ib1, p_shl1, p_zv0, p_zv1, p_zvib, p_ibd, p_ibn, if_pos, if_neg, if_true, if_false, ne_eq, not_true, not_false_iff, Decidable.not_not, Nat.not_lt, Nat.not_le, Bool.true_eq_false, Bool.false_eq_true, eq_self, reduceIte, Nat.reduceAdd, Nat.reduceMul, Nat.reduceSub, Nat.reduceEqDiff, Nat.reduceLT, Nat.reduceLeDiff, reduceCtorEq, fX10_lettersOf_l4])
  unfold fX10_lettersOf
  rw [show gLoop (fun z9 => fX10_lettersOf_l4 (lN (gPk l)) z9.1 z9.2) gFu ((0 : Int32), (0 : Int32)) = some (nI l.length) from by
    have e0 : (if 0 < l.length then 0 else l.length) = 0 := by split <;> omega
    have e : gLoop (fun z9 => fX10_lettersOf_l4 (lN (gPk l)) z9.1 z9.2) gFu (nI (if 0 < l.length then 0 else l.length), nI 0) = some (nI l.length) := e
    rw [e0] at e; exact e, p_bnd]
/-- a byte, as the class has it -/
def sg (b : Nat) : Int32 := (nI b).toInt8.toInt32
theorem sg_lo {b : Nat} (h : b < 128) : sg b = nI b := fa_byte_small h
theorem sg_hi : ∀ b, b < 256 → 128 ≤ b → sg b = mO (256 - b) := by decide +kernel
theorem sg_cs {b : Nat} (h : b < 256) : (b < 128 ∧ sg b = nI b) ∨ (128 ≤ b ∧ sg b = mO (256 - b)) := by
  rcases Nat.lt_or_ge b 128 with q | q
  · exact Or.inl ⟨q, sg_lo q⟩
  · exact Or.inr ⟨q, sg_hi b h q⟩
theorem sg_eq {b c : Nat} (h : b < 256) (hc : c < 128) : (sg b = nI c) = (b = c) := by
  rcases sg_cs h with ⟨q, e⟩ | ⟨q, e⟩
  · rw [e, p_eq (by omega) (by omega)]
  · rw [e, p_mO_eq (by omega) (by omega) (by omega)]
    exact propext ⟨fun z => z.elim, fun z => by omega⟩
theorem sg_lt {b c : Nat} (h : b < 256) (hc : c < 128) : (nI c < sg b) = (c < b ∧ b < 128) := by
  rcases sg_cs h with ⟨q, e⟩ | ⟨q, e⟩
  · rw [e, p_lt (by omega) (by omega)]
    exact propext ⟨fun z => ⟨z, q⟩, fun z => z.1⟩
  · rw [e, p_nlt_mO (by omega) (by omega) (by omega)]
    exact propext ⟨fun z => z.elim, fun z => by omega⟩
theorem sg_gt {b c : Nat} (h : b < 256) (hc : c < 128) : (sg b < nI c) = (b < c ∨ 128 ≤ b) := by
  rcases sg_cs h with ⟨q, e⟩ | ⟨q, e⟩
  · rw [e, p_lt (by omega) (by omega)]
    exact propext ⟨fun z => Or.inl z, fun z => by omega⟩
  · rw [e, p_mO_lt (by omega) (by omega) (by omega)]
    exact propext ⟨fun _ => Or.inr q, fun _ => trivial⟩
end NM
section NA
variable {M : gMem} {S : gS} {t : Nat}
/-- who has the NAME -/
def nmF (S : gS) (W : List Nat) : Nat := fa_first (fun u => decide (sNm S u = W)) (sN S)
theorem nmF_lt (S : gS) (W : List Nat) : nmF S W ≤ sN S := fa_first_le _ _
theorem fb_eqL {a b : Nat} (ha : a < 2 ^ 48) (hb : b < 2 ^ 48) : lN a = lN b ↔ a = b := pk_lEQ (by omega) (by omega)
theorem cmp_0 {a b : Nat} (ha : a < 2 ^ 48) (hb : b < 2 ^ 48) : (lg_cmp (lN a) (lN b) = nI 0) = (a = b) := by
  have e := fb_eqL ha hb
  unfold lg_cmp
  by_cases c : a = b
  · rw [if_neg, if_pos (e.mpr c)]
    · exact propext ⟨fun _ => c, fun _ => rfl⟩
    · rw [c]; exact Int64.lt_irrefl
  · have c2 : ¬ lN a = lN b := fun z => c (e.mp z)
    rw [if_neg c2]
    split
    · exact propext ⟨fun z => absurd z (by decide), fun z => absurd z c⟩
    · exact propext ⟨fun z => absurd z (by decide), fun z => absurd z c⟩
theorem cs_taskNamed (h : CS M t S) {W : List Nat} (hW : sNok W) : fX2_taskNamed t (lN (gPk W)) M = some (gNo (nmF S W) (sN S)) := by
  have hn := h.2.1.1
  have n1 := cs_n h
  have key : ∀ {u : Nat}, u < sN S → (lg_cmp (lN (gPk (sNm S u))) (lN (gPk W)) = nI 0) = (sNm S u = W) := fun {u} hu => by
    have ok := h.2.2.2.2.2.2.1 u hu
    rw [cmp_0 (sNok_48 ok) (sNok_48 hW)]
    exact propext ⟨fun z => gPk_inj _ _ (sNok_b ok) (sNok_b hW) z, fun z => by rw [z]⟩
  have hle := nmF_lt S W
  have hstep : ∀ k, k < nmF S W → fX2_taskNamed_l2 t (lN (gPk W)) M (nI k) = some (.inl (nI (k + 1))) := fun k hk => by
    have hkn : k < sN S := by omega
    have hno := of_decide_eq_false (fa_first_no (fun u => decide (sNm S u = W)) (sN S) k hk)
    have kk := key hkn
    have nmk := cs_nm h hkn
    simp (disch := omega) only [p_bnd, p_nm, p_gSEl, p_gSEr, p_l0, p_l1, p_l2, p_l3, p_l4, p_l5, p_l6, p_l7, p_l8, p_l9, p_l10, p_l14, p_l16, p_l20, p_l22, p_l24, p_l30, p_l31, p_l32, p_l38, p_l40, p_l41, p_l43, p_l48, p_l57, p_l59, p_l60, p_l61, p_l62, p_l63, p_l97, p_l98, p_l101, p_l122, p_l158, p_l201, p_l255, p_l256, p_l374, p_l880, p_l900, p_l1000, p_l2618, p_neg, nI_add, p_mul, p_sub, p_addm, p_addm0, p_subm, p_le, p_lt, p_eq, p_mO_eq, p_eq_mO, p_mO_lt, p_nlt_mO, p_mO_le, p_le_mO, p_rI, p_rL, p_wI, p_wL, p_wF, p_has10, p_has11, p_ib0, p_ib1, p_shl1, p_zv0, p_zv1, p_zvib, p_ibd, p_ibn, if_pos, if_neg, if_true, if_false, ne_eq, not_true, not_false_iff, Decidable.not_not, Nat.not_lt, Nat.not_le, Bool.true_eq_false, Bool.false_eq_true, eq_self, reduceIte, Nat.reduceAdd, Nat.reduceMul, Nat.reduceSub, Nat.reduceEqDiff, Nat.reduceLT, Nat.reduceLeDiff, reduceCtorEq, fX2_taskNamed_l2, n1, nmk, kk, hno]
  unfold gNo
  rcases Nat.lt_or_ge (nmF S W) (sN S) with q | q
  · have hy := of_decide_eq_true (fa_first_yes (fun u => decide (sNm S u = W)) (sN S) q)
    have kk := key q
    have nmk := cs_nm h q
    have e := gLoop_f (body := fun z9 => fX2_taskNamed_l2 t (lN (gPk W)) M z9) (fun k => nI k) (r := .inr (nI (nmF S W))) (nmF S W) gFu (by show nmF S W < 4096; omega) hstep (by
      have hy : sNm S (nmF S W) = W := hy
      rw [hy] at nmk kk
      simp (disch := omega) only [p_bnd, p_nm, p_gSEl, p_gSEr, p_l0, p_l1, p_l2, p_l3, p_l4, p_l5, p_l6, p_l7, p_l8, p_l9, p_l10, p_l14, p_l16, p_l20, p_l22, p_l24, p_l30, p_l31, p_l32, p_l38, p_l40, p_l41, p_l43, p_l48, p_l57, p_l59, p_l60, p_l61, p_l62, p_l63, p_l97, p_l98, p_l101, p_l122, p_l158, p_l201, p_l255, p_l256, p_l374, p_l880, p_l900, p_l1000, p_l2618, p_neg, nI_add, p_mul, p_sub, p_addm, p_addm0, p_subm, p_le, p_lt, p_eq, p_mO_eq, p_eq_mO, p_mO_lt, p_nlt_mO, p_mO_le, p_le_mO, p_rI, p_rL, p_wI, p_wL, p_wF, p_has10, p_has11, p_ib0, p_ib1, p_shl1, p_zv0, p_zv1, p_zvib, p_ibd, p_ibn, if_pos, if_neg, if_true, if_false, ne_eq, not_true, not_false_iff, Decidable.not_not, Nat.not_lt, Nat.not_le, Bool.true_eq_false, Bool.false_eq_true, eq_self, reduceIte, Nat.reduceAdd, Nat.reduceMul, Nat.reduceSub, Nat.reduceEqDiff, Nat.reduceLT, Nat.reduceLeDiff, reduceCtorEq, fX2_taskNamed_l2, n1, nmk, kk])
    unfold fX2_taskNamed
    rw [if_pos q, show gLoop (fun z9 => fX2_taskNamed_l2 t (lN (gPk W)) M z9) gFu (0 : Int32) = some (.inr (nI (nmF S W))) from e]; rfl
  · have e := gLoop_f (body := fun z9 => fX2_taskNamed_l2 t (lN (gPk W)) M z9) (fun k => nI k) (r := .inl ()) (nmF S W) gFu (by show nmF S W < 4096; omega) hstep (by simp (disch := omega) only [p_bnd, p_nm, p_gSEl, p_gSEr, p_l0, p_l1, p_l2, p_l3, p_l4, p_l5, p_l6, p_l7, p_l8, p_l9, p_l10, p_l14, p_l16, p_l20, p_l22, p_l24, p_l30, p_l31, p_l32, p_l38, p_l40, p_l41, p_l43, p_l48, p_l57, p_l59, p_l60, p_l61, p_l62, p_l63, p_l97, p_l98, p_l101, p_l122, p_l158, p_l201, p_l255, p_l256, p_l374, p_l880, p_l900, p_l1000, p_l2618, p_neg, nI_add, p_mul, p_sub, p_addm, p_addm0, p_subm, p_le, p_lt, p_eq, p_mO_eq, p_eq_mO, p_mO_lt, p_nlt_mO, p_mO_le, p_le_mO, p_rI, p_rL, p_wI, p_wL, p_wF, p_has10, p_has11, p_ib0, p_ib1, p_shl1, p_zv0, p_zv1, p_zvib, p_ibd, p_ibn, if_pos, if_neg, if_true, if_false, ne_eq, not_true, not_false_iff, Decidable.not_not, Nat.not_lt, Nat.not_le, Bool.true_eq_false, Bool.false_eq_true, eq_self, reduceIte, Nat.reduceAdd, Nat.reduceMul, Nat.reduceSub, Nat.reduceEqDiff, Nat.reduceLT, Nat.reduceLeDiff, reduceCtorEq, fX2_taskNamed_l2, n1])
    unfold fX2_taskNamed
    rw [if_neg (by omega), show gLoop (fun z9 => fX2_taskNamed_l2 t (lN (gPk W)) M z9) gFu (0 : Int32) = some (.inl ()) from e]; rfl
/-- the word of n letters at j -/
def wrd (B : Nat → Nat) (j n : Nat) : List Nat := (List.range' j n).map B
theorem wrd_len {B : Nat → Nat} {j n : Nat} : (wrd B j n).length = n := by unfold wrd; rw [List.length_map, List.length_range']
theorem wrd_at {B : Nat → Nat} {j n k : Nat} (hk : k < n) : (wrd B j n).getD k 0 = B (j + k) := by
  have e := getD_at (l := wrd B j n) (i := k) (by rw [wrd_len]; exact hk)
  obtain ⟨-, e2⟩ := rg_at (f := B) e
  exact e2
theorem wrd_s {B : Nat → Nat} {j n : Nat} : wrd B j (n + 1) = B j :: wrd B (j + 1) n := rfl
theorem list_ext {l m : List Nat} (h : l.length = m.length) (e : ∀ k, k < l.length → l.getD k 0 = m.getD k 0) : l = m := by
  apply List.ext_getElem h
  intro k h1 h2
  have := e k h1
  rw [List.getD_eq_getElem?_getD, List.getD_eq_getElem?_getD, List.getElem?_eq_getElem h1, List.getElem?_eq_getElem h2] at this
  exact this
theorem rs_named (h : RS M S) {B : Nat → Nat} {j n : Nat} (hB : ∀ k, k < n → M.1 12 (j + k) = nI (B (j + k)) ∧ B (j + k) < 256) (hj : j + n ≤ 900) (hn6 : n ≤ 6) : fX11_named (nI j) (nI n) M = some (gNo (nmF S (wrd B j n)) (sN S)) := by
  have hn := h.2.1.1
  have n1 : M.1 1 0 = nI (sN S) := h.1.1.1
  have in_ : ∀ {u : Nat}, u < sN S → (sNm S u).length = n → gLoop (fun z9 => fX11_named_l32 (nI j) (nI n) (nI u) M z9.1 z9.2) gFu (nI 1, nI 0) = some (ib (decide (sNm S u = wrd B j n))) := fun {u} hu hl => by
    have ok := h.2.2.2.2.2.2.1 u hu
    have lt := fun k (hk : k < 6) => rs_let h hu hk
    generalize hq : fa_first (fun k => !decide ((sNm S u).getD k 0 = B (j + k))) n = q
    have hle : q ≤ n := hq ▸ fa_first_le _ _
    have hyes : ∀ k, k < q → (sNm S u).getD k 0 = B (j + k) := fun k hk => by
      have := fa_first_no (fun k => !decide ((sNm S u).getD k 0 = B (j + k))) n k (by rw [hq]; exact hk)
      simpa using this
    have st : ∀ k, k < q → fX11_named_l32 (nI j) (nI n) (nI u) M (nI 1) (nI k) = some (.inl (nI 1, nI (k + 1))) := fun k hk => by
      have e1 := lt k (by omega)
      obtain ⟨e2, e3⟩ := hB k (by omega)
      rw [hyes k hk] at e1
      simp (disch := omega) only [p_bnd, p_nm, p_gSEl, p_gSEr, p_l0, p_l1, p_l2, p_l3, p_l4, p_l5, p_l6, p_l7, p_l8, p_l9, p_l10, p_l14, p_l16, p_l20, p_l22, p_l24, p_l30, p_l31, p_l32, p_l38, p_l40, p_l41, p_l43, p_l48, p_l57, p_l59, p_l60, p_l61, p_l62, p_l63, p_l97, p_l98, p_l101, p_l122, p_l158, p_l201, p_l255, p_l256, p_l374, p_l880, p_l900, p_l1000, p_l2618, p_neg, nI_add, p_mul, p_sub, p_addm, p_addm0, p_subm, p_le, p_lt, p_eq, p_mO_eq, p_eq_mO, p_mO_lt, p_nlt_mO, p_mO_le, p_le_mO, p_rI, p_rL, p_wI, p_wL, p_wF, p_has10, p_has11, p_ib0, p_ib1, p_shl1, p_zv0, p_zv1, p_zvib, p_ibd, p_ibn, if_pos, if_neg, if_true, if_false, ne_eq, not_true, not_false_iff, Decidable.not_not, Nat.not_lt, Nat.not_le, Bool.true_eq_false, Bool.false_eq_true, eq_self, reduceIte, Nat.reduceAdd, Nat.reduceMul, Nat.reduceSub, Nat.reduceEqDiff, Nat.reduceLT, Nat.reduceLeDiff, reduceCtorEq, fX11_named_l32, e1, e2, decide_true, ibT]
    rcases Nat.lt_or_ge q n with c | c
    · have hne : ¬ (sNm S u).getD q 0 = B (j + q) := by
        have := fa_first_yes (fun k => !decide ((sNm S u).getD k 0 = B (j + k))) n (by rw [hq]; exact c)
        rw [hq] at this; simpa using this
      have e1 := lt q (by omega)
      obtain ⟨e2, e3⟩ := hB q c
      have g1 := sNok_getD ok (k := q) (by omega)
      have hd : decide (sNm S u = wrd B j n) = false := decide_eq_false fun z => hne (by rw [z, wrd_at c])
      rw [hd]
      refine gLoop_f (body := fun z9 => fX11_named_l32 (nI j) (nI n) (nI u) M z9.1 z9.2) (fun k => (ib (decide (k ≤ q)), nI k)) (q + 1) gFu (by show q + 1 < 4096; omega) (fun k hk => ?_) ?_
      · by_cases ck : k < q
        · have := st k ck
          show fX11_named_l32 (nI j) (nI n) (nI u) M (ib (decide (k ≤ q))) (nI k) = some (.inl (ib (decide (k + 1 ≤ q)), nI (k + 1)))
          rw [decide_eq_true (show k ≤ q by omega), decide_eq_true (show k + 1 ≤ q by omega)]; exact this
        · have ek : k = q := by omega
          rw [ek]
          show fX11_named_l32 (nI j) (nI n) (nI u) M (ib (decide (q ≤ q))) (nI q) = some (.inl (ib (decide (q + 1 ≤ q)), nI (q + 1)))
          rw [decide_eq_true (Nat.le_refl q), decide_eq_false (show ¬ q + 1 ≤ q by omega)]
          simp (disch := omega) only [p_bnd, p_nm, p_gSEl, p_gSEr, p_l0, p_l1, p_l2, p_l3, p_l4, p_l5, p_l6, p_l7, p_l8, p_l9, p_l10, p_l14, p_l16, p_l20, p_l22, p_l24, p_l30, p_l31, p_l32, p_l38, p_l40, p_l41, p_l43, p_l48, p_l57, p_l59, p_l60, p_l61, p_l62, p_l63, p_l97, p_l98, p_l101, p_l122, p_l158, p_l201, p_l255, p_l256, p_l374, p_l880, p_l900, p_l1000, p_l2618, p_neg, nI_add, p_mul, p_sub, p_addm, p_addm0, p_subm, p_le, p_lt, p_eq, p_mO_eq, p_eq_mO, p_mO_lt, p_nlt_mO, p_mO_le, p_le_mO, p_rI, p_rL, p_wI, p_wL, p_wF, p_has10, p_has11, p_ib0, p_ib1, p_shl1, p_zv0, p_zv1, p_zvib, p_ibd, p_ibn, if_pos, if_neg, if_true, if_false, ne_eq, not_true, not_false_iff, Decidable.not_not, Nat.not_lt, Nat.not_le, Bool.true_eq_false, Bool.false_eq_true, eq_self, reduceIte, Nat.reduceAdd, Nat.reduceMul, Nat.reduceSub, Nat.reduceEqDiff, Nat.reduceLT, Nat.reduceLeDiff, reduceCtorEq, fX11_named_l32, e1, e2, decide_eq_false hne, ibT]
      · show fX11_named_l32 (nI j) (nI n) (nI u) M (ib (decide (q + 1 ≤ q))) (nI (q + 1)) = some (.inr (ib false))
        rw [decide_eq_false (show ¬ q + 1 ≤ q by omega)]
        by_cases cn : n ≤ q + 1
        · simp (disch := omega) only [p_bnd, p_nm, p_gSEl, p_gSEr, p_l0, p_l1, p_l2, p_l3, p_l4, p_l5, p_l6, p_l7, p_l8, p_l9, p_l10, p_l14, p_l16, p_l20, p_l22, p_l24, p_l30, p_l31, p_l32, p_l38, p_l40, p_l41, p_l43, p_l48, p_l57, p_l59, p_l60, p_l61, p_l62, p_l63, p_l97, p_l98, p_l101, p_l122, p_l158, p_l201, p_l255, p_l256, p_l374, p_l880, p_l900, p_l1000, p_l2618, p_neg, nI_add, p_mul, p_sub, p_addm, p_addm0, p_subm, p_le, p_lt, p_eq, p_mO_eq, p_eq_mO, p_mO_lt, p_nlt_mO, p_mO_le, p_le_mO, p_rI, p_rL, p_wI, p_wL, p_wF, p_has10, p_has11, p_ib0, p_ib1, p_shl1, p_zv0, p_zv1, p_zvib, p_ibd, p_ibn, if_pos, if_neg, if_true, if_false, ne_eq, not_true, not_false_iff, Decidable.not_not, Nat.not_lt, Nat.not_le, Bool.true_eq_false, Bool.false_eq_true, eq_self, reduceIte, Nat.reduceAdd, Nat.reduceMul, Nat.reduceSub, Nat.reduceEqDiff, Nat.reduceLT, Nat.reduceLeDiff, reduceCtorEq, fX11_named_l32, ibF]
        · simp (disch := omega) only [p_bnd, p_nm, p_gSEl, p_gSEr, p_l0, p_l1, p_l2, p_l3, p_l4, p_l5, p_l6, p_l7, p_l8, p_l9, p_l10, p_l14, p_l16, p_l20, p_l22, p_l24, p_l30, p_l31, p_l32, p_l38, p_l40, p_l41, p_l43, p_l48, p_l57, p_l59, p_l60, p_l61, p_l62, p_l63, p_l97, p_l98, p_l101, p_l122, p_l158, p_l201, p_l255, p_l256, p_l374, p_l880, p_l900, p_l1000, p_l2618, p_neg, nI_add, p_mul, p_sub, p_addm, p_addm0, p_subm, p_le, p_lt, p_eq, p_mO_eq, p_eq_mO, p_mO_lt, p_nlt_mO, p_mO_le, p_le_mO, p_rI, p_rL, p_wI, p_wL, p_wF, p_has10, p_has11, p_ib0, p_ib1, p_shl1, p_zv0, p_zv1, p_zvib, p_ibd, p_ibn, if_pos, if_neg, if_true, if_false, ne_eq, not_true, not_false_iff, Decidable.not_not, Nat.not_lt, Nat.not_le, Bool.true_eq_false, Bool.false_eq_true, eq_self, reduceIte, Nat.reduceAdd, Nat.reduceMul, Nat.reduceSub, Nat.reduceEqDiff, Nat.reduceLT, Nat.reduceLeDiff, reduceCtorEq, fX11_named_l32, ibF]
    · have hqn : q = n := by omega
      have hd : decide (sNm S u = wrd B j n) = true := decide_eq_true (list_ext (by rw [hl, wrd_len]) fun k hk => by rw [hyes k (by omega), wrd_at (by omega)])
      rw [hd]
      exact gLoop_f (body := fun z9 => fX11_named_l32 (nI j) (nI n) (nI u) M z9.1 z9.2) (fun k => (nI 1, nI k)) q gFu (by show q < 4096; omega) st (by rw [hqn]; simp (disch := omega) only [p_bnd, p_nm, p_gSEl, p_gSEr, p_l0, p_l1, p_l2, p_l3, p_l4, p_l5, p_l6, p_l7, p_l8, p_l9, p_l10, p_l14, p_l16, p_l20, p_l22, p_l24, p_l30, p_l31, p_l32, p_l38, p_l40, p_l41, p_l43, p_l48, p_l57, p_l59, p_l60, p_l61, p_l62, p_l63, p_l97, p_l98, p_l101, p_l122, p_l158, p_l201, p_l255, p_l256, p_l374, p_l880, p_l900, p_l1000, p_l2618, p_neg, nI_add, p_mul, p_sub, p_addm, p_addm0, p_subm, p_le, p_lt, p_eq, p_mO_eq, p_eq_mO, p_mO_lt, p_nlt_mO, p_mO_le, p_le_mO, p_rI, p_rL, p_wI, p_wL, p_wF, p_has10, p_has11, p_ib0, p_ib1, p_shl1, p_zv0, p_zv1, p_zvib, p_ibd, p_ibn, if_pos, if_neg, if_true, if_false, ne_eq, not_true, not_false_iff, Decidable.not_not, Nat.not_lt, Nat.not_le, Bool.true_eq_false, Bool.false_eq_true, eq_self, reduceIte, Nat.reduceAdd, Nat.reduceMul, Nat.reduceSub, Nat.reduceEqDiff, Nat.reduceLT, Nat.reduceLeDiff, reduceCtorEq, fX11_named_l32, ibT])
  have in0 : ∀ {u : Nat}, u < sN S → (sNm S u).length ≠ n → gLoop (fun z9 => fX11_named_l32 (nI j) (nI n) (nI u) M z9.1 z9.2) gFu (nI 0, nI 0) = some (nI 0) := fun {u} hu hl => by
    refine gLoop_f (body := fun z9 => fX11_named_l32 (nI j) (nI n) (nI u) M z9.1 z9.2) (fun k => (nI 0, nI k)) 0 gFu (by decide) (fun k hk => absurd hk (Nat.not_lt_zero k)) ?_
    by_cases cn : n ≤ 0
    · simp (disch := omega) only [p_bnd, p_nm, p_gSEl, p_gSEr, p_l0, p_l1, p_l2, p_l3, p_l4, p_l5, p_l6, p_l7, p_l8, p_l9, p_l10, p_l14, p_l16, p_l20, p_l22, p_l24, p_l30, p_l31, p_l32, p_l38, p_l40, p_l41, p_l43, p_l48, p_l57, p_l59, p_l60, p_l61, p_l62, p_l63, p_l97, p_l98, p_l101, p_l122, p_l158, p_l201, p_l255, p_l256, p_l374, p_l880, p_l900, p_l1000, p_l2618, p_neg, nI_add, p_mul, p_sub, p_addm, p_addm0, p_subm, p_le, p_lt, p_eq, p_mO_eq, p_eq_mO, p_mO_lt, p_nlt_mO, p_mO_le, p_le_mO, p_rI, p_rL, p_wI, p_wL, p_wF, p_has10, p_has11, p_ib0, p_ib1, p_shl1, p_zv0, p_zv1, p_zvib, p_ibd, p_ibn, if_pos, if_neg, if_true, if_false, ne_eq, not_true, not_false_iff, Decidable.not_not, Nat.not_lt, Nat.not_le, Bool.true_eq_false, Bool.false_eq_true, eq_self, reduceIte, Nat.reduceAdd, Nat.reduceMul, Nat.reduceSub, Nat.reduceEqDiff, Nat.reduceLT, Nat.reduceLeDiff, reduceCtorEq, fX11_named_l32]
    · simp (disch := omega) only [p_bnd, p_nm, p_gSEl, p_gSEr, p_l0, p_l1, p_l2, p_l3, p_l4, p_l5, p_l6, p_l7, p_l8, p_l9, p_l10, p_l14, p_l16, p_l20, p_l22, p_l24, p_l30, p_l31, p_l32, p_l38, p_l40, p_l41, p_l43, p_l48, p_l57, p_l59, p_l60, p_l61, p_l62, p_l63, p_l97, p_l98, p_l101, p_l122, p_l158, p_l201, p_l255, p_l256, p_l374, p_l880, p_l900, p_l1000, p_l2618, p_neg, nI_add, p_mul, p_sub, p_addm, p_addm0, p_subm, p_le, p_lt, p_eq, p_mO_eq, p_eq_mO, p_mO_lt, p_nlt_mO, p_mO_le, p_le_mO, p_rI, p_rL, p_wI, p_wL, p_wF, p_has10, p_has11, p_ib0, p_ib1, p_shl1, p_zv0, p_zv1, p_zvib, p_ibd, p_ibn, if_pos, if_neg, if_true, if_false, ne_eq, not_true, not_false_iff, Decidable.not_not, Nat.not_lt, Nat.not_le, Bool.true_eq_false, Bool.false_eq_true, eq_self, reduceIte, Nat.reduceAdd, Nat.reduceMul, Nat.reduceSub, Nat.reduceEqDiff, Nat.reduceLT, Nat.reduceLeDiff, reduceCtorEq, fX11_named_l32]
  have hle := nmF_lt S (wrd B j n)
  have hstep : ∀ k, k < nmF S (wrd B j n) → fX11_named_l2 (nI j) (nI n) M (nI k) = some (.inl (nI (k + 1))) := fun k hk => by
    have hkn : k < sN S := by omega
    have hno := fa_first_no (fun u => decide (sNm S u = wrd B j n)) (sN S) k hk
    have el := rs_len h hkn
    have ok := h.2.2.2.2.2.2.1 k hkn
    have ok6 := ok.2.1
    by_cases c : (sNm S k).length = n
    · have i1 := in_ hkn c
      rw [hno] at i1
      rw [c] at el
      simp (disch := omega) only [p_bnd, p_nm, p_gSEl, p_gSEr, p_l0, p_l1, p_l2, p_l3, p_l4, p_l5, p_l6, p_l7, p_l8, p_l9, p_l10, p_l14, p_l16, p_l20, p_l22, p_l24, p_l30, p_l31, p_l32, p_l38, p_l40, p_l41, p_l43, p_l48, p_l57, p_l59, p_l60, p_l61, p_l62, p_l63, p_l97, p_l98, p_l101, p_l122, p_l158, p_l201, p_l255, p_l256, p_l374, p_l880, p_l900, p_l1000, p_l2618, p_neg, nI_add, p_mul, p_sub, p_addm, p_addm0, p_subm, p_le, p_lt, p_eq, p_mO_eq, p_eq_mO, p_mO_lt, p_nlt_mO, p_mO_le, p_le_mO, p_rI, p_rL, p_wI, p_wL, p_wF, p_has10, p_has11, p_ib0, p_ib1, p_shl1, p_zv0, p_zv1, p_zvib, p_ibd, p_ibn, if_pos, if_neg, if_true, if_false, ne_eq, not_true, not_false_iff, Decidable.not_not, Nat.not_lt, Nat.not_le, Bool.true_eq_false, Bool.false_eq_true, eq_self, reduceIte, Nat.reduceAdd, Nat.reduceMul, Nat.reduceSub, Nat.reduceEqDiff, Nat.reduceLT, Nat.reduceLeDiff, reduceCtorEq, fX11_named_l2, fX11_named_b77, n1, el, decide_true, ibT, ibF, i1]
    · have i1 := in0 hkn c
      simp (disch := omega) only [p_bnd, p_nm, p_gSEl, p_gSEr, p_l0, p_l1, p_l2, p_l3, p_l4, p_l5, p_l6, p_l7, p_l8, p_l9, p_l10, p_l14, p_l16, p_l20, p_l22, p_l24, p_l30, p_l31, p_l32, p_l38, p_l40, p_l41, p_l43, p_l48, p_l57, p_l59, p_l60, p_l61, p_l62, p_l63, p_l97, p_l98, p_l101, p_l122, p_l158, p_l201, p_l255, p_l256, p_l374, p_l880, p_l900, p_l1000, p_l2618, p_neg, nI_add, p_mul, p_sub, p_addm, p_addm0, p_subm, p_le, p_lt, p_eq, p_mO_eq, p_eq_mO, p_mO_lt, p_nlt_mO, p_mO_le, p_le_mO, p_rI, p_rL, p_wI, p_wL, p_wF, p_has10, p_has11, p_ib0, p_ib1, p_shl1, p_zv0, p_zv1, p_zvib, p_ibd, p_ibn, if_pos, if_neg, if_true, if_false, ne_eq, not_true, not_false_iff, Decidable.not_not, Nat.not_lt, Nat.not_le, Bool.true_eq_false, Bool.false_eq_true, eq_self, reduceIte, Nat.reduceAdd, Nat.reduceMul, Nat.reduceSub, Nat.reduceEqDiff, Nat.reduceLT, Nat.reduceLeDiff, reduceCtorEq, fX11_named_l2, fX11_named_b77, n1, el, decide_eq_false c, ibF, i1]
  unfold gNo
  rcases Nat.lt_or_ge (nmF S (wrd B j n)) (sN S) with q | q
  · have hy := fa_first_yes (fun u => decide (sNm S u = wrd B j n)) (sN S) q
    have hl : (sNm S (nmF S (wrd B j n))).length = n := by
      have := of_decide_eq_true hy
      have this : sNm S (nmF S (wrd B j n)) = wrd B j n := this
      rw [this, wrd_len]
    have i1 := in_ q hl
    have hy : decide (sNm S (nmF S (wrd B j n)) = wrd B j n) = true := hy
    rw [hy] at i1
    have el := rs_len h q
    rw [hl] at el
    have e := gLoop_f (body := fun z9 => fX11_named_l2 (nI j) (nI n) M z9) (fun k => nI k) (r := .inr (nI (nmF S (wrd B j n)))) (nmF S (wrd B j n)) gFu (by show nmF S (wrd B j n) < 4096; omega) hstep (by
      generalize nmF S (wrd B j n) = w at q i1 el
      simp (disch := omega) only [p_bnd, p_nm, p_gSEl, p_gSEr, p_l0, p_l1, p_l2, p_l3, p_l4, p_l5, p_l6, p_l7, p_l8, p_l9, p_l10, p_l14, p_l16, p_l20, p_l22, p_l24, p_l30, p_l31, p_l32, p_l38, p_l40, p_l41, p_l43, p_l48, p_l57, p_l59, p_l60, p_l61, p_l62, p_l63, p_l97, p_l98, p_l101, p_l122, p_l158, p_l201, p_l255, p_l256, p_l374, p_l880, p_l900, p_l1000, p_l2618, p_neg, nI_add, p_mul, p_sub, p_addm, p_addm0, p_subm, p_le, p_lt, p_eq, p_mO_eq, p_eq_mO, p_mO_lt, p_nlt_mO, p_mO_le, p_le_mO, p_rI, p_rL, p_wI, p_wL, p_wF, p_has10, p_has11, p_ib0, p_ib1, p_shl1, p_zv0, p_zv1, p_zvib, p_ibd, p_ibn, if_pos, if_neg, if_true, if_false, ne_eq, not_true, not_false_iff, Decidable.not_not, Nat.not_lt, Nat.not_le, Bool.true_eq_false, Bool.false_eq_true, eq_self, reduceIte, Nat.reduceAdd, Nat.reduceMul, Nat.reduceSub, Nat.reduceEqDiff, Nat.reduceLT, Nat.reduceLeDiff, reduceCtorEq, fX11_named_l2, fX11_named_b77, n1, el, decide_true, ibT, i1])
    unfold fX11_named
    rw [if_pos q, show gLoop (fun z9 => fX11_named_l2 (nI j) (nI n) M z9) gFu (0 : Int32) = some (.inr (nI (nmF S (wrd B j n)))) from e]; rfl
  · have e := gLoop_f (body := fun z9 => fX11_named_l2 (nI j) (nI n) M z9) (fun k => nI k) (r := .inl ()) (nmF S (wrd B j n)) gFu (by show nmF S (wrd B j n) < 4096; omega) hstep (by simp (disch := omega) only [p_bnd, p_nm, p_gSEl, p_gSEr, p_l0, p_l1, p_l2, p_l3, p_l4, p_l5, p_l6, p_l7, p_l8, p_l9, p_l10, p_l14, p_l16, p_l20, p_l22, p_l24, p_l30, p_l31, p_l32, p_l38, p_l40, p_l41, p_l43, p_l48, p_l57, p_l59, p_l60, p_l61, p_l62, p_l63, p_l97, p_l98, p_l101, p_l122, p_l158, p_l201, p_l255, p_l256, p_l374, p_l880, p_l900, p_l1000, p_l2618, p_neg, nI_add, p_mul, p_sub, p_addm, p_addm0, p_subm, p_le, p_lt, p_eq, p_mO_eq, p_eq_mO, p_mO_lt, p_nlt_mO, p_mO_le, p_le_mO, p_rI, p_rL, p_wI, p_wL, p_wF, p_has10, p_has11, p_ib0, p_ib1, p_shl1, p_zv0, p_zv1, p_zvib, p_ibd, p_ibn, if_pos, if_neg, if_true, if_false, ne_eq, not_true, not_false_iff, Decidable.not_not, Nat.not_lt, Nat.not_le, Bool.true_eq_false, Bool.false_eq_true, eq_self, reduceIte, Nat.reduceAdd, Nat.reduceMul, Nat.reduceSub, Nat.reduceEqDiff, Nat.reduceLT, Nat.reduceLeDiff, reduceCtorEq, fX11_named_l2, n1])
    unfold fX11_named
    rw [if_neg (by omega), show gLoop (fun z9 => fX11_named_l2 (nI j) (nI n) M z9) gFu (0 : Int32) = some (.inl ()) from e]; rfl
end NA
