/-! COPIES: the class's nets; what can be taken back -/
section CN
variable {M : gMem} {S : gS} {t q : Nat}
theorem p_cpI (M : gMem) (a b n : Nat) : ∃ r, cpI M a b n = some r ∧ gFr (fun c _ => c = b) M r ∧ ∀ k, k < n → r.1 b k = M.1 a k := by
  refine ⟨_, rfl, fun c k hc => ⟨?_, rfl, rfl⟩, fun k hk => ?_⟩
  · show (if c = b then va_cpy (M.1 a) (M.1 b) 0 0 n else M.1 c) k = _
    rw [if_neg hc]
  · show (if b = b then va_cpy (M.1 a) (M.1 b) 0 0 n else M.1 b) k = _
    rw [if_pos rfl]
    show (if 0 ≤ k ∧ k < 0 + n then M.1 a (0 + (k - 0)) else M.1 b k) = _
    rw [if_pos (by omega), Nat.zero_add, Nat.sub_zero]
theorem p_cpL (M : gMem) (a b n : Nat) : ∃ r, cpL M a b n = some r ∧ gFr (fun c _ => c = b) M r ∧ ∀ k, k < n → r.2.1 b k = M.2.1 a k := by
  refine ⟨_, rfl, fun c k hc => ⟨rfl, ?_, rfl⟩, fun k hk => ?_⟩
  · show (if c = b then va_cpy (M.2.1 a) (M.2.1 b) 0 0 n else M.2.1 c) k = _
    rw [if_neg hc]
  · show (if b = b then va_cpy (M.2.1 a) (M.2.1 b) 0 0 n else M.2.1 b) k = _
    rw [if_pos rfl]
    show (if 0 ≤ k ∧ k < 0 + n then M.2.1 a (0 + (k - 0)) else M.2.1 b k) = _
    rw [if_pos (by omega), Nat.zero_add, Nat.sub_zero]
theorem cs_copy (h : CS M q S) (hd : t + 9 < q ∨ q + 9 < t) : ∃ r, fX2_copyFrom t q M = some r ∧ gFr (fun c _ => t ≤ c ∧ c ≤ t + 9) M r ∧ CS r t S := by
  obtain ⟨a24, a60, ag⟩ := sW_24 h.2
  obtain ⟨M1, e1, F1, I1⟩ := p_cpL M (q + 1) (t + 1) 24
  obtain ⟨M2, e2, F2, I2⟩ := p_cpI M1 (q + 2) (t + 2) 24
  obtain ⟨M3, e3, F3, I3⟩ := p_cpI M2 (q + 3) (t + 3) 60
  obtain ⟨M4, e4, F4, I4⟩ := p_cpI M3 (q + 4) (t + 4) 60
  obtain ⟨M5, e5, F5, I5⟩ := p_cpI M4 (q + 5) (t + 5) 24
  obtain ⟨M6, e6, F6, I6⟩ := p_cpI M5 (q + 6) (t + 6) 24
  obtain ⟨M7, e7, F7, I7⟩ := p_cpI M6 (q + 7) (t + 7) 24
  obtain ⟨M8, e8, F8, I8⟩ := p_cpI M7 (q + 8) (t + 8) 24
  obtain ⟨M9, e9, F9, I9⟩ := p_cpL M8 (q + 9) (t + 9) 9
  have G1 : gFr (fun c _ => t ≤ c ∧ c ≤ t + 9) M M1 := gFr_mo F1 (fun c k z => by omega)
  have G2 := gFr_tr G1 (gFr_mo F2 (D' := fun c _ => t ≤ c ∧ c ≤ t + 9) (fun c k z => by omega))
  have G3 := gFr_tr G2 (gFr_mo F3 (D' := fun c _ => t ≤ c ∧ c ≤ t + 9) (fun c k z => by omega))
  have G4 := gFr_tr G3 (gFr_mo F4 (D' := fun c _ => t ≤ c ∧ c ≤ t + 9) (fun c k z => by omega))
  have G5 := gFr_tr G4 (gFr_mo F5 (D' := fun c _ => t ≤ c ∧ c ≤ t + 9) (fun c k z => by omega))
  have G6 := gFr_tr G5 (gFr_mo F6 (D' := fun c _ => t ≤ c ∧ c ≤ t + 9) (fun c k z => by omega))
  have G7 := gFr_tr G6 (gFr_mo F7 (D' := fun c _ => t ≤ c ∧ c ≤ t + 9) (fun c k z => by omega))
  have G8 := gFr_tr G7 (gFr_mo F8 (D' := fun c _ => t ≤ c ∧ c ≤ t + 9) (fun c k z => by omega))
  have G9 := gFr_tr G8 (gFr_mo F9 (D' := fun c _ => t ≤ c ∧ c ≤ t + 9) (fun c k z => by omega))
  -- the fields
  have f9 : ∀ k, M9.1 q k = M.1 q k := fun k => (G9 q k (by omega)).1
  generalize hz : gI (gI (gI (gI (gI M9 t 9 (M.1 q 9)) t 10 (M.1 q 10)) t 11 (M.1 q 11)) t 12 (M.1 q 12)) t 13 (M.1 q 13) = Mz
  have H9 : gFr (fun c _ => c = t) M9 Mz := by rw [← hz]; exact gFr_trI (gFr_trI (gFr_trI (gFr_trI (gFr_I rfl) rfl) rfl) rfl) rfl
  have H8 : gFr (fun c _ => c = t ∨ c = t + 9) M8 Mz := gFr_tr (gFr_mo F9 (fun c k z => Or.inr z)) (gFr_mo H9 (fun c k z => Or.inl z))
  have H7 : gFr (fun c _ => c = t ∨ (t + 7 < c ∧ c ≤ t + 9)) M7 Mz := gFr_tr (gFr_mo F8 (fun c k z => by omega)) (gFr_mo H8 (fun c k z => by omega))
  have H6 : gFr (fun c _ => c = t ∨ (t + 6 < c ∧ c ≤ t + 9)) M6 Mz := gFr_tr (gFr_mo F7 (fun c k z => by omega)) (gFr_mo H7 (fun c k z => by omega))
  have H5 : gFr (fun c _ => c = t ∨ (t + 5 < c ∧ c ≤ t + 9)) M5 Mz := gFr_tr (gFr_mo F6 (fun c k z => by omega)) (gFr_mo H6 (fun c k z => by omega))
  have H4 : gFr (fun c _ => c = t ∨ (t + 4 < c ∧ c ≤ t + 9)) M4 Mz := gFr_tr (gFr_mo F5 (fun c k z => by omega)) (gFr_mo H5 (fun c k z => by omega))
  have H3 : gFr (fun c _ => c = t ∨ (t + 3 < c ∧ c ≤ t + 9)) M3 Mz := gFr_tr (gFr_mo F4 (fun c k z => by omega)) (gFr_mo H4 (fun c k z => by omega))
  have H2 : gFr (fun c _ => c = t ∨ (t + 2 < c ∧ c ≤ t + 9)) M2 Mz := gFr_tr (gFr_mo F3 (fun c k z => by omega)) (gFr_mo H3 (fun c k z => by omega))
  have H1 : gFr (fun c _ => c = t ∨ (t + 1 < c ∧ c ≤ t + 9)) M1 Mz := gFr_tr (gFr_mo F2 (fun c k z => by omega)) (gFr_mo H2 (fun c k z => by omega))
  obtain ⟨⟨c0, c1, c2, c3, c4⟩, d2, d3, d4, d5⟩ := id h.1
  refine ⟨Mz, ?_, gFr_tr G9 (gFr_mo H9 (fun c k z => by omega)), ⟨⟨?_, ?_, ?_, ?_, ?_⟩, fun k hk => ?_, fun p hp v hv => ?_, fun i hi => ?_, fun u hu => ?_⟩, h.2⟩
  · unfold fX2_copyFrom
    rw [e1, p_bnd, e2, p_bnd, e3, p_bnd, e4, p_bnd, e5, p_bnd, e6, p_bnd, e7, p_bnd, e8, p_bnd, e9, p_bnd, p_wF, p_bnd, p_wF, p_bnd, p_wF, p_bnd, p_wF, p_bnd, p_wF, p_bnd]
    have o : ∀ {M' : gMem} {k j : Nat} {x : Int32}, (gI M' t k x).1 q j = M'.1 q j := fun {M' k j x} => p_gI_n (Or.inl (by omega))
    rw [o, o, o, o, o, o, o, o, o, o, f9, f9, f9, f9, f9, hz]
  · rw [← hz, p_gI_n (Or.inr (by decide)), p_gI_n (Or.inr (by decide)), p_gI_n (Or.inr (by decide)), p_gI_n (Or.inr (by decide)), p_gI_s]; exact c0
  · rw [← hz, p_gI_n (Or.inr (by decide)), p_gI_n (Or.inr (by decide)), p_gI_n (Or.inr (by decide)), p_gI_s]; exact c1
  · rw [← hz, p_gI_n (Or.inr (by decide)), p_gI_n (Or.inr (by decide)), p_gI_s]; exact c2
  · rw [← hz, p_gI_n (Or.inr (by decide)), p_gI_s]; exact c3
  · rw [← hz, p_gI_s]; exact c4
  · rw [(H9 (t + 9) k (by omega)).2.1, I9 k hk, (G8 (q + 9) k (by omega)).2.1]; exact d2 k hk
  · rw [(H7 (t + 7) p (by omega)).1, I7 p (by omega), (G6 (q + 7) p (by omega)).1]; exact d3 p hp v hv
  · rw [(H3 (t + 3) i (by omega)).1, I3 i (by omega), (G2 (q + 3) i (by omega)).1, (H4 (t + 4) i (by omega)).1, I4 i (by omega), (G3 (q + 4) i (by omega)).1]; exact d4 i hi
  · obtain ⟨x1, x2, x3, x4, x5⟩ := d5 u hu
    refine ⟨?_, ?_, ?_, fun v hv => ?_, fun v hv => ?_⟩
    · rw [(H2 (t + 2) u (by omega)).1, I2 u (by omega), (G1 (q + 2) u (by omega)).1]; exact x1
    · rw [(H8 (t + 8) u (by omega)).1, I8 u (by omega), (G7 (q + 8) u (by omega)).1]; exact x2
    · rw [(H1 (t + 1) u (by omega)).2.1, I1 u (by omega)]; exact x3
    · rw [(H5 (t + 5) u (by omega)).1, I5 u (by omega), (G4 (q + 5) u (by omega)).1]; exact x4 v hv
    · rw [(H6 (t + 6) u (by omega)).1, I6 u (by omega), (G5 (q + 6) u (by omega)).1]; exact x5 v hv
/-- what can be taken back -/
def PP9 (M : gMem) (pm : Nat → Nat) : Prop := (∀ j, j < 8 → M.2.2 31 j = 57 + 10 * pm j + 1 ∧ pm j < 8) ∧ ∀ i j, i < 8 → j < 8 → pm i = pm j → i = j
def PC (M : gMem) (P : List gS) : Prop := P.length ≤ 8 ∧ M.1 0 5 = nI P.length ∧ ∃ pm, PP9 M pm ∧ ∀ j T, P[j]? = some T → CS M (57 + 10 * pm j) T
theorem gNb_k8 : ∀ p, p < 8 → gNb (57 + 10 * p) = true := by decide
theorem p_rN {j p : Nat} (hj : j < 8) (h : M.2.2 31 j = 57 + 10 * p + 1) (hp : p < 8) : rN M 31 8 (nI j) gNb = some (57 + 10 * p) := by
  unfold rN
  rw [if_pos (p_gIn hj (by decide)), nI_clamp (by omega), h]
  exact if_pos (gNb_k8 p hp)
theorem p_wN {j x : Nat} (hj : j < 8) : wN M 31 8 (nI j) x = some (gR M 31 j (x + 1)) := by
  unfold wN
  rw [if_pos (p_gIn hj (by decide)), nI_clamp (by omega)]
theorem gFr_R {D : Nat → Nat → Prop} {c k x : Nat} (h : D c k) : gFr D M (gR M c k x) := fun d j hd => ⟨rfl, rfl, by
  show (if d = c then va_up (M.2.2 c) k x else M.2.2 d) j = _
  by_cases e : d = c
  · rw [if_pos e]
    show (if j = k then x else M.2.2 c j) = _
    rw [if_neg (fun z => hd (by rw [e, z]; exact h)), e]
  · rw [if_neg e]⟩
theorem p_gR (M : gMem) (k x j : Nat) : (gR M 31 k x).2.2 31 j = if j = k then x else M.2.2 31 j := by
  show (if 31 = 31 then va_up (M.2.2 31) k x else M.2.2 31) j = _
  rw [if_pos rfl]; rfl
theorem PC_of {M' : gMem} {P : List gS} (h : PC M P) (e1 : M'.1 0 5 = M.1 0 5) (F : ∀ c k, (c = 31 ∨ (57 ≤ c ∧ c ≤ 136)) → M'.1 c k = M.1 c k ∧ M'.2.1 c k = M.2.1 c k ∧ M'.2.2 c k = M.2.2 c k) : PC M' P := by
  obtain ⟨h0, h1, pm, ⟨hp1, hp2⟩, h2⟩ := h
  refine ⟨h0, by rw [e1]; exact h1, pm, ⟨fun j hj => ?_, hp2⟩, fun j T hj => ?_⟩
  · rw [(F 31 j (Or.inl rfl)).2.2]; exact hp1 j hj
  · have hl := (List.getElem?_eq_some_iff.mp hj).1
    have := (hp1 j (by omega)).2
    exact CS_of (h2 j T hj) (fun i hi => ⟨funext fun k => (F _ k (by omega)).1, funext fun k => (F _ k (by omega)).2.1⟩)
def Drb (c k : Nat) : Prop := (c = 0 ∧ k = 5) ∨ c = 31 ∨ (57 ≤ c ∧ c ≤ 136)
theorem c_rem1 {P : List gS} (h : PC M P) (hS : CS M 1 S) (hl : P.length < 8) : ∃ r, fX10_remember_b62 M = some r ∧ gFr Drb M r ∧ PC r (P ++ [S]) := by
  obtain ⟨h0, h1, pm, hp, h2⟩ := id h
  obtain ⟨a, b⟩ := hp.1 P.length hl
  obtain ⟨r, e, F, C⟩ := cs_copy (t := 57 + 10 * pm P.length) hS (by omega)
  have r5 : r.1 0 5 = nI P.length := by rw [(F 0 5 (by omega)).1]; exact h1
  have F' : gFr Drb M (gI r 0 5 (nI (P.length + 1))) := gFr_trI (gFr_mo F (fun c k z => by unfold Drb; omega)) (Or.inl ⟨rfl, rfl⟩)
  refine ⟨gI r 0 5 (nI (P.length + 1)), ?_, F', by rw [List.length_append]; show P.length + 1 ≤ 8; omega, by rw [p_gI_s, List.length_append]; rfl, pm, ⟨fun j hj => ?_, hp.2⟩, fun j T hj => ?_⟩
  · unfold fX10_remember_b62
    rw [h1, p_rN hl a b, p_bnd, e, p_bnd, r5, show nI P.length + (1 : Int32) = nI (P.length + 1) from nI_add _ _, p_wF, p_bnd]
  · show r.2.2 31 j = _ ∧ _
    rw [(F 31 j (by omega)).2.2]; exact hp.1 j hj
  · rcases Nat.lt_or_ge j P.length with q | q
    · rw [List.getElem?_append_left q] at hj
      have := (hp.1 j (by omega)).2
      have hne : pm j ≠ pm P.length := fun z => by have := hp.2 j P.length (by omega) hl z; omega
      refine CS_of (h2 j T hj) (fun i hi => ⟨?_, ?_⟩)
      · rw [p_gI_o (by omega), gFr_c1 F (fun _ => by omega)]
      · rw [p_gI_L, gFr_c2 F (fun _ => by omega)]
    · rw [List.getElem?_append_right q] at hj
      have hj3 := (List.getElem?_eq_some_iff.mp hj).1
      have e5 : j = P.length := by simp at hj3; omega
      rw [e5, Nat.sub_self] at hj
      have hj4 : S = T := Option.some.inj hj
      rw [← hj4, e5]
      exact CS_of C (fun i hi => ⟨p_gI_o (by omega), rfl⟩)
theorem c_rot {pm : Nat → Nat} (hp : PP9 M pm) (q2 : Nat) : ∃ r, gLoop (fun z9 => fX10_remember_l18 q2 z9.1 z9.2) gFu ((1 : Int32), M) = some r ∧ gFr (fun c _ => c = 31) M r ∧ ∀ j, j < 7 → r.2.2 31 j = M.2.2 31 (j + 1) := by
  refine gLoop_i (fun k s => ∃ M', s = (nI (k + 1), M') ∧ gFr (fun c _ => c = 31) M M' ∧ (∀ j, j < k → M'.2.2 31 j = M.2.2 31 (j + 1)) ∧ ∀ j, k ≤ j → M'.2.2 31 j = M.2.2 31 j) _ 7 ⟨M, rfl, gFr_rf, fun j z => absurd z (Nat.not_lt_zero _), fun _ _ => rfl⟩ (by decide) ?_
  rintro k s hk ⟨M', rfl, hF, h1, h2⟩
  rcases Nat.lt_or_ge k 7 with q | q
  · obtain ⟨a, b⟩ := hp.1 (k + 1) (by omega)
    have e1 : rN M' 31 8 (nI (k + 1)) gNb = some (57 + 10 * pm (k + 1)) := p_rN (by omega) (by rw [h2 _ (by omega)]; exact a) b
    have e2 : wN M' 31 8 (nI k) (57 + 10 * pm (k + 1)) = some (gR M' 31 k (57 + 10 * pm (k + 1) + 1)) := p_wN (by omega)
    refine Or.inl ⟨(nI (k + 1 + 1), gR M' 31 k (57 + 10 * pm (k + 1) + 1)), ?_, q, _, rfl, gFr_tr hF (gFr_R rfl), fun j hj => ?_, fun j hj => ?_⟩
    · simp (disch := omega) only [p_bnd, p_nm, p_gSEl, p_gSEr, p_l0, p_l1, p_l2, p_l3, p_l4, p_l5, p_l6, p_l7, p_l8, p_l9, p_l10, p_l14, p_l16, p_l20, p_l22, p_l24, p_l30, p_l31, p_l32, p_l38, p_l40, p_l41, p_l43, p_l48, p_l57, p_l59, p_l60, p_l61, p_l62, p_l63, p_l97, p_l98, p_l101, p_l122, p_l158, p_l201, p_l255, p_l256, p_l374, p_l880, p_l900, p_l1000, p_l2618, p_neg, nI_add, p_mul, p_sub, p_addm, p_addm0, p_subm, p_le, p_lt, p_eq, p_mO_eq, p_eq_mO, p_mO_lt, p_nlt_mO, p_mO_le, p_le_mO, p_rI, p_rL, p_wI, p_wL, p_wF, p_has10, p_has11, p_ib0, p_ib1, p_shl1, p_zv0, p_zv1, p_zvib, p_ibd, p_ibn, if_pos, if_neg, if_true, if_false, ne_eq, not_true, not_false_iff, Decidable.not_not, Nat.not_lt, Nat.not_le, Bool.true_eq_false, Bool.false_eq_true, eq_self, reduceIte, Nat.reduceAdd, Nat.reduceMul, Nat.reduceSub, Nat.reduceEqDiff, Nat.reduceLT, Nat.reduceLeDiff, reduceCtorEq, fX10_remember_l18, e1, e2, Nat.add_sub_cancel]
    · rw [p_gR]
      by_cases c : j = k
      · rw [if_pos c, c, a]
      · rw [if_neg c]; exact h1 j (by omega)
    · rw [p_gR, if_neg (by omega)]; exact h2 j (by omega)
  · have e : k = 7 := by omega
    rw [e]
    exact Or.inr ⟨M', by simp (disch := omega) only [p_bnd, p_nm, p_gSEl, p_gSEr, p_l0, p_l1, p_l2, p_l3, p_l4, p_l5, p_l6, p_l7, p_l8, p_l9, p_l10, p_l14, p_l16, p_l20, p_l22, p_l24, p_l30, p_l31, p_l32, p_l38, p_l40, p_l41, p_l43, p_l48, p_l57, p_l59, p_l60, p_l61, p_l62, p_l63, p_l97, p_l98, p_l101, p_l122, p_l158, p_l201, p_l255, p_l256, p_l374, p_l880, p_l900, p_l1000, p_l2618, p_neg, nI_add, p_mul, p_sub, p_addm, p_addm0, p_subm, p_le, p_lt, p_eq, p_mO_eq, p_eq_mO, p_mO_lt, p_nlt_mO, p_mO_le, p_le_mO, p_rI, p_rL, p_wI, p_wL, p_wF, p_has10, p_has11, p_ib0, p_ib1, p_shl1, p_zv0, p_zv1, p_zvib, p_ibd, p_ibn, if_pos, if_neg, if_true, if_false, ne_eq, not_true, not_false_iff, Decidable.not_not, Nat.not_lt, Nat.not_le, Bool.true_eq_false, Bool.false_eq_true, eq_self, reduceIte, Nat.reduceAdd, Nat.reduceMul, Nat.reduceSub, Nat.reduceEqDiff, Nat.reduceLT, Nat.reduceLeDiff, reduceCtorEq, fX10_remember_l18], hF, fun j hj => h1 j (by omega)⟩
theorem c_remember {P : List gS} (h : PC M P) (hS : CS M 1 S) : ∃ r, fX10_remember M = some r ∧ gFr Drb M r ∧ PC r (pPs P S) := by
  obtain ⟨h0, h1, pm, hp, h2⟩ := id h
  unfold pPs
  by_cases c : P.length = 8
  · rw [if_pos c]
    obtain ⟨a0, b0⟩ := hp.1 0 (by omega)
    obtain ⟨r, e, F, I⟩ := c_rot hp (57 + 10 * pm 0)
    have e7 : wN r 31 8 (7 : Int32) (57 + 10 * pm 0) = some (gR r 31 7 (57 + 10 * pm 0 + 1)) := p_wN (j := 7) (by omega)
    have e0 : rN M 31 8 (0 : Int32) gNb = some (57 + 10 * pm 0) := p_rN (j := 0) (by omega) a0 b0
    have F2 : gFr Drb M (gI (gR r 31 7 (57 + 10 * pm 0 + 1)) 0 5 (nI 7)) := gFr_trI (gFr_tr (gFr_mo F (fun c k z => Or.inr (Or.inl z))) (gFr_R (Or.inr (Or.inl rfl)))) (Or.inl ⟨rfl, rfl⟩)
    have hp2 : PC (gI (gR r 31 7 (57 + 10 * pm 0 + 1)) 0 5 (nI 7)) (P.drop 1) := by
      refine ⟨by rw [List.length_drop]; omega, by rw [p_gI_s, List.length_drop, c], fun j => if j = 7 then pm 0 else pm (j + 1), ⟨fun j hj => ?_, fun i j hi hj z => ?_⟩, fun j T hj => ?_⟩
      · show (gR r 31 7 (57 + 10 * pm 0 + 1)).2.2 31 j = 57 + 10 * (if j = 7 then pm 0 else pm (j + 1)) + 1 ∧ (if j = 7 then pm 0 else pm (j + 1)) < 8
        rw [p_gR]
        by_cases d : j = 7
        · rw [if_pos d, if_pos d]; exact ⟨rfl, b0⟩
        · rw [if_neg d, if_neg d, I j (by omega)]; exact hp.1 (j + 1) (by omega)
      · have z : (if i = 7 then pm 0 else pm (i + 1)) = (if j = 7 then pm 0 else pm (j + 1)) := z
        by_cases d1 : i = 7
        · by_cases d2 : j = 7
          · omega
          · rw [if_pos d1, if_neg d2] at z
            have := hp.2 _ _ (by omega) (by omega) z; omega
        · by_cases d2 : j = 7
          · rw [if_neg d1, if_pos d2] at z
            have := hp.2 _ _ (by omega) (by omega) z; omega
          · rw [if_neg d1, if_neg d2] at z
            have := hp.2 _ _ (by omega) (by omega) z; omega
      · rw [List.getElem?_drop] at hj
        have hl := (List.getElem?_eq_some_iff.mp hj).1
        show CS _ (57 + 10 * (if j = 7 then pm 0 else pm (j + 1))) T
        rw [if_neg (by omega), Nat.add_comm j 1]
        refine CS_of (h2 _ T hj) (fun i hi => ⟨?_, ?_⟩)
        · rw [p_gI_o (by omega)]
          show r.1 _ = _
          exact gFr_c1 F (fun _ => by omega)
        · exact gFr_c2 F (fun _ => by omega)
    obtain ⟨r2, e2, F3, P2⟩ := c_rem1 hp2 (CS_fr hS F2 (fun j k hj z => by unfold Drb at z; omega)) (by rw [List.length_drop]; omega)
    refine ⟨r2, ?_, gFr_tr F2 F3, P2⟩
    have r5 : (gR r 31 7 (57 + 10 * pm 0 + 1)).1 0 5 = nI 8 := by
      show r.1 0 5 = _
      rw [(F 0 5 (by omega)).1, ← c]; exact h1
    unfold fX10_remember
    rw [h1, c, if_pos (show nI 8 = (8 : Int32) from rfl), e0, p_bnd, e, p_bnd, e7, p_bnd, r5, show nI 8 - (1 : Int32) = nI 7 by decide, p_wF, p_bnd, e2]
  · rw [if_neg c]
    obtain ⟨r2, e2, F2, P2⟩ := c_rem1 h hS (by omega)
    refine ⟨r2, ?_, F2, P2⟩
    unfold fX10_remember
    rw [h1, if_neg (show ¬ nI P.length = (8 : Int32) by rw [show (8 : Int32) = nI 8 from rfl, p_eq (by omega) (by omega)]; exact c), e2]
theorem c_undo {Q : List gS} (h : PC M (Q ++ [S])) : ∃ r, fX10_undo M = some (nI Q.length, r) ∧ gFr (fun c k => (1 ≤ c ∧ c ≤ 10) ∨ (c = 0 ∧ k = 5)) M r ∧ PC r Q ∧ CS r 1 S := by
  obtain ⟨h0, h1, pm, hp, h2⟩ := id h
  rw [List.length_append] at h0 h1
  have h0 : Q.length + 1 ≤ 8 := h0
  have h1 : M.1 0 5 = nI (Q.length + 1) := h1
  obtain ⟨a, b⟩ := hp.1 Q.length (by omega)
  have C := h2 Q.length S (by rw [List.getElem?_append_right (Nat.le_refl _), Nat.sub_self]; rfl)
  have C2 : CS (gI M 0 5 (nI Q.length)) (57 + 10 * pm Q.length) S := CS_of C (fun i hi => ⟨p_gI_o (by omega), rfl⟩)
  obtain ⟨r, e, F, C3⟩ := cs_copy (t := 1) C2 (by omega)
  have r5 : r.1 0 5 = nI Q.length := by rw [(F 0 5 (by omega)).1, p_gI_s]
  have F' : gFr (fun c k => (1 ≤ c ∧ c ≤ 10) ∨ (c = 0 ∧ k = 5)) M r := gFr_tr (gFr_I (Or.inr ⟨rfl, rfl⟩)) (gFr_mo F (fun c k z => Or.inl z))
  refine ⟨r, ?_, F', ⟨by omega, r5, pm, ⟨fun j hj => by rw [(F' 31 j (by omega)).2.2]; exact hp.1 j hj, hp.2⟩, fun j T hj => ?_⟩, C3⟩
  · unfold fX10_undo
    rw [h1, if_neg (show ¬ nI (Q.length + 1) = (0 : Int32) by rw [show (0 : Int32) = nI 0 from rfl, p_eq (by omega) (by omega)]; omega), show nI (Q.length + 1) - (1 : Int32) = nI Q.length from (p_sub (a := Q.length + 1) (b := 1) (by omega)).trans (by rw [Nat.add_sub_cancel]), p_wF, p_bnd, p_gI_s, p_rN (by omega) (show (gI M 0 5 (nI Q.length)).2.2 31 Q.length = _ from a) b, p_bnd, e, p_bnd, r5]
  · have hl := (List.getElem?_eq_some_iff.mp hj).1
    have := (hp.1 j (by omega)).2
    refine CS_of (h2 j T (by rw [List.getElem?_append_left hl]; exact hj)) (fun i hi => ⟨gFr_c1 F' (fun _ => by omega), gFr_c2 F' (fun _ => by omega)⟩)
theorem c_undo0 (h : PC M []) : fX10_undo M = some (mO 1, M) := by
  have h1 : M.1 0 5 = nI 0 := h.2.1
  unfold fX10_undo
  rw [h1, if_pos (show nI 0 = (0 : Int32) from rfl)]; rfl
end CN
