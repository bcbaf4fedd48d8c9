/-! CHAINS: greatest sums along arrows; the class's measure -/
def mx2 (a b : Nat) : Nat := if a < b then b else a
theorem mx_if (a b : Nat) : (if a < b then nI b else nI a) = nI (mx2 a b) := by unfold mx2; split <;> rfl
theorem mx_0 (a : Nat) : mx2 a 0 = a := if_neg (Nat.not_lt_zero a)
theorem mx_le (a b : Nat) : mx2 a b ≤ a + b := by unfold mx2; split <;> omega
theorem mx_ub {a b c : Nat} (h1 : a ≤ c) (h2 : b ≤ c) : mx2 a b ≤ c := by unfold mx2; split <;> omega
theorem mx_l (a b : Nat) : a ≤ mx2 a b := by unfold mx2; split <;> omega
theorem mx_r (a b : Nat) : b ≤ mx2 a b := by unfold mx2; split <;> omega
theorem mx_or (a b : Nat) : mx2 a b = a ∨ mx2 a b = b := by unfold mx2; split <;> simp
theorem mx_2 (a b : Nat) : mx2 (mx2 a b) b = mx2 a b := by
  have := mx_r a b
  generalize mx2 a b = c at this
  unfold mx2; rw [if_neg (by omega)]
def gMx (f : Nat → Nat) : Nat → Nat
  | 0 => 0
  | n + 1 => mx2 (gMx f n) (f n)
theorem gMx_s (f : Nat → Nat) (n : Nat) : gMx f (n + 1) = mx2 (gMx f n) (f n) := rfl
theorem gMx_cg {f g : Nat → Nat} : ∀ {n : Nat}, (∀ k, k < n → f k = g k) → gMx f n = gMx g n
  | 0, _ => rfl
  | n + 1, h => by rw [gMx_s, gMx_s, gMx_cg (fun k hk => h k (by omega)), h n (by omega)]
theorem gMx_ub {f : Nat → Nat} {b : Nat} : ∀ {n : Nat}, (∀ k, k < n → f k ≤ b) → gMx f n ≤ b
  | 0, _ => Nat.zero_le _
  | n + 1, h => mx_ub (gMx_ub (fun k hk => h k (by omega))) (h n (by omega))
theorem gMx_ge {f : Nat → Nat} : ∀ {n k : Nat}, k < n → f k ≤ gMx f n
  | n + 1, k, h => by
    rcases Nat.lt_or_ge k n with q | q
    · exact Nat.le_trans (gMx_ge q) (mx_l _ _)
    · rw [show k = n by omega]; exact mx_r _ _
theorem gMx_at {f : Nat → Nat} : ∀ n, gMx f n = 0 ∨ ∃ k, k < n ∧ f k = gMx f n
  | 0 => Or.inl rfl
  | n + 1 => by
    rw [gMx_s]
    rcases mx_or (gMx f n) (f n) with e | e
    · rw [e]
      rcases gMx_at n with z | ⟨k, k1, k2⟩
      · exact Or.inl z
      · exact Or.inr ⟨k, by omega, k2⟩
    · rw [e]; exact Or.inr ⟨n, by omega, rfl⟩
theorem gMx_rev (f : Nat → Nat) (n : Nat) : gMx (fun i => f (n - 1 - i)) n = gMx f n := by
  refine Nat.le_antisymm (gMx_ub fun k hk => gMx_ge (f := f) (by omega)) (gMx_ub fun k hk => ?_)
  have := gMx_ge (f := fun i => f (n - 1 - i)) (n := n) (k := n - 1 - k) (by omega)
  have e : n - 1 - (n - 1 - k) = k := by omega
  have this : f (n - 1 - (n - 1 - k)) ≤ _ := this
  rw [e] at this; exact this
/-- values along arrows -/
def vT (ld : Nat → Nat → Bool) (c : Nat → Nat) : Nat → Nat → Nat
  | 0, _ => 0
  | k + 1, q => if q = k then gMx (fun o => if ld o k = true then vT ld c k o + c o else 0) k else vT ld c k q
def vV (ld : Nat → Nat → Bool) (c : Nat → Nat) (q : Nat) : Nat := vT ld c (q + 1) q
section VV
variable {ld : Nat → Nat → Bool} {c : Nat → Nat}
theorem vT_lt : ∀ {k q : Nat}, q < k → vT ld c k q = vV ld c q
  | k + 1, q, h => by
    by_cases e : q = k
    · rw [e]; rfl
    · have : vT ld c (k + 1) q = vT ld c k q := if_neg e
      rw [this]; exact vT_lt (by omega)
theorem vV_eq (q : Nat) : vV ld c q = gMx (fun o => if ld o q = true then vV ld c o + c o else 0) q := by
  have e : vV ld c q = gMx (fun o => if ld o q = true then vT ld c q o + c o else 0) q := if_pos rfl
  rw [e]
  exact gMx_cg fun o ho => by rw [vT_lt ho]
theorem vV_le {b : Nat} (hc : ∀ o, c o ≤ b) : ∀ k q, q < k → vV ld c q ≤ q * b
  | k + 1, q, h => by
    rw [vV_eq]
    refine gMx_ub fun o ho => ?_
    have h1 := vV_le hc k o (by omega)
    have h2 := hc o
    have h3 : (o + 1) * b ≤ q * b := Nat.mul_le_mul_right b ho
    rw [Nat.add_mul, Nat.one_mul] at h3
    split <;> omega
end VV
/-- what a loop over arrows has pushed from place k -/
noncomputable def chA (f g : Nat → Nat) (k : Nat) (L : Nat → Nat) (x i q : Nat) : Nat := mx2 (L q) (if cB (∃ j, j < i ∧ f j = k ∧ g j = q ∧ q ≠ k) = true then x else 0)
section CA
variable {f g L : Nat → Nat} {k x i q : Nat}
theorem chA_0 : chA f g k L x 0 q = L q := by
  unfold chA
  rw [if_neg, mx_0]
  rw [cB_iff]; rintro ⟨j, hj, -⟩; omega
theorem chA_k : chA f g k L x i k = L k := by
  unfold chA
  rw [if_neg, mx_0]
  rw [cB_iff]; rintro ⟨j, -, -, -, z⟩; exact z rfl
theorem chA_le : chA f g k L x i q ≤ L q + x := by
  unfold chA
  refine Nat.le_trans (mx_le _ _) ?_
  split <;> omega
theorem chA_yes (hf : f i = k) (hg : g i = q) (hq : q ≠ k) : chA f g k L x (i + 1) q = mx2 (chA f g k L x i q) x := by
  unfold chA
  rw [if_pos (cB_iff.mpr ⟨i, by omega, hf, hg, hq⟩)]
  split
  · rw [mx_2]
  · rw [mx_0]
theorem chA_no (h : ¬ (f i = k ∧ g i = q ∧ q ≠ k)) : chA f g k L x (i + 1) q = chA f g k L x i q := by
  unfold chA
  rw [show cB (∃ j, j < i + 1 ∧ f j = k ∧ g j = q ∧ q ≠ k) = cB (∃ j, j < i ∧ f j = k ∧ g j = q ∧ q ≠ k) from cB_cg ⟨fun ⟨j, h1, h2⟩ => by
    by_cases e : j = i
    · rw [e] at h2; exact absurd h2 h
    · exact ⟨j, by omega, h2⟩, fun ⟨j, h1, h2⟩ => ⟨j, by omega, h2⟩⟩]
theorem chA_end {ld : Bool} {m : Nat} (h : (∃ j, j < m ∧ f j = k ∧ g j = q ∧ q ≠ k) ↔ ld = true) : chA f g k L x m q = mx2 (L q) (if ld = true then x else 0) := by
  unfold chA
  have : cB (∃ j, j < m ∧ f j = k ∧ g j = q ∧ q ≠ k) = ld := (cB_of h.symm).symm
  rw [this]
end CA
section CH
variable {S : gS}
def ldF (S : gS) (o q : Nat) : Bool := sLd S o q && decide (o < q)
def ldB (S : gS) (o q : Nat) : Bool := sLd S (sG S - 1 - q) (sG S - 1 - o) && decide (o < q)
def cLv (S : gS) (q : Nat) : Nat := vV (ldF S) (fun _ => 1) q
def cBg (S : gS) (q : Nat) : Nat := vV (ldF S) (sHo S) q
def cBk (S : gS) (q : Nat) : Nat := vV (ldB S) (fun o => sHo S (sG S - 1 - o)) q
def cRs (S : gS) (p : Nat) : Nat := cBk S (sG S - 1 - p)
def cLg (S : gS) : Nat := gMx (fun p => cBg S p + sHo S p) (sG S)
theorem sHo_le (h : sW S) (p : Nat) : sHo S p ≤ 216 := by
  refine Nat.le_trans (fb_sm_bound (c := 9) fun t ht => ?_) (Nat.mul_le_mul_right 9 h.1.1)
  have := (h.2.2.2.2.1 t ht).2
  split <;> omega
theorem cLv_le (S : gS) {q : Nat} (hq : q < 24) : cLv S q ≤ 24 := by
  have := vV_le (ld := ldF S) (c := fun _ => 1) (b := 1) (fun _ => Nat.le_refl _) 24 q hq
  unfold cLv; omega
theorem cBg_le (h : sW S) {q : Nat} (hq : q < 24) : cBg S q ≤ 5184 := by
  have := vV_le (ld := ldF S) (c := sHo S) (b := 216) (sHo_le h) 24 q hq
  have := Nat.mul_le_mul_right 216 (show q ≤ 24 by omega)
  unfold cBg; omega
theorem cBk_le (h : sW S) {q : Nat} (hq : q < 24) : cBk S q ≤ 5184 := by
  have := vV_le (ld := ldB S) (c := fun o => sHo S (sG S - 1 - o)) (b := 216) (fun _ => sHo_le h _) 24 q hq
  have := Nat.mul_le_mul_right 216 (show q ≤ 24 by omega)
  unfold cBk; omega
theorem ldF_iff (h : sW S) {k q : Nat} : (∃ j, j < sM S ∧ sPl S (sFr S j) = k ∧ sPl S (sTo S j) = q ∧ q ≠ k) ↔ ldF S k q = true := by
  unfold ldF
  rw [Bool.and_eq_true, decide_eq_true_eq, sLd_iff]
  constructor
  · rintro ⟨j, j1, j2, j3, j4⟩
    have := h.2.2.2.1.1 j j1
    exact ⟨⟨j, j1, j2, j3⟩, by omega⟩
  · rintro ⟨⟨j, j1, j2, j3⟩, z⟩
    exact ⟨j, j1, j2, j3, by omega⟩
theorem ldB_iff (h : sW S) {k q : Nat} (hk : k < sG S) (hq : q < sG S) : (∃ j, j < sM S ∧ sPl S (sTo S j) = k ∧ sPl S (sFr S j) = q ∧ q ≠ k) ↔ ldB S (sG S - 1 - k) (sG S - 1 - q) = true := by
  unfold ldB
  rw [show sG S - 1 - (sG S - 1 - q) = q by omega, show sG S - 1 - (sG S - 1 - k) = k by omega, Bool.and_eq_true, decide_eq_true_eq, sLd_iff]
  constructor
  · rintro ⟨j, j1, j2, j3, j4⟩
    have := h.2.2.2.1.1 j j1
    exact ⟨⟨j, j1, j3, j2⟩, by omega⟩
  · rintro ⟨⟨j, j1, j2, j3⟩, z⟩
    exact ⟨j, j1, j3, j2, by omega⟩
end CH
section CM
variable {M : gMem} {S : gS} {t : Nat}
theorem cg_goOn (h : CS M t S) (ht : t ≤ 21) {k : Nat} (hk : k < sG S) {L B : Nat → Nat} (hl : ∀ q, q < sG S → M.1 52 q = nI (L q) ∧ L q ≤ 10000) (hb : ∀ q, q < sG S → M.1 53 q = nI (B q) ∧ B q ≤ 10000) {x : Nat} (hx : M.1 51 k = nI x) (hx2 : x ≤ 10000) :
    ∃ M', fX0_goOn t (nI k) M = some M' ∧ gFr (fun c _ => c = 52 ∨ c = 53) M M' ∧ ∀ q, q < sG S → M'.1 52 q = nI (mx2 (L q) (if ldF S k q = true then L k + 1 else 0)) ∧ M'.1 53 q = nI (mx2 (B q) (if ldF S k q = true then B k + x else 0)) := by
  have hm := h.2.1.2.1
  have hn := h.2.1.1
  have hg : sG S ≤ 24 := Nat.le_trans h.2.1.2.2.1 h.2.1.1
  obtain ⟨r, e, F, I⟩ : ∃ r, gLoop (fun z9 => fX0_goOn_l2 t (nI k) z9.1 z9.2) gFu ((0 : Int32), M) = some r ∧ gFr (fun c _ => c = 52 ∨ c = 53) M r ∧ ∀ q, q < sG S → r.1 52 q = nI (chA (fun j => sPl S (sFr S j)) (fun j => sPl S (sTo S j)) k L (L k + 1) (sM S) q) ∧ r.1 53 q = nI (chA (fun j => sPl S (sFr S j)) (fun j => sPl S (sTo S j)) k B (B k + x) (sM S) q) := by
    refine gLoop_i (fun i s => ∃ M', s = (nI i, M') ∧ gFr (fun c _ => c = 52 ∨ c = 53) M M' ∧ ∀ q, q < sG S → M'.1 52 q = nI (chA (fun j => sPl S (sFr S j)) (fun j => sPl S (sTo S j)) k L (L k + 1) i q) ∧ M'.1 53 q = nI (chA (fun j => sPl S (sFr S j)) (fun j => sPl S (sTo S j)) k B (B k + x) i q)) _ (sM S) ⟨M, rfl, gFr_rf, fun q hq => ⟨by rw [chA_0]; exact (hl q hq).1, by rw [chA_0]; exact (hb q hq).1⟩⟩ (by show sM S < 4096; omega) ?_
    rintro i s hi ⟨M', rfl, hF, hI⟩
    have h' : CS M' t S := CS_fr h hF (fun j k hj z => by omega)
    have c51 : M'.1 51 k = nI x := by rw [(hF 51 k (by omega)).1]; exact hx
    have hm' := cs_m h'
    rcases Nat.lt_or_ge i (sM S) with q | q
    · obtain ⟨b1, b2, b3, b4, -⟩ := sW_ar h.2 q
      have f1 := cs_fr h' q
      have f2 := cs_to h' q
      have p1 := cs_pl h' b1
      have p2 := cs_pl h' b2
      have no : ∀ {K : Nat → Nat} {y z : Nat}, ¬ (sPl S (sFr S i) = k ∧ sPl S (sTo S i) = z ∧ z ≠ k) → chA (fun j => sPl S (sFr S j)) (fun j => sPl S (sTo S j)) k K y (i + 1) z = chA (fun j => sPl S (sFr S j)) (fun j => sPl S (sTo S j)) k K y i z := fun w => chA_no w
      by_cases c : sPl S (sFr S i) = k
      · by_cases d : sPl S (sTo S i) = k
        · refine Or.inl ⟨(nI (i + 1), M'), ?_, q, M', rfl, hF, fun q' hq => ?_⟩
          · simp (disch := omega) only [p_bnd, p_nm, p_gSEl, p_gSEr, p_l0, p_l1, p_l2, p_l3, p_l4, p_l5, p_l6, p_l7, p_l8, p_l9, p_l10, p_l14, p_l16, p_l20, p_l22, p_l24, p_l30, p_l31, p_l32, p_l38, p_l40, p_l41, p_l43, p_l48, p_l57, p_l59, p_l60, p_l61, p_l62, p_l63, p_l97, p_l98, p_l101, p_l122, p_l158, p_l201, p_l255, p_l256, p_l374, p_l880, p_l900, p_l1000, p_l2618, p_neg, nI_add, p_mul, p_sub, p_addm, p_addm0, p_subm, p_le, p_lt, p_eq, p_mO_eq, p_eq_mO, p_mO_lt, p_nlt_mO, p_mO_le, p_le_mO, p_rI, p_rL, p_wI, p_wL, p_wF, p_has10, p_has11, p_ib0, p_ib1, p_shl1, p_zv0, p_zv1, p_zvib, p_ibd, p_ibn, if_pos, if_neg, if_true, if_false, ne_eq, not_true, not_false_iff, Decidable.not_not, Nat.not_lt, Nat.not_le, Bool.true_eq_false, Bool.false_eq_true, eq_self, reduceIte, Nat.reduceAdd, Nat.reduceMul, Nat.reduceSub, Nat.reduceEqDiff, Nat.reduceLT, Nat.reduceLeDiff, reduceCtorEq, fX0_goOn_l2, fX0_goOn_b99, hm', f1, f2, p1, p2, c, d]
          · rw [no (fun z => by omega), no (fun z => by omega)]; exact hI q' hq
        · obtain ⟨i1, i2⟩ := hI _ b4
          obtain ⟨k1, k2⟩ := hI k hk
          rw [chA_k] at k1 k2
          have u1 := chA_le (f := fun j => sPl S (sFr S j)) (g := fun j => sPl S (sTo S j)) (k := k) (L := L) (x := L k + 1) (i := i) (q := sPl S (sTo S i))
          have u2 := chA_le (f := fun j => sPl S (sFr S j)) (g := fun j => sPl S (sTo S j)) (k := k) (L := B) (x := B k + x) (i := i) (q := sPl S (sTo S i))
          have y1 := chA_yes (f := fun j => sPl S (sFr S j)) (g := fun j => sPl S (sTo S j)) (L := L) (x := L k + 1) c (rfl : sPl S (sTo S i) = sPl S (sTo S i)) d
          have y2 := chA_yes (f := fun j => sPl S (sFr S j)) (g := fun j => sPl S (sTo S j)) (L := B) (x := B k + x) c (rfl : sPl S (sTo S i) = sPl S (sTo S i)) d
          have w1 := (hl _ b4).2
          have w2 := (hb _ b4).2
          have w3 := (hl k hk).2
          have w4 := (hb k hk).2
          have o53 : ∀ (j : Nat) (v : Int32), (gI M' 52 j v).1 53 = M'.1 53 := fun _ _ => p_gI_o (by decide)
          have o51 : ∀ (j : Nat) (v : Int32), (gI M' 52 j v).1 51 = M'.1 51 := fun _ _ => p_gI_o (by decide)
          refine Or.inl ⟨(nI (i + 1), gI (gI M' 52 (sPl S (sTo S i)) (nI (chA (fun j => sPl S (sFr S j)) (fun j => sPl S (sTo S j)) k L (L k + 1) (i + 1) (sPl S (sTo S i))))) 53 (sPl S (sTo S i)) (nI (chA (fun j => sPl S (sFr S j)) (fun j => sPl S (sTo S j)) k B (B k + x) (i + 1) (sPl S (sTo S i))))), ?_, q, _, rfl, gFr_trI (gFr_trI hF (Or.inl rfl)) (Or.inr rfl), fun q' hq => ?_⟩
          · rw [y1, y2]
            generalize chA (fun j => sPl S (sFr S j)) (fun j => sPl S (sTo S j)) k L (L k + 1) i (sPl S (sTo S i)) = a1 at i1 u1
            generalize chA (fun j => sPl S (sFr S j)) (fun j => sPl S (sTo S j)) k B (B k + x) i (sPl S (sTo S i)) = a2 at i2 u2
            simp (disch := omega) only [p_bnd, p_nm, p_gSEl, p_gSEr, p_l0, p_l1, p_l2, p_l3, p_l4, p_l5, p_l6, p_l7, p_l8, p_l9, p_l10, p_l14, p_l16, p_l20, p_l22, p_l24, p_l30, p_l31, p_l32, p_l38, p_l40, p_l41, p_l43, p_l48, p_l57, p_l59, p_l60, p_l61, p_l62, p_l63, p_l97, p_l98, p_l101, p_l122, p_l158, p_l201, p_l255, p_l256, p_l374, p_l880, p_l900, p_l1000, p_l2618, p_neg, nI_add, p_mul, p_sub, p_addm, p_addm0, p_subm, p_le, p_lt, p_eq, p_mO_eq, p_eq_mO, p_mO_lt, p_nlt_mO, p_mO_le, p_le_mO, p_rI, p_rL, p_wI, p_wL, p_wF, p_has10, p_has11, p_ib0, p_ib1, p_shl1, p_zv0, p_zv1, p_zvib, p_ibd, p_ibn, if_pos, if_neg, if_true, if_false, ne_eq, not_true, not_false_iff, Decidable.not_not, Nat.not_lt, Nat.not_le, Bool.true_eq_false, Bool.false_eq_true, eq_self, reduceIte, Nat.reduceAdd, Nat.reduceMul, Nat.reduceSub, Nat.reduceEqDiff, Nat.reduceLT, Nat.reduceLeDiff, reduceCtorEq, fX0_goOn_l2, fX0_goOn_b99, hm', f1, f2, p1, p2, c, d, i1, i2, k1, k2, c51, o53, o51, mx_if]
          · by_cases e : q' = sPl S (sTo S i)
            · rw [e]
              exact ⟨by rw [p_gI_o (by decide), p_gI_s], by rw [p_gI_s]⟩
            · rw [no (fun z => e z.2.1.symm), no (fun z => e z.2.1.symm), p_gI_n (Or.inl (by decide)), p_gI_n (Or.inr e), p_gI_n (Or.inr e), p_gI_n (Or.inl (by decide))]
              exact hI q' hq
      · refine Or.inl ⟨(nI (i + 1), M'), ?_, q, M', rfl, hF, fun q' hq => ?_⟩
        · simp (disch := omega) only [p_bnd, p_nm, p_gSEl, p_gSEr, p_l0, p_l1, p_l2, p_l3, p_l4, p_l5, p_l6, p_l7, p_l8, p_l9, p_l10, p_l14, p_l16, p_l20, p_l22, p_l24, p_l30, p_l31, p_l32, p_l38, p_l40, p_l41, p_l43, p_l48, p_l57, p_l59, p_l60, p_l61, p_l62, p_l63, p_l97, p_l98, p_l101, p_l122, p_l158, p_l201, p_l255, p_l256, p_l374, p_l880, p_l900, p_l1000, p_l2618, p_neg, nI_add, p_mul, p_sub, p_addm, p_addm0, p_subm, p_le, p_lt, p_eq, p_mO_eq, p_eq_mO, p_mO_lt, p_nlt_mO, p_mO_le, p_le_mO, p_rI, p_rL, p_wI, p_wL, p_wF, p_has10, p_has11, p_ib0, p_ib1, p_shl1, p_zv0, p_zv1, p_zvib, p_ibd, p_ibn, if_pos, if_neg, if_true, if_false, ne_eq, not_true, not_false_iff, Decidable.not_not, Nat.not_lt, Nat.not_le, Bool.true_eq_false, Bool.false_eq_true, eq_self, reduceIte, Nat.reduceAdd, Nat.reduceMul, Nat.reduceSub, Nat.reduceEqDiff, Nat.reduceLT, Nat.reduceLeDiff, reduceCtorEq, fX0_goOn_l2, fX0_goOn_b99, hm', f1, f2, p1, p2, c]
        · rw [no (fun z => c z.1), no (fun z => c z.1)]; exact hI q' hq
    · exact Or.inr ⟨M', by simp (disch := omega) only [p_bnd, p_nm, p_gSEl, p_gSEr, p_l0, p_l1, p_l2, p_l3, p_l4, p_l5, p_l6, p_l7, p_l8, p_l9, p_l10, p_l14, p_l16, p_l20, p_l22, p_l24, p_l30, p_l31, p_l32, p_l38, p_l40, p_l41, p_l43, p_l48, p_l57, p_l59, p_l60, p_l61, p_l62, p_l63, p_l97, p_l98, p_l101, p_l122, p_l158, p_l201, p_l255, p_l256, p_l374, p_l880, p_l900, p_l1000, p_l2618, p_neg, nI_add, p_mul, p_sub, p_addm, p_addm0, p_subm, p_le, p_lt, p_eq, p_mO_eq, p_eq_mO, p_mO_lt, p_nlt_mO, p_mO_le, p_le_mO, p_rI, p_rL, p_wI, p_wL, p_wF, p_has10, p_has11, p_ib0, p_ib1, p_shl1, p_zv0, p_zv1, p_zvib, p_ibd, p_ibn, if_pos, if_neg, if_true, if_false, ne_eq, not_true, not_false_iff, Decidable.not_not, Nat.not_lt, Nat.not_le, Bool.true_eq_false, Bool.false_eq_true, eq_self, reduceIte, Nat.reduceAdd, Nat.reduceMul, Nat.reduceSub, Nat.reduceEqDiff, Nat.reduceLT, Nat.reduceLeDiff, reduceCtorEq, fX0_goOn_l2, hm'], hF, by rw [show sM S = i by omega]; exact hI⟩
  refine ⟨r, ?_, F, fun q hq => ?_⟩
  · unfold fX0_goOn
    rw [e, p_bnd]
  · rw [← chA_end (ldF_iff h.2), ← chA_end (ldF_iff h.2)]; exact I q hq
theorem cg_goBack (h : CS M t S) (ht : t ≤ 21) {k : Nat} (hk : k < sG S) {B : Nat → Nat} (hb : ∀ q, q < sG S → M.1 54 q = nI (B q) ∧ B q ≤ 10000) {x : Nat} (hx : M.1 51 k = nI x) (hx2 : x ≤ 10000) :
    ∃ M', fX0_goBack t (nI k) M = some M' ∧ gFr (fun c _ => c = 54) M M' ∧ ∀ q, q < sG S → M'.1 54 q = nI (mx2 (B q) (if ldB S (sG S - 1 - k) (sG S - 1 - q) = true then B k + x else 0)) := by
  have hm := h.2.1.2.1
  have hn := h.2.1.1
  have hg : sG S ≤ 24 := Nat.le_trans h.2.1.2.2.1 h.2.1.1
  obtain ⟨r, e, F, I⟩ : ∃ r, gLoop (fun z9 => fX0_goBack_l2 t (nI k) z9.1 z9.2) gFu ((0 : Int32), M) = some r ∧ gFr (fun c _ => c = 54) M r ∧ ∀ q, q < sG S → r.1 54 q = nI (chA (fun j => sPl S (sTo S j)) (fun j => sPl S (sFr S j)) k B (B k + x) (sM S) q) := by
    refine gLoop_i (fun i s => ∃ M', s = (nI i, M') ∧ gFr (fun c _ => c = 54) M M' ∧ ∀ q, q < sG S → M'.1 54 q = nI (chA (fun j => sPl S (sTo S j)) (fun j => sPl S (sFr S j)) k B (B k + x) i q)) _ (sM S) ⟨M, rfl, gFr_rf, fun q hq => by rw [chA_0]; exact (hb q hq).1⟩ (by show sM S < 4096; omega) ?_
    rintro i s hi ⟨M', rfl, hF, hI⟩
    have h' : CS M' t S := CS_fr h hF (fun j k hj z => by omega)
    have c51 : M'.1 51 k = nI x := by rw [(hF 51 k (by omega)).1]; exact hx
    have hm' := cs_m h'
    rcases Nat.lt_or_ge i (sM S) with q | q
    · obtain ⟨b1, b2, b3, b4, -⟩ := sW_ar h.2 q
      have f1 := cs_fr h' q
      have f2 := cs_to h' q
      have p1 := cs_pl h' b1
      have p2 := cs_pl h' b2
      have no : ∀ {K : Nat → Nat} {y z : Nat}, ¬ (sPl S (sTo S i) = k ∧ sPl S (sFr S i) = z ∧ z ≠ k) → chA (fun j => sPl S (sTo S j)) (fun j => sPl S (sFr S j)) k K y (i + 1) z = chA (fun j => sPl S (sTo S j)) (fun j => sPl S (sFr S j)) k K y i z := fun w => chA_no w
      by_cases c : sPl S (sTo S i) = k
      · by_cases d : sPl S (sFr S i) = k
        · refine Or.inl ⟨(nI (i + 1), M'), ?_, q, M', rfl, hF, fun q' hq => ?_⟩
          · simp (disch := omega) only [p_bnd, p_nm, p_gSEl, p_gSEr, p_l0, p_l1, p_l2, p_l3, p_l4, p_l5, p_l6, p_l7, p_l8, p_l9, p_l10, p_l14, p_l16, p_l20, p_l22, p_l24, p_l30, p_l31, p_l32, p_l38, p_l40, p_l41, p_l43, p_l48, p_l57, p_l59, p_l60, p_l61, p_l62, p_l63, p_l97, p_l98, p_l101, p_l122, p_l158, p_l201, p_l255, p_l256, p_l374, p_l880, p_l900, p_l1000, p_l2618, p_neg, nI_add, p_mul, p_sub, p_addm, p_addm0, p_subm, p_le, p_lt, p_eq, p_mO_eq, p_eq_mO, p_mO_lt, p_nlt_mO, p_mO_le, p_le_mO, p_rI, p_rL, p_wI, p_wL, p_wF, p_has10, p_has11, p_ib0, p_ib1, p_shl1, p_zv0, p_zv1, p_zvib, p_ibd, p_ibn, if_pos, if_neg, if_true, if_false, ne_eq, not_true, not_false_iff, Decidable.not_not, Nat.not_lt, Nat.not_le, Bool.true_eq_false, Bool.false_eq_true, eq_self, reduceIte, Nat.reduceAdd, Nat.reduceMul, Nat.reduceSub, Nat.reduceEqDiff, Nat.reduceLT, Nat.reduceLeDiff, reduceCtorEq, fX0_goBack_l2, fX0_goBack_b74, hm', f1, f2, p1, p2, c, d]
          · rw [no (fun z => by omega)]; exact hI q' hq
        · have i2 := hI _ b3
          have k2 := hI k hk
          rw [chA_k] at k2
          have u2 := chA_le (f := fun j => sPl S (sTo S j)) (g := fun j => sPl S (sFr S j)) (k := k) (L := B) (x := B k + x) (i := i) (q := sPl S (sFr S i))
          have y2 := chA_yes (f := fun j => sPl S (sTo S j)) (g := fun j => sPl S (sFr S j)) (L := B) (x := B k + x) c (rfl : sPl S (sFr S i) = sPl S (sFr S i)) d
          have w2 := (hb _ b3).2
          have w4 := (hb k hk).2
          refine Or.inl ⟨(nI (i + 1), gI M' 54 (sPl S (sFr S i)) (nI (chA (fun j => sPl S (sTo S j)) (fun j => sPl S (sFr S j)) k B (B k + x) (i + 1) (sPl S (sFr S i))))), ?_, q, _, rfl, gFr_trI hF rfl, fun q' hq => ?_⟩
          · rw [y2]
            generalize chA (fun j => sPl S (sTo S j)) (fun j => sPl S (sFr S j)) k B (B k + x) i (sPl S (sFr S i)) = a2 at i2 u2
            simp (disch := omega) only [p_bnd, p_nm, p_gSEl, p_gSEr, p_l0, p_l1, p_l2, p_l3, p_l4, p_l5, p_l6, p_l7, p_l8, p_l9, p_l10, p_l14, p_l16, p_l20, p_l22, p_l24, p_l30, p_l31, p_l32, p_l38, p_l40, p_l41, p_l43, p_l48, p_l57, p_l59, p_l60, p_l61, p_l62, p_l63, p_l97, p_l98, p_l101, p_l122, p_l158, p_l201, p_l255, p_l256, p_l374, p_l880, p_l900, p_l1000, p_l2618, p_neg, nI_add, p_mul, p_sub, p_addm, p_addm0, p_subm, p_le, p_lt, p_eq, p_mO_eq, p_eq_mO, p_mO_lt, p_nlt_mO, p_mO_le, p_le_mO, p_rI, p_rL, p_wI, p_wL, p_wF, p_has10, p_has11, p_ib0, p_ib1, p_shl1, p_zv0, p_zv1, p_zvib, p_ibd, p_ibn, if_pos, if_neg, if_true, if_false, ne_eq, not_true, not_false_iff, Decidable.not_not, Nat.not_lt, Nat.not_le, Bool.true_eq_false, Bool.false_eq_true, eq_self, reduceIte, Nat.reduceAdd, Nat.reduceMul, Nat.reduceSub, Nat.reduceEqDiff, Nat.reduceLT, Nat.reduceLeDiff, reduceCtorEq, fX0_goBack_l2, fX0_goBack_b74, hm', f1, f2, p1, p2, c, d, i2, k2, c51, mx_if]
          · by_cases e : q' = sPl S (sFr S i)
            · rw [e, p_gI_s]
            · rw [no (fun z => e z.2.1.symm), p_gI_n (Or.inr e)]
              exact hI q' hq
      · refine Or.inl ⟨(nI (i + 1), M'), ?_, q, M', rfl, hF, fun q' hq => ?_⟩
        · simp (disch := omega) only [p_bnd, p_nm, p_gSEl, p_gSEr, p_l0, p_l1, p_l2, p_l3, p_l4, p_l5, p_l6, p_l7, p_l8, p_l9, p_l10, p_l14, p_l16, p_l20, p_l22, p_l24, p_l30, p_l31, p_l32, p_l38, p_l40, p_l41, p_l43, p_l48, p_l57, p_l59, p_l60, p_l61, p_l62, p_l63, p_l97, p_l98, p_l101, p_l122, p_l158, p_l201, p_l255, p_l256, p_l374, p_l880, p_l900, p_l1000, p_l2618, p_neg, nI_add, p_mul, p_sub, p_addm, p_addm0, p_subm, p_le, p_lt, p_eq, p_mO_eq, p_eq_mO, p_mO_lt, p_nlt_mO, p_mO_le, p_le_mO, p_rI, p_rL, p_wI, p_wL, p_wF, p_has10, p_has11, p_ib0, p_ib1, p_shl1, p_zv0, p_zv1, p_zvib, p_ibd, p_ibn, if_pos, if_neg, if_true, if_false, ne_eq, not_true, not_false_iff, Decidable.not_not, Nat.not_lt, Nat.not_le, Bool.true_eq_false, Bool.false_eq_true, eq_self, reduceIte, Nat.reduceAdd, Nat.reduceMul, Nat.reduceSub, Nat.reduceEqDiff, Nat.reduceLT, Nat.reduceLeDiff, reduceCtorEq, fX0_goBack_l2, fX0_goBack_b74, hm', f1, f2, p1, p2, c]
        · rw [no (fun z => c z.1)]; exact hI q' hq
    · exact Or.inr ⟨M', by simp (disch := omega) only [p_bnd, p_nm, p_gSEl, p_gSEr, p_l0, p_l1, p_l2, p_l3, p_l4, p_l5, p_l6, p_l7, p_l8, p_l9, p_l10, p_l14, p_l16, p_l20, p_l22, p_l24, p_l30, p_l31, p_l32, p_l38, p_l40, p_l41, p_l43, p_l48, p_l57, p_l59, p_l60, p_l61, p_l62, p_l63, p_l97, p_l98, p_l101, p_l122, p_l158, p_l201, p_l255, p_l256, p_l374, p_l880, p_l900, p_l1000, p_l2618, p_neg, nI_add, p_mul, p_sub, p_addm, p_addm0, p_subm, p_le, p_lt, p_eq, p_mO_eq, p_eq_mO, p_mO_lt, p_nlt_mO, p_mO_le, p_le_mO, p_rI, p_rL, p_wI, p_wL, p_wF, p_has10, p_has11, p_ib0, p_ib1, p_shl1, p_zv0, p_zv1, p_zvib, p_ibd, p_ibn, if_pos, if_neg, if_true, if_false, ne_eq, not_true, not_false_iff, Decidable.not_not, Nat.not_lt, Nat.not_le, Bool.true_eq_false, Bool.false_eq_true, eq_self, reduceIte, Nat.reduceAdd, Nat.reduceMul, Nat.reduceSub, Nat.reduceEqDiff, Nat.reduceLT, Nat.reduceLeDiff, reduceCtorEq, fX0_goBack_l2, hm'], hF, by rw [show sM S = i by omega]; exact hI⟩
  refine ⟨r, ?_, F, fun q hq => ?_⟩
  · unfold fX0_goBack
    rw [e, p_bnd]
  · rw [← chA_end (ldB_iff h.2 hk hq)]; exact I q hq
end CM
