/-! AN ARROW COMES: the class's bring, whole -/
section CB
variable {M : gMem} {S : gS} {t a b g : Nat} {ac pl : Nat → Nat}
/-- a net that holds the state but for groups, places, accounts -/
def CI (M : gMem) (t : Nat) (S : gS) (ac : Nat → Nat) (g : Nat) (pl : Nat → Nat) : Prop :=
  (M.1 t 9 = nI (sN S) ∧ M.1 t 10 = nI (sM S) ∧ M.1 t 11 = nI g ∧ M.1 t 12 = nI (sMo S) ∧ M.1 t 13 = nI (sJo S)) ∧ (∀ a, a < 9 → M.2.1 (t + 9) a = lN (ac a)) ∧
  (∀ p, p < g → ∀ v, v < 32 → (bt (M.1 (t + 7) p) v = true ↔ v < sN S ∧ pl v = p)) ∧
  (∀ i, i < sM S → M.1 (t + 3) i = nI (sFr S i) ∧ M.1 (t + 4) i = nI (sTo S i)) ∧
  (∀ u, u < sN S → M.1 (t + 2) u = nI (sHr S u) ∧ M.1 (t + 8) u = nI (pl u) ∧ M.2.1 (t + 1) u = lN (gPk (sNm S u)) ∧ (∀ v, v < 32 → (bt (M.1 (t + 5) u) v = true ↔ sE S u v)) ∧ (∀ v, v < 32 → (bt (M.1 (t + 6) u) v = true ↔ sR S u v)))
theorem CI_of {M' : gMem} (h : CI M t S ac g pl) (e : ∀ j, j < 10 → M'.1 (t + j) = M.1 (t + j) ∧ M'.2.1 (t + j) = M.2.1 (t + j)) : CI M' t S ac g pl := by
  have e0 := (e 0 (by omega)).1
  rw [Nat.add_zero] at e0
  unfold CI
  rw [e0, (e 1 (by omega)).2, (e 2 (by omega)).1, (e 3 (by omega)).1, (e 4 (by omega)).1, (e 5 (by omega)).1, (e 6 (by omega)).1, (e 7 (by omega)).1, (e 8 (by omega)).1, (e 9 (by omega)).2]
  exact h
theorem CI_gL (h : CI M t S ac g pl) {k x : Nat} : CI (gL M (t + 9) k (lN x)) t S (upN ac k x) g pl := by
  obtain ⟨h1, h2, h3, h4, h5⟩ := h
  refine ⟨h1, fun a ha => ?_, h3, h4, fun u hu => ?_⟩
  · rw [p_gL]
    unfold upN
    by_cases e : a = k
    · rw [if_pos ⟨rfl, e⟩, if_pos e]
    · rw [if_neg (fun z => e z.2), if_neg e]; exact h2 a ha
  · obtain ⟨x1, x2, x3, x4⟩ := h5 u hu
    refine ⟨x1, x2, ?_, x4⟩
    rw [p_gL, if_neg (fun z => by omega)]; exact x3
theorem cb_109 (h : CI M t S ac g pl) (hn : sN S ≤ 24) (hm : sM S < 60) (ha : a < sN S) (hb : b < sN S) (x : Int32) {S' : gS} (q0 : sN S' = sN S) (q1 : sM S' = sM S + 1) (q2 : sG S' = g) (q3 : sMo S' = sMo S) (q4 : sJo S' = sJo S) (q5 : sFr S' = upN (sFr S) (sM S) a) (q6 : sTo S' = upN (sTo S) (sM S) b) (q7 : sPl S' = pl) (q8 : sHr S' = sHr S) (q9 : sNm S' = sNm S) (qa : ∀ k, k < 9 → sAc S' k = upN ac 0 (ac 0 + 1) k) (qe : ∀ u v, sE S' u v ↔ sE2 S a b u v) (qr : ∀ u v, sR S' u v ↔ sR S u v ∨ (sR S u a ∧ sR S b v)) :
    ∃ M', fX6_bring_b109 t (nI a) (nI b) x M = some (x, M') ∧ gFr (fun c _ => t ≤ c ∧ c ≤ t + 9) M M' ∧ CR M' t S' := by
  obtain ⟨⟨c0, c1, c2, c3, c4⟩, d2, d3, d4, d5⟩ := id h
  have h1 : CI (gL M (t + 9) 0 (lN (ac 0 + 1))) t S (upN ac 0 (ac 0 + 1)) g pl := CI_gL h
  obtain ⟨⟨e0, e1, e2, e3, e4⟩, f2, f3, f4, f5⟩ := h1
  obtain ⟨M2, p1, F, p3, p4, p5, p6, p7⟩ := cp_putArrow (R := sR S) e0 e1 hn hm ha hb (fun u hu => (f5 u hu).2.2.2.2)
  have fa : ∀ {j k : Nat}, ¬ ((t + j = t + 3 ∧ k = sM S) ∨ (t + j = t + 4 ∧ k = sM S) ∨ (t + j = t ∧ k = 10) ∨ (t + j = t + 5 ∧ k = a) ∨ t + j = t + 6) → M2.1 (t + j) k = (gL M (t + 9) 0 (lN (ac 0 + 1))).1 (t + j) k := fun z => (F _ _ z).1
  have fz : ∀ {k : Nat}, k ≠ 10 → M2.1 t k = (gL M (t + 9) 0 (lN (ac 0 + 1))).1 t k := fun z => (F _ _ (by omega)).1
  refine ⟨M2, ?_, gFr_tr (gFr_L (by omega)) (gFr_mo F (fun c k z => by omega)), ⟨?_, ?_, ?_, ?_, ?_⟩, ?_, ?_, ?_, ?_⟩
  · unfold fX6_bring_b109
    rw [show (0 : Int32) = nI 0 from rfl, p_rL (by omega) (by omega), p_bnd, d2 0 (by omega), show lN (ac 0) + (1 : Int64) = lN (ac 0 + 1) from lN_1 _, p_wL (by omega) (by omega), p_bnd, p1, p_bnd]
  · rw [fz (by decide), e0, q0]
  · rw [p5, q1]
  · rw [fz (by decide), e2, q2]
  · rw [fz (by decide), e3, q3]
  · rw [fz (by decide), e4, q4]
  · intro k hk
    rw [(F (t + 9) k (by omega)).2.1, f2 k hk, qa k hk]
  · intro p hp v hv
    rw [q2] at hp
    rw [fa (by omega), q0, q7]; exact f3 p hp v hv
  · intro i hi
    rw [q1] at hi
    rw [q5, q6]
    unfold upN
    by_cases e : i = sM S
    · rw [if_pos e, if_pos e, e]; exact ⟨p3, p4⟩
    · rw [if_neg e, if_neg e, fa (by omega), fa (by omega)]; exact f4 i (by omega)
  · intro u hu
    rw [q0] at hu
    obtain ⟨x1, x2, x3, x4, x5⟩ := f5 u hu
    refine ⟨?_, ?_, ?_, fun v hv => ?_, fun v hv => ?_⟩
    · rw [fa (by omega), q8]; exact x1
    · rw [fa (by omega), q7]; exact x2
    · rw [(F (t + 1) u (by omega)).2.1, q9]; exact x3
    · rw [qe]
      unfold sE2
      by_cases e : u = a
      · rw [e, p6, b_or, Bool.or_eq_true, p_sb (by omega), decide_eq_true_eq]
        rw [e] at x4
        rw [x4 v hv]
        exact or_congr Iff.rfl ⟨fun z => ⟨rfl, z⟩, fun z => z.2⟩
      · rw [fa (by omega), x4 v hv]
        exact ⟨Or.inl, fun z => z.elim id (fun y => absurd y.1 e)⟩
    · rw [qr]; exact p7 u hu v hv
theorem aff_0 (lo : Nat) : nI lo - nI 1 - nI lo + nI 1 = nI 0 := by
  cases lo with
  | zero => decide
  | succ k =>
    rw [p_sub (by omega), Nat.add_sub_cancel, p_subm (by omega), Nat.add_sub_cancel_left]; decide
theorem aff_1 {lo hi : Nat} (h : lo ≤ hi) : nI hi - nI lo + nI 1 = nI (hi + 1 - lo) := by
  rw [p_sub h, nI_add]; congr 1; omega
theorem CS_CI (h : CS M t S) : CI M t S (sAc S) (sG S) (sPl S) := h.1
theorem pMv_le (h : sW S) (ha : a < sN S) (hb : b < sN S) {mode : Nat} : pMv S a b mode ≤ 24 := by
  have h2 := pIt_len h ha hb (mode := mode)
  have := h.1.1
  have := h.1.2.2.1
  have := h.p ha
  unfold pLn at h2
  unfold pMv
  exact Nat.le_trans (fb_ct_le _ _) (by omega)
theorem cs_bring (h : CS M t S) (ht : t ≤ 21) (ha : a < sN S) (hb : b < sN S) (hab : a ≠ b) (hne : ¬ sE S a b) (hm : sM S < 60) :
    ∃ M', fX6_bring t (nI a) (nI b) M = some (nI (if sPl S b < sPl S a then pMv S a b (sMo S) else 0), M') ∧ gFr (fun c _ => (t ≤ c ∧ c ≤ t + 9) ∨ (41 ≤ c ∧ c ≤ 43)) M M' ∧ CS M' t (sAdd S a b (sMo S)) := by
  have hW := sAdd_W (mode := sMo S) h.2 ha hb hab hne hm
  have hn := h.2.1.1
  have hg := h.2.1.2.2.1
  have hpa := h.2.p ha
  by_cases hlt : sPl S b < sPl S a
  · rw [if_pos hlt]
    obtain ⟨M1, e1, F1, a1, a2, a3, a4, a5, a6⟩ := cs_survey h ht ha hb hlt
    have h1 : CS M1 t S := CS_fr h F1 (fun j k hj z => by omega)
    obtain ⟨M2, e2, F2, R2⟩ := ca_arrange h1 (by omega) ha hb hlt ⟨a1, a2, a3, a4, a5⟩ (mode := sMo S) h.2.1.2.2.2.1
    have h2 : CS M2 t S := CS_fr h1 F2 (fun j k hj z => by rcases z with ⟨z, -⟩ | z <;> omega)
    have hl2 := pL_len h.2 ha hb hlt (mode := sMo S)
    obtain ⟨M3, e3, F3, g3, m3, p3⟩ := ct_takeOrder (pl := nPl S a b (sMo S)) (cs_n h2) hn R2 (by rw [List.length_map]; omega) (by omega) (fun p x hx v hv => pL_bits h.2 ha hb hlt hx hv) (fun v hv => by rw [List.length_map]; exact List.idxOf_lt_length_iff.mpr (pKey_mem h.2 ha hb hlt hv))
    rw [List.length_map] at g3
    have c41 : M3.1 41 = M1.1 41 := by
      rw [gFr_c1 F3 (c := 41) (fun k z => by omega), gFr_c1 F2 (c := 41) (fun k z => by rcases z with ⟨z, -⟩ | z <;> omega)]
    have b1 := c41.symm ▸ a1
    have b2 := c41.symm ▸ a2
    have b3 := c41.symm ▸ a3
    have b4 := c41.symm ▸ a4
    have b6 := c41.symm ▸ a6
    have hCI : CI M3 t S (sAc S) (pL S a b (sMo S)).length (nPl S a b (sMo S)) := by
      obtain ⟨⟨c0, c1, c2, c3, c4⟩, d2, d3, d4, d5⟩ := h2.1
      have fj : ∀ {c k : Nat}, ¬ ((c = t ∧ k = 11) ∨ c = t + 7 ∨ c = t + 8) → M3.1 c k = M2.1 c k ∧ M3.2.1 c k = M2.2.1 c k := fun z => ⟨(F3 _ _ z).1, (F3 _ _ z).2.1⟩
      refine ⟨⟨by rw [(fj (by omega)).1, c0], by rw [(fj (by omega)).1, c1], g3, by rw [(fj (by omega)).1, c3], by rw [(fj (by omega)).1, c4]⟩, fun k hk => by rw [(fj (by omega)).2]; exact d2 k hk, fun p hp v hv => ?_, fun i hi => by rw [(fj (by omega)).1, (fj (by omega)).1]; exact d4 i hi, fun u hu => ?_⟩
      · have hx : ((pL S a b (sMo S)).map (mbA S a b))[p]? = some _ := List.getElem?_eq_getElem (by rw [List.length_map]; exact hp)
        rw [m3 p _ hx]
        exact pL_bits h.2 ha hb hlt hx hv
      · obtain ⟨x1, x2, x3, x4, x5⟩ := d5 u hu
        refine ⟨by rw [(fj (by omega)).1]; exact x1, p3 u hu, by rw [(fj (by omega)).2]; exact x3, fun v hv => by rw [(fj (by omega)).1]; exact x4 v hv, fun v hv => by rw [(fj (by omega)).1]; exact x5 v hv⟩
    have hmv := pMv_le (mode := sMo S) h.2 ha hb
    have hlk : sLk S a b ≤ 120 := by
      have := lk_le (S := S) (w := wBh S a b) (w' := wAh S a b) (sM S)
      unfold sLk; omega
    have hJ := cJ h.2 ha hb
    have hJ2 := fb_ct_le (iJ (pA S a b) (pB S a b)) (pLn S a b)
    have hLn : pLn S a b = sPl S a + 1 - sPl S b := rfl
    obtain ⟨x0, d2, -⟩ := id hCI
    have C4 : CI (gL M3 (t + 9) 2 (lN (sAc S 2 + 1))) t S _ _ _ := CI_gL hCI
    have C5 : CI (gL (gL M3 (t + 9) 2 (lN (sAc S 2 + 1))) (t + 9) 3 (lN (sAc S 3 + pLn S a b))) t S _ _ _ := CI_gL C4
    have C6 : CI (gL (gL (gL M3 (t + 9) 2 (lN (sAc S 2 + 1))) (t + 9) 3 (lN (sAc S 3 + pLn S a b))) (t + 9) 4 (lN (sAc S 4 + sLk S a b))) t S _ _ _ := CI_gL C5
    have C7 : CI (gL (gL (gL (gL M3 (t + 9) 2 (lN (sAc S 2 + 1))) (t + 9) 3 (lN (sAc S 3 + pLn S a b))) (t + 9) 4 (lN (sAc S 4 + sLk S a b))) (t + 9) 5 (lN (sAc S 5 + pMv S a b (sMo S)))) t S _ _ _ := CI_gL C6
    have C8 : CI (gL (gL (gL (gL (gL M3 (t + 9) 2 (lN (sAc S 2 + 1))) (t + 9) 3 (lN (sAc S 3 + pLn S a b))) (t + 9) 4 (lN (sAc S 4 + sLk S a b))) (t + 9) 5 (lN (sAc S 5 + pMv S a b (sMo S)))) (t + 9) 6 (lN (sAc S 6 + fb_ct (iJ (pA S a b) (pB S a b)) (pLn S a b)))) t S _ _ _ := CI_gL C7
    obtain ⟨M9, e9, F9, R9⟩ := cb_109 (S' := sAdd S a b (sMo S)) C8 hn hm ha hb (nI (pMv S a b (sMo S))) sAdd_n sAdd_m (by rw [sAdd_g, if_pos hlt]) sAdd_mo sAdd_jo sAdd_fr sAdd_to (by rw [sAdd_pl, if_pos hlt]) sAdd_hr sAdd_nm (fun k hk => by
      unfold sAdd
      rw [if_pos hlt]
      unfold upN
      rcases (show k = 0 ∨ k = 1 ∨ k = 2 ∨ k = 3 ∨ k = 4 ∨ k = 5 ∨ k = 6 ∨ k = 7 ∨ k = 8 by omega) with rfl | rfl | rfl | rfl | rfl | rfl | rfl | rfl | rfl <;> simp [sAc]) (fun u v => sAdd_E) (fun u v => sAdd_R)
    have Fq : gFr (fun c _ => (t ≤ c ∧ c ≤ t + 9) ∨ (41 ≤ c ∧ c ≤ 43)) M M9 := by
      refine gFr_tr (gFr_mo F1 (fun c k z => by omega)) (gFr_tr (gFr_mo F2 (fun c k z => by rcases z with ⟨z, -⟩ | z <;> omega)) (gFr_tr (gFr_mo F3 (fun c k z => by omega)) (gFr_tr ?_ (gFr_mo F9 (fun c k z => Or.inl z)))))
      exact gFr_trL (gFr_trL (gFr_trL (gFr_trL (gFr_L (by omega)) (by omega)) (by omega)) (by omega)) (by omega)
    refine ⟨M9, ?_, Fq, R9, hW⟩
    have z2 := C4.2.1 3 (by omega)
    have z3 := C5.2.1 4 (by omega)
    have z4 := C6.2.1 5 (by omega)
    have z5 := C7.2.1 6 (by omega)
    have y2 : upN (sAc S) 2 (sAc S 2 + 1) 3 = sAc S 3 := rfl
    rw [y2] at z2
    have y3 : upN (upN (sAc S) 2 (sAc S 2 + 1)) 3 (sAc S 3 + pLn S a b) 4 = sAc S 4 := rfl
    rw [y3] at z3
    have y4 : upN (upN (upN (sAc S) 2 (sAc S 2 + 1)) 3 (sAc S 3 + pLn S a b)) 4 (sAc S 4 + sLk S a b) 5 = sAc S 5 := rfl
    rw [y4] at z4
    have y5 : upN (upN (upN (upN (sAc S) 2 (sAc S 2 + 1)) 3 (sAc S 3 + pLn S a b)) 4 (sAc S 4 + sLk S a b)) 5 (sAc S 5 + pMv S a b (sMo S)) 6 = sAc S 6 := rfl
    rw [y5] at z5
    have aff : nI (sPl S a) - nI (sPl S b) + (1 : Int32) = nI (pLn S a b) := aff_1 (Nat.le_of_lt hlt)
    unfold fX6_bring fX6_affected
    rw [e1, p_bnd, p_bnd, a1, a2, aff, if_neg (by rw [show (0 : Int32) = nI 0 from rfl, p_le (by omega) (by omega)]; omega), cs_mo h1, e2, p_bnd, e3, p_bnd]
    rw [show (2 : Int32) = nI 2 from rfl, p_rL (by omega) (by omega), p_bnd, d2 2 (by omega), show lN (sAc S 2) + (1 : Int64) = lN (sAc S 2 + 1) from lN_1 _, p_wL (by omega) (by omega), p_bnd]
    rw [show (3 : Int32) = nI 3 from rfl, p_rL (by omega) (by omega), p_bnd, z2, p_bnd, p_gL_1, b1, b2, aff, nI_l (by omega), lN_add, p_wL (by omega) (by omega), p_bnd]
    rw [show (4 : Int32) = nI 4 from rfl, p_rL (by omega) (by omega), p_bnd, z3, p_gL_1, p_gL_1, b6, nI_l (by omega), lN_add, p_wL (by omega) (by omega), p_bnd]
    rw [show (5 : Int32) = nI 5 from rfl, p_rL (by omega) (by omega), p_bnd, z4, nI_l (by omega), lN_add, p_wL (by omega) (by omega), p_bnd]
    rw [show (6 : Int32) = nI 6 from rfl, p_rL (by omega) (by omega), p_bnd, z5, p_gL_1, p_gL_1, p_gL_1, p_gL_1, b3, b4, p_bitCount, p_bnd, hJ, nI_l (by omega), lN_add, p_wL (by omega) (by omega), p_bnd]
    exact e9
  · rw [if_neg hlt]
    obtain ⟨M1, e1, F1, a1, a2, -⟩ := cs_survey0 h ht ha hb (by omega)
    have h1 : CS M1 t S := CS_fr h F1 (fun j k hj z => by omega)
    obtain ⟨M9, e9, F9, R9⟩ := cb_109 (S' := sAdd S a b (sMo S)) (CS_CI h1) hn hm ha hb (nI 0) sAdd_n sAdd_m (by rw [sAdd_g, if_neg hlt]) sAdd_mo sAdd_jo sAdd_fr sAdd_to (by rw [sAdd_pl, if_neg hlt]) sAdd_hr sAdd_nm (fun k hk => by
      unfold sAdd
      rw [if_neg hlt]; rfl) (fun u v => sAdd_E) (fun u v => sAdd_R)
    refine ⟨M9, ?_, gFr_tr (gFr_mo F1 (fun c k z => by omega)) (gFr_mo F9 (fun c k z => Or.inl z)), R9, hW⟩
    unfold fX6_bring fX6_affected
    rw [e1, p_bnd, p_bnd, a1, a2, show nI (sPl S b) - nI 1 - nI (sPl S b) + (1 : Int32) = nI 0 from aff_0 _, if_pos (by rw [show (0 : Int32) = nI 0 from rfl, p_le (by omega) (by omega)]; omega)]
    exact e9
end CB
