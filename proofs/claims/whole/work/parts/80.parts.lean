/-! PARTS: the tasks that reach one another, and the least of them; the class's putParts -/
noncomputable def hdR (R : Nat → Nat → Prop) (n t : Nat) : Nat := fa_first (fun u => @decide (R t u ∧ R u t) (Classical.propDecidable _)) n
section PP
variable {R : Nat → Nat → Prop} {n t u : Nat}
theorem hdR_ok (hr : ∀ x, R x x) (ht : t < n) : hdR R n t ≤ t ∧ R t (hdR R n t) ∧ R (hdR R n t) t ∧ ∀ u, u < hdR R n t → ¬ (R t u ∧ R u t) := by
  have h0 : ∀ u, u < hdR R n t → ¬ (R t u ∧ R u t) := fun u hu => @of_decide_eq_false _ (Classical.propDecidable _) (fa_first_no (fun u => @decide (R t u ∧ R u t) (Classical.propDecidable _)) n u hu)
  have h1 : hdR R n t ≤ t := by
    refine Classical.byContradiction fun q => ?_
    exact h0 t (by omega) ⟨hr t, hr t⟩
  have h2 := @of_decide_eq_true _ (Classical.propDecidable _) (fa_first_yes (fun u => @decide (R t u ∧ R u t) (Classical.propDecidable _)) n (show hdR R n t < n by omega))
  exact ⟨h1, h2.1, h2.2, h0⟩
theorem hdR_eq (hr : ∀ x, R x x) (htr : ∀ x y z, R x y → R y z → R x z) (ht : t < n) (hu : u < n) : hdR R n t = hdR R n u ↔ R t u ∧ R u t := by
  obtain ⟨a1, a2, a3, a4⟩ := hdR_ok hr ht
  obtain ⟨b1, b2, b3, b4⟩ := hdR_ok hr hu
  constructor
  · intro e
    exact ⟨htr _ _ _ a2 (by rw [e]; exact b3), htr _ _ _ b2 (by rw [← e]; exact a3)⟩
  · rintro ⟨c1, c2⟩
    rcases Nat.lt_trichotomy (hdR R n t) (hdR R n u) with q | q | q
    · exact absurd ⟨htr _ _ _ c2 a2, htr _ _ _ a3 c1⟩ (b4 _ q)
    · exact q
    · exact absurd ⟨htr _ _ _ c1 b2, htr _ _ _ b3 c2⟩ (a4 _ q)
theorem hdR_id (hr : ∀ x, R x x) (htr : ∀ x y z, R x y → R y z → R x z) (ht : t < n) : hdR R n (hdR R n t) = hdR R n t := by
  obtain ⟨a1, a2, a3, a4⟩ := hdR_ok hr ht
  exact ((hdR_eq hr htr ht (by omega)).mpr ⟨a2, a3⟩).symm
theorem gHs_ct {hd : Nat → Nat} {P : Nat → Bool} {k : Nat} : (gHs hd k P).length = fb_ct (fun t => P t && decide (hd t = t)) k := filter_len _ k
theorem gHs_sc {hd : Nat → Nat} {P : Nat → Bool} {k : Nat} : gHs hd (k + 1) P = gHs hd k P ++ (if (P k && decide (hd k = k)) = true then [k] else []) := by
  unfold gHs
  rw [List.range_succ, List.filter_append]
  congr 1
  cases h : (P k && decide (hd k = k))
  · simp [h]
  · simp [h]
variable {M : gMem} {w c : Nat}
theorem cp_part {rest : Int32} {k : Nat} (x5 : Int32) (h0 : M.1 w 9 = nI n) (hn : n ≤ 24) (hk : k < n) : gLoop (fun z9 => fX8_putParts_l35 w c rest x5 (nI k) M z9.1 z9.2) gFu ((0 : Int32), nI k) = some (mkS (fun v => decide (k ≤ v ∧ v < n) && (bt rest v && bt (M.1 c k) v && bt (M.1 c v) k))) := by
  obtain ⟨F, F0, F1, F2, F3⟩ : ∃ F : Nat → Int32, F 0 = nI 0 ∧ (∀ j, j < n - k → (bt rest (k + j) && bt (M.1 c k) (k + j) && bt (M.1 c (k + j)) k) = false → F (j + 1) = F j) ∧ (∀ j, j < n - k → (bt rest (k + j) && bt (M.1 c k) (k + j) && bt (M.1 c (k + j)) k) = true → F (j + 1) = F j ||| sb (k + j)) ∧ F (n - k) = mkS (fun v => decide (k ≤ v ∧ v < n) && (bt rest v && bt (M.1 c k) v && bt (M.1 c v) k)) := by
    refine ⟨fun j => mkS (fun v => decide (k ≤ v ∧ v < k + j) && (bt rest v && bt (M.1 c k) v && bt (M.1 c v) k)), ?_, fun j hj hb => ?_, fun j hj hb => ?_, ?_⟩
    · symm; refine mkS_of fun v _ => ?_
      rw [p_bt0, decide_eq_false (show ¬ (k ≤ v ∧ v < k + 0) by omega), Bool.false_and]
    · refine mkS_cg fun v _ => ?_
      by_cases e : v = k + j
      · rw [e, hb, Bool.and_false, Bool.and_false]
      · rw [decide_eq_decide.mpr (show (k ≤ v ∧ v < k + (j + 1)) ↔ (k ≤ v ∧ v < k + j) by omega)]
    · symm; refine mkS_of fun v hv => ?_
      rw [b_or, mkS_bt hv, p_sb (by omega)]
      by_cases e : v = k + j
      · rw [decide_eq_true e, e, hb, decide_eq_true (show k ≤ k + j ∧ k + j < k + (j + 1) by omega), Bool.or_true]; rfl
      · rw [decide_eq_false e, Bool.or_false, decide_eq_decide.mpr (show (k ≤ v ∧ v < k + (j + 1)) ↔ (k ≤ v ∧ v < k + j) by omega)]
    · refine mkS_cg fun v _ => ?_
      rw [decide_eq_decide.mpr (show (k ≤ v ∧ v < k + (n - k)) ↔ (k ≤ v ∧ v < n) by omega)]
  have e := gLoop_f (body := fun z9 => fX8_putParts_l35 w c rest x5 (nI k) M z9.1 z9.2) (fun j => (F j, nI (k + j))) (r := F (n - k)) (n - k) gFu (by show n - k < 4096; omega) (fun j hj => by
    cases h1 : bt rest (k + j)
    · have e1 := F1 j hj (by rw [h1]; rfl)
      simp (disch := omega) only [p_bnd, p_nm, p_gSEl, p_gSEr, p_l0, p_l1, p_l2, p_l3, p_l4, p_l5, p_l6, p_l7, p_l8, p_l9, p_l10, p_l14, p_l16, p_l20, p_l22, p_l24, p_l30, p_l31, p_l32, p_l38, p_l40, p_l41, p_l43, p_l48, p_l57, p_l59, p_l60, p_l61, p_l62, p_l63, p_l97, p_l98, p_l101, p_l122, p_l158, p_l201, p_l255, p_l256, p_l374, p_l880, p_l900, p_l1000, p_l2618, p_neg, nI_add, p_mul, p_sub, p_addm, p_addm0, p_subm, p_le, p_lt, p_eq, p_mO_eq, p_eq_mO, p_mO_lt, p_nlt_mO, p_mO_le, p_le_mO, p_rI, p_rL, p_wI, p_wL, p_wF, p_has10, p_has11, p_ib0, p_ib1, p_shl1, p_zv0, p_zv1, p_zvib, p_ibd, p_ibn, if_pos, if_neg, if_true, if_false, ne_eq, not_true, not_false_iff, Decidable.not_not, Nat.not_lt, Nat.not_le, Bool.true_eq_false, Bool.false_eq_true, eq_self, reduceIte, Nat.reduceAdd, Nat.reduceMul, Nat.reduceSub, Nat.reduceEqDiff, Nat.reduceLT, Nat.reduceLeDiff, reduceCtorEq, fX8_putParts_l35, fX8_putParts_b87, h0, h1, e1, Nat.add_assoc]
    · cases h2 : bt (M.1 c k) (k + j)
      · have e1 := F1 j hj (by rw [h1, h2]; rfl)
        simp (disch := omega) only [p_bnd, p_nm, p_gSEl, p_gSEr, p_l0, p_l1, p_l2, p_l3, p_l4, p_l5, p_l6, p_l7, p_l8, p_l9, p_l10, p_l14, p_l16, p_l20, p_l22, p_l24, p_l30, p_l31, p_l32, p_l38, p_l40, p_l41, p_l43, p_l48, p_l57, p_l59, p_l60, p_l61, p_l62, p_l63, p_l97, p_l98, p_l101, p_l122, p_l158, p_l201, p_l255, p_l256, p_l374, p_l880, p_l900, p_l1000, p_l2618, p_neg, nI_add, p_mul, p_sub, p_addm, p_addm0, p_subm, p_le, p_lt, p_eq, p_mO_eq, p_eq_mO, p_mO_lt, p_nlt_mO, p_mO_le, p_le_mO, p_rI, p_rL, p_wI, p_wL, p_wF, p_has10, p_has11, p_ib0, p_ib1, p_shl1, p_zv0, p_zv1, p_zvib, p_ibd, p_ibn, if_pos, if_neg, if_true, if_false, ne_eq, not_true, not_false_iff, Decidable.not_not, Nat.not_lt, Nat.not_le, Bool.true_eq_false, Bool.false_eq_true, eq_self, reduceIte, Nat.reduceAdd, Nat.reduceMul, Nat.reduceSub, Nat.reduceEqDiff, Nat.reduceLT, Nat.reduceLeDiff, reduceCtorEq, fX8_putParts_l35, fX8_putParts_b87, h0, h1, h2, e1, Nat.add_assoc]
      · cases h3 : bt (M.1 c (k + j)) k
        · have e1 := F1 j hj (by rw [h1, h2, h3]; rfl)
          simp (disch := omega) only [p_bnd, p_nm, p_gSEl, p_gSEr, p_l0, p_l1, p_l2, p_l3, p_l4, p_l5, p_l6, p_l7, p_l8, p_l9, p_l10, p_l14, p_l16, p_l20, p_l22, p_l24, p_l30, p_l31, p_l32, p_l38, p_l40, p_l41, p_l43, p_l48, p_l57, p_l59, p_l60, p_l61, p_l62, p_l63, p_l97, p_l98, p_l101, p_l122, p_l158, p_l201, p_l255, p_l256, p_l374, p_l880, p_l900, p_l1000, p_l2618, p_neg, nI_add, p_mul, p_sub, p_addm, p_addm0, p_subm, p_le, p_lt, p_eq, p_mO_eq, p_eq_mO, p_mO_lt, p_nlt_mO, p_mO_le, p_le_mO, p_rI, p_rL, p_wI, p_wL, p_wF, p_has10, p_has11, p_ib0, p_ib1, p_shl1, p_zv0, p_zv1, p_zvib, p_ibd, p_ibn, if_pos, if_neg, if_true, if_false, ne_eq, not_true, not_false_iff, Decidable.not_not, Nat.not_lt, Nat.not_le, Bool.true_eq_false, Bool.false_eq_true, eq_self, reduceIte, Nat.reduceAdd, Nat.reduceMul, Nat.reduceSub, Nat.reduceEqDiff, Nat.reduceLT, Nat.reduceLeDiff, reduceCtorEq, fX8_putParts_l35, fX8_putParts_b87, h0, h1, h2, h3, e1, Nat.add_assoc]
        · have e1 := F2 j hj (by rw [h1, h2, h3]; rfl)
          simp (disch := omega) only [p_bnd, p_nm, p_gSEl, p_gSEr, p_l0, p_l1, p_l2, p_l3, p_l4, p_l5, p_l6, p_l7, p_l8, p_l9, p_l10, p_l14, p_l16, p_l20, p_l22, p_l24, p_l30, p_l31, p_l32, p_l38, p_l40, p_l41, p_l43, p_l48, p_l57, p_l59, p_l60, p_l61, p_l62, p_l63, p_l97, p_l98, p_l101, p_l122, p_l158, p_l201, p_l255, p_l256, p_l374, p_l880, p_l900, p_l1000, p_l2618, p_neg, nI_add, p_mul, p_sub, p_addm, p_addm0, p_subm, p_le, p_lt, p_eq, p_mO_eq, p_eq_mO, p_mO_lt, p_nlt_mO, p_mO_le, p_le_mO, p_rI, p_rL, p_wI, p_wL, p_wF, p_has10, p_has11, p_ib0, p_ib1, p_shl1, p_zv0, p_zv1, p_zvib, p_ibd, p_ibn, if_pos, if_neg, if_true, if_false, ne_eq, not_true, not_false_iff, Decidable.not_not, Nat.not_lt, Nat.not_le, Bool.true_eq_false, Bool.false_eq_true, eq_self, reduceIte, Nat.reduceAdd, Nat.reduceMul, Nat.reduceSub, Nat.reduceEqDiff, Nat.reduceLT, Nat.reduceLeDiff, reduceCtorEq, fX8_putParts_l35, fX8_putParts_b87, h0, h1, h2, h3, e1, Nat.add_assoc]) (by simp (disch := omega) only [p_bnd, p_nm, p_gSEl, p_gSEr, p_l0, p_l1, p_l2, p_l3, p_l4, p_l5, p_l6, p_l7, p_l8, p_l9, p_l10, p_l14, p_l16, p_l20, p_l22, p_l24, p_l30, p_l31, p_l32, p_l38, p_l40, p_l41, p_l43, p_l48, p_l57, p_l59, p_l60, p_l61, p_l62, p_l63, p_l97, p_l98, p_l101, p_l122, p_l158, p_l201, p_l255, p_l256, p_l374, p_l880, p_l900, p_l1000, p_l2618, p_neg, nI_add, p_mul, p_sub, p_addm, p_addm0, p_subm, p_le, p_lt, p_eq, p_mO_eq, p_eq_mO, p_mO_lt, p_nlt_mO, p_mO_le, p_le_mO, p_rI, p_rL, p_wI, p_wL, p_wF, p_has10, p_has11, p_ib0, p_ib1, p_shl1, p_zv0, p_zv1, p_zvib, p_ibd, p_ibn, if_pos, if_neg, if_true, if_false, ne_eq, not_true, not_false_iff, Decidable.not_not, Nat.not_lt, Nat.not_le, Bool.true_eq_false, Bool.false_eq_true, eq_self, reduceIte, Nat.reduceAdd, Nat.reduceMul, Nat.reduceSub, Nat.reduceEqDiff, Nat.reduceLT, Nat.reduceLeDiff, reduceCtorEq, fX8_putParts_l35, h0])
  rw [← F3, ← e]
  show gLoop _ gFu ((0 : Int32), nI k) = gLoop _ gFu (F 0, nI (k + 0))
  rw [F0]; rfl
theorem cp_putParts {G : Nat → Bool} {x : Int32} {l : List Int32} (hr : ∀ x, R x x) (htr : ∀ x y z, R x y → R y z → R x z) (hG : ∀ u v, u < n → v < n → R u v → R v u → G u = true → G v = true) (h0 : M.1 w 9 = nI n) (hn : n ≤ 24) (hw : w ≠ 45) (hc : c ≠ 45 ∧ c ≠ 46) (hx : ∀ v, v < 32 → (bt x v = true ↔ v < n ∧ G v = true)) (hR : ∀ u, u < n → ∀ v, v < 32 → (bt (M.1 c u) v = true ↔ R u v)) (hL : RW M 45 l) (hl : l.length + (gHs (hdR R n) n G).length ≤ 24) (hw6 : w ≠ 46) :
    ∃ M', fX8_putParts w x c M = some (nI (gHs (hdR R n) n G).length, M') ∧ gFr (Drow 45) M M' ∧ RW M' 45 (l ++ (gHs (hdR R n) n G).map (fun h => mkS (fun v => decide (v < n ∧ G v = true ∧ hdR R n v = h)))) := by
  obtain ⟨q, e, q1, F, L⟩ : ∃ q, gLoop (fun z9 => fX8_putParts_l9 w c z9.1 z9.2.1 z9.2.2.1 z9.2.2.2) gFu (x, (0 : Int32), (0 : Int32), M) = some q ∧ q.1 = nI (gHs (hdR R n) n G).length ∧ gFr (Drow 45) M q.2 ∧ RW q.2 45 (l ++ (gHs (hdR R n) n G).map (fun h => mkS (fun v => decide (v < n ∧ G v = true ∧ hdR R n v = h)))) := by
    refine gLoop_i (fun k s => ∃ r M', s = (r, nI (gHs (hdR R n) k G).length, nI k, M') ∧ (∀ v, v < 32 → (bt r v = true ↔ v < n ∧ G v = true ∧ k ≤ hdR R n v)) ∧ gFr (Drow 45) M M' ∧ RW M' 45 (l ++ (gHs (hdR R n) k G).map (fun h => mkS (fun v => decide (v < n ∧ G v = true ∧ hdR R n v = h))))) _ n ⟨x, M, rfl, fun v hv => (hx v hv).trans ⟨fun z => ⟨z.1, z.2, Nat.zero_le _⟩, fun z => ⟨z.1, z.2.1⟩⟩, gFr_rf, by rw [show gHs (hdR R n) 0 G = [] from rfl, List.map_nil, List.append_nil]; exact hL⟩ (by show n < 4096; omega) ?_
    rintro k s hk ⟨r, M', rfl, hr2, hF, hI⟩
    have hwM : M'.1 w = M.1 w := gFr_c1 hF (fun _ z => by unfold Drow at z; omega)
    have hcM : M'.1 c = M.1 c := gFr_c1 hF (fun _ z => by unfold Drow at z; omega)
    rcases Nat.lt_or_ge k n with q | q
    · obtain ⟨a1, a2, a3, a4⟩ := hdR_ok hr q
      cases hb : bt r k
      · have hno : ¬ (G k = true ∧ hdR R n k = k) := fun z => by
          have := (hr2 k (by omega)).mpr ⟨q, z.1, by rw [z.2]; exact Nat.le_refl k⟩
          rw [hb] at this; cases this
        have e9 : gHs (hdR R n) (k + 1) G = gHs (hdR R n) k G := by
          rw [gHs_sc, if_neg (by rw [Bool.and_eq_true, decide_eq_true_eq]; exact hno), List.append_nil]
        refine Or.inl ⟨(r, nI (gHs (hdR R n) k G).length, nI (k + 1), M'), ?_, q, r, M', by rw [e9], fun v hv => ?_, hF, by rw [e9]; exact hI⟩
        · simp (disch := omega) only [p_bnd, p_nm, p_gSEl, p_gSEr, p_l0, p_l1, p_l2, p_l3, p_l4, p_l5, p_l6, p_l7, p_l8, p_l9, p_l10, p_l14, p_l16, p_l20, p_l22, p_l24, p_l30, p_l31, p_l32, p_l38, p_l40, p_l41, p_l43, p_l48, p_l57, p_l59, p_l60, p_l61, p_l62, p_l63, p_l97, p_l98, p_l101, p_l122, p_l158, p_l201, p_l255, p_l256, p_l374, p_l880, p_l900, p_l1000, p_l2618, p_neg, nI_add, p_mul, p_sub, p_addm, p_addm0, p_subm, p_le, p_lt, p_eq, p_mO_eq, p_eq_mO, p_mO_lt, p_nlt_mO, p_mO_le, p_le_mO, p_rI, p_rL, p_wI, p_wL, p_wF, p_has10, p_has11, p_ib0, p_ib1, p_shl1, p_zv0, p_zv1, p_zvib, p_ibd, p_ibn, if_pos, if_neg, if_true, if_false, ne_eq, not_true, not_false_iff, Decidable.not_not, Nat.not_lt, Nat.not_le, Bool.true_eq_false, Bool.false_eq_true, eq_self, reduceIte, Nat.reduceAdd, Nat.reduceMul, Nat.reduceSub, Nat.reduceEqDiff, Nat.reduceLT, Nat.reduceLeDiff, reduceCtorEq, fX8_putParts_l9, fX8_putParts_b114, hwM, h0, hb]
        · rw [hr2 v hv]
          constructor
          · rintro ⟨z1, z2, z3⟩
            refine ⟨z1, z2, Classical.byContradiction fun z4 => ?_⟩
            have e5 : hdR R n v = k := by omega
            obtain ⟨b1, b2, b3, b4⟩ := hdR_ok hr z1
            rw [e5] at b2 b3
            exact hno ⟨hG v k z1 q b2 b3 z2, by rw [← e5]; exact hdR_id hr htr z1⟩
          · rintro ⟨z1, z2, z3⟩
            exact ⟨z1, z2, by omega⟩
      · obtain ⟨g1, g2, g3⟩ := (hr2 k (by omega)).mp hb
        have hk2 : hdR R n k = k := by omega
        have e9 : gHs (hdR R n) (k + 1) G = gHs (hdR R n) k G ++ [k] := by
          rw [gHs_sc, if_pos (by rw [Bool.and_eq_true, decide_eq_true_eq]; exact ⟨g2, hk2⟩)]
        have hpt := cp_part (M := M') (w := w) (c := c) (rest := r) (k := k) (n := n) (nI (gHs (hdR R n) k G).length) (by rw [hwM]; exact h0) hn q
        have hset : mkS (fun v => decide (k ≤ v ∧ v < n) && (bt r v && bt (M'.1 c k) v && bt (M'.1 c v) k)) = mkS (fun v => decide (v < n ∧ G v = true ∧ hdR R n v = k)) := mkS_cg fun v hv => by
          rw [Bool.eq_iff_iff, decide_eq_true_eq, Bool.and_eq_true, decide_eq_true_eq, Bool.and_eq_true, Bool.and_eq_true, hr2 v hv, hcM, hR k q v hv]
          constructor
          · rintro ⟨⟨y1, y2⟩, ⟨⟨y3, y4, y5⟩, y6⟩, y7⟩
            have y7 := (hR v y3 k (by omega)).mp y7
            exact ⟨y3, y4, by rw [(hdR_eq hr htr y3 q).mpr ⟨y7, y6⟩, hk2]⟩
          · rintro ⟨y1, y2, y3⟩
            obtain ⟨b1, b2, b3, b4⟩ := hdR_ok hr y1
            rw [y3] at b1 b2 b3
            exact ⟨⟨b1, y1⟩, ⟨⟨y1, y2, by omega⟩, b3⟩, (hR v y1 k (by omega)).mpr b2⟩
        rw [hset] at hpt
        have hlk : (gHs (hdR R n) k G).length < (gHs (hdR R n) n G).length := by
          rw [gHs_ct, gHs_ct]
          exact ct_lt q (by rw [Bool.and_eq_true, decide_eq_true_eq]; exact ⟨g2, hk2⟩)
        obtain ⟨M5, e5, F5, R5⟩ := cw_put hI (by rw [List.length_append, List.length_map]; omega) (mkS (fun v => decide (v < n ∧ G v = true ∧ hdR R n v = k)))
        generalize hP : mkS (fun v => decide (v < n ∧ G v = true ∧ hdR R n v = k)) = P at hpt e5 R5
        have hPb : ∀ v, v < 32 → (bt P v = true ↔ v < n ∧ G v = true ∧ hdR R n v = k) := fun v hv => by rw [← hP, mkS_bt hv, decide_eq_true_eq]
        refine Or.inl ⟨(r &&& (P ^^^ mO 1), nI ((gHs (hdR R n) k G).length + 1), nI (k + 1), M5), ?_, q, _, M5, by rw [e9, List.length_append]; rfl, fun v hv => ?_, gFr_tr hF F5, ?_⟩
        · have hpt' : gLoop (fun z9 => fX8_putParts_l35 w c r (nI (gHs (hdR R n) k G).length) (nI k) M' z9.1 z9.2) gFu (nI 0, nI k) = some P := hpt
          simp (disch := omega) only [p_bnd, p_nm, p_gSEl, p_gSEr, p_l0, p_l1, p_l2, p_l3, p_l4, p_l5, p_l6, p_l7, p_l8, p_l9, p_l10, p_l14, p_l16, p_l20, p_l22, p_l24, p_l30, p_l31, p_l32, p_l38, p_l40, p_l41, p_l43, p_l48, p_l57, p_l59, p_l60, p_l61, p_l62, p_l63, p_l97, p_l98, p_l101, p_l122, p_l158, p_l201, p_l255, p_l256, p_l374, p_l880, p_l900, p_l1000, p_l2618, p_neg, nI_add, p_mul, p_sub, p_addm, p_addm0, p_subm, p_le, p_lt, p_eq, p_mO_eq, p_eq_mO, p_mO_lt, p_nlt_mO, p_mO_le, p_le_mO, p_rI, p_rL, p_wI, p_wL, p_wF, p_has10, p_has11, p_ib0, p_ib1, p_shl1, p_zv0, p_zv1, p_zvib, p_ibd, p_ibn, if_pos, if_neg, if_true, if_false, ne_eq, not_true, not_false_iff, Decidable.not_not, Nat.not_lt, Nat.not_le, Bool.true_eq_false, Bool.false_eq_true, eq_self, reduceIte, Nat.reduceAdd, Nat.reduceMul, Nat.reduceSub, Nat.reduceEqDiff, Nat.reduceLT, Nat.reduceLeDiff, reduceCtorEq, fX8_putParts_l9, fX8_putParts_b114, hwM, h0, hb, hpt', e5]
        · rw [b_and, p_not _ hv, Bool.and_eq_true, hr2 v hv]
          constructor
          · rintro ⟨⟨z1, z2, z3⟩, z4⟩
            refine ⟨z1, z2, ?_⟩
            have z5 : ¬ hdR R n v = k := fun z => by
              rw [(hPb v hv).mpr ⟨z1, z2, z⟩] at z4; cases z4
            omega
          · rintro ⟨z1, z2, z3⟩
            refine ⟨⟨z1, z2, by omega⟩, ?_⟩
            cases hz : bt P v
            · rfl
            · have := ((hPb v hv).mp hz).2.2; omega
        · rw [e9, List.map_append, ← List.append_assoc]
          show RW M5 45 (_ ++ [mkS (fun v => decide (v < n ∧ G v = true ∧ hdR R n v = k))])
          rw [hP]; exact R5
    · have hk3 : k = n := by omega
      refine Or.inr ⟨(nI (gHs (hdR R n) k G).length, M'), by simp (disch := omega) only [p_bnd, p_nm, p_gSEl, p_gSEr, p_l0, p_l1, p_l2, p_l3, p_l4, p_l5, p_l6, p_l7, p_l8, p_l9, p_l10, p_l14, p_l16, p_l20, p_l22, p_l24, p_l30, p_l31, p_l32, p_l38, p_l40, p_l41, p_l43, p_l48, p_l57, p_l59, p_l60, p_l61, p_l62, p_l63, p_l97, p_l98, p_l101, p_l122, p_l158, p_l201, p_l255, p_l256, p_l374, p_l880, p_l900, p_l1000, p_l2618, p_neg, nI_add, p_mul, p_sub, p_addm, p_addm0, p_subm, p_le, p_lt, p_eq, p_mO_eq, p_eq_mO, p_mO_lt, p_nlt_mO, p_mO_le, p_le_mO, p_rI, p_rL, p_wI, p_wL, p_wF, p_has10, p_has11, p_ib0, p_ib1, p_shl1, p_zv0, p_zv1, p_zvib, p_ibd, p_ibn, if_pos, if_neg, if_true, if_false, ne_eq, not_true, not_false_iff, Decidable.not_not, Nat.not_lt, Nat.not_le, Bool.true_eq_false, Bool.false_eq_true, eq_self, reduceIte, Nat.reduceAdd, Nat.reduceMul, Nat.reduceSub, Nat.reduceEqDiff, Nat.reduceLT, Nat.reduceLeDiff, reduceCtorEq, fX8_putParts_l9, hwM, h0], by rw [hk3], hF, by rw [← hk3]; rw [← hk3] at hI; exact hI⟩
  refine ⟨q.2, ?_, F, L⟩
  unfold fX8_putParts
  rw [e, p_bnd, q1]
end PP
