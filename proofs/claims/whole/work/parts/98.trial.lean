/-! WHAT AN ARROW WOULD DO: both sides -/
section TR
variable {M : gMem} {S : gS} {t a b : Nat}
theorem lo_1 (lo : Nat) (h : lo < 1000) : nI lo - nI 1 < nI lo := by
  cases lo with
  | zero => decide
  | succ k =>
    rw [p_sub (by omega), p_lt (by omega) (by omega)]; omega
theorem lo_2 (lo : Nat) : nI lo - nI 1 + nI 1 = nI lo := Int32.sub_add_cancel _ _
/-- nothing is affected -/
def RP0 (M : gMem) (lo : Nat) : Prop := M.1 41 1 = nI lo ∧ M.1 41 2 = nI lo - nI 1 ∧ M.1 41 3 = nI 0 ∧ M.1 41 4 = nI 0 ∧ M.1 41 5 = nI 0
theorem ca_those0 {lo : Nat} (h : RP0 M lo) (hl : lo < 24) (w : Int32) : fX6_putThose t w M = some M := by
  have h1 := h.1
  have h2 := h.2.1
  have h3 := lo_1 lo (by omega)
  have e : gLoop (fun z9 => fX6_putThose_l5 t w z9.1 z9.2) gFu (nI lo, M) = some M := by
    refine gLoop_f (body := fun z9 => fX6_putThose_l5 t w z9.1 z9.2) (fun _ => (nI lo, M)) 0 gFu (by decide) (fun k hk => absurd hk (Nat.not_lt_zero k)) ?_
    show fX6_putThose_l5 t w (nI lo) M = _
    unfold fX6_putThose_l5
    rw [h2, if_pos h3]
  unfold fX6_putThose
  rw [h1, p_nm, p_bnd, e, p_bnd]
theorem ca_deal0 {lo : Nat} (h : RP0 M lo) (hl : lo < 24) : fX6_dealOut t M = some M := by
  have h1 := h.1
  have h2 := h.2.1
  have h3 := lo_1 lo (by omega)
  unfold fX6_dealOut
  rw [p_nm, p_bnd, p_nm, p_bnd, p_bitCount, p_bnd, p_nm, p_bnd, h1, p_nm, p_bnd]
  generalize M.1 41 4 &&& (M.1 41 3 ^^^ (-1 : Int32)) = y1
  generalize M.1 41 3 &&& (M.1 41 4 ^^^ (-1 : Int32)) = y2
  generalize nI (fb_ct (bt (M.1 41 4 ||| M.1 41 3)) 32) = y3
  generalize M.1 41 5 = y4
  have e : gLoop (fun z9 => fX6_dealOut_l50 t z9.1 z9.2.1 z9.2.2.1 z9.2.2.2.1 z9.2.2.2.2.1 z9.2.2.2.2.2) gFu (y1, y2, y3, y4, nI lo, M) = some M := by
    refine gLoop_f (body := fun z9 => fX6_dealOut_l50 t z9.1 z9.2.1 z9.2.2.1 z9.2.2.2.1 z9.2.2.2.2.1 z9.2.2.2.2.2) (fun _ => (y1, y2, y3, y4, nI lo, M)) 0 gFu (by decide) (fun k hk => absurd hk (Nat.not_lt_zero k)) ?_
    show fX6_dealOut_l50 t y1 y2 y3 y4 (nI lo) M = _
    unfold fX6_dealOut_l50
    rw [h2, if_pos h3]
  rw [e, p_bnd]
theorem ca_arrange0 (h : CS M t S) (ht : t + 9 < 41) {lo : Nat} (hp : RP0 M lo) (hl : lo < sG S) {mode : Nat} (hm : mode ≤ 2) : ∃ M', fX6_arrange t (nI mode) M = some (nI 0, M') ∧ gFr (Drow 42) M M' := by
  have hn := h.2.1.1
  have hg := (sW_24 h.2).2.2
  have F1 : gFr (Drow 42) M (gI M 42 1 (nI 0)) := gFr_I (Or.inl ⟨rfl, rfl⟩)
  have h1 : CS (gI M 42 1 (nI 0)) t S := CS_fr h F1 (fun j k hj z => by unfold Drow at z; omega)
  obtain ⟨M2, e2, F2, R2⟩ := cw_putPlaces (mb := sMb S) (t := t) (r := 42) (l := []) (M := gI M 42 1 (nI 0)) ⟨p_gI_s _ _ _ _, fun k v z => by simp at z⟩ (f := 0) (e := lo) (by omega) (by omega) (by simp; omega) (by omega) (fun p _ p2 => cs_mb h1 (by omega))
  have h2 : CS M2 t S := CS_fr h1 F2 (fun j k hj z => by unfold Drow at z; omega)
  have c41 : M2.1 41 = M.1 41 := by rw [gFr_c1 F2 (fun _ z => by unfold Drow at z; omega), p_gI_o (by decide)]
  have hp2 : RP0 M2 lo := by unfold RP0; rw [c41]; exact hp
  have l2 : ([] ++ (List.range' 0 (lo - 0)).map (sMb S)).length = lo := by rw [List.nil_append, List.length_map, List.length_range']; rfl
  have r2 : M2.1 42 1 = nI lo := by rw [R2.1, l2]
  obtain ⟨M3, e3, F3, R3⟩ := cw_putPlaces (mb := sMb S) (t := t) R2 (f := lo) (e := sG S) (by omega) hg (by rw [l2]; omega) (by omega) (fun p _ p2 => cs_mb h2 p2)
  have r3 : M3.1 41 1 = nI lo := by rw [gFr_c1 F3 (c := 41) (fun _ z => by unfold Drow at z; omega)]; exact hp2.1
  have ec : fX6_countMoved t (nI lo) M3 = some (nI 0) := by
    have e : gLoop (fun z9 => fX6_countMoved_l8 t (nI lo) M3 z9.1 z9.2) gFu (nI 0, nI lo) = some (nI 0) := by
      refine gLoop_f (body := fun z9 => fX6_countMoved_l8 t (nI lo) M3 z9.1 z9.2) (fun _ => (nI 0, nI lo)) 0 gFu (by decide) (fun k hk => absurd hk (Nat.not_lt_zero k)) ?_
      simp (disch := omega) only [p_bnd, p_nm, p_gSEl, p_gSEr, p_l0, p_l1, p_l2, p_l3, p_l4, p_l5, p_l6, p_l7, p_l8, p_l9, p_l10, p_l14, p_l16, p_l20, p_l22, p_l24, p_l30, p_l31, p_l32, p_l38, p_l40, p_l41, p_l43, p_l48, p_l57, p_l59, p_l60, p_l61, p_l62, p_l63, p_l97, p_l98, p_l101, p_l122, p_l158, p_l201, p_l255, p_l256, p_l374, p_l880, p_l900, p_l1000, p_l2618, p_neg, nI_add, p_mul, p_sub, p_addm, p_addm0, p_subm, p_le, p_lt, p_eq, p_mO_eq, p_eq_mO, p_mO_lt, p_nlt_mO, p_mO_le, p_le_mO, p_rI, p_rL, p_wI, p_wL, p_wF, p_has10, p_has11, p_ib0, p_ib1, p_shl1, p_zv0, p_zv1, p_zvib, p_ibd, p_ibn, if_pos, if_neg, if_true, if_false, ne_eq, not_true, not_false_iff, Decidable.not_not, Nat.not_lt, Nat.not_le, Bool.true_eq_false, Bool.false_eq_true, eq_self, reduceIte, Nat.reduceAdd, Nat.reduceMul, Nat.reduceSub, Nat.reduceEqDiff, Nat.reduceLT, Nat.reduceLeDiff, reduceCtorEq, fX6_countMoved_l8]
    unfold fX6_countMoved
    rw [r3, p_nm, p_bnd]
    rw [show gLoop (fun z9 => fX6_countMoved_l8 t (nI lo) M3 z9.1 z9.2) gFu ((0 : Int32), nI lo) = some (nI 0) from e, p_bnd]
  have eb : fX6_arrange_b117 t M2 = some (nI 0, M3) := by
    unfold fX6_arrange_b117
    rw [p_nm, p_bnd, hp2.2.1, show (1 : Int32) = nI 1 from rfl, lo_2, cs_g h2, e3, p_bnd, r2, ec, p_bnd]
  refine ⟨M3, ?_, gFr_tr F1 (gFr_tr F2 F3)⟩
  unfold fX6_arrange
  rw [show (0 : Int32) = nI 0 from rfl, p_wF, p_bnd, p_gI_n (Or.inl (by decide)), hp.1, e2, p_bnd]
  have z5 : fX7_putSome 42 (nI 0) M2 = some M2 := by unfold fX7_putSome; exact if_pos rfl
  rcases (show mode = 0 ∨ mode = 1 ∨ mode = 2 by omega) with rfl | rfl | rfl
  · rw [if_pos rfl, ca_deal0 hp2 (by omega), p_bnd, eb]
  · rw [if_neg (show ¬ nI 1 = nI 0 by decide), if_pos (show nI 1 = (1 : Int32) from rfl), ca_those0 hp2 (by omega), p_bnd, hp2.2.2.2.2, z5, p_bnd, ca_those0 hp2 (by omega), p_bnd, eb]
  · rw [if_neg (show ¬ nI 2 = nI 0 by decide), if_neg (show ¬ nI 2 = (1 : Int32) by decide), ca_those0 hp2 (by omega), p_bnd, hp2.2.2.2.2, z5, p_bnd, ca_those0 hp2 (by omega), p_bnd, eb]
/-- another MODE -/
def sMod (S : gS) (m : Nat) : gS := (upN S.1 3 m, sFr S, sTo S, sPl S, sHr S, sAc S, sNm S)
theorem sMod_W (h : sW S) {m : Nat} (hm : m ≤ 2) : sW (sMod S m) := ⟨⟨h.1.1, h.1.2.1, h.1.2.2.1, hm, h.1.2.2.2.2⟩, h.2⟩
theorem sMod_rz {m : Nat} : sRz (sMod S m) a b = sRz S a b := rfl
theorem sMod_mv {m k : Nat} : pMv (sMod S m) a b k = pMv S a b k := rfl
/-- MOVED by a MODE -/
noncomputable def mvM (S : gS) (a b m : Nat) : Nat := if sPl S b < sPl S a then pMv S a b m else 0
theorem mvM_le (h : sW S) (ha : a < sN S) (hb : b < sN S) {m : Nat} : mvM S a b m ≤ 24 := by
  unfold mvM; split
  · exact pMv_le h ha hb
  · omega
theorem RS_mode (h : RS M S) {m : Nat} (hm : m ≤ 2) : RS (gI M 1 3 (nI m)) (sMod S m) := by
  obtain ⟨⟨⟨q0, q1, q2, q3, q4⟩, qa, qo, qf, qt⟩, hW⟩ := h
  obtain ⟨a1, a2, a3⟩ := sW_24 hW
  have o : ∀ {k : Nat}, k ≠ 3 → (gI M 1 3 (nI m)).1 1 k = M.1 1 k := fun z => p_gI_n (Or.inr z)
  refine ⟨⟨⟨?_, ?_, ?_, ?_, ?_⟩, fun k hk => ?_, fun p hp => ?_, fun i hi => ?_, fun t ht => ?_⟩, sMod_W hW hm⟩
  · rw [o (by decide)]; exact q0
  · rw [o (by decide)]; exact q1
  · rw [o (by decide)]; exact q2
  · rw [p_gI_s]; rfl
  · rw [o (by decide)]; exact q4
  · rw [o (by omega)]; exact qa k hk
  · have hp : p < sG S := hp
    rw [o (by omega)]; exact qo p hp
  · have hi : i < sM S := hi
    rw [o (by omega), o (by omega)]; exact qf i hi
  · have ht : t < sN S := ht
    obtain ⟨t1, t2, t3, t4⟩ := qt t ht
    exact ⟨by rw [o (by omega)]; exact t1, by rw [o (by omega)]; exact t2, by rw [o (by omega)]; exact t3, fun k hk => by rw [o (by omega)]; exact t4 k hk⟩
def Dwm (c k : Nat) : Prop := c = 1 ∨ c = 2 ∨ c = 6 ∨ c = 8 ∨ c = 9 ∨ c = 10 ∨ (c = 0 ∧ ((10 ≤ k ∧ k ≤ 14) ∨ k = 16))
theorem rs_wouldMove (h : RS M S) (ha : a < sN S) (hb : b < sN S) {m : Nat} (hm : m ≤ 2) : ∃ r, fX11_wouldMove (nI a) (nI b) (nI m) M = some (if sRz S a b = 0 then nI (mvM S a b m) else mO (sRz S a b), r) ∧ gFr Dwm M r ∧ RS r S := by
  obtain ⟨M1, e1, F1, I1⟩ := r_goesAside M
  have h1 : RS M1 S := RS_of h (gFr_c1 F1 (fun _ => by omega))
  have h2 := RS_mode h1 hm
  have F2 : gFr (fun c _ => c = 1 ∨ c = 2) M (gI M1 1 3 (nI m)) := gFr_trI (gFr_mo F1 (fun c k z => Or.inr z)) (Or.inl rfl)
  obtain ⟨n1, n2⟩ := rs_comes h2 (a := a) (b := b) ha hb
  have back : ∀ {x : Int32} {M3 : gMem}, fX11_comes (nI a) (nI b) (gI M1 1 3 (nI m)) = some (x, M3) → gFr Dco (gI M1 1 3 (nI m)) M3 → ∃ r, fX11_wouldMove (nI a) (nI b) (nI m) M = some (x, r) ∧ gFr Dwm M r ∧ RS r S := fun {x M3} e3 F3 => by
    obtain ⟨M4, e4, F4, I4⟩ := r_comesBack M3 x
    refine ⟨M4, ?_, gFr_tr (gFr_mo F2 (fun c k z => by unfold Dwm; omega)) (gFr_tr (gFr_mo F3 (fun c k z => by unfold Dco at z; unfold Dwm; omega)) (gFr_mo F4 (fun c k z => Or.inl z))), RR_ew h.1 h.2 fun k hk => ?_, h.2⟩
    · unfold fX11_wouldMove
      rw [e1, p_bnd, show (3 : Int32) = nI 3 from rfl, p_wI (by omega) (by omega), p_bnd, e3, p_bnd, e4, p_bnd]
    · rw [I4 k hk, (F3 2 k (by unfold Dco; omega)).1, p_gI_n (Or.inl (by decide)), I1 k hk]
  by_cases c : sRz S a b = 0
  · rw [if_pos c]
    obtain ⟨M3, e3, F3, -⟩ := n2 c
    exact back e3 F3
  · rw [if_neg c]
    obtain ⟨M3, e3, F3⟩ := n1 c
    exact back e3 (gFr_mo F3 (fun c k z => by unfold Dpt at z; unfold Dco; omega))
/-- the best MODE -/
noncomputable def bM1 (S : gS) (a b : Nat) : Nat × Nat := if mvM S a b 1 < mvM S a b 0 then (1, mvM S a b 1) else (0, mvM S a b 0)
noncomputable def bM2 (S : gS) (a b : Nat) : Nat × Nat := if mvM S a b 2 < (bM1 S a b).2 then (2, mvM S a b 2) else bM1 S a b
noncomputable def bMd (S : gS) (a b : Nat) : Int32 := if sRz S a b = 0 then nI (bM2 S a b).1 else mO 1
theorem cs_arr (h : CS M t S) (ht : t ≤ 21) (ha : a < sN S) (hb : b < sN S) {m : Nat} (hm : m ≤ 2) (hp : if sPl S b < sPl S a then RP M (sPl S b) (sPl S a) (wBh S a b) (wAh S a b) (wJn S a b) else RP0 M (sPl S b)) : ∃ M', fX6_arrange t (nI m) M = some (nI (mvM S a b m), M') ∧ gFr (Drow 42) M M' := by
  unfold mvM
  by_cases c : sPl S b < sPl S a
  · rw [if_pos c] at hp ⊢
    obtain ⟨M', e, F, -⟩ := ca_arrange h (by omega) ha hb c hp hm
    exact ⟨M', e, F⟩
  · rw [if_neg c] at hp ⊢
    exact ca_arrange0 h (by omega) hp (h.2.p hb) hm
theorem cs_srv (h : CS M t S) (ht : t ≤ 21) (ha : a < sN S) (hb : b < sN S) : ∃ r, fX6_survey t (nI a) (nI b) M = some r ∧ gFr (fun c k => c = 41 ∧ 1 ≤ k ∧ k ≤ 6) M r ∧ (if sPl S b < sPl S a then RP r (sPl S b) (sPl S a) (wBh S a b) (wAh S a b) (wJn S a b) else RP0 r (sPl S b)) ∧ r.1 41 6 = (if sPl S b < sPl S a then nI (sLk S a b) else nI 0) := by
  by_cases c : sPl S b < sPl S a
  · obtain ⟨r, e, F, a1, a2, a3, a4, a5, a6⟩ := cs_survey h ht ha hb c
    exact ⟨r, e, F, by rw [if_pos c]; exact ⟨a1, a2, a3, a4, a5⟩, by rw [if_pos c]; exact a6⟩
  · obtain ⟨r, e, F, a1, a2, a3, a4, a5, a6⟩ := cs_survey0 h ht ha hb (by omega)
    exact ⟨r, e, F, by rw [if_neg c]; exact ⟨a1, a2, a3, a4, a5⟩, by rw [if_neg c]; exact a6⟩
theorem RP_row {lo : Nat} {c9 : Prop} {dc : Decidable c9} {hi : Nat} {wB wA wJ : Int32} {M' : gMem} (hp : @ite _ c9 dc (RP M lo hi wB wA wJ) (RP0 M lo)) (F : gFr (Drow 42) M M') : @ite _ c9 dc (RP M' lo hi wB wA wJ) (RP0 M' lo) := by
  have e : M'.1 41 = M.1 41 := gFr_c1 F (fun _ z => by unfold Drow at z; omega)
  unfold RP RP0 at hp ⊢
  rw [e]; exact hp
def Dbm (c k : Nat) : Prop := c = 41 ∨ c = 42 ∨ c = 43
theorem cs_best (h : CS M 1 S) (ha : a < sN S) (hb : b < sN S) (hz : sRz S a b = 0) : ∃ r, ((fX6_survey 1 (nI a) (nI b) M).bind fun v9 => (fX6_arrange 1 (0 : Int32) v9).bind fun v10 => (gLoop (fun z9 => fX10_bestMode_l56 z9.1 z9.2.1 z9.2.2.1 z9.2.2.2) gFu ((0 : Int32), v10.1, (1 : Int32), v10.2)).bind fun w14 => some ((.inl w14.1 : Int32 ⊕ Nat), w14.2)) = some (.inl (bMd S a b), r) ∧ gFr Dbm M r := by
  obtain ⟨M1, e1, F1, p1, -⟩ := cs_srv h (by decide) ha hb
  have h1 : CS M1 1 S := CS_fr h F1 (fun j k hj z => by omega)
  obtain ⟨M2, e2, F2⟩ := cs_arr h1 (by decide) ha hb (m := 0) (by decide) p1
  have h2 : CS M2 1 S := CS_fr h1 F2 (fun j k hj z => by unfold Drow at z; omega)
  obtain ⟨M3, e3, F3⟩ := cs_arr h2 (by decide) ha hb (m := 1) (by decide) (RP_row p1 F2)
  have h3 : CS M3 1 S := CS_fr h2 F3 (fun j k hj z => by unfold Drow at z; omega)
  obtain ⟨M4, e4, F4⟩ := cs_arr h3 (by decide) ha hb (m := 2) (by decide) (RP_row (RP_row p1 F2) F3)
  have l0 := mvM_le h.2 ha hb (m := 0)
  have l1 := mvM_le h.2 ha hb (m := 1)
  have l2 := mvM_le h.2 ha hb (m := 2)
  have u1 : (bM1 S a b).2 ≤ 24 := by unfold bM1; split <;> assumption
  have eL : gLoop (fun z9 => fX10_bestMode_l56 z9.1 z9.2.1 z9.2.2.1 z9.2.2.2) gFu (nI 0, nI (mvM S a b 0), nI 1, M2) = some (nI (bM2 S a b).1, M4) := by
    refine gLoop_f (body := fun z9 => fX10_bestMode_l56 z9.1 z9.2.1 z9.2.2.1 z9.2.2.2) (fun k => match k with | 0 => (nI 0, nI (mvM S a b 0), nI 1, M2) | 1 => (nI (bM1 S a b).1, nI (bM1 S a b).2, nI 2, M3) | _ => (nI (bM2 S a b).1, nI (bM2 S a b).2, nI 3, M4)) 2 gFu (by decide) (fun k hk => ?_) ?_
    · rcases (show k = 0 ∨ k = 1 by omega) with rfl | rfl
      · show fX10_bestMode_l56 (nI 0) (nI (mvM S a b 0)) (nI 1) M2 = some (.inl (nI (bM1 S a b).1, nI (bM1 S a b).2, nI 2, M3))
        unfold bM1
        by_cases c : mvM S a b 1 < mvM S a b 0
        · rw [if_pos c]
          simp (disch := omega) only [p_bnd, p_nm, p_gSEl, p_gSEr, p_l0, p_l1, p_l2, p_l3, p_l4, p_l5, p_l6, p_l7, p_l8, p_l9, p_l10, p_l14, p_l16, p_l20, p_l22, p_l24, p_l30, p_l31, p_l32, p_l38, p_l40, p_l41, p_l43, p_l48, p_l57, p_l59, p_l60, p_l61, p_l62, p_l63, p_l97, p_l98, p_l101, p_l122, p_l158, p_l201, p_l255, p_l256, p_l374, p_l880, p_l900, p_l1000, p_l2618, p_neg, nI_add, p_mul, p_sub, p_addm, p_addm0, p_subm, p_le, p_lt, p_eq, p_mO_eq, p_eq_mO, p_mO_lt, p_nlt_mO, p_mO_le, p_le_mO, p_rI, p_rL, p_wI, p_wL, p_wF, p_has10, p_has11, p_ib0, p_ib1, p_shl1, p_zv0, p_zv1, p_zvib, p_ibd, p_ibn, if_pos, if_neg, if_true, if_false, ne_eq, not_true, not_false_iff, Decidable.not_not, Nat.not_lt, Nat.not_le, Bool.true_eq_false, Bool.false_eq_true, eq_self, reduceIte, Nat.reduceAdd, Nat.reduceMul, Nat.reduceSub, Nat.reduceEqDiff, Nat.reduceLT, Nat.reduceLeDiff, reduceCtorEq, fX10_bestMode_l56, fX10_bestMode_b91, e3]
        · rw [if_neg c]
          simp (disch := omega) only [p_bnd, p_nm, p_gSEl, p_gSEr, p_l0, p_l1, p_l2, p_l3, p_l4, p_l5, p_l6, p_l7, p_l8, p_l9, p_l10, p_l14, p_l16, p_l20, p_l22, p_l24, p_l30, p_l31, p_l32, p_l38, p_l40, p_l41, p_l43, p_l48, p_l57, p_l59, p_l60, p_l61, p_l62, p_l63, p_l97, p_l98, p_l101, p_l122, p_l158, p_l201, p_l255, p_l256, p_l374, p_l880, p_l900, p_l1000, p_l2618, p_neg, nI_add, p_mul, p_sub, p_addm, p_addm0, p_subm, p_le, p_lt, p_eq, p_mO_eq, p_eq_mO, p_mO_lt, p_nlt_mO, p_mO_le, p_le_mO, p_rI, p_rL, p_wI, p_wL, p_wF, p_has10, p_has11, p_ib0, p_ib1, p_shl1, p_zv0, p_zv1, p_zvib, p_ibd, p_ibn, if_pos, if_neg, if_true, if_false, ne_eq, not_true, not_false_iff, Decidable.not_not, Nat.not_lt, Nat.not_le, Bool.true_eq_false, Bool.false_eq_true, eq_self, reduceIte, Nat.reduceAdd, Nat.reduceMul, Nat.reduceSub, Nat.reduceEqDiff, Nat.reduceLT, Nat.reduceLeDiff, reduceCtorEq, fX10_bestMode_l56, fX10_bestMode_b91, e3]
      · show fX10_bestMode_l56 (nI (bM1 S a b).1) (nI (bM1 S a b).2) (nI 2) M3 = some (.inl (nI (bM2 S a b).1, nI (bM2 S a b).2, nI 3, M4))
        unfold bM2
        generalize bM1 S a b = y at u1
        by_cases c : mvM S a b 2 < y.2
        · rw [if_pos c]
          simp (disch := omega) only [p_bnd, p_nm, p_gSEl, p_gSEr, p_l0, p_l1, p_l2, p_l3, p_l4, p_l5, p_l6, p_l7, p_l8, p_l9, p_l10, p_l14, p_l16, p_l20, p_l22, p_l24, p_l30, p_l31, p_l32, p_l38, p_l40, p_l41, p_l43, p_l48, p_l57, p_l59, p_l60, p_l61, p_l62, p_l63, p_l97, p_l98, p_l101, p_l122, p_l158, p_l201, p_l255, p_l256, p_l374, p_l880, p_l900, p_l1000, p_l2618, p_neg, nI_add, p_mul, p_sub, p_addm, p_addm0, p_subm, p_le, p_lt, p_eq, p_mO_eq, p_eq_mO, p_mO_lt, p_nlt_mO, p_mO_le, p_le_mO, p_rI, p_rL, p_wI, p_wL, p_wF, p_has10, p_has11, p_ib0, p_ib1, p_shl1, p_zv0, p_zv1, p_zvib, p_ibd, p_ibn, if_pos, if_neg, if_true, if_false, ne_eq, not_true, not_false_iff, Decidable.not_not, Nat.not_lt, Nat.not_le, Bool.true_eq_false, Bool.false_eq_true, eq_self, reduceIte, Nat.reduceAdd, Nat.reduceMul, Nat.reduceSub, Nat.reduceEqDiff, Nat.reduceLT, Nat.reduceLeDiff, reduceCtorEq, fX10_bestMode_l56, fX10_bestMode_b91, e4]
        · rw [if_neg c]
          simp (disch := omega) only [p_bnd, p_nm, p_gSEl, p_gSEr, p_l0, p_l1, p_l2, p_l3, p_l4, p_l5, p_l6, p_l7, p_l8, p_l9, p_l10, p_l14, p_l16, p_l20, p_l22, p_l24, p_l30, p_l31, p_l32, p_l38, p_l40, p_l41, p_l43, p_l48, p_l57, p_l59, p_l60, p_l61, p_l62, p_l63, p_l97, p_l98, p_l101, p_l122, p_l158, p_l201, p_l255, p_l256, p_l374, p_l880, p_l900, p_l1000, p_l2618, p_neg, nI_add, p_mul, p_sub, p_addm, p_addm0, p_subm, p_le, p_lt, p_eq, p_mO_eq, p_eq_mO, p_mO_lt, p_nlt_mO, p_mO_le, p_le_mO, p_rI, p_rL, p_wI, p_wL, p_wF, p_has10, p_has11, p_ib0, p_ib1, p_shl1, p_zv0, p_zv1, p_zvib, p_ibd, p_ibn, if_pos, if_neg, if_true, if_false, ne_eq, not_true, not_false_iff, Decidable.not_not, Nat.not_lt, Nat.not_le, Bool.true_eq_false, Bool.false_eq_true, eq_self, reduceIte, Nat.reduceAdd, Nat.reduceMul, Nat.reduceSub, Nat.reduceEqDiff, Nat.reduceLT, Nat.reduceLeDiff, reduceCtorEq, fX10_bestMode_l56, fX10_bestMode_b91, e4]
    · show fX10_bestMode_l56 (nI (bM2 S a b).1) (nI (bM2 S a b).2) (nI 3) M4 = _
      simp (disch := omega) only [p_bnd, p_nm, p_gSEl, p_gSEr, p_l0, p_l1, p_l2, p_l3, p_l4, p_l5, p_l6, p_l7, p_l8, p_l9, p_l10, p_l14, p_l16, p_l20, p_l22, p_l24, p_l30, p_l31, p_l32, p_l38, p_l40, p_l41, p_l43, p_l48, p_l57, p_l59, p_l60, p_l61, p_l62, p_l63, p_l97, p_l98, p_l101, p_l122, p_l158, p_l201, p_l255, p_l256, p_l374, p_l880, p_l900, p_l1000, p_l2618, p_neg, nI_add, p_mul, p_sub, p_addm, p_addm0, p_subm, p_le, p_lt, p_eq, p_mO_eq, p_eq_mO, p_mO_lt, p_nlt_mO, p_mO_le, p_le_mO, p_rI, p_rL, p_wI, p_wL, p_wF, p_has10, p_has11, p_ib0, p_ib1, p_shl1, p_zv0, p_zv1, p_zvib, p_ibd, p_ibn, if_pos, if_neg, if_true, if_false, ne_eq, not_true, not_false_iff, Decidable.not_not, Nat.not_lt, Nat.not_le, Bool.true_eq_false, Bool.false_eq_true, eq_self, reduceIte, Nat.reduceAdd, Nat.reduceMul, Nat.reduceSub, Nat.reduceEqDiff, Nat.reduceLT, Nat.reduceLeDiff, reduceCtorEq, fX10_bestMode_l56]
  refine ⟨M4, ?_, gFr_tr (gFr_mo F1 (fun c k z => Or.inl z.1)) (gFr_tr (gFr_mo F2 (fun c k z => by unfold Drow at z; unfold Dbm; omega)) (gFr_tr (gFr_mo F3 (fun c k z => by unfold Drow at z; unfold Dbm; omega)) (gFr_mo F4 (fun c k z => by unfold Drow at z; unfold Dbm; omega))))⟩
  unfold bMd
  rw [if_pos hz, e1, p_bnd, show (0 : Int32) = nI 0 from rfl, e2, p_bnd]
  rw [show gLoop (fun z9 => fX10_bestMode_l56 z9.1 z9.2.1 z9.2.2.1 z9.2.2.2) gFu (nI 0, nI (mvM S a b 0), (1 : Int32), M2) = some (nI (bM2 S a b).1, M4) from eL, p_bnd]
theorem rs_best (h : RS M S) (ha : a < sN S) (hb : b < sN S) : ∃ r, gLoop (fun z9 => fX11_bestMode_l21 (nI a) (nI b) z9.1 z9.2.1 z9.2.2.1 z9.2.2.2) gFu (mO 1, nI 1000, nI 0, M) = some (bMd S a b, r) ∧ gFr Dwm M r ∧ RS r S := by
  obtain ⟨M1, e1, F1, h1⟩ := rs_wouldMove h ha hb (m := 0) (by decide)
  obtain ⟨M2, e2, F2, h2⟩ := rs_wouldMove h1 ha hb (m := 1) (by decide)
  obtain ⟨M3, e3, F3, h3⟩ := rs_wouldMove h2 ha hb (m := 2) (by decide)
  refine ⟨M3, ?_, gFr_tr F1 (gFr_tr F2 F3), h3⟩
  have l0 := mvM_le h.2 ha hb (m := 0)
  have l1 := mvM_le h.2 ha hb (m := 1)
  have l2 := mvM_le h.2 ha hb (m := 2)
  have rz := sRz_le (S := S) (a := a) (b := b)
  unfold bMd
  by_cases z : sRz S a b = 0
  · rw [if_pos z] at e1 e2 e3 ⊢
    have u1 : (bM1 S a b).2 ≤ 24 := by unfold bM1; split <;> assumption
    refine gLoop_f (body := fun z9 => fX11_bestMode_l21 (nI a) (nI b) z9.1 z9.2.1 z9.2.2.1 z9.2.2.2) (fun k => match k with | 0 => (mO 1, nI 1000, nI 0, M) | 1 => (nI 0, nI (mvM S a b 0), nI 1, M1) | 2 => (nI (bM1 S a b).1, nI (bM1 S a b).2, nI 2, M2) | _ => (nI (bM2 S a b).1, nI (bM2 S a b).2, nI 3, M3)) 3 gFu (by decide) (fun k hk => ?_) ?_
    · rcases (show k = 0 ∨ k = 1 ∨ k = 2 by omega) with rfl | rfl | rfl
      · show fX11_bestMode_l21 (nI a) (nI b) (mO 1) (nI 1000) (nI 0) M = some (.inl (nI 0, nI (mvM S a b 0), nI 1, M1))
        simp (disch := omega) only [p_bnd, p_nm, p_gSEl, p_gSEr, p_l0, p_l1, p_l2, p_l3, p_l4, p_l5, p_l6, p_l7, p_l8, p_l9, p_l10, p_l14, p_l16, p_l20, p_l22, p_l24, p_l30, p_l31, p_l32, p_l38, p_l40, p_l41, p_l43, p_l48, p_l57, p_l59, p_l60, p_l61, p_l62, p_l63, p_l97, p_l98, p_l101, p_l122, p_l158, p_l201, p_l255, p_l256, p_l374, p_l880, p_l900, p_l1000, p_l2618, p_neg, nI_add, p_mul, p_sub, p_addm, p_addm0, p_subm, p_le, p_lt, p_eq, p_mO_eq, p_eq_mO, p_mO_lt, p_nlt_mO, p_mO_le, p_le_mO, p_rI, p_rL, p_wI, p_wL, p_wF, p_has10, p_has11, p_ib0, p_ib1, p_shl1, p_zv0, p_zv1, p_zvib, p_ibd, p_ibn, if_pos, if_neg, if_true, if_false, ne_eq, not_true, not_false_iff, Decidable.not_not, Nat.not_lt, Nat.not_le, Bool.true_eq_false, Bool.false_eq_true, eq_self, reduceIte, Nat.reduceAdd, Nat.reduceMul, Nat.reduceSub, Nat.reduceEqDiff, Nat.reduceLT, Nat.reduceLeDiff, reduceCtorEq, fX11_bestMode_l21, fX11_bestMode_b56, e1]
      · show fX11_bestMode_l21 (nI a) (nI b) (nI 0) (nI (mvM S a b 0)) (nI 1) M1 = some (.inl (nI (bM1 S a b).1, nI (bM1 S a b).2, nI 2, M2))
        unfold bM1
        by_cases c : mvM S a b 1 < mvM S a b 0
        · rw [if_pos c]
          simp (disch := omega) only [p_bnd, p_nm, p_gSEl, p_gSEr, p_l0, p_l1, p_l2, p_l3, p_l4, p_l5, p_l6, p_l7, p_l8, p_l9, p_l10, p_l14, p_l16, p_l20, p_l22, p_l24, p_l30, p_l31, p_l32, p_l38, p_l40, p_l41, p_l43, p_l48, p_l57, p_l59, p_l60, p_l61, p_l62, p_l63, p_l97, p_l98, p_l101, p_l122, p_l158, p_l201, p_l255, p_l256, p_l374, p_l880, p_l900, p_l1000, p_l2618, p_neg, nI_add, p_mul, p_sub, p_addm, p_addm0, p_subm, p_le, p_lt, p_eq, p_mO_eq, p_eq_mO, p_mO_lt, p_nlt_mO, p_mO_le, p_le_mO, p_rI, p_rL, p_wI, p_wL, p_wF, p_has10, p_has11, p_ib0, p_ib1, p_shl1, p_zv0, p_zv1, p_zvib, p_ibd, p_ibn, if_pos, if_neg, if_true, if_false, ne_eq, not_true, not_false_iff, Decidable.not_not, Nat.not_lt, Nat.not_le, Bool.true_eq_false, Bool.false_eq_true, eq_self, reduceIte, Nat.reduceAdd, Nat.reduceMul, Nat.reduceSub, Nat.reduceEqDiff, Nat.reduceLT, Nat.reduceLeDiff, reduceCtorEq, fX11_bestMode_l21, fX11_bestMode_b56, e2]
        · rw [if_neg c]
          simp (disch := omega) only [p_bnd, p_nm, p_gSEl, p_gSEr, p_l0, p_l1, p_l2, p_l3, p_l4, p_l5, p_l6, p_l7, p_l8, p_l9, p_l10, p_l14, p_l16, p_l20, p_l22, p_l24, p_l30, p_l31, p_l32, p_l38, p_l40, p_l41, p_l43, p_l48, p_l57, p_l59, p_l60, p_l61, p_l62, p_l63, p_l97, p_l98, p_l101, p_l122, p_l158, p_l201, p_l255, p_l256, p_l374, p_l880, p_l900, p_l1000, p_l2618, p_neg, nI_add, p_mul, p_sub, p_addm, p_addm0, p_subm, p_le, p_lt, p_eq, p_mO_eq, p_eq_mO, p_mO_lt, p_nlt_mO, p_mO_le, p_le_mO, p_rI, p_rL, p_wI, p_wL, p_wF, p_has10, p_has11, p_ib0, p_ib1, p_shl1, p_zv0, p_zv1, p_zvib, p_ibd, p_ibn, if_pos, if_neg, if_true, if_false, ne_eq, not_true, not_false_iff, Decidable.not_not, Nat.not_lt, Nat.not_le, Bool.true_eq_false, Bool.false_eq_true, eq_self, reduceIte, Nat.reduceAdd, Nat.reduceMul, Nat.reduceSub, Nat.reduceEqDiff, Nat.reduceLT, Nat.reduceLeDiff, reduceCtorEq, fX11_bestMode_l21, fX11_bestMode_b56, e2]
      · show fX11_bestMode_l21 (nI a) (nI b) (nI (bM1 S a b).1) (nI (bM1 S a b).2) (nI 2) M2 = some (.inl (nI (bM2 S a b).1, nI (bM2 S a b).2, nI 3, M3))
        unfold bM2
        generalize bM1 S a b = y at u1
        by_cases c : mvM S a b 2 < y.2
        · rw [if_pos c]
          simp (disch := omega) only [p_bnd, p_nm, p_gSEl, p_gSEr, p_l0, p_l1, p_l2, p_l3, p_l4, p_l5, p_l6, p_l7, p_l8, p_l9, p_l10, p_l14, p_l16, p_l20, p_l22, p_l24, p_l30, p_l31, p_l32, p_l38, p_l40, p_l41, p_l43, p_l48, p_l57, p_l59, p_l60, p_l61, p_l62, p_l63, p_l97, p_l98, p_l101, p_l122, p_l158, p_l201, p_l255, p_l256, p_l374, p_l880, p_l900, p_l1000, p_l2618, p_neg, nI_add, p_mul, p_sub, p_addm, p_addm0, p_subm, p_le, p_lt, p_eq, p_mO_eq, p_eq_mO, p_mO_lt, p_nlt_mO, p_mO_le, p_le_mO, p_rI, p_rL, p_wI, p_wL, p_wF, p_has10, p_has11, p_ib0, p_ib1, p_shl1, p_zv0, p_zv1, p_zvib, p_ibd, p_ibn, if_pos, if_neg, if_true, if_false, ne_eq, not_true, not_false_iff, Decidable.not_not, Nat.not_lt, Nat.not_le, Bool.true_eq_false, Bool.false_eq_true, eq_self, reduceIte, Nat.reduceAdd, Nat.reduceMul, Nat.reduceSub, Nat.reduceEqDiff, Nat.reduceLT, Nat.reduceLeDiff, reduceCtorEq, fX11_bestMode_l21, fX11_bestMode_b56, e3]
        · rw [if_neg c]
          simp (disch := omega) only [p_bnd, p_nm, p_gSEl, p_gSEr, p_l0, p_l1, p_l2, p_l3, p_l4, p_l5, p_l6, p_l7, p_l8, p_l9, p_l10, p_l14, p_l16, p_l20, p_l22, p_l24, p_l30, p_l31, p_l32, p_l38, p_l40, p_l41, p_l43, p_l48, p_l57, p_l59, p_l60, p_l61, p_l62, p_l63, p_l97, p_l98, p_l101, p_l122, p_l158, p_l201, p_l255, p_l256, p_l374, p_l880, p_l900, p_l1000, p_l2618, p_neg, nI_add, p_mul, p_sub, p_addm, p_addm0, p_subm, p_le, p_lt, p_eq, p_mO_eq, p_eq_mO, p_mO_lt, p_nlt_mO, p_mO_le, p_le_mO, p_rI, p_rL, p_wI, p_wL, p_wF, p_has10, p_has11, p_ib0, p_ib1, p_shl1, p_zv0, p_zv1, p_zvib, p_ibd, p_ibn, if_pos, if_neg, if_true, if_false, ne_eq, not_true, not_false_iff, Decidable.not_not, Nat.not_lt, Nat.not_le, Bool.true_eq_false, Bool.false_eq_true, eq_self, reduceIte, Nat.reduceAdd, Nat.reduceMul, Nat.reduceSub, Nat.reduceEqDiff, Nat.reduceLT, Nat.reduceLeDiff, reduceCtorEq, fX11_bestMode_l21, fX11_bestMode_b56, e3]
    · show fX11_bestMode_l21 (nI a) (nI b) (nI (bM2 S a b).1) (nI (bM2 S a b).2) (nI 3) M3 = _
      simp (disch := omega) only [p_bnd, p_nm, p_gSEl, p_gSEr, p_l0, p_l1, p_l2, p_l3, p_l4, p_l5, p_l6, p_l7, p_l8, p_l9, p_l10, p_l14, p_l16, p_l20, p_l22, p_l24, p_l30, p_l31, p_l32, p_l38, p_l40, p_l41, p_l43, p_l48, p_l57, p_l59, p_l60, p_l61, p_l62, p_l63, p_l97, p_l98, p_l101, p_l122, p_l158, p_l201, p_l255, p_l256, p_l374, p_l880, p_l900, p_l1000, p_l2618, p_neg, nI_add, p_mul, p_sub, p_addm, p_addm0, p_subm, p_le, p_lt, p_eq, p_mO_eq, p_eq_mO, p_mO_lt, p_nlt_mO, p_mO_le, p_le_mO, p_rI, p_rL, p_wI, p_wL, p_wF, p_has10, p_has11, p_ib0, p_ib1, p_shl1, p_zv0, p_zv1, p_zvib, p_ibd, p_ibn, if_pos, if_neg, if_true, if_false, ne_eq, not_true, not_false_iff, Decidable.not_not, Nat.not_lt, Nat.not_le, Bool.true_eq_false, Bool.false_eq_true, eq_self, reduceIte, Nat.reduceAdd, Nat.reduceMul, Nat.reduceSub, Nat.reduceEqDiff, Nat.reduceLT, Nat.reduceLeDiff, reduceCtorEq, fX11_bestMode_l21]
  · rw [if_neg z] at e1 e2 e3 ⊢
    have z1 : 0 < sRz S a b := by omega
    generalize sRz S a b = y at e1 e2 e3 rz z1
    refine gLoop_f (body := fun z9 => fX11_bestMode_l21 (nI a) (nI b) z9.1 z9.2.1 z9.2.2.1 z9.2.2.2) (fun k => match k with | 0 => (mO 1, nI 1000, nI 0, M) | 1 => (mO 1, nI 1000, nI 1, M1) | 2 => (mO 1, nI 1000, nI 2, M2) | _ => (mO 1, nI 1000, nI 3, M3)) 3 gFu (by decide) (fun k hk => ?_) ?_
    · rcases (show k = 0 ∨ k = 1 ∨ k = 2 by omega) with rfl | rfl | rfl
      · show fX11_bestMode_l21 (nI a) (nI b) (mO 1) (nI 1000) (nI 0) M = some (.inl (mO 1, nI 1000, nI 1, M1))
        simp (disch := omega) only [p_bnd, p_nm, p_gSEl, p_gSEr, p_l0, p_l1, p_l2, p_l3, p_l4, p_l5, p_l6, p_l7, p_l8, p_l9, p_l10, p_l14, p_l16, p_l20, p_l22, p_l24, p_l30, p_l31, p_l32, p_l38, p_l40, p_l41, p_l43, p_l48, p_l57, p_l59, p_l60, p_l61, p_l62, p_l63, p_l97, p_l98, p_l101, p_l122, p_l158, p_l201, p_l255, p_l256, p_l374, p_l880, p_l900, p_l1000, p_l2618, p_neg, nI_add, p_mul, p_sub, p_addm, p_addm0, p_subm, p_le, p_lt, p_eq, p_mO_eq, p_eq_mO, p_mO_lt, p_nlt_mO, p_mO_le, p_le_mO, p_rI, p_rL, p_wI, p_wL, p_wF, p_has10, p_has11, p_ib0, p_ib1, p_shl1, p_zv0, p_zv1, p_zvib, p_ibd, p_ibn, if_pos, if_neg, if_true, if_false, ne_eq, not_true, not_false_iff, Decidable.not_not, Nat.not_lt, Nat.not_le, Bool.true_eq_false, Bool.false_eq_true, eq_self, reduceIte, Nat.reduceAdd, Nat.reduceMul, Nat.reduceSub, Nat.reduceEqDiff, Nat.reduceLT, Nat.reduceLeDiff, reduceCtorEq, fX11_bestMode_l21, fX11_bestMode_b56, e1]
      · show fX11_bestMode_l21 (nI a) (nI b) (mO 1) (nI 1000) (nI 1) M1 = some (.inl (mO 1, nI 1000, nI 2, M2))
        simp (disch := omega) only [p_bnd, p_nm, p_gSEl, p_gSEr, p_l0, p_l1, p_l2, p_l3, p_l4, p_l5, p_l6, p_l7, p_l8, p_l9, p_l10, p_l14, p_l16, p_l20, p_l22, p_l24, p_l30, p_l31, p_l32, p_l38, p_l40, p_l41, p_l43, p_l48, p_l57, p_l59, p_l60, p_l61, p_l62, p_l63, p_l97, p_l98, p_l101, p_l122, p_l158, p_l201, p_l255, p_l256, p_l374, p_l880, p_l900, p_l1000, p_l2618, p_neg, nI_add, p_mul, p_sub, p_addm, p_addm0, p_subm, p_le, p_lt, p_eq, p_mO_eq, p_eq_mO, p_mO_lt, p_nlt_mO, p_mO_le, p_le_mO, p_rI, p_rL, p_wI, p_wL, p_wF, p_has10, p_has11, p_ib0, p_ib1, p_shl1, p_zv0, p_zv1, p_zvib, p_ibd, p_ibn, if_pos, if_neg, if_true, if_false, ne_eq, not_true, not_false_iff, Decidable.not_not, Nat.not_lt, Nat.not_le, Bool.true_eq_false, Bool.false_eq_true, eq_self, reduceIte, Nat.reduceAdd, Nat.reduceMul, Nat.reduceSub, Nat.reduceEqDiff, Nat.reduceLT, Nat.reduceLeDiff, reduceCtorEq, fX11_bestMode_l21, fX11_bestMode_b56, e2]
      · show fX11_bestMode_l21 (nI a) (nI b) (mO 1) (nI 1000) (nI 2) M2 = some (.inl (mO 1, nI 1000, nI 3, M3))
        simp (disch := omega) only [p_bnd, p_nm, p_gSEl, p_gSEr, p_l0, p_l1, p_l2, p_l3, p_l4, p_l5, p_l6, p_l7, p_l8, p_l9, p_l10, p_l14, p_l16, p_l20, p_l22, p_l24, p_l30, p_l31, p_l32, p_l38, p_l40, p_l41, p_l43, p_l48, p_l57, p_l59, p_l60, p_l61, p_l62, p_l63, p_l97, p_l98, p_l101, p_l122, p_l158, p_l201, p_l255, p_l256, p_l374, p_l880, p_l900, p_l1000, p_l2618, p_neg, nI_add, p_mul, p_sub, p_addm, p_addm0, p_subm, p_le, p_lt, p_eq, p_mO_eq, p_eq_mO, p_mO_lt, p_nlt_mO, p_mO_le, p_le_mO, p_rI, p_rL, p_wI, p_wL, p_wF, p_has10, p_has11, p_ib0, p_ib1, p_shl1, p_zv0, p_zv1, p_zvib, p_ibd, p_ibn, if_pos, if_neg, if_true, if_false, ne_eq, not_true, not_false_iff, Decidable.not_not, Nat.not_lt, Nat.not_le, Bool.true_eq_false, Bool.false_eq_true, eq_self, reduceIte, Nat.reduceAdd, Nat.reduceMul, Nat.reduceSub, Nat.reduceEqDiff, Nat.reduceLT, Nat.reduceLeDiff, reduceCtorEq, fX11_bestMode_l21, fX11_bestMode_b56, e3]
    · show fX11_bestMode_l21 (nI a) (nI b) (mO 1) (nI 1000) (nI 3) M3 = _
      simp (disch := omega) only [p_bnd, p_nm, p_gSEl, p_gSEr, p_l0, p_l1, p_l2, p_l3, p_l4, p_l5, p_l6, p_l7, p_l8, p_l9, p_l10, p_l14, p_l16, p_l20, p_l22, p_l24, p_l30, p_l31, p_l32, p_l38, p_l40, p_l41, p_l43, p_l48, p_l57, p_l59, p_l60, p_l61, p_l62, p_l63, p_l97, p_l98, p_l101, p_l122, p_l158, p_l201, p_l255, p_l256, p_l374, p_l880, p_l900, p_l1000, p_l2618, p_neg, nI_add, p_mul, p_sub, p_addm, p_addm0, p_subm, p_le, p_lt, p_eq, p_mO_eq, p_eq_mO, p_mO_lt, p_nlt_mO, p_mO_le, p_le_mO, p_rI, p_rL, p_wI, p_wL, p_wF, p_has10, p_has11, p_ib0, p_ib1, p_shl1, p_zv0, p_zv1, p_zvib, p_ibd, p_ibn, if_pos, if_neg, if_true, if_false, ne_eq, not_true, not_false_iff, Decidable.not_not, Nat.not_lt, Nat.not_le, Bool.true_eq_false, Bool.false_eq_true, eq_self, reduceIte, Nat.reduceAdd, Nat.reduceMul, Nat.reduceSub, Nat.reduceEqDiff, Nat.reduceLT, Nat.reduceLeDiff, reduceCtorEq, fX11_bestMode_l21]
end TR
