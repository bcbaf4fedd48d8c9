/-! AN ARROW IS CUT: the class's cutOff, whole -/
noncomputable def xN (S : gS) (a : Nat) : Nat := if sIn S a = true then (xL S a).length else 0
section CC
variable {M : gMem} {S : gS} {t a : Nat}
theorem xP_one (h : sW S) (ha : a < sM S) (h1 : (xL S a).length = 1) {u : Nat} (hu : u < sN S) : xP S a u = sPl S u := by
  rw [xP_xQ]
  rcases Nat.lt_trichotomy (sPl S u) (xO S a) with q | q | q
  · rw [xQ_1 q]
  · rw [xQ_2 q]; have := (xQ_ix h ha (xOK_S h ha) hu q).1; omega
  · rw [xQ_3 q]; omega
/-- the heads of the class's selection are the parts' heads -/
theorem xL_gHs (h : sW S) (ha : a < sM S) : gHs (hdP (xQ S a (xL S a)) (sN S)) (sN S) (inP (xQ S a (xL S a)) (xO S a) (xO S a + (xL S a).length)) = xL S a := by
  have hP := xL_pos h ha
  unfold xL gHs
  refine List.filter_congr fun u hu => ?_
  have hu := List.mem_range.mp hu
  have e1 := hdP_xQ h ha (xOK_L (S := S) (a := a)) hu
  unfold xL gHs at e1
  rw [e1]
  have e2 : inP (xQ S a (xL S a)) (xO S a) (xO S a + (xL S a).length) u = decide (sPl S u = xO S a) := by
    unfold inP
    refine decide_eq_decide.mpr ?_
    rcases Nat.lt_trichotomy (sPl S u) (xO S a) with q | q | q
    · rw [xQ_1 q]
      exact ⟨fun z => by omega, fun z => by omega⟩
    · rw [xQ_2 q]
      have := (xQ_ix h ha xOK_L hu q).1
      exact ⟨fun z => by omega, fun z => by omega⟩
    · rw [xQ_3 q]
      exact ⟨fun z => by omega, fun z => by omega⟩
  unfold xL gHs at e2
  rw [e2]
  by_cases q : sPl S u = xO S a
  · rw [xH_in q]
  · show (decide (sPl S u = xO S a) && _) = (decide (sPl S u = xO S a) && _)
    rw [decide_eq_false q, Bool.false_and, Bool.false_and]
theorem xL_ldH (h : sW S) (ha : a < sM S) {l : List Nat} (hl : xOK S a l) : ldH (sLess S a) (hdP (xQ S a l) (sN S)) = ldH (sLess S a) (xH S a) := by
  funext x y
  have hc : fa_first (fun i => decide (hdP (xQ S a l) (sN S) (sFr (sLess S a) i) = x ∧ hdP (xQ S a l) (sN S) (sTo (sLess S a) i) = y)) (sM (sLess S a)) = fa_first (fun i => decide (xH S a (sFr (sLess S a) i) = x ∧ xH S a (sTo (sLess S a) i) = y)) (sM (sLess S a)) := fa_first_cg fun i hi => by
    obtain ⟨b1, b2, -⟩ := (sLess_W1 h.2.1 ha).1 i hi
    rw [hdP_xQ h ha hl b1, hdP_xQ h ha hl b2]
  unfold ldH
  rw [hc]
theorem xL_fit (h : sW S) (ha : a < sM S) (hin : sIn S a = true) : sG S + ((xL S a).length - 1) ≤ sN S := by
  have := (sCut_W h ha).1.2.2.1
  rw [sCut_g, if_pos hin, sCut_n] at this; exact this
/-- the row that has the parts as they are found -/
noncomputable def xW1 (S : gS) (a : Nat) : List Int32 := (List.range (xO S a)).map (mbP (sN S) (sPl S)) ++ (xL S a).map (fun h => mkS (fun v => decide (v < sN S ∧ decide (sPl S v = xO S a) = true ∧ hdR (sR (sLess S a)) (sN S) v = h))) ++ (List.range' (xO S a + 1) (sG S - (xO S a + 1))).map (mbP (sN S) (sPl S))
theorem xW1_len (h : sW S) (ha : a < sM S) : (xW1 S a).length = sG S + ((xL S a).length - 1) := by
  have := xL_pos h ha
  have : xO S a < sG S := h.p (h.2.1.1 a ha).1
  unfold xW1
  rw [List.length_append, List.length_append, List.length_map, List.length_map, List.length_map, List.length_range, List.length_range']
  omega
theorem xW1_bits (h : sW S) (ha : a < sM S) (p : Nat) (x : Int32) (hx : (xW1 S a)[p]? = some x) (v : Nat) (hv : v < 32) : bt x v = true ↔ v < sN S ∧ xQ S a (xL S a) v = p := by
  have hP := xL_pos h ha
  unfold xW1 at hx
  rcases app3 hx with q | ⟨k, e, q⟩ | ⟨k, e, q⟩
  · rw [List.range_eq_range'] at q
    obtain ⟨q1, rfl⟩ := rg_at q
    rw [mbP_bt hv, Nat.zero_add]
    exact and_congr_right fun _ => (xQ_lo q1).symm
  · rw [List.length_map, List.length_range] at e
    obtain ⟨y, hy, rfl⟩ := map_at q
    rw [mkS_bt hv, decide_eq_true_eq, decide_eq_true_eq, e]
    refine and_congr_right fun c => ?_
    rw [xQ_mid h ha xOK_L c hy]
    refine and_congr_right fun d => ?_
    rw [xH_in d]; exact Iff.rfl
  · rw [List.length_map, List.length_map, List.length_range] at e
    obtain ⟨q1, rfl⟩ := rg_at q
    rw [mbP_bt hv, e]
    refine and_congr_right fun c => ?_
    rw [xQ_hi h ha xOK_L c (by omega)]
    exact ⟨fun z => by omega, fun z => by omega⟩
/-- the row that has them sorted -/
noncomputable def xW2 (S : gS) (a : Nat) : List Int32 := (List.range (xO S a)).map (mbP (sN S) (xQ S a (xL S a))) ++ (xS S a).map (fun x => mbP (sN S) (xQ S a (xL S a)) (xQ S a (xL S a) x)) ++ (List.range' (xO S a + (xL S a).length) (sG S + ((xL S a).length - 1) - (xO S a + (xL S a).length))).map (mbP (sN S) (xQ S a (xL S a)))
theorem xW2_len (h : sW S) (ha : a < sM S) : (xW2 S a).length = sG S + ((xL S a).length - 1) := by
  have := xL_pos h ha
  have : xO S a < sG S := h.p (h.2.1.1 a ha).1
  unfold xW2
  rw [List.length_append, List.length_append, List.length_map, List.length_map, List.length_map, List.length_range, List.length_range', (xS_ok h ha).1]
  omega
theorem xW2_bits (h : sW S) (ha : a < sM S) (p : Nat) (x : Int32) (hx : (xW2 S a)[p]? = some x) (v : Nat) (hv : v < 32) : bt x v = true ↔ v < sN S ∧ xQ S a (xS S a) v = p := by
  have hP := xL_pos h ha
  have hS := xOK_S h ha
  unfold xW2 at hx
  rcases app3 hx with q | ⟨k, e, q⟩ | ⟨k, e, q⟩
  · rw [List.range_eq_range'] at q
    obtain ⟨q1, rfl⟩ := rg_at q
    rw [mbP_bt hv, Nat.zero_add]
    exact and_congr_right fun _ => (xQ_lo q1).trans (xQ_lo q1).symm
  · rw [List.length_map, List.length_range] at e
    obtain ⟨y, hy, rfl⟩ := map_at q
    have ym : y ∈ xL S a := (hS.2.1 y).mp (List.mem_of_getElem? hy)
    obtain ⟨y1, y2, y3⟩ := xL_mem.mp ym
    have y4 : xH S a y = y := by rw [xH_in y2]; exact y3
    rw [mbP_bt hv, e]
    refine and_congr_right fun c => ?_
    rw [xQ_mid h ha hS c hy, xQ_hd h ha xOK_L c y1, y4]
    refine ⟨fun z => ⟨?_, z⟩, fun z => z.2⟩
    rw [← (xH_pl h ha c).2, z, y2]
  · rw [List.length_map, List.length_map, List.length_range, hS.1] at e
    obtain ⟨q1, rfl⟩ := rg_at q
    rw [mbP_bt hv, e]
    refine and_congr_right fun c => ?_
    rw [xQ_hi h ha xOK_L c (by omega), xQ_hi h ha hS c (by omega)]
theorem cut_ac0 (hin : sIn S a = false) (k : Nat) : sAc (sCut S a) k = upN (sAc S) 1 (sAc S 1 + 1) k := by
  unfold sCut
  rw [if_neg (by rw [hin]; decide)]; rfl
theorem cut_ac1 (hin : sIn S a = true) (h1 : (xL S a).length = 1) (k : Nat) : sAc (sCut S a) k = upN (sAc S) 1 (sAc S 1 + 1) k := by
  unfold sCut
  rw [if_pos hin]
  show (if k = 1 then sAc S 1 + 1 else if k = 7 then sAc S 7 + (if (xL S a).length = 1 then 0 else (xL S a).length) else sAc S k) = _
  unfold upN
  rw [if_pos h1]
  by_cases c : k = 1
  · rw [if_pos c, if_pos c]
  · rw [if_neg c, if_neg c]
    by_cases d : k = 7
    · rw [if_pos d, d]; rfl
    · rw [if_neg d]
theorem cut_ac2 (hin : sIn S a = true) (h1 : ¬ (xL S a).length = 1) (k : Nat) : sAc (sCut S a) k = upN (upN (sAc S) 1 (sAc S 1 + 1)) 7 (sAc S 7 + (xL S a).length) k := by
  unfold sCut
  rw [if_pos hin]
  show (if k = 1 then sAc S 1 + 1 else if k = 7 then sAc S 7 + (if (xL S a).length = 1 then 0 else (xL S a).length) else sAc S k) = _
  unfold upN
  rw [if_neg h1]
  by_cases c : k = 1
  · rw [if_pos c, if_neg (by omega), if_pos c]
  · rw [if_neg c]
    by_cases d : k = 7
    · rw [if_pos d, if_pos d]
    · rw [if_neg d, if_neg d, if_neg c]
def Dcf (t c : Nat) : Prop := (t ≤ c ∧ c ≤ t + 9) ∨ (45 ≤ c ∧ c ≤ 48)
theorem cs_cutOff (h : CS M t S) (ht : t ≤ 21) (ha : a < sM S) :
    ∃ M', fX8_cutOff t (nI a) M = some (nI (xN S a), M') ∧ gFr (fun c _ => Dcf t c) M M' ∧ CS M' t (sCut S a) := by
  obtain ⟨y1, y2, y3⟩ := h.2.2.1.1 a ha
  have hW := sCut_W h.2 ha
  have hn := h.2.1.1
  have hm := h.2.1.2.1
  have hg := h.2.1.2.2.1
  have hpo : xO S a < sG S := h.2.p y1
  have e1 := cs_fr h ha
  have e2 : M.1 (t + 8) (sFr S a) = nI (xO S a) := cs_pl h y1
  have e3 := cs_isInner h ha
  obtain ⟨M4, e4, F4, C4⟩ := cs_dropArrow (CS_CI h) hn hm h.2.2.1 ha
  have v5 := C4.2.1 1 (by omega)
  have C6 : CI (gL M4 (t + 9) 1 (lN (sAc S 1 + 1))) t (sLess S a) (upN (sAc S) 1 (sAc S 1 + 1)) (sG S) (sPl S) := CI_gL C4
  have F6 : gFr (fun c _ => Dcf t c) M (gL M4 (t + 9) 1 (lN (sAc S 1 + 1))) := gFr_trL (gFr_mo F4 (fun c k z => by unfold Ddr at z; unfold Dcf; omega)) (by unfold Dcf; omega)
  have hs : fX8_cutOff t (nI a) M = (some (gL M4 (t + 9) 1 (lN (sAc S 1 + 1)))).bind fun M6 => if ib (sIn S a) = 0 then (some ((0 : Int32), M6)) else (wF M6 45 1 (0 : Int32)).bind fun M8 => (fX7_putPlaces 45 t (0 : Int32) (nI (xO S a)) M8).bind fun v9 => (rI v9 (t + 7) 24 (nI (xO S a))).bind fun v10 => (fX8_putParts t v10 (t + 6) v9).bind fun v11 => if v11.1 ≤ (1 : Int32) then (some (v11.1, v11.2)) else (fX7_putPlaces 45 t (nI (xO S a) + (1 : Int32)) (v11.2.1 t 11) v11.2).bind fun v13 => (fX2_takeOrder t 45 v13).bind fun v14 => (fX8_sortPart t (nI (xO S a)) (nI (xO S a) + v11.1) v14).bind fun v15 => (fX2_takeOrder t 45 v15).bind fun v16 => (rL v16 (t + 9) 9 (7 : Int32)).bind fun v17 => (wL v16 (t + 9) 9 (7 : Int32) (v17 + v11.1.toInt64)).bind fun M18 => some (v11.1, M18) := by
    unfold fX8_cutOff
    rw [p_rI (by omega) (by omega), p_bnd, e1, p_rI (by omega) (by omega), p_bnd, e2, e3, p_bnd, e4, p_bnd]
    rw [show rL M4 (t + 9) 9 (1 : Int32) = some (lN (sAc S 1)) from (p_rL (k := 1) (by omega) (by omega)).trans (congrArg some v5), p_bnd]
    rw [show lN (sAc S 1) + (1 : Int64) = lN (sAc S 1 + 1) from lN_1 _]
    rw [show wL M4 (t + 9) 9 (1 : Int32) (lN (sAc S 1 + 1)) = some (gL M4 (t + 9) 1 (lN (sAc S 1 + 1))) from p_wL (k := 1) (by omega) (by omega)]
  rw [hs, p_bnd]
  cases hin : sIn S a
  · refine ⟨_, ?_, F6, CI_cut C6 (by rw [sCut_g, if_neg (by rw [hin]; decide)]) (fun u _ => by rw [sCut_pl, if_neg (by rw [hin]; decide)]) (fun k _ => cut_ac0 hin k), hW⟩
    unfold xN
    rw [if_pos (show ib false = 0 from rfl), hin, if_neg (by decide)]; rfl
  have hP := xL_pos h.2 ha
  have hfit := xL_fit h.2 ha hin
  have hL := xOK_L (S := S) (a := a)
  have hS := xOK_S h.2 ha
  have exN : xN S a = (xL S a).length := by unfold xN; rw [hin, if_pos rfl]
  rw [exN, if_neg (show ¬ ib true = 0 by decide), show (0 : Int32) = nI 0 from rfl, p_wF, p_bnd]
  generalize gL M4 (t + 9) 1 (lN (sAc S 1 + 1)) = M6 at C6 F6
  have mD : ∀ c k, Drow 45 c k → Dso c k := fun c k z => by unfold Drow at z; unfold Dso; omega
  have mC : ∀ c k, Dso c k → Dcf t c := fun c k z => by unfold Dso at z; unfold Dcf; omega
  have mT : ∀ c k, ((c = t ∧ k = 11) ∨ c = t + 7 ∨ c = t + 8) → Dcf t c := fun c k z => by unfold Dcf; omega
  have F8 : gFr Dso M6 (gI M6 45 1 (nI 0)) := gFr_I (Or.inl ⟨rfl, rfl⟩)
  have R8 : RW (gI M6 45 1 (nI 0)) 45 [] := ⟨p_gI_s _ _ _ _, fun k v z => by simp at z⟩
  have C8 := CI_so C6 ht F8
  obtain ⟨M9, e9, F9, R9⟩ := cw_putPlaces (mb := mbP (sN S) (sPl S)) (t := t) R8 (f := 0) (e := xO S a) (by omega) (by omega) (by simp; omega) (by omega) (fun p _ p2 => CI_mb C8 (by omega))
  rw [List.nil_append, Nat.sub_zero, ← List.range_eq_range'] at R9
  have C9 := CI_so C8 ht (gFr_mo F9 mD)
  have e10 : M9.1 (t + 7) (xO S a) = mbP (sN S) (sPl S) (xO S a) := CI_mb C9 hpo
  obtain ⟨M11, e11, F11, R11⟩ := cp_putParts (R := sR (sLess S a)) (n := sN S) (w := t) (c := t + 6) (M := M9) (G := fun u => decide (sPl S u = xO S a)) (x := mbP (sN S) (sPl S) (xO S a)) (fun _ => gRc.rf) (fun _ _ _ => gRc.tr) (xG_cl h.2 ha) C9.1.1 hn (by omega) ⟨by omega, by omega⟩ (fun v hv => by simp only [mbP_bt hv, decide_eq_true_eq]) (fun u hu v hv => (C9.2.2.2.2 u hu).2.2.2.2 v hv) R9 (by
    rw [List.length_map, List.length_range]
    show xO S a + (xL S a).length ≤ 24
    omega) (by omega)
  have hLx : gHs (hdR (sR (sLess S a)) (sN S)) (sN S) (fun u => decide (sPl S u = xO S a)) = xL S a := rfl
  rw [hLx] at e11 R11
  have C11 := CI_so C9 ht (gFr_mo F11 mD)
  have F11' : gFr (fun c _ => Dcf t c) M M11 := gFr_tr F6 (gFr_mo (gFr_tr F8 (gFr_tr (gFr_mo F9 mD) (gFr_mo F11 mD))) mC)
  rw [e9, p_bnd, p_rI (by omega) (by omega), p_bnd, e10, e11, p_bnd]
  by_cases h1 : (xL S a).length = 1
  · refine ⟨M11, ?_, F11', CI_cut C11 (by rw [sCut_g, if_pos hin]; omega) (fun u hu => by rw [sCut_pl, if_pos hin]; exact xP_one h.2 ha h1 hu) (fun k _ => cut_ac1 hin h1 k), hW⟩
    rw [if_pos]
    rw [h1]
    show nI 1 ≤ (1 : Int32)
    decide
  have hgt : ¬ nI (xL S a).length ≤ (1 : Int32) := by
    rw [show (1 : Int32) = nI 1 from rfl, p_le (by omega) (by omega)]; omega
  obtain ⟨M13, e13, F13, R13⟩ := cw_putPlaces (mb := mbP (sN S) (sPl S)) (t := t) R11 (f := xO S a + 1) (e := sG S) (by omega) (by omega) (by
    rw [List.length_append, List.length_map, List.length_map, List.length_range]; omega) (by omega) (fun p _ p2 => CI_mb C11 p2)
  have C13 := CI_so C11 ht (gFr_mo F13 mD)
  have R13' : RW M13 45 (xW1 S a) := R13
  have l1 := xW1_len h.2 ha
  obtain ⟨M14, e14, F14, C14⟩ := CI_take C13 hn R13' (by omega) (by omega) (xW1_bits h.2 ha) (fun v hv => by rw [l1]; exact xQ_lt h.2 ha hL hv)
  rw [l1] at C14
  have hsel := xL_gHs h.2 ha
  have hld := xL_ldH h.2 ha hL
  obtain ⟨M15, e15, F15, R15, -⟩ := cs_sortPart (first := xO S a) (last := xO S a + (xL S a).length) C14 hn (Nat.le_trans (Nat.sub_le _ _) hm) (sLess_W1 h.2.2.1 ha) (by omega) (fun u hu => xQ_lt h.2 ha hL hu) (fun p hp => by
    obtain ⟨x, hx⟩ : ∃ x, (xW1 S a)[p]? = some x := ⟨_, List.getElem?_eq_getElem (by rw [l1]; exact hp)⟩
    rcases Nat.lt_or_ge p (xO S a) with q | q
    · obtain ⟨z, z1, z2⟩ := h.2.2.2.1.2 p (by omega)
      exact ⟨z, z1, (xQ_lo q).mpr z2⟩
    · rcases Nat.lt_or_ge p (xO S a + (xL S a).length) with q2 | q2
      · have hy : (xL S a)[p - xO S a]? = some (xL S a)[p - xO S a] := List.getElem?_eq_getElem (by omega)
        obtain ⟨b1, b2, b3⟩ := xL_mem.mp (List.mem_of_getElem? hy)
        refine ⟨_, b1, ?_⟩
        have := (xQ_mid h.2 ha hL b1 hy).mpr ⟨b2, by rw [xH_in b2]; exact b3⟩
        omega
      · obtain ⟨z, z1, z2⟩ := h.2.2.2.1.2 (p - ((xL S a).length - 1)) (by omega)
        exact ⟨z, z1, (xQ_hi h.2 ha hL z1 q2).mpr (by omega)⟩) ht (by omega) (by omega) (by
    show gSrc (ldH (sLess S a) (hdP (xQ S a (xL S a)) (sN S))) (gHs (hdP (xQ S a (xL S a)) (sN S)) (sN S) (inP (xQ S a (xL S a)) (xO S a) (xO S a + (xL S a).length)))
    rw [hsel, hld]; exact xSrc h.2 ha)
  have R15' : RW M15 45 (xW2 S a) := by
    have R15 : RW M15 45 ((List.range (xO S a)).map (mbP (sN S) (xQ S a (xL S a))) ++ (selS (ldH (sLess S a) (hdP (xQ S a (xL S a)) (sN S))) (xO S a + (xL S a).length - xO S a) (gHs (hdP (xQ S a (xL S a)) (sN S)) (sN S) (inP (xQ S a (xL S a)) (xO S a) (xO S a + (xL S a).length)))).map (fun x => mbP (sN S) (xQ S a (xL S a)) (xQ S a (xL S a) x)) ++ (List.range' (xO S a + (xL S a).length) (sG S + ((xL S a).length - 1) - (xO S a + (xL S a).length))).map (mbP (sN S) (xQ S a (xL S a)))) := R15
    rw [hsel, hld, Nat.add_sub_cancel_left] at R15
    exact R15
  have C15 := CI_so C14 ht F15
  have l2 := xW2_len h.2 ha
  obtain ⟨M16, e16, F16, C16⟩ := CI_take C15 hn R15' (by omega) (by omega) (xW2_bits h.2 ha) (fun v hv => by rw [l2]; exact xQ_lt h.2 ha hS hv)
  rw [l2] at C16
  have v17 : M16.2.1 (t + 9) 7 = lN (sAc S 7) := C16.2.1 7 (by omega)
  have C18 : CI (gL M16 (t + 9) 7 (lN (sAc S 7 + (xL S a).length))) t (sLess S a) (upN (upN (sAc S) 1 (sAc S 1 + 1)) 7 (sAc S 7 + (xL S a).length)) (sG S + ((xL S a).length - 1)) (xQ S a (xS S a)) := CI_gL C16
  refine ⟨_, ?_, ?_, CI_cut C18 (by rw [sCut_g, if_pos hin]) (fun u hu => by rw [sCut_pl, if_pos hin, xP_xQ]) (fun k _ => cut_ac2 hin h1 k), hW⟩
  · rw [if_neg hgt]
    rw [show nI (xO S a) + (1 : Int32) = nI (xO S a + 1) from nI_add _ _, C11.1.2.2.1, e13, p_bnd, e14, p_bnd, nI_add, e15, p_bnd, e16, p_bnd]
    rw [show rL M16 (t + 9) 9 (7 : Int32) = some (lN (sAc S 7)) from (p_rL (k := 7) (by omega) (by omega)).trans (congrArg some v17), p_bnd, nI_l (by omega), lN_add]
    rw [show wL M16 (t + 9) 9 (7 : Int32) (lN (sAc S 7 + (xL S a).length)) = some (gL M16 (t + 9) 7 (lN (sAc S 7 + (xL S a).length))) from p_wL (k := 7) (by omega) (by omega), p_bnd]
  · exact gFr_trL (gFr_tr F11' (gFr_tr (gFr_mo (gFr_mo F13 mD) mC) (gFr_tr (gFr_mo F14 mT) (gFr_tr (gFr_mo F15 mC) (gFr_mo F16 mT))))) (by unfold Dcf; omega)
end CC
