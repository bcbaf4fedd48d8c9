/-! AN ARROW COMES: the reference repairs and counts what moved -/
section RC
variable {M : gMem} {S : gS} {a b mode : Nat}
theorem RAB_p (S : gS) (a b : Nat) : RAB (sPl S b) (sPl S a) (wBh S a b) (wAh S a b) (pA S a b) (pB S a b) := ⟨fun _ _ => ⟨rfl, rfl⟩, fun _ h z => w_out h z⟩
theorem rp_ordersPart (h : RS M S) (ha : a < sN S) (hb : b < sN S) (hlt : sPl S b < sPl S a) (hp : RQ M (sPl S b) (sPl S a) (wBh S a b) (wAh S a b)) (hm : sMo S = mode) : ∃ M', fX11_ordersPart M = some M' ∧ gFr Dpw M M' ∧ PW M' ((pIt S a b mode).map (rfI (sPl S b))) := by
  have hn := h.2.1.1
  have hg := h.2.1.2.2.1
  have hm2 := h.2.1.2.2.2.1
  have pa := h.2.p ha
  have pb := h.2.p hb
  have F0 : gFr Dpw M (gI M 0 16 (nI 0)) := gFr_I (Or.inl ⟨rfl, rfl⟩)
  have hp0 := RQ_fr hp F0
  have P0 : PW (gI M 0 16 (nI 0)) [] := ⟨p_gI_s _ _ _ _, fun k v z => by simp at z⟩
  have e3 : (gI M 0 16 (nI 0)).1 1 3 = nI mode := by rw [p_gI_n (Or.inl (by decide)), ← hm]; exact h.1.1.2.2.2.1
  have hab := RAB_p S a b
  have hlen : pLn S a b = sPl S a + 1 - sPl S b := rfl
  have cnt := i_sum (pA S a b) (pB S a b) (pLn S a b)
  have sN1 : fb_ct (fun k => !pB S a b k) (pLn S a b) + fb_ct (iB (pA S a b) (pB S a b)) (pLn S a b) + fb_ct (iJ (pA S a b) (pB S a b)) (pLn S a b) = pLn S a b := fb_add fun k _ => by
    unfold iB iJ; cases pA S a b k <;> cases pB S a b k <;> rfl
  have sN2 : fb_ct (iA (pA S a b) (pB S a b)) (pLn S a b) + fb_ct (fun k => !pA S a b k) (pLn S a b) + fb_ct (iJ (pA S a b) (pB S a b)) (pLn S a b) = pLn S a b := fb_add fun k _ => by
    unfold iA iJ; cases pA S a b k <;> cases pB S a b k <;> rfl
  have nJ : (iN (pA S a b) (pB S a b) (pLn S a b)).length ≤ fb_ct (iJ (pA S a b) (pB S a b)) (pLn S a b) := by
    unfold iN
    by_cases c : 0 < fb_ct (iJ (pA S a b) (pB S a b)) (pLn S a b)
    · rw [if_pos c]; exact c
    · rw [if_neg c]; exact Nat.zero_le _
  have xAf : ∀ k, k < sPl S a + 1 - sPl S b → bt (mkS (fun p => decide (sPl S b ≤ p ∧ p ≤ sPl S a))) (sPl S b + k) = true := fun k hk => by
    rw [mkS_bt (by omega), decide_eq_true_eq]; omega
  rcases (show mode = 0 ∨ mode = 1 ∨ mode = 2 by omega) with rfl | rfl | rfl
  · obtain ⟨M1, e1, F1, P1⟩ := rp_deals P0 hp0 hab (by omega) (by omega) rfl
    refine ⟨M1, ?_, gFr_tr F0 F1, P1⟩
    simp (disch := omega) only [p_bnd, p_nm, p_gSEl, p_gSEr, p_l0, p_l1, p_l2, p_l3, p_l4, p_l5, p_l6, p_l7, p_l8, p_l9, p_l10, p_l14, p_l16, p_l20, p_l22, p_l24, p_l30, p_l31, p_l32, p_l38, p_l40, p_l41, p_l43, p_l48, p_l57, p_l59, p_l60, p_l61, p_l62, p_l63, p_l97, p_l98, p_l101, p_l122, p_l158, p_l201, p_l255, p_l256, p_l374, p_l880, p_l900, p_l1000, p_l2618, p_neg, nI_add, p_mul, p_sub, p_addm, p_addm0, p_subm, p_le, p_lt, p_eq, p_mO_eq, p_eq_mO, p_mO_lt, p_nlt_mO, p_mO_le, p_le_mO, p_rI, p_rL, p_wI, p_wL, p_wF, p_has10, p_has11, p_ib0, p_ib1, p_shl1, p_zv0, p_zv1, p_zvib, p_ibd, p_ibn, if_pos, if_neg, if_true, if_false, ne_eq, not_true, not_false_iff, Decidable.not_not, Nat.not_lt, Nat.not_le, Bool.true_eq_false, Bool.false_eq_true, eq_self, reduceIte, Nat.reduceAdd, Nat.reduceMul, Nat.reduceSub, Nat.reduceEqDiff, Nat.reduceLT, Nat.reduceLeDiff, reduceCtorEq, fX11_ordersPart, e3, e1]
  · obtain ⟨M1, e1, F1, P1⟩ := rp_addsAll P0 hp0 (by omega) (by omega) (mkS (fun p => decide (sPl S b ≤ p ∧ p ≤ sPl S a)) &&& (wBh S a b ^^^ mO 1)) (f := fun k => !pB S a b k) (fun k hk => by rw [b_and, xAf k hk, p_not _ (by omega)]; rfl) (by rw [← hlen]; simp; omega)
    have hp1 := RQ_fr hp0 F1
    rw [← hlen] at P1
    obtain ⟨M2, e2, F2, P2⟩ := rp_addsJoined P1 hp1 hab (by omega) (by
      rw [List.length_append, List.length_map, List.length_map, filter_len]
      have h1 : 0 < fb_ct (pB S a b) (pLn S a b) := fb_ct_pos.mpr ⟨0, by omega, (tB h.2 ha hb hb).mpr ⟨by omega, by omega, gRc.rf⟩⟩
      have := fb_ct_not (pB S a b) (pLn S a b)
      simp; omega)
    have hp2 := RQ_fr hp1 F2
    rw [← hlen] at P2
    obtain ⟨M3, e4, F3, P3⟩ := rp_addsAll P2 hp2 (by omega) (by omega) (wBh S a b &&& (wAh S a b ^^^ mO 1)) (f := iB (pA S a b) (pB S a b)) (fun k hk => by rw [b_and, p_not _ (by omega)]; rfl) (by
      rw [← hlen]
      simp [filter_len]; omega)
    refine ⟨M3, ?_, gFr_tr F0 (gFr_tr F1 (gFr_tr F2 F3)), ?_⟩
    · unfold fX11_ordersPart
      rw [show (0 : Int32) = nI 0 from rfl, p_wF, p_bnd, show (3 : Int32) = nI 3 from rfl, p_rI (by omega) (by omega), p_bnd, e3, if_neg (by rw [p_eq (by omega) (by omega)]; omega), p_bnd, show (-1 : Int32) = mO 1 from rfl, show (1 : Int32) = nI 1 from rfl, if_pos rfl, rp_affected hp0 (by omega) (by omega), p_bnd, hp0.2.2.1, e1, p_bnd, e2, p_bnd, hp2.2.2.1, hp2.2.2.2, e4, p_bnd]
    · unfold pIt itL
      rw [if_neg (by decide), if_pos rfl, List.map_append, List.map_append]
      rw [← hlen] at P3
      exact P3
  · obtain ⟨M1, e1, F1, P1⟩ := rp_addsAll P0 hp0 (by omega) (by omega) (wAh S a b &&& (wBh S a b ^^^ mO 1)) (f := iA (pA S a b) (pB S a b)) (fun k hk => by rw [b_and, p_not _ (by omega)]; rfl) (by rw [← hlen]; simp; omega)
    have hp1 := RQ_fr hp0 F1
    rw [← hlen] at P1
    obtain ⟨M2, e2, F2, P2⟩ := rp_addsJoined P1 hp1 hab (by omega) (by
      rw [List.length_append, List.length_map, List.length_map, filter_len]
      have h1 : 0 < fb_ct (pB S a b) (pLn S a b) := fb_ct_pos.mpr ⟨0, by omega, (tB h.2 ha hb hb).mpr ⟨by omega, by omega, gRc.rf⟩⟩
      have h2 := fb_add (f := pB S a b) (g := iA (pA S a b) (pB S a b)) (h := fun k => !pA S a b k && !pB S a b k) (n := pLn S a b) (fun k _ => by unfold iA; cases pA S a b k <;> cases pB S a b k <;> rfl)
      simp; omega)
    have hp2 := RQ_fr hp1 F2
    rw [← hlen] at P2
    obtain ⟨M3, e4, F3, P3⟩ := rp_addsAll P2 hp2 (by omega) (by omega) (mkS (fun p => decide (sPl S b ≤ p ∧ p ≤ sPl S a)) &&& (wAh S a b ^^^ mO 1)) (f := fun k => !pA S a b k) (fun k hk => by rw [b_and, xAf k hk, p_not _ (by omega)]; rfl) (by
      rw [← hlen]
      simp [filter_len]; omega)
    refine ⟨M3, ?_, gFr_tr F0 (gFr_tr F1 (gFr_tr F2 F3)), ?_⟩
    · unfold fX11_ordersPart
      rw [show (0 : Int32) = nI 0 from rfl, p_wF, p_bnd, show (3 : Int32) = nI 3 from rfl, p_rI (by omega) (by omega), p_bnd, e3, if_neg (by rw [p_eq (by omega) (by omega)]; omega), p_bnd, show (-1 : Int32) = mO 1 from rfl, show (1 : Int32) = nI 1 from rfl, if_neg (by rw [p_eq (by omega) (by omega)]; omega), hp0.2.2.1, hp0.2.2.2, e1, p_bnd, e2, p_bnd, rp_affected hp2 (by omega) (by omega), p_bnd, hp2.2.2.2, e4, p_bnd]
    · unfold pIt itL
      rw [if_neg (by decide), if_neg (by decide), List.map_append, List.map_append]
      rw [← hlen] at P3
      exact P3
theorem pMv_f : ∃ f : Nat → Bool, pMv S a b mode = fb_ct f (pIt S a b mode).length ∧ ∀ k x, (pIt S a b mode)[k]? = some x → f k = !decide (mbI (sMb S) (wJn S a b) (sPl S b) x = sMb S (sPl S b + k)) := ⟨_, rfl, fun k x hx => by simp only [hx]⟩
theorem sMid_2 (h : sW S) (ha : a < sN S) (hb : b < sN S) (hlt : sPl S b < sPl S a) : sW2 (sMid S a b mode) :=
  ⟨fun t ht => List.idxOf_lt_length_iff.mpr (pKey_mem h ha hb hlt ht), fun p hp => by
    obtain ⟨t, t1, t2⟩ := pKey_sur (mode := mode) h ha hb (List.getElem_mem hp)
    refine ⟨t, t1, ?_⟩
    show (pL S a b mode).idxOf (pKey S a b t) = p
    exact idx_nd (pL_nd hlt) (by rw [t2]; exact List.getElem?_eq_getElem hp)⟩
theorem pL_mid {k : Nat} {x : Option Nat} (hx : (pIt S a b mode)[k]? = some x) : (pL S a b mode)[sPl S b + k]? = some (Option.map (fun k => sPl S b + k) x) := by
  have hk := (List.getElem?_eq_some_iff.mp hx).1
  unfold pL
  rw [List.append_assoc, List.getElem?_append_right (by simp), List.getElem?_append_left (by simp; omega)]
  simp only [List.length_map, List.length_range, Nat.add_sub_cancel_left]
  rw [List.getElem?_map, hx]; rfl
theorem mbI_A {x : Option Nat} : mbI (sMb S) (wJn S a b) (sPl S b) x = mbA S a b (Option.map (fun k => sPl S b + k) x) := by cases x <;> rfl
/-- a group has moved if one of its tasks has another place now -/
theorem moved_iff (h : sW S) (ha : a < sN S) (hb : b < sN S) (hlt : sPl S b < sPl S a) {k : Nat} {x : Option Nat} (hx : (pIt S a b mode)[k]? = some x) (hk : sPl S b + k < 24) :
    (0 < fb_ct (fun u => bt (mbI (sMb S) (wJn S a b) (sPl S b) x) u && !decide (sPl S u = sPl S b + k)) (sN S)) ↔ ¬ mbI (sMb S) (wJn S a b) (sPl S b) x = sMb S (sPl S b + k) := by
  have hn := h.1.1
  have hL := pL_mid hx
  have hbits : ∀ v, v < 32 → (bt (mbI (sMb S) (wJn S a b) (sPl S b) x) v = true ↔ v < sN S ∧ nPl S a b mode v = sPl S b + k) := fun v hv => by
    refine pL_bits h ha hb hlt ?_ hv
    rw [List.getElem?_map, hL, mbI_A]; rfl
  rw [fb_ct_pos]
  constructor
  · rintro ⟨u, hu, hz⟩ e
    rw [Bool.and_eq_true, e, sMb_bt (by omega), decide_eq_true_eq] at hz
    simp [hz.1.2] at hz
  · intro hne
    refine Classical.byContradiction fun hz => hne ?_
    have hall : ∀ v, v < sN S → bt (mbI (sMb S) (wJn S a b) (sPl S b) x) v = true → sPl S v = sPl S b + k := fun v hv hb2 => by
      refine Classical.byContradiction fun q => hz ⟨v, hv, ?_⟩
      rw [hb2, decide_eq_false q]; rfl
    obtain ⟨t, t1, t2⟩ := pKey_sur (mode := mode) h ha hb (List.mem_of_getElem? hL)
    have ht : bt (mbI (sMb S) (wJn S a b) (sPl S b) x) t = true := (hbits t (by omega)).mpr ⟨t1, by unfold nPl; rw [t2]; exact idx_nd (pL_nd hlt) hL⟩
    have hpt := hall t t1 ht
    cases x with
    | some j =>
      have this : sPl S t = sPl S b + j := (pKey_some.mp t2).1
      show sMb S (sPl S b + j) = _
      rw [← this, hpt]
    | none =>
      have hk2 := pKey_none.mp t2
      rw [hpt] at hk2
      refine b_ext fun v hv => ?_
      rw [sMb_bt hv]
      cases hbv : bt (mbI (sMb S) (wJn S a b) (sPl S b) none) v
      · symm
        rw [decide_eq_false_iff_not]
        rintro ⟨z1, z2⟩
        have hbv : bt (wJn S a b) v = false := hbv
        unfold wJn at hbv
        rw [mkS_bt hv, z2, hk2.1, hk2.2] at hbv
        simp [z1] at hbv
      · have z := (hbits v hv).mp hbv
        rw [decide_eq_true ⟨z.1, hall v z.1 hbv⟩]
theorem rp_moved (hS : sW S) (ha : a < sN S) (hb : b < sN S) (hlt : sPl S b < sPl S a) (hR : RR (M.1 1) (sMid S a b mode)) (h10 : M.1 0 10 = nI (sPl S b)) (h16 : M.1 0 16 = nI (pIt S a b mode).length) (hpt : ∀ t, t < sN S → M.1 10 t = nI (sPl S t)) : fX11_movedFrom M = some (nI (pMv S a b mode)) := by
  have hn := hS.1.1
  have hg := hS.1.2.2.1
  have pa := hS.p ha
  have hlen := pIt_len hS ha hb (mode := mode)
  have hll := pL_len hS ha hb hlt (mode := mode)
  unfold pLn at hlen
  have h2 := sMid_2 (mode := mode) hS ha hb hlt
  have hH : RH (M.1 1) (sN S) (fun t => sHd (sMid S a b mode) (nPl S a b mode t)) := ⟨hR.1.1, hn, fun t ht => ⟨(hR.2.2.2.2 t ht).2.1, Nat.lt_of_lt_of_le (sHd_ok h2 (h2.1 t ht)).1 hn⟩⟩
  have en : M.1 1 0 = nI (sN S) := hR.1.1
  obtain ⟨f, hf, hfx⟩ := pMv_f (S := S) (a := a) (b := b) (mode := mode)
  have e := gLoop_f (body := fun z9 => fX11_movedFrom_l7 M z9.1 z9.2) (fun k => (nI (fb_ct f k), nI (sPl S b + k))) (r := nI (fb_ct f (pIt S a b mode).length)) (pIt S a b mode).length gFu (by show _ < 4096; omega) (fun k hk => by
    obtain ⟨x, hx⟩ : ∃ x, (pIt S a b mode)[k]? = some x := ⟨_, List.getElem?_eq_getElem hk⟩
    have hL := pL_mid hx
    have hp : sPl S b + k < (pL S a b mode).length := (List.getElem?_eq_some_iff.mp hL).1
    have hmem : fX11_membersAt (nI (sPl S b + k)) M = some (mbI (sMb S) (wJn S a b) (sPl S b) x) := by
      have ho : M.1 1 (14 + (sPl S b + k)) = nI (sHd (sMid S a b mode) (sPl S b + k)) := hR.2.2.1 _ hp
      have hq := (sHd_ok h2 (p := sPl S b + k) hp).1
      have hq2 : sN (sMid S a b mode) = sN S := rfl
      have hmm := r_members (M := M) hH (a := sHd (sMid S a b mode) (sPl S b + k)) (by omega)
      simp (disch := omega) only [p_bnd, p_nm, p_gSEl, p_gSEr, p_l0, p_l1, p_l2, p_l3, p_l4, p_l5, p_l6, p_l7, p_l8, p_l9, p_l10, p_l14, p_l16, p_l20, p_l22, p_l24, p_l30, p_l31, p_l32, p_l38, p_l40, p_l41, p_l43, p_l48, p_l57, p_l59, p_l60, p_l61, p_l62, p_l63, p_l97, p_l98, p_l101, p_l122, p_l158, p_l201, p_l255, p_l256, p_l374, p_l880, p_l900, p_l1000, p_l2618, p_neg, nI_add, p_mul, p_sub, p_addm, p_addm0, p_subm, p_le, p_lt, p_eq, p_mO_eq, p_eq_mO, p_mO_lt, p_nlt_mO, p_mO_le, p_le_mO, p_rI, p_rL, p_wI, p_wL, p_wF, p_has10, p_has11, p_ib0, p_ib1, p_shl1, p_zv0, p_zv1, p_zvib, p_ibd, p_ibn, if_pos, if_neg, if_true, if_false, ne_eq, not_true, not_false_iff, Decidable.not_not, Nat.not_lt, Nat.not_le, Bool.true_eq_false, Bool.false_eq_true, eq_self, reduceIte, Nat.reduceAdd, Nat.reduceMul, Nat.reduceSub, Nat.reduceEqDiff, Nat.reduceLT, Nat.reduceLeDiff, reduceCtorEq, fX11_membersAt, ho, hmm]
      refine congrArg some (mkS_of fun v hv => ?_).symm
      have hbits := pL_bits hS ha hb hlt (mode := mode) (p := sPl S b + k) (x := mbI (sMb S) (wJn S a b) (sPl S b) x) (by rw [List.getElem?_map, hL, mbI_A]; rfl) hv
      cases hbv : bt (mbI (sMb S) (wJn S a b) (sPl S b) x) v
      · symm
        rw [decide_eq_false_iff_not]
        rintro ⟨z1, z2⟩
        rw [hbits.mpr ⟨z1, sHd_inj h2 (h2.1 v z1) hp z2⟩] at hbv; cases hbv
      · symm
        rw [decide_eq_true_eq]
        obtain ⟨z1, z2⟩ := hbits.mp hbv
        exact ⟨z1, by rw [z2]⟩
    have hin := gLoop_f (body := fun z9 => fX11_movedFrom_l32 (nI (fb_ct f k)) (nI (sPl S b + k)) (mbI (sMb S) (wJn S a b) (sPl S b) x) M z9.1 z9.2) (fun t => (ib (decide (0 < fb_ct (fun u => bt (mbI (sMb S) (wJn S a b) (sPl S b) x) u && !decide (sPl S u = sPl S b + k)) t)), nI t)) (r := ib (decide (0 < fb_ct (fun u => bt (mbI (sMb S) (wJn S a b) (sPl S b) x) u && !decide (sPl S u = sPl S b + k)) (sN S)))) (sN S) gFu (by show sN S < 4096; omega) (fun t ht => by
      have hp2 := hS.p ht
      have hptt := hpt t ht
      by_cases c : 0 < fb_ct (fun u => bt (mbI (sMb S) (wJn S a b) (sPl S b) x) u && !decide (sPl S u = sPl S b + k)) t
      · have c' : 0 < fb_ct (fun u => bt (mbI (sMb S) (wJn S a b) (sPl S b) x) u && !decide (sPl S u = sPl S b + k)) (t + 1) := by rw [fb_ct_succ]; omega
        rw [decide_eq_true c, decide_eq_true c']
        simp (disch := omega) only [p_bnd, p_nm, p_gSEl, p_gSEr, p_l0, p_l1, p_l2, p_l3, p_l4, p_l5, p_l6, p_l7, p_l8, p_l9, p_l10, p_l14, p_l16, p_l20, p_l22, p_l24, p_l30, p_l31, p_l32, p_l38, p_l40, p_l41, p_l43, p_l48, p_l57, p_l59, p_l60, p_l61, p_l62, p_l63, p_l97, p_l98, p_l101, p_l122, p_l158, p_l201, p_l255, p_l256, p_l374, p_l880, p_l900, p_l1000, p_l2618, p_neg, nI_add, p_mul, p_sub, p_addm, p_addm0, p_subm, p_le, p_lt, p_eq, p_mO_eq, p_eq_mO, p_mO_lt, p_nlt_mO, p_mO_le, p_le_mO, p_rI, p_rL, p_wI, p_wL, p_wF, p_has10, p_has11, p_ib0, p_ib1, p_shl1, p_zv0, p_zv1, p_zvib, p_ibd, p_ibn, if_pos, if_neg, if_true, if_false, ne_eq, not_true, not_false_iff, Decidable.not_not, Nat.not_lt, Nat.not_le, Bool.true_eq_false, Bool.false_eq_true, eq_self, reduceIte, Nat.reduceAdd, Nat.reduceMul, Nat.reduceSub, Nat.reduceEqDiff, Nat.reduceLT, Nat.reduceLeDiff, reduceCtorEq, fX11_movedFrom_l32, fX11_movedFrom_b68, fX11_movedFrom_b73, en]
        rfl
      · have c0 : fb_ct (fun u => bt (mbI (sMb S) (wJn S a b) (sPl S b) x) u && !decide (sPl S u = sPl S b + k)) t = 0 := by omega
        rw [decide_eq_false c, fb_ct_succ, c0]
        cases hbt : bt (mbI (sMb S) (wJn S a b) (sPl S b) x) t
        · simp (disch := omega) only [p_bnd, p_nm, p_gSEl, p_gSEr, p_l0, p_l1, p_l2, p_l3, p_l4, p_l5, p_l6, p_l7, p_l8, p_l9, p_l10, p_l14, p_l16, p_l20, p_l22, p_l24, p_l30, p_l31, p_l32, p_l38, p_l40, p_l41, p_l43, p_l48, p_l57, p_l59, p_l60, p_l61, p_l62, p_l63, p_l97, p_l98, p_l101, p_l122, p_l158, p_l201, p_l255, p_l256, p_l374, p_l880, p_l900, p_l1000, p_l2618, p_neg, nI_add, p_mul, p_sub, p_addm, p_addm0, p_subm, p_le, p_lt, p_eq, p_mO_eq, p_eq_mO, p_mO_lt, p_nlt_mO, p_mO_le, p_le_mO, p_rI, p_rL, p_wI, p_wL, p_wF, p_has10, p_has11, p_ib0, p_ib1, p_shl1, p_zv0, p_zv1, p_zvib, p_ibd, p_ibn, if_pos, if_neg, if_true, if_false, ne_eq, not_true, not_false_iff, Decidable.not_not, Nat.not_lt, Nat.not_le, Bool.true_eq_false, Bool.false_eq_true, eq_self, reduceIte, Nat.reduceAdd, Nat.reduceMul, Nat.reduceSub, Nat.reduceEqDiff, Nat.reduceLT, Nat.reduceLeDiff, reduceCtorEq, fX11_movedFrom_l32, fX11_movedFrom_b72, fX11_movedFrom_b73, en, hbt]
          rfl
        · by_cases c2 : sPl S t = sPl S b + k
          · simp (disch := omega) only [p_bnd, p_nm, p_gSEl, p_gSEr, p_l0, p_l1, p_l2, p_l3, p_l4, p_l5, p_l6, p_l7, p_l8, p_l9, p_l10, p_l14, p_l16, p_l20, p_l22, p_l24, p_l30, p_l31, p_l32, p_l38, p_l40, p_l41, p_l43, p_l48, p_l57, p_l59, p_l60, p_l61, p_l62, p_l63, p_l97, p_l98, p_l101, p_l122, p_l158, p_l201, p_l255, p_l256, p_l374, p_l880, p_l900, p_l1000, p_l2618, p_neg, nI_add, p_mul, p_sub, p_addm, p_addm0, p_subm, p_le, p_lt, p_eq, p_mO_eq, p_eq_mO, p_mO_lt, p_nlt_mO, p_mO_le, p_le_mO, p_rI, p_rL, p_wI, p_wL, p_wF, p_has10, p_has11, p_ib0, p_ib1, p_shl1, p_zv0, p_zv1, p_zvib, p_ibd, p_ibn, if_pos, if_neg, if_true, if_false, ne_eq, not_true, not_false_iff, Decidable.not_not, Nat.not_lt, Nat.not_le, Bool.true_eq_false, Bool.false_eq_true, eq_self, reduceIte, Nat.reduceAdd, Nat.reduceMul, Nat.reduceSub, Nat.reduceEqDiff, Nat.reduceLT, Nat.reduceLeDiff, reduceCtorEq, fX11_movedFrom_l32, fX11_movedFrom_b72, fX11_movedFrom_b73, en, hbt, hptt, c2]
            simp [ib]
          · simp (disch := omega) only [p_bnd, p_nm, p_gSEl, p_gSEr, p_l0, p_l1, p_l2, p_l3, p_l4, p_l5, p_l6, p_l7, p_l8, p_l9, p_l10, p_l14, p_l16, p_l20, p_l22, p_l24, p_l30, p_l31, p_l32, p_l38, p_l40, p_l41, p_l43, p_l48, p_l57, p_l59, p_l60, p_l61, p_l62, p_l63, p_l97, p_l98, p_l101, p_l122, p_l158, p_l201, p_l255, p_l256, p_l374, p_l880, p_l900, p_l1000, p_l2618, p_neg, nI_add, p_mul, p_sub, p_addm, p_addm0, p_subm, p_le, p_lt, p_eq, p_mO_eq, p_eq_mO, p_mO_lt, p_nlt_mO, p_mO_le, p_le_mO, p_rI, p_rL, p_wI, p_wL, p_wF, p_has10, p_has11, p_ib0, p_ib1, p_shl1, p_zv0, p_zv1, p_zvib, p_ibd, p_ibn, if_pos, if_neg, if_true, if_false, ne_eq, not_true, not_false_iff, Decidable.not_not, Nat.not_lt, Nat.not_le, Bool.true_eq_false, Bool.false_eq_true, eq_self, reduceIte, Nat.reduceAdd, Nat.reduceMul, Nat.reduceSub, Nat.reduceEqDiff, Nat.reduceLT, Nat.reduceLeDiff, reduceCtorEq, fX11_movedFrom_l32, fX11_movedFrom_b68, fX11_movedFrom_b73, en, hbt, hptt]
            rw [decide_eq_false c2]; rfl) (by simp (disch := omega) only [p_bnd, p_nm, p_gSEl, p_gSEr, p_l0, p_l1, p_l2, p_l3, p_l4, p_l5, p_l6, p_l7, p_l8, p_l9, p_l10, p_l14, p_l16, p_l20, p_l22, p_l24, p_l30, p_l31, p_l32, p_l38, p_l40, p_l41, p_l43, p_l48, p_l57, p_l59, p_l60, p_l61, p_l62, p_l63, p_l97, p_l98, p_l101, p_l122, p_l158, p_l201, p_l255, p_l256, p_l374, p_l880, p_l900, p_l1000, p_l2618, p_neg, nI_add, p_mul, p_sub, p_addm, p_addm0, p_subm, p_le, p_lt, p_eq, p_mO_eq, p_eq_mO, p_mO_lt, p_nlt_mO, p_mO_le, p_le_mO, p_rI, p_rL, p_wI, p_wL, p_wF, p_has10, p_has11, p_ib0, p_ib1, p_shl1, p_zv0, p_zv1, p_zvib, p_ibd, p_ibn, if_pos, if_neg, if_true, if_false, ne_eq, not_true, not_false_iff, Decidable.not_not, Nat.not_lt, Nat.not_le, Bool.true_eq_false, Bool.false_eq_true, eq_self, reduceIte, Nat.reduceAdd, Nat.reduceMul, Nat.reduceSub, Nat.reduceEqDiff, Nat.reduceLT, Nat.reduceLeDiff, reduceCtorEq, fX11_movedFrom_l32, en])
    have hmv := moved_iff hS ha hb hlt hx (by omega)
    have hin' : gLoop (fun z9 => fX11_movedFrom_l32 (nI (fb_ct f k)) (nI (sPl S b + k)) (mbI (sMb S) (wJn S a b) (sPl S b) x) M z9.1 z9.2) gFu (nI 0, nI 0) = some (ib (f k)) := by
      rw [hfx k x hx]
      refine hin.trans ?_
      congr 2
      cases hd : decide (mbI (sMb S) (wJn S a b) (sPl S b) x = sMb S (sPl S b + k))
      · rw [decide_eq_true (hmv.mpr (of_decide_eq_false hd))]; rfl
      · rw [decide_eq_false (fun z => hmv.mp z (of_decide_eq_true hd))]; rfl
    have hcf := fb_ct_le f k
    cases hfk : f k
    · rw [hfk] at hin'
      simp (disch := omega) only [p_bnd, p_nm, p_gSEl, p_gSEr, p_l0, p_l1, p_l2, p_l3, p_l4, p_l5, p_l6, p_l7, p_l8, p_l9, p_l10, p_l14, p_l16, p_l20, p_l22, p_l24, p_l30, p_l31, p_l32, p_l38, p_l40, p_l41, p_l43, p_l48, p_l57, p_l59, p_l60, p_l61, p_l62, p_l63, p_l97, p_l98, p_l101, p_l122, p_l158, p_l201, p_l255, p_l256, p_l374, p_l880, p_l900, p_l1000, p_l2618, p_neg, nI_add, p_mul, p_sub, p_addm, p_addm0, p_subm, p_le, p_lt, p_eq, p_mO_eq, p_eq_mO, p_mO_lt, p_nlt_mO, p_mO_le, p_le_mO, p_rI, p_rL, p_wI, p_wL, p_wF, p_has10, p_has11, p_ib0, p_ib1, p_shl1, p_zv0, p_zv1, p_zvib, p_ibd, p_ibn, if_pos, if_neg, if_true, if_false, ne_eq, not_true, not_false_iff, Decidable.not_not, Nat.not_lt, Nat.not_le, Bool.true_eq_false, Bool.false_eq_true, eq_self, reduceIte, Nat.reduceAdd, Nat.reduceMul, Nat.reduceSub, Nat.reduceEqDiff, Nat.reduceLT, Nat.reduceLeDiff, reduceCtorEq, fX11_movedFrom_l7, h10, h16, hmem, hin', fb_ct_succ, hfk, Nat.add_zero, Nat.add_assoc]
    · rw [hfk] at hin'
      simp (disch := omega) only [p_bnd, p_nm, p_gSEl, p_gSEr, p_l0, p_l1, p_l2, p_l3, p_l4, p_l5, p_l6, p_l7, p_l8, p_l9, p_l10, p_l14, p_l16, p_l20, p_l22, p_l24, p_l30, p_l31, p_l32, p_l38, p_l40, p_l41, p_l43, p_l48, p_l57, p_l59, p_l60, p_l61, p_l62, p_l63, p_l97, p_l98, p_l101, p_l122, p_l158, p_l201, p_l255, p_l256, p_l374, p_l880, p_l900, p_l1000, p_l2618, p_neg, nI_add, p_mul, p_sub, p_addm, p_addm0, p_subm, p_le, p_lt, p_eq, p_mO_eq, p_eq_mO, p_mO_lt, p_nlt_mO, p_mO_le, p_le_mO, p_rI, p_rL, p_wI, p_wL, p_wF, p_has10, p_has11, p_ib0, p_ib1, p_shl1, p_zv0, p_zv1, p_zvib, p_ibd, p_ibn, if_pos, if_neg, if_true, if_false, ne_eq, not_true, not_false_iff, Decidable.not_not, Nat.not_lt, Nat.not_le, Bool.true_eq_false, Bool.false_eq_true, eq_self, reduceIte, Nat.reduceAdd, Nat.reduceMul, Nat.reduceSub, Nat.reduceEqDiff, Nat.reduceLT, Nat.reduceLeDiff, reduceCtorEq, fX11_movedFrom_l7, h10, h16, hmem, hin', fb_ct_succ, hfk, Nat.add_assoc]) (by simp (disch := omega) only [p_bnd, p_nm, p_gSEl, p_gSEr, p_l0, p_l1, p_l2, p_l3, p_l4, p_l5, p_l6, p_l7, p_l8, p_l9, p_l10, p_l14, p_l16, p_l20, p_l22, p_l24, p_l30, p_l31, p_l32, p_l38, p_l40, p_l41, p_l43, p_l48, p_l57, p_l59, p_l60, p_l61, p_l62, p_l63, p_l97, p_l98, p_l101, p_l122, p_l158, p_l201, p_l255, p_l256, p_l374, p_l880, p_l900, p_l1000, p_l2618, p_neg, nI_add, p_mul, p_sub, p_addm, p_addm0, p_subm, p_le, p_lt, p_eq, p_mO_eq, p_eq_mO, p_mO_lt, p_nlt_mO, p_mO_le, p_le_mO, p_rI, p_rL, p_wI, p_wL, p_wF, p_has10, p_has11, p_ib0, p_ib1, p_shl1, p_zv0, p_zv1, p_zvib, p_ibd, p_ibn, if_pos, if_neg, if_true, if_false, ne_eq, not_true, not_false_iff, Decidable.not_not, Nat.not_lt, Nat.not_le, Bool.true_eq_false, Bool.false_eq_true, eq_self, reduceIte, Nat.reduceAdd, Nat.reduceMul, Nat.reduceSub, Nat.reduceEqDiff, Nat.reduceLT, Nat.reduceLeDiff, reduceCtorEq, fX11_movedFrom_l7, h10, h16])
  unfold fX11_movedFrom
  rw [h10, p_nm, p_bnd, hf]
  show (gLoop (fun z9 => fX11_movedFrom_l7 M z9.1 z9.2) gFu ((fun k => (nI (fb_ct f k), nI (sPl S b + k))) 0)).bind _ = _
  rw [e]; rfl
end RC
