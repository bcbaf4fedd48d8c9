/-! AN ARROW COMES: the class arranges its row -/
/-- the part, looked at by its places: AHEAD, BEHIND -/
noncomputable def pA (S : gS) (a b k : Nat) : Bool := bt (wAh S a b) (sPl S b + k)
noncomputable def pB (S : gS) (a b k : Nat) : Bool := bt (wBh S a b) (sPl S b + k)
noncomputable def pLn (S : gS) (a b : Nat) : Nat := sPl S a + 1 - sPl S b
noncomputable def pIt (S : gS) (a b mode : Nat) : List (Option Nat) := itL (pA S a b) (pB S a b) (pLn S a b) mode
/-- the whole order behind the repair: some p: the group that stood at p; none: the joined one -/
noncomputable def pL (S : gS) (a b mode : Nat) : List (Option Nat) := (List.range (sPl S b)).map some ++ (pIt S a b mode).map (Option.map (fun k => sPl S b + k)) ++ (List.range' (sPl S a + 1) (sG S - (sPl S a + 1))).map some
noncomputable def mbA (S : gS) (a b : Nat) (x : Option Nat) : Int32 := match x with | some p => sMb S p | none => wJn S a b
section AR
variable {M : gMem} {S : gS} {t a b : Nat}
theorem wBh_bt {p : Nat} (hp : p < 32) : bt (wBh S a b) p = true ↔ sPl S b ≤ p ∧ p ≤ sPl S a ∧ sR S b (sHd S p) := by
  unfold wBh; rw [mkS_bt hp, cB_iff]
theorem wAh_bt {p : Nat} (hp : p < 32) : bt (wAh S a b) p = true ↔ sPl S b ≤ p ∧ p ≤ sPl S a ∧ sR S (sHd S p) a := by
  unfold wAh; rw [mkS_bt hp, cB_iff]
theorem w_out {p : Nat} (hp : p < 32) (h : p < sPl S b ∨ sPl S a < p) : bt (wAh S a b) p = false ∧ bt (wBh S a b) p = false := by
  constructor
  · rw [← Bool.not_eq_true, wAh_bt hp]; omega
  · rw [← Bool.not_eq_true, wBh_bt hp]; omega
theorem wJn_z (h : sW S) (ha : a < sN S) (hb : b < sN S) : wJn S a b = nI 0 ↔ ¬ 0 < fb_ct (iJ (pA S a b) (pB S a b)) (pLn S a b) := by
  have hn := h.1.1
  have hg := h.1.2.2.1
  have pa := h.p ha
  have pb := h.p hb
  rw [fb_ct_pos, p_z]
  constructor
  · intro hz ⟨k, hk, hj⟩
    unfold pLn at hk
    have hp : sPl S b + k < sG S := by omega
    obtain ⟨h1, h2⟩ := sHd_ok h.2.2.1 hp
    have := hz (sHd S (sPl S b + k)) (by omega)
    unfold wJn at this
    rw [mkS_bt (by omega), h2] at this
    unfold iJ pA pB at hj
    rw [Bool.and_eq_true] at hj
    simp [h1, hj.1, hj.2] at this
  · intro hz v hv
    cases hb2 : bt (wJn S a b) v
    · rfl
    · unfold wJn at hb2
      rw [mkS_bt hv, Bool.and_eq_true, decide_eq_true_eq, Bool.and_eq_true] at hb2
      obtain ⟨z1, z2, z3⟩ := hb2
      have hpv := h.p z1
      obtain ⟨y1, y2, -⟩ := (wBh_bt (by omega)).mp z2
      refine absurd ⟨sPl S v - sPl S b, by unfold pLn; omega, ?_⟩ hz
      unfold iJ pA pB
      rw [Nat.add_sub_cancel' y1, z2, z3]; rfl
theorem fb_add {f g h : Nat → Bool} {n : Nat} (e : ∀ k, k < n → (if f k then 1 else 0) + (if g k then 1 else 0) + (if h k then 1 else 0) = 1) : fb_ct f n + fb_ct g n + fb_ct h n = n := by
  induction n with
  | zero => rfl
  | succ n ih =>
    have := ih (fun k hk => e k (by omega))
    have := e n (by omega)
    rw [fb_ct_succ, fb_ct_succ, fb_ct_succ]; omega
/-- how many groups of the part stay where they were is told by their sets -/
theorem itL_map {mb : Nat → Int32} {wJ : Int32} {lo : Nat} {A B : Nat → Bool} {len : Nat} (f g : Nat → Bool) : (((List.range len).filter f).map some ++ iN A B len ++ ((List.range len).filter g).map some).map (mbI mb wJ lo) = (((List.range len).filter f).map (fun k => mb (lo + k)) ++ (iN A B len).map (mbI mb wJ lo)) ++ ((List.range len).filter g).map (fun k => mb (lo + k)) := by
  rw [List.map_append, List.map_append, List.map_map, List.map_map]; rfl
theorem iN_map {mb : Nat → Int32} {wJ : Int32} {lo : Nat} {A B : Nat → Bool} {len : Nat} (hJ : wJ = nI 0 ↔ ¬ 0 < fb_ct (iJ A B) len) : (iN A B len).map (mbI mb wJ lo) = (if wJ = nI 0 then [] else [wJ]) := by
  unfold iN
  by_cases c : 0 < fb_ct (iJ A B) len
  · rw [if_pos c, if_neg (fun z => hJ.mp z c)]; rfl
  · rw [if_neg c, if_pos (hJ.mpr c)]; rfl
/-- the middle: by MODE -/
theorem ca_mid (h : CS M t S) (ht : t + 7 < 41) (ha : a < sN S) (hb : b < sN S) (hlt : sPl S b < sPl S a) (hp : RP M (sPl S b) (sPl S a) (wBh S a b) (wAh S a b) (wJn S a b)) {l : List Int32} (hR : RW M 42 l) (hl : l.length = sPl S b) {mode : Nat} (hm : mode ≤ 2) :
    ∃ M', (if nI mode = nI 0 then fX6_dealOut t M else if nI mode = nI 1 then (fX6_putThose t (M.1 41 3 ^^^ mO 1) M).bind fun v9 => (fX7_putSome 42 (v9.1 41 5) v9).bind fun v10 => fX6_putThose t (v10.1 41 3 &&& (v10.1 41 4 ^^^ mO 1)) v10 else (fX6_putThose t (M.1 41 4 &&& (M.1 41 3 ^^^ mO 1)) M).bind fun v12 => (fX7_putSome 42 (v12.1 41 5) v12).bind fun v13 => fX6_putThose t (v13.1 41 4 ^^^ mO 1) v13) = some M' ∧ gFr (Drow 42) M M' ∧ RW M' 42 (l ++ (pIt S a b mode).map (mbI (sMb S) (wJn S a b) (sPl S b))) := by
  have hn := h.2.1.1
  have hg := h.2.1.2.2.1
  have pa := h.2.p ha
  have pb := h.2.p hb
  have hmb : ∀ p, sPl S b ≤ p → p ≤ sPl S a → M.1 (t + 7) p = sMb S p := fun p _ h2 => cs_mb h (by omega)
  have hJ := wJn_z h.2 ha hb
  have cnt := i_sum (pA S a b) (pB S a b) (pLn S a b)
  have hfr : ∀ {M1 M2 : gMem}, gFr (Drow 42) M1 M2 → M2.1 41 = M1.1 41 ∧ M2.1 (t + 7) = M1.1 (t + 7) := fun F => ⟨gFr_c1 F (fun k z => by rcases z with ⟨z, -⟩ | z <;> omega), gFr_c1 F (fun k z => by rcases z with ⟨z, -⟩ | z <;> omega)⟩
  have hlen : pLn S a b = sPl S a + 1 - sPl S b := rfl
  have sN1 : fb_ct (fun k => !pB S a b k) (pLn S a b) + fb_ct (iB (pA S a b) (pB S a b)) (pLn S a b) + fb_ct (iJ (pA S a b) (pB S a b)) (pLn S a b) = pLn S a b := fb_add fun k _ => by
    unfold iB iJ; cases pA S a b k <;> cases pB S a b k <;> rfl
  have sN2 : fb_ct (iA (pA S a b) (pB S a b)) (pLn S a b) + fb_ct (fun k => !pA S a b k) (pLn S a b) + fb_ct (iJ (pA S a b) (pB S a b)) (pLn S a b) = pLn S a b := fb_add fun k _ => by
    unfold iA iJ; cases pA S a b k <;> cases pB S a b k <;> rfl
  have nJ : (if wJn S a b = nI 0 then [] else [wJn S a b]).length ≤ fb_ct (iJ (pA S a b) (pB S a b)) (pLn S a b) := by
    by_cases c : 0 < fb_ct (iJ (pA S a b) (pB S a b)) (pLn S a b)
    · rw [if_neg (fun z => hJ.mp z c)]; exact c
    · rw [if_pos (hJ.mpr c)]; exact Nat.zero_le _
  have xB : ∀ k, k < pLn S a b → bt (wBh S a b ^^^ mO 1) (sPl S b + k) = !pB S a b k := fun k hk => p_not _ (by omega)
  have xA : ∀ k, k < pLn S a b → bt (wAh S a b ^^^ mO 1) (sPl S b + k) = !pA S a b k := fun k hk => p_not _ (by omega)
  have xBA : ∀ k, k < pLn S a b → bt (wBh S a b &&& (wAh S a b ^^^ mO 1)) (sPl S b + k) = iB (pA S a b) (pB S a b) k := fun k hk => by rw [b_and, xA k hk]; rfl
  have xAB : ∀ k, k < pLn S a b → bt (wAh S a b &&& (wBh S a b ^^^ mO 1)) (sPl S b + k) = iA (pA S a b) (pB S a b) k := fun k hk => by rw [b_and, xB k hk]; rfl
  have flt : ∀ {f g : Nat → Bool}, (∀ k, k < pLn S a b → f k = g k) → (List.range (pLn S a b)).filter f = (List.range (pLn S a b)).filter g := fun hfg => List.filter_congr (fun k hk => hfg k (List.mem_range.mp hk))
  rcases (show mode = 0 ∨ mode = 1 ∨ mode = 2 by omega) with rfl | rfl | rfl
  · rw [if_pos rfl]
    obtain ⟨M', e, F, R⟩ := cw_dealOut (A := pA S a b) (B := pB S a b) hR hp (by omega) (by omega) ht hmb (fun k _ => rfl) (fun k _ => rfl) (fun p hp z => w_out hp z) hJ (by omega)
    exact ⟨M', e, F, R⟩
  · rw [if_neg (by rw [p_eq (by omega) (by omega)]; omega), if_pos rfl, hp.2.2.1]
    obtain ⟨M1, e1, F1, R1⟩ := cw_putThose hR hp (by omega) (by omega) ht hmb (wBh S a b ^^^ mO 1) (by rw [← hlen, fb_ct_cong (n := pLn S a b) xB]; omega)
    have hp1 := RP_of hp (hfr F1).1
    rw [← hlen, flt xB] at R1
    obtain ⟨M2, e2, F2, R2⟩ := cw_putSome R1 (by
      rw [List.length_append, List.length_map, filter_len, hl]
      have : 0 < fb_ct (iB (pA S a b) (pB S a b)) (pLn S a b) + fb_ct (iJ (pA S a b) (pB S a b)) (pLn S a b) := by
        have : 0 < fb_ct (pB S a b) (pLn S a b) := fb_ct_pos.mpr ⟨0, by omega, by
          unfold pB; rw [wBh_bt (by omega)]
          obtain ⟨y1, y2⟩ := sHd_ok h.2.2.2.1 pb
          exact ⟨by omega, by omega, h.2.2.2.2.1.2 _ _ hb y1 y2.symm⟩⟩
        have := fb_ct_not (pB S a b) (pLn S a b)
        omega
      omega) (wJn S a b)
    have hp2 := RP_of hp1 (hfr F2).1
    have em : M2.1 (t + 7) = M.1 (t + 7) := (hfr F2).2.trans (hfr F1).2
    obtain ⟨M3, e3, F3, R3⟩ := cw_putThose (mb := sMb S) R2 hp2 (by omega) (by omega) ht (fun p p1 p2 => by rw [em]; exact hmb p p1 p2) (wBh S a b &&& (wAh S a b ^^^ mO 1)) (by
      rw [← hlen, fb_ct_cong (n := pLn S a b) xBA, List.length_append, List.length_append, List.length_map, filter_len, hl]
      omega)
    rw [← hlen, flt xBA] at R3
    refine ⟨M3, ?_, gFr_tr F1 (gFr_tr F2 F3), ?_⟩
    · rw [e1, p_bnd, hp1.2.2.2.2, e2, p_bnd, hp2.2.2.1, hp2.2.2.2.1, e3]
    · unfold pIt itL
      rw [if_neg (by decide), if_pos rfl, itL_map, iN_map hJ, ← List.append_assoc, ← List.append_assoc]
      exact R3
  · rw [if_neg (by rw [p_eq (by omega) (by omega)]; omega), if_neg (by rw [p_eq (by omega) (by omega)]; omega), hp.2.2.1, hp.2.2.2.1]
    obtain ⟨M1, e1, F1, R1⟩ := cw_putThose hR hp (by omega) (by omega) ht hmb (wAh S a b &&& (wBh S a b ^^^ mO 1)) (by rw [← hlen, fb_ct_cong (n := pLn S a b) xAB]; omega)
    have hp1 := RP_of hp (hfr F1).1
    rw [← hlen, flt xAB] at R1
    obtain ⟨M2, e2, F2, R2⟩ := cw_putSome R1 (by
      rw [List.length_append, List.length_map, filter_len, hl]
      have : 0 < fb_ct (pB S a b) (pLn S a b) := fb_ct_pos.mpr ⟨0, by omega, by
          unfold pB; rw [wBh_bt (by omega)]
          obtain ⟨y1, y2⟩ := sHd_ok h.2.2.2.1 pb
          exact ⟨by omega, by omega, h.2.2.2.2.1.2 _ _ hb y1 y2.symm⟩⟩
      have : fb_ct (pB S a b) (pLn S a b) ≤ fb_ct (fun k => !pA S a b k) (pLn S a b) + fb_ct (iJ (pA S a b) (pB S a b)) (pLn S a b) := by
        have h1 := fb_add (f := pB S a b) (g := iA (pA S a b) (pB S a b)) (h := fun k => !pA S a b k && !pB S a b k) (n := pLn S a b) (fun k _ => by unfold iA; cases pA S a b k <;> cases pB S a b k <;> rfl)
        omega
      omega) (wJn S a b)
    have hp2 := RP_of hp1 (hfr F2).1
    have em : M2.1 (t + 7) = M.1 (t + 7) := (hfr F2).2.trans (hfr F1).2
    obtain ⟨M3, e3, F3, R3⟩ := cw_putThose (mb := sMb S) R2 hp2 (by omega) (by omega) ht (fun p p1 p2 => by rw [em]; exact hmb p p1 p2) (wAh S a b ^^^ mO 1) (by
      rw [← hlen, fb_ct_cong (n := pLn S a b) xA, List.length_append, List.length_append, List.length_map, filter_len, hl]
      omega)
    rw [← hlen, flt xA] at R3
    refine ⟨M3, ?_, gFr_tr F1 (gFr_tr F2 F3), ?_⟩
    · rw [e1, p_bnd, hp1.2.2.2.2, e2, p_bnd, hp2.2.2.2.1, e3]
    · unfold pIt itL
      rw [if_neg (by decide), if_neg (by decide), itL_map, iN_map hJ, ← List.append_assoc, ← List.append_assoc]
      exact R3
end AR
section AR2
variable {M : gMem} {S : gS} {t a b : Nat}
theorem mbI_map {l : List (Option Nat)} : l.map (mbI (sMb S) (wJn S a b) (sPl S b)) = (l.map (Option.map (fun k => sPl S b + k))).map (mbA S a b) := by
  rw [List.map_map]
  refine List.map_congr_left fun x _ => ?_
  cases x <;> rfl
/-- the part's rows all together: each place of the order stands in it once -/
theorem pIt_len (h : sW S) (ha : a < sN S) (hb : b < sN S) {mode : Nat} : (pIt S a b mode).length ≤ pLn S a b := by
  have key : ∀ (l : List (Option Nat)) (n : Nat) (f : Option Nat → Nat), l.Pairwise (fun x y => x ≠ y) → (∀ x ∈ l, f x < n) → (∀ x ∈ l, ∀ y ∈ l, f x = f y → x = y) → l.length ≤ n := by
    intro l n f hn hf hi
    refine fb_holes n l.length (fun i => f (l.getD i none)) (fun i hi2 => ?_) (fun i j hij hj e => ?_)
    · refine hf _ ?_
      rw [List.getD_eq_getElem?_getD, List.getElem?_eq_getElem hi2]
      exact List.getElem_mem hi2
    · have h1 : l.getD i none = l[i] := by rw [List.getD_eq_getElem?_getD, List.getElem?_eq_getElem (by omega)]; rfl
      have h2 : l.getD j none = l[j] := by rw [List.getD_eq_getElem?_getD, List.getElem?_eq_getElem hj]; rfl
      rw [h1, h2] at e
      exact (List.pairwise_iff_getElem.mp hn) i j (by omega) hj hij (hi _ (List.getElem_mem _) _ (List.getElem_mem _) e)
  by_cases c : ∃ j, j < pLn S a b ∧ iJ (pA S a b) (pB S a b) j = true
  · obtain ⟨j, hj, hj2⟩ := c
    refine key _ _ (fun x => x.getD j) itL_nd (fun x hx => ?_) (fun x hx y hy e => ?_)
    · cases x with
      | none => exact hj
      | some k => exact (mem_itL_some.mp hx).1
    · cases x with
      | none => cases y with
        | none => rfl
        | some k => exact absurd (mem_itL_some.mp hy).2 (by rw [← show j = k from e, hj2]; decide)
      | some k => cases y with
        | none => exact absurd (mem_itL_some.mp hx).2 (by rw [show k = j from e, hj2]; decide)
        | some k' => exact congrArg some e
  · refine key _ _ (fun x => x.getD 0) itL_nd (fun x hx => ?_) (fun x hx y hy e => ?_)
    · cases x with
      | none => exact absurd (fb_ct_pos.mp (mem_itL_none.mp hx)) c
      | some k => exact (mem_itL_some.mp hx).1
    · cases x with
      | none => exact absurd (fb_ct_pos.mp (mem_itL_none.mp hx)) c
      | some k => cases y with
        | none => exact absurd (fb_ct_pos.mp (mem_itL_none.mp hy)) c
        | some k' => exact congrArg some e
theorem pL_len (h : sW S) (ha : a < sN S) (hb : b < sN S) (hlt : sPl S b < sPl S a) {mode : Nat} : (pL S a b mode).length = sPl S b + (pIt S a b mode).length + (sG S - (sPl S a + 1)) ∧ (pL S a b mode).length ≤ sG S := by
  have h1 := pIt_len h ha hb (mode := mode)
  have := h.p ha
  have e : (pL S a b mode).length = sPl S b + (pIt S a b mode).length + (sG S - (sPl S a + 1)) := by
    unfold pL; simp; omega
  unfold pLn at h1
  exact ⟨e, by omega⟩
/-- MOVED: places of the part whose sets have changed -/
noncomputable def pMv (S : gS) (a b mode : Nat) : Nat := fb_ct (fun k => match (pIt S a b mode)[k]? with | some x => !decide (mbI (sMb S) (wJn S a b) (sPl S b) x = sMb S (sPl S b + k)) | none => false) (pIt S a b mode).length
theorem ca_moved (h : CS M t S) (ht : t + 7 < 41) (ha : a < sN S) (hb : b < sN S) (hlt : sPl S b < sPl S a) (h1 : M.1 41 1 = nI (sPl S b)) {mode : Nat} (hR : RW M 42 ((pL S a b mode).map (mbA S a b))) :
    fX6_countMoved t (nI (sPl S b + (pIt S a b mode).length)) M = some (nI (pMv S a b mode)) := by
  have hn := h.2.1.1
  have hg := h.2.1.2.2.1
  have pa := h.2.p ha
  have hlen := pIt_len h.2 ha hb (mode := mode)
  unfold pLn at hlen
  generalize hf : (fun k => match (pIt S a b mode)[k]? with | some x => !decide (mbI (sMb S) (wJn S a b) (sPl S b) x = sMb S (sPl S b + k)) | none => false) = f
  have hrow : ∀ k x, (pIt S a b mode)[k]? = some x → M.1 43 (sPl S b + k) = mbI (sMb S) (wJn S a b) (sPl S b) x := by
    intro k x hk
    have hk2 := (List.getElem?_eq_some_iff.mp hk).1
    refine hR.2 (sPl S b + k) _ ?_
    unfold pL
    rw [List.map_append, List.map_append, List.append_assoc, List.getElem?_append_right (by simp), List.getElem?_append_left (by simp; omega), ← mbI_map]
    simp only [List.length_map, List.length_range, Nat.add_sub_cancel_left]
    rw [List.getElem?_map, hk]; rfl
  have e := gLoop_f (body := fun z9 => fX6_countMoved_l8 t (nI (sPl S b + (pIt S a b mode).length)) M z9.1 z9.2) (fun k => (nI (fb_ct f k), nI (sPl S b + k))) (r := nI (fb_ct f (pIt S a b mode).length)) (pIt S a b mode).length gFu (by show _ < 4096; omega) (fun k hk => by
    obtain ⟨x, hx⟩ : ∃ x, (pIt S a b mode)[k]? = some x := ⟨_, List.getElem?_eq_getElem hk⟩
    have hr := hrow k x hx
    have hm := cs_mb h (p := sPl S b + k) (by omega)
    have hfk : f k = !decide (mbI (sMb S) (wJn S a b) (sPl S b) x = sMb S (sPl S b + k)) := by rw [← hf]; simp only [hx]
    have hc := fb_ct_le f k
    by_cases c : mbI (sMb S) (wJn S a b) (sPl S b) x = sMb S (sPl S b + k)
    · rw [decide_eq_true c] at hfk
      have : fb_ct f (k + 1) = fb_ct f k := by rw [fb_ct_succ, hfk]; rfl
      rw [this]
      simp (disch := omega) only [p_bnd, p_nm, p_gSEl, p_gSEr, p_l0, p_l1, p_l2, p_l3, p_l4, p_l5, p_l6, p_l7, p_l8, p_l9, p_l10, p_l14, p_l16, p_l20, p_l22, p_l24, p_l30, p_l31, p_l32, p_l38, p_l40, p_l41, p_l43, p_l48, p_l57, p_l59, p_l60, p_l61, p_l62, p_l63, p_l97, p_l98, p_l101, p_l122, p_l158, p_l201, p_l255, p_l256, p_l374, p_l880, p_l900, p_l1000, p_l2618, p_neg, nI_add, p_mul, p_sub, p_addm, p_addm0, p_subm, p_le, p_lt, p_eq, p_mO_eq, p_eq_mO, p_mO_lt, p_nlt_mO, p_mO_le, p_le_mO, p_rI, p_rL, p_wI, p_wL, p_wF, p_has10, p_has11, p_ib0, p_ib1, p_shl1, p_zv0, p_zv1, p_zvib, p_ibd, p_ibn, if_pos, if_neg, if_true, if_false, ne_eq, not_true, not_false_iff, Decidable.not_not, Nat.not_lt, Nat.not_le, Bool.true_eq_false, Bool.false_eq_true, eq_self, reduceIte, Nat.reduceAdd, Nat.reduceMul, Nat.reduceSub, Nat.reduceEqDiff, Nat.reduceLT, Nat.reduceLeDiff, reduceCtorEq, fX6_countMoved_l8, fX6_countMoved_b37, hr, hm]
      rw [Nat.add_assoc]
    · rw [decide_eq_false c] at hfk
      have : fb_ct f (k + 1) = fb_ct f k + 1 := by rw [fb_ct_succ, hfk]; rfl
      rw [this]
      simp (disch := omega) only [p_bnd, p_nm, p_gSEl, p_gSEr, p_l0, p_l1, p_l2, p_l3, p_l4, p_l5, p_l6, p_l7, p_l8, p_l9, p_l10, p_l14, p_l16, p_l20, p_l22, p_l24, p_l30, p_l31, p_l32, p_l38, p_l40, p_l41, p_l43, p_l48, p_l57, p_l59, p_l60, p_l61, p_l62, p_l63, p_l97, p_l98, p_l101, p_l122, p_l158, p_l201, p_l255, p_l256, p_l374, p_l880, p_l900, p_l1000, p_l2618, p_neg, nI_add, p_mul, p_sub, p_addm, p_addm0, p_subm, p_le, p_lt, p_eq, p_mO_eq, p_eq_mO, p_mO_lt, p_nlt_mO, p_mO_le, p_le_mO, p_rI, p_rL, p_wI, p_wL, p_wF, p_has10, p_has11, p_ib0, p_ib1, p_shl1, p_zv0, p_zv1, p_zvib, p_ibd, p_ibn, if_pos, if_neg, if_true, if_false, ne_eq, not_true, not_false_iff, Decidable.not_not, Nat.not_lt, Nat.not_le, Bool.true_eq_false, Bool.false_eq_true, eq_self, reduceIte, Nat.reduceAdd, Nat.reduceMul, Nat.reduceSub, Nat.reduceEqDiff, Nat.reduceLT, Nat.reduceLeDiff, reduceCtorEq, fX6_countMoved_l8, fX6_countMoved_b37, hr, hm]
      rw [Nat.add_assoc]) (by simp (disch := omega) only [p_bnd, p_nm, p_gSEl, p_gSEr, p_l0, p_l1, p_l2, p_l3, p_l4, p_l5, p_l6, p_l7, p_l8, p_l9, p_l10, p_l14, p_l16, p_l20, p_l22, p_l24, p_l30, p_l31, p_l32, p_l38, p_l40, p_l41, p_l43, p_l48, p_l57, p_l59, p_l60, p_l61, p_l62, p_l63, p_l97, p_l98, p_l101, p_l122, p_l158, p_l201, p_l255, p_l256, p_l374, p_l880, p_l900, p_l1000, p_l2618, p_neg, nI_add, p_mul, p_sub, p_addm, p_addm0, p_subm, p_le, p_lt, p_eq, p_mO_eq, p_eq_mO, p_mO_lt, p_nlt_mO, p_mO_le, p_le_mO, p_rI, p_rL, p_wI, p_wL, p_wF, p_has10, p_has11, p_ib0, p_ib1, p_shl1, p_zv0, p_zv1, p_zvib, p_ibd, p_ibn, if_pos, if_neg, if_true, if_false, ne_eq, not_true, not_false_iff, Decidable.not_not, Nat.not_lt, Nat.not_le, Bool.true_eq_false, Bool.false_eq_true, eq_self, reduceIte, Nat.reduceAdd, Nat.reduceMul, Nat.reduceSub, Nat.reduceEqDiff, Nat.reduceLT, Nat.reduceLeDiff, reduceCtorEq, fX6_countMoved_l8])
  unfold fX6_countMoved pMv
  rw [h1, p_nm, p_bnd, hf]
  show (gLoop (fun z9 => fX6_countMoved_l8 t (nI (sPl S b + (pIt S a b mode).length)) M z9.1 z9.2) gFu ((fun k => (nI (fb_ct f k), nI (sPl S b + k))) 0)).bind _ = _
  rw [e]; rfl
/-- the class's arrange, where there is something to repair -/
theorem ca_arrange (h : CS M t S) (ht : t + 9 < 41) (ha : a < sN S) (hb : b < sN S) (hlt : sPl S b < sPl S a) (hp : RP M (sPl S b) (sPl S a) (wBh S a b) (wAh S a b) (wJn S a b)) {mode : Nat} (hm : mode ≤ 2) :
    ∃ M', fX6_arrange t (nI mode) M = some (nI (pMv S a b mode), M') ∧ gFr (Drow 42) M M' ∧ RW M' 42 ((pL S a b mode).map (mbA S a b)) := by
  have hn := h.2.1.1
  have hg := h.2.1.2.2.1
  have pa := h.2.p ha
  have pb := h.2.p hb
  have hll := pL_len h.2 ha hb hlt (mode := mode)
  have fr : ∀ {M1 M2 : gMem}, gFr (Drow 42) M1 M2 → CS M1 t S → CS M2 t S := fun F hC => CS_fr hC F (fun j k hj z => by rcases z with ⟨z, -⟩ | z <;> omega)
  have f41 : ∀ {M1 M2 : gMem}, gFr (Drow 42) M1 M2 → M2.1 41 = M1.1 41 := fun F => gFr_c1 F (fun k z => by rcases z with ⟨z, -⟩ | z <;> omega)
  have F1 : gFr (Drow 42) M (gI M 42 1 (nI 0)) := gFr_I (Or.inl ⟨rfl, rfl⟩)
  have h1 := fr F1 h
  have hp1 := RP_of hp (f41 F1)
  have R1 : RW (gI M 42 1 (nI 0)) 42 [] := ⟨p_gI_s _ _ _ _, fun k v z => by simp at z⟩
  obtain ⟨M2, e2, F2, R2⟩ := cw_putPlaces (mb := sMb S) (t := t) R1 (f := 0) (e := sPl S b) (by omega) (by omega) (by simp; omega) (by omega) (fun p _ p2 => cs_mb h1 (by omega))
  have h2 := fr F2 h1
  have hp2 := RP_of hp1 (f41 F2)
  obtain ⟨M3, e3, F3, R3⟩ := ca_mid h2 (by omega) ha hb hlt hp2 R2 (by simp) hm
  have h3 := fr F3 h2
  have hp3 := RP_of hp2 (f41 F3)
  have hl3 := R3.1
  have hlen3 : (([] ++ (List.range' 0 (sPl S b - 0)).map (sMb S)) ++ (pIt S a b mode).map (mbI (sMb S) (wJn S a b) (sPl S b))).length = sPl S b + (pIt S a b mode).length := by simp
  rw [hlen3] at hl3
  obtain ⟨M4, e4, F4, R4⟩ := cw_putPlaces (mb := sMb S) (t := t) R3 (f := sPl S a + 1) (e := sG S) (by omega) (by omega) (by rw [hlen3]; omega) (by omega) (fun p _ p2 => cs_mb h3 (by omega))
  have h4 := fr F4 h3
  have R5 : RW M4 42 ((pL S a b mode).map (mbA S a b)) := by
    unfold pL
    rw [List.map_append, List.map_append, ← mbI_map, List.map_map, List.map_map]
    have ee : ([] ++ (List.range' 0 (sPl S b - 0)).map (sMb S)) = (List.range (sPl S b)).map (mbA S a b ∘ some) := by
      rw [List.nil_append, Nat.sub_zero, List.range_eq_range']; rfl
    rw [ee] at R4
    exact R4
  have e5 := ca_moved h4 (by omega) ha hb hlt (by rw [f41 F4]; exact hp3.1) R5
  refine ⟨M4, ?_, gFr_tr F1 (gFr_tr F2 (gFr_tr F3 F4)), R5⟩
  have e6 : fX6_arrange_b117 t M3 = some (nI (pMv S a b mode), M4) := by
    unfold fX6_arrange_b117
    rw [hl3, p_nm, p_bnd, hp3.2.1, cs_g h3]
    rw [show nI (sPl S a) + (1 : Int32) = nI (sPl S a + 1) from nI_1 _, e4, p_bnd, e5, p_bnd]
  unfold fX6_arrange
  rw [show (0 : Int32) = nI 0 from rfl, p_wF, p_bnd, hp1.1, e2, p_bnd, show (-1 : Int32) = mO 1 from rfl, show (1 : Int32) = nI 1 from rfl]
  split at e3
  · rename_i c
    rw [if_pos c, e3, p_bnd, e6]
  · rename_i c
    rw [if_neg c]
    split at e3
    · rename_i c2
      rw [if_pos c2]
      obtain ⟨v9, z1, e3⟩ := g_bnd e3
      obtain ⟨v10, z2, e3⟩ := g_bnd e3
      rw [z1, p_bnd, z2, p_bnd, e3, p_bnd, e6]
    · rename_i c2
      rw [if_neg c2]
      obtain ⟨v9, z1, e3⟩ := g_bnd e3
      obtain ⟨v10, z2, e3⟩ := g_bnd e3
      rw [z1, p_bnd, z2, p_bnd, e3, p_bnd, e6]
end AR2
