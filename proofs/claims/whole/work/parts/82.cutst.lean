/-! AN ARROW IS CUT: the parts of its group, their row, the state behind it -/
theorem fb_less {f g : Nat → Bool} {n h : Nat} (hs : ∀ k, k < n → f k = true → g k = true) (hh : h < n) (hf : f h = false) (hg : g h = true) : fb_ct f n < fb_ct g n := by
  have e := fb_ct_or (p := f) (q := fun k => decide (k = h)) (n := n) (fun k hk z => by
    have := of_decide_eq_true z.2
    rw [this, hf] at z; cases z.1)
  have e2 : 0 < fb_ct (fun k => decide (k = h)) n := fb_ct_pos.mpr ⟨h, hh, decide_eq_true rfl⟩
  have e3 : fb_ct (fun k => f k || decide (k = h)) n ≤ fb_ct g n := fb_ct_sub (fun k hk z => by
    cases hz : f k
    · rw [hz, Bool.false_or] at z
      rw [of_decide_eq_true z]; exact hg
    · exact hs k hk hz)
  omega
theorem lm_min (μ : Nat → Nat) : ∀ l : List Nat, l ≠ [] → ∃ h, h ∈ l ∧ ∀ x, x ∈ l → μ h ≤ μ x
  | [], z => absurd rfl z
  | [y], _ => ⟨y, List.mem_singleton.mpr rfl, fun x hx => by rw [List.mem_singleton.mp hx]; exact Nat.le_refl _⟩
  | y :: z :: l, _ => by
    obtain ⟨h, h1, h2⟩ := lm_min μ (z :: l) (by simp)
    rcases Nat.lt_or_ge (μ y) (μ h) with q | q
    · refine ⟨y, List.mem_cons_self, fun x hx => ?_⟩
      rcases List.mem_cons.mp hx with rfl | hx
      · exact Nat.le_refl _
      · have := h2 x hx; omega
    · refine ⟨h, List.mem_cons_of_mem _ h1, fun x hx => ?_⟩
      rcases List.mem_cons.mp hx with rfl | hx
      · exact q
      · exact h2 x hx
section CT
variable {S : gS} {a : Nat}
/-- the place of the arrow's group; the heads behind the cut; the parts' heads -/
def xO (S : gS) (a : Nat) : Nat := sPl S (sFr S a)
noncomputable def xR (S : gS) (a t : Nat) : Nat := hdR (sR (sLess S a)) (sN S) t
noncomputable def xH (S : gS) (a t : Nat) : Nat := if sPl S t = xO S a then xR S a t else sHd S (sPl S t)
noncomputable def xL (S : gS) (a : Nat) : List Nat := gHs (xR S a) (sN S) (fun u => decide (sPl S u = xO S a))
noncomputable def xS (S : gS) (a : Nat) : List Nat := selS (ldH (sLess S a) (xH S a)) (xL S a).length (xL S a)
theorem xL_mem {t : Nat} : t ∈ xL S a ↔ t < sN S ∧ sPl S t = xO S a ∧ xR S a t = t := by
  unfold xL; rw [gHs_mem, decide_eq_true_eq]
theorem xR_pl (h : sW S) (ha : a < sM S) {t : Nat} (ht : t < sN S) : xR S a t < sN S ∧ sPl S (xR S a t) = sPl S t := by
  obtain ⟨b1, b2, b3, b4⟩ := hdR_ok (R := sR (sLess S a)) (fun _ => gRc.rf) ht
  have b5 : xR S a t < sN S := by unfold xR; omega
  exact ⟨b5, (sR.same h.2.2.2.1 b5 ht).mpr ⟨sLess_sub h.2.1 ha b3, sLess_sub h.2.1 ha b2⟩⟩
theorem xR_eq {t u : Nat} (ht : t < sN S) (hu : u < sN S) : xR S a t = xR S a u ↔ sR (sLess S a) t u ∧ sR (sLess S a) u t := hdR_eq (fun _ => gRc.rf) (fun _ _ _ => gRc.tr) ht hu
theorem xR_id {t : Nat} (ht : t < sN S) : xR S a (xR S a t) = xR S a t := hdR_id (fun _ => gRc.rf) (fun _ _ _ => gRc.tr) ht
theorem xG_cl (h : sW S) (ha : a < sM S) (u v : Nat) (hu : u < sN S) (hv : v < sN S) (h1 : sR (sLess S a) u v) (h2 : sR (sLess S a) v u) (hg : decide (sPl S u = xO S a) = true) : decide (sPl S v = xO S a) = true := by
  rw [decide_eq_true_eq] at hg ⊢
  rw [← hg]
  exact (sR.same h.2.2.2.1 hv hu).mpr ⟨sLess_sub h.2.1 ha h2, sLess_sub h.2.1 ha h1⟩
theorem xH_in {t : Nat} (h : sPl S t = xO S a) : xH S a t = xR S a t := if_pos h
theorem xH_pl (h : sW S) (ha : a < sM S) {t : Nat} (ht : t < sN S) : xH S a t < sN S ∧ sPl S (xH S a t) = sPl S t := by
  unfold xH
  split
  · exact xR_pl h ha ht
  · exact sHd_ok h.2.2.1 (h.p ht)
theorem xH_mem (h : sW S) (ha : a < sM S) {t : Nat} (ht : t < sN S) (hp : sPl S t = xO S a) : xH S a t ∈ xL S a := by
  rw [xH_in hp, xL_mem]
  obtain ⟨b1, b2⟩ := xR_pl h ha ht
  exact ⟨b1, b2.trans hp, xR_id ht⟩
/-- which task has which head -/
theorem xH_hd (h : sW S) (ha : a < sM S) {t y : Nat} (ht : t < sN S) (hy : y ∈ xL S a) (e : xH S a t = y) : sR (sLess S a) t y ∧ sR (sLess S a) y t := by
  obtain ⟨y1, y2, y3⟩ := xL_mem.mp hy
  have hp : sPl S t = xO S a := by rw [← (xH_pl h ha ht).2, e]; exact y2
  rw [xH_in hp, ← y3] at e
  exact (xR_eq ht y1).mp e
theorem xSrc (h : sW S) (ha : a < sM S) : gSrc (ldH (sLess S a) (xH S a)) (xL S a) := by
  intro l hne hsub
  obtain ⟨y, y1, y2⟩ := lm_min (fun y => fb_ct (fun t => @decide (sR (sLess S a) t y) (Classical.propDecidable _)) (sN S)) l hne
  refine ⟨y, y1, gFree_iff.mpr fun z z1 z2 => ?_⟩
  cases hb : ldH (sLess S a) (xH S a) z y
  · rfl
  · obtain ⟨i, i1, i2, i3⟩ := ldH_iff.mp hb
    have W1 := sLess_W1 h.2.1 ha
    obtain ⟨f1, f2, -⟩ := W1.1 i i1
    have m1 := xH_hd h ha f1 (hsub z z1) i2
    have m2 := xH_hd h ha f2 (hsub y y1) i3
    have r : sR (sLess S a) z y := m1.2.tr (gRc.cons ⟨i, i1, rfl, rfl⟩ m2.1)
    obtain ⟨u1, u2, u3⟩ := xL_mem.mp (hsub z z1)
    obtain ⟨v1, v2, v3⟩ := xL_mem.mp (hsub y y1)
    have nr : ¬ sR (sLess S a) y z := fun q => z2 (by rw [← u3, ← v3]; exact (xR_eq u1 v1).mpr ⟨r, q⟩)
    have := fb_less (f := fun t => @decide (sR (sLess S a) t z) (Classical.propDecidable _)) (g := fun t => @decide (sR (sLess S a) t y) (Classical.propDecidable _)) (n := sN S) (h := y) (fun t _ q => @decide_eq_true _ (Classical.propDecidable _) ((@of_decide_eq_true _ (Classical.propDecidable _) q).tr r)) v1 (@decide_eq_false _ (Classical.propDecidable _) nr) (@decide_eq_true _ (Classical.propDecidable _) gRc.rf)
    have := y2 z z1
    omega
theorem xS_ok (h : sW S) (ha : a < sM S) : (xS S a).length = (xL S a).length ∧ (∀ x, x ∈ xS S a ↔ x ∈ xL S a) ∧ (xS S a).Pairwise (fun x y => x ≠ y) ∧ (xS S a).Pairwise (fun x y => ldH (sLess S a) (xH S a) y x = false) :=
  sel_ok (xSrc h ha) (xL S a).length (xL S a) rfl (by unfold xL; exact gHs_sorted) (fun _ z => z)
theorem xL_pos (h : sW S) (ha : a < sM S) : 0 < (xL S a).length := by
  have := (h.2.1.1 a ha).1
  exact List.length_pos_of_mem (xH_mem h ha this rfl)
/-- the places behind the cut -/
noncomputable def xP (S : gS) (a t : Nat) : Nat := if sPl S t < xO S a then sPl S t else if sPl S t = xO S a then xO S a + (xS S a).idxOf (xH S a t) else sPl S t + ((xL S a).length - 1)
noncomputable def sCut (S : gS) (a : Nat) : gS :=
  if sIn S a = true then
    (upN (upN S.1 1 (sM S - 1)) 2 (sG S + ((xL S a).length - 1)), dnN (sFr S) a, dnN (sTo S) a, xP S a, sHr S, (fun k => if k = 1 then sAc S 1 + 1 else if k = 7 then sAc S 7 + (if (xL S a).length = 1 then 0 else (xL S a).length) else sAc S k), sNm S)
  else (upN S.1 1 (sM S - 1), dnN (sFr S) a, dnN (sTo S) a, sPl S, sHr S, upN (sAc S) 1 (sAc S 1 + 1), sNm S)
theorem sCut_n : sN (sCut S a) = sN S := by unfold sCut; split <;> rfl
theorem sCut_m : sM (sCut S a) = sM S - 1 := by unfold sCut; split <;> rfl
theorem sCut_mo : sMo (sCut S a) = sMo S := by unfold sCut; split <;> rfl
theorem sCut_jo : sJo (sCut S a) = sJo S := by unfold sCut; split <;> rfl
theorem sCut_fr : sFr (sCut S a) = dnN (sFr S) a := by unfold sCut; split <;> rfl
theorem sCut_to : sTo (sCut S a) = dnN (sTo S) a := by unfold sCut; split <;> rfl
theorem sCut_hr : sHr (sCut S a) = sHr S := by unfold sCut; split <;> rfl
theorem sCut_nm : sNm (sCut S a) = sNm S := by unfold sCut; split <;> rfl
theorem sCut_g : sG (sCut S a) = if sIn S a = true then sG S + ((xL S a).length - 1) else sG S := by unfold sCut; split <;> rfl
theorem sCut_pl : sPl (sCut S a) = if sIn S a = true then xP S a else sPl S := by unfold sCut; split <;> rfl
theorem sCut_E {u v : Nat} : sE (sCut S a) u v ↔ sE (sLess S a) u v := by
  unfold sE; rw [sCut_m, sCut_fr, sCut_to]; exact Iff.rfl
theorem sCut_R {u v : Nat} : sR (sCut S a) u v ↔ sR (sLess S a) u v := gRc.cong fun _ _ => sCut_E
end CT
