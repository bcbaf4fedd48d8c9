/-! AN ARROW IS CUT: the state behind it is whole -/
section CW
variable {S : gS} {a : Nat}
theorem ix_nd {l : List Nat} (h : l.Pairwise (fun x y => x ≠ y)) {p x : Nat} (hp : l[p]? = some x) : l.idxOf x = p := by
  obtain ⟨h1, h2⟩ := List.getElem?_eq_some_iff.mp hp
  have hm : x ∈ l := h2 ▸ List.getElem_mem h1
  have hi := List.idxOf_lt_length_iff.mpr hm
  have he := List.getElem_idxOf hi
  rcases Nat.lt_trichotomy (l.idxOf x) p with q | q | q
  · exact absurd (he.trans h2.symm) (List.pairwise_iff_getElem.mp h _ _ hi h1 q)
  · exact q
  · exact absurd (h2.trans he.symm) (List.pairwise_iff_getElem.mp h _ _ h1 hi q)
theorem ix_at {l : List Nat} {x : Nat} (hm : x ∈ l) : l[l.idxOf x]? = some x := by
  have hi := List.idxOf_lt_length_iff.mpr hm
  rw [List.getElem?_eq_getElem hi, List.getElem_idxOf hi]
theorem xI_lt (h : sW S) (ha : a < sM S) {t : Nat} (ht : t < sN S) (hp : sPl S t = xO S a) : (xS S a).idxOf (xH S a t) < (xL S a).length := by
  rw [← (xS_ok h ha).1]
  exact List.idxOf_lt_length_iff.mpr (((xS_ok h ha).2.1 _).mpr (xH_mem h ha ht hp))
theorem xP_lo {t : Nat} (hp : sPl S t < xO S a) : xP S a t = sPl S t := if_pos hp
theorem xP_in {t : Nat} (hp : sPl S t = xO S a) : xP S a t = xO S a + (xS S a).idxOf (xH S a t) := by
  unfold xP; rw [if_neg (by omega), if_pos hp]
theorem xP_hi {t : Nat} (hp : xO S a < sPl S t) : xP S a t = sPl S t + ((xL S a).length - 1) := by
  unfold xP; rw [if_neg (by omega), if_neg (by omega)]
/-- two tasks on one place of a group that isn't the arrow's -/
theorem xK (h : sW S) (ha : a < sM S) (hin : sIn S a = true) {x u : Nat} (hx : x < sN S) (hu : u < sN S) (e : sPl S x = sPl S u) (hne : sPl S u ≠ xO S a) : sR (sLess S a) x u := by
  have w3 := h.2.2.2.1
  have hr := w3.2 x u hx hu e
  refine gRc.ind (E := sE S) (fun x => sPl S x = sPl S u → sR (sLess S a) x u) (fun _ => gRc.rf) (fun x y h1 h2 ih e => ?_) hr e
  have l1 := sE.pl w3 h1
  have l2 : sPl S y ≤ sPl S u := sR.pl w3 h2
  refine gRc.cons ((sLess_E h.2.1 ha).mpr ⟨h1, fun z => hne ?_⟩) (ih (by omega))
  unfold xO; rw [← z.1]; omega
theorem sCut_W (h : sW S) (ha : a < sM S) : sW (sCut S a) := by
  cases hin : sIn S a
  · have := sLess_W h ha hin
    unfold sCut
    rw [if_neg (by rw [hin]; decide)]
    exact this
  have hP := xL_pos h ha
  obtain ⟨s1, s2, s3, s4⟩ := xS_ok h ha
  have hpo : xO S a < sG S := h.p (h.2.1.1 a ha).1
  have hg : sG (sCut S a) = sG S + ((xL S a).length - 1) := by rw [sCut_g, if_pos hin]
  have hpl : sPl (sCut S a) = xP S a := by rw [sCut_pl, if_pos hin]
  have w2 : sW2 (sCut S a) := by
    unfold sW2
    rw [sCut_n, hg, hpl]
    refine ⟨fun t ht => ?_, fun p hp => ?_⟩
    · have := h.p ht
      rcases Nat.lt_trichotomy (sPl S t) (xO S a) with q | q | q
      · rw [xP_lo q]; omega
      · rw [xP_in q]; have := xI_lt h ha ht q; omega
      · rw [xP_hi q]; omega
    · rcases Nat.lt_or_ge p (xO S a) with q | q
      · obtain ⟨t, t1, t2⟩ := h.2.2.1.2 p (by omega)
        exact ⟨t, t1, by rw [xP_lo (by omega)]; exact t2⟩
      · rcases Nat.lt_or_ge p (xO S a + (xL S a).length) with q2 | q2
        · have hi : p - xO S a < (xS S a).length := by omega
          have hm := (s2 _).mp (List.getElem_mem hi)
          have hq : (xS S a)[p - xO S a]? = some (xS S a)[p - xO S a] := List.getElem?_eq_getElem hi
          generalize (xS S a)[p - xO S a] = y at hm hq
          obtain ⟨y1, y2, y3⟩ := xL_mem.mp hm
          refine ⟨y, y1, ?_⟩
          rw [xP_in y2, xH_in y2, y3, ix_nd s3 hq]; omega
        · obtain ⟨t, t1, t2⟩ := h.2.2.1.2 (p - ((xL S a).length - 1)) (by omega)
          exact ⟨t, t1, by rw [xP_hi (by omega), t2]; omega⟩
  refine ⟨⟨by rw [sCut_n]; exact h.1.1, by rw [sCut_m]; exact Nat.le_trans (Nat.sub_le _ _) h.1.2.1, ?_, by rw [sCut_mo]; exact h.1.2.2.2.1, by rw [sCut_jo]; exact h.1.2.2.2.2⟩, ?_, w2, ⟨fun i hi => ?_, fun t u ht hu e => ?_⟩, ?_⟩
  · -- as many groups as tasks at most
    refine fb_holes (sN (sCut S a)) _ (fun p => sHd (sCut S a) p) (fun p hp => (sHd_ok w2 hp).1) (fun p q hpq hq e => ?_)
    have := sHd_inj w2 (show p < sG (sCut S a) by omega) hq e
    omega
  · have := sLess_W1 h.2.1 ha
    unfold sW1 at this ⊢
    rw [sCut_m, sCut_n, sCut_fr, sCut_to]; exact this
  · rw [sCut_m] at hi
    have hi' : i < sM (sLess S a) := hi
    rw [hpl, sCut_fr, sCut_to]
    obtain ⟨b1, b2, -⟩ := (sLess_W1 h.2.1 ha).1 i hi'
    have b3 : sPl S (sFr (sLess S a) i) ≤ sPl S (sTo (sLess S a) i) := sE.pl h.2.2.2.1 ((sLess_E h.2.1 ha).mp ⟨i, hi', rfl, rfl⟩).1
    have hld : ldH (sLess S a) (xH S a) (xH S a (sFr (sLess S a) i)) (xH S a (sTo (sLess S a) i)) = true := ldH_iff.mpr ⟨i, hi', rfl, rfl⟩
    show xP S a (sFr (sLess S a) i) ≤ xP S a (sTo (sLess S a) i)
    have b1 : sFr (sLess S a) i < sN S := b1
    have b2 : sTo (sLess S a) i < sN S := b2
    generalize sFr (sLess S a) i = x at b1 b3 hld
    generalize sTo (sLess S a) i = y at b2 b3 hld
    rcases Nat.lt_trichotomy (sPl S x) (xO S a) with q | q | q
    · rw [xP_lo q]
      rcases Nat.lt_trichotomy (sPl S y) (xO S a) with q2 | q2 | q2
      · rw [xP_lo q2]; exact b3
      · rw [xP_in q2]; omega
      · rw [xP_hi q2]; omega
    · rw [xP_in q]
      have i1 := xI_lt h ha b1 q
      rcases Nat.lt_trichotomy (sPl S y) (xO S a) with q2 | q2 | q2
      · omega
      · rw [xP_in q2]
        refine Nat.add_le_add_left (Classical.byContradiction fun q3 => ?_) _
        have i2 := xI_lt h ha b2 q2
        have := List.pairwise_iff_getElem.mp s4 ((xS S a).idxOf (xH S a y)) ((xS S a).idxOf (xH S a x)) (by omega) (by omega) (by omega)
        rw [List.getElem_idxOf, List.getElem_idxOf, hld] at this
        cases this
      · rw [xP_hi q2]; omega
    · rw [xP_hi q, xP_hi (by omega)]; omega
  · rw [sCut_n] at ht hu
    rw [hpl] at e
    rw [sCut_R]
    rcases Nat.lt_trichotomy (sPl S t) (xO S a) with q | q | q
    · rw [xP_lo q] at e
      rcases Nat.lt_trichotomy (sPl S u) (xO S a) with q2 | q2 | q2
      · rw [xP_lo q2] at e; exact xK h ha hin ht hu e (by omega)
      · rw [xP_in q2] at e; omega
      · rw [xP_hi q2] at e; omega
    · have i1 := xI_lt h ha ht q
      rw [xP_in q] at e
      rcases Nat.lt_trichotomy (sPl S u) (xO S a) with q2 | q2 | q2
      · rw [xP_lo q2] at e; omega
      · rw [xP_in q2] at e
        have m1 := ix_at ((s2 _).mpr (xH_mem h ha ht q))
        have m2 := ix_at ((s2 _).mpr (xH_mem h ha hu q2))
        rw [show (xS S a).idxOf (xH S a t) = (xS S a).idxOf (xH S a u) by omega, m2] at m1
        have e2 := Option.some.inj m1
        rw [xH_in q, xH_in q2] at e2
        exact ((xR_eq ht hu).mp e2.symm).1
      · rw [xP_hi q2] at e; omega
    · rw [xP_hi q] at e
      rcases Nat.lt_trichotomy (sPl S u) (xO S a) with q2 | q2 | q2
      · rw [xP_lo q2] at e; omega
      · have i2 := xI_lt h ha hu q2
        rw [xP_in q2] at e; omega
      · rw [xP_hi q2] at e; exact xK h ha hin ht hu (by omega) (by omega)
  · unfold sW4
    rw [sCut_n, sCut_hr, sCut_nm]; exact h.2.2.2.2
end CW
