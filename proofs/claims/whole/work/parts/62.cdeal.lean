/-! AN ARROW COMES: MODE 0, the class's dealing out -/
section DL
variable {M : gMem} {t : Nat} {l : List Int32} {lo len : Nat} {A B : Nat → Bool}
/-- bits of the ranks from c on of those that f names -/
def Lf (x : Int32) (lo len : Nat) (f : Nat → Bool) (c : Nat) : Prop := ∀ p, p < 32 → (bt x p = true ↔ ∃ k, k < len ∧ p = lo + k ∧ f k = true ∧ c ≤ fb_ct f k)
theorem Lf_ne {x : Int32} {f : Nat → Bool} {c : Nat} (h : Lf x lo len f c) (hl : lo + len ≤ 32) : ¬ x = nI 0 ↔ c < fb_ct f len := by
  rw [p_nz]
  constructor
  · intro ⟨p, hp, hb⟩
    obtain ⟨k, hk, -, h1, h2⟩ := (h p hp).mp hb
    have := fb_ct_mono f (show k + 1 ≤ len from hk)
    rw [fb_ct_succ, h1] at this
    simp at this; omega
  · intro hc
    obtain ⟨a, b, d⟩ := gNth_ok hc
    exact ⟨lo + gNth f c len, by omega, (h _ (by omega)).mpr ⟨_, a, rfl, b, by omega⟩⟩
theorem Lf_low {x : Int32} {f : Nat → Bool} {c : Nat} (h : Lf x lo len f c) (hl : lo + len ≤ 32) (hc : c < fb_ct f len) : lo + gNth f c len < 32 ∧ bt x (lo + gNth f c len) = true ∧ ∀ i, i < lo + gNth f c len → bt x i = false := by
  obtain ⟨a, b, d⟩ := gNth_ok hc
  refine ⟨by omega, (h _ (by omega)).mpr ⟨_, a, rfl, b, by omega⟩, fun i hi => ?_⟩
  cases hb : bt x i
  · rfl
  · obtain ⟨k, hk, rfl, h1, h2⟩ := (h i (by omega)).mp hb
    have h3 : k < gNth f c len := by omega
    have := fb_ct_mono f (show k + 1 ≤ gNth f c len from h3)
    rw [fb_ct_succ, h1] at this
    simp at this; omega
theorem Lf_drop {x : Int32} {f : Nat → Bool} {c : Nat} (h : Lf x lo len f c) (hl : lo + len ≤ 32) (hc : c < fb_ct f len) : Lf (x &&& (x - nI 1)) lo len f (c + 1) := by
  obtain ⟨a, b, d⟩ := Lf_low h hl hc
  obtain ⟨n1, n2, n3⟩ := gNth_ok hc
  intro p hp
  rw [p_drop a b d hp, Bool.and_eq_true, decide_eq_true_eq, h p hp]
  constructor
  · rintro ⟨⟨k, hk, e, h1, h2⟩, h3⟩
    refine ⟨k, hk, e, h1, ?_⟩
    refine Classical.byContradiction fun q => ?_
    have : k = gNth f c len := fb_ct_kth_one h1 n2 (by omega)
    omega
  · rintro ⟨k, hk, e, h1, h2⟩
    refine ⟨⟨k, hk, e, h1, by omega⟩, fun z => ?_⟩
    have : k = gNth f c len := by omega
    rw [this] at h2; omega
theorem Lf_ct {x : Int32} {f : Nat → Bool} {c : Nat} (h : Lf x lo len f c) (hl : lo + len ≤ 32) : fb_ct (bt x) 32 = fb_ct f len - c := by
  rw [← ct_from f c len]
  refine ct_off hl (fun k hk => ?_) (fun p hp hz => ?_)
  · cases hb : bt x (lo + k)
    · symm
      cases hf : f k && decide (c ≤ fb_ct f k)
      · rfl
      · rw [Bool.and_eq_true, decide_eq_true_eq] at hf
        rw [(h (lo + k) (by omega)).mpr ⟨k, hk, rfl, hf.1, hf.2⟩] at hb; cases hb
    · obtain ⟨j, hj, e, h1, h2⟩ := (h (lo + k) (by omega)).mp hb
      have : k = j := by omega
      subst this
      rw [h1, decide_eq_true h2]; rfl
  · cases hb : bt x p
    · rfl
    · obtain ⟨k, hk, rfl, -⟩ := (h p hp).mp hb
      omega
theorem Lf_cg {x : Int32} {f : Nat → Bool} {c c' : Nat} (h : Lf x lo len f c) (hc : ∀ k, k < len → f k = true → (c ≤ fb_ct f k ↔ c' ≤ fb_ct f k)) : Lf x lo len f c' := fun p hp => (h p hp).trans
  ⟨fun ⟨k, a, b, d, e⟩ => ⟨k, a, b, d, (hc k a d).mp e⟩, fun ⟨k, a, b, d, e⟩ => ⟨k, a, b, d, (hc k a d).mpr e⟩⟩
/-- a mask of an item -/
def mbI (mb : Nat → Int32) (wJ : Int32) (lo : Nat) (x : Option Nat) : Int32 := match x with | some k => mb (lo + k) | none => wJ
theorem ct_lt {f : Nat → Bool} {k n : Nat} (hk : k < n) (h : f k = true) : fb_ct f k < fb_ct f n := by
  have := fb_ct_mono f (show k + 1 ≤ n from hk)
  rw [fb_ct_succ, h] at this
  simp at this; omega
theorem flen {f : Nat → Option (Option Nat)} : ∀ n, ((List.range n).filterMap f).length ≤ n
  | 0 => Nat.le_refl 0
  | n + 1 => by
    rw [List.range_succ, List.filterMap_append, List.length_append]
    have := flen (f := f) n
    have : ((List.filterMap f [n])).length ≤ 1 := by cases h : f n <;> simp [h]
    omega
theorem fmap_succ {mb : Nat → Int32} {wJ : Int32} {f : Nat → Option (Option Nat)} {n : Nat} : (List.range (n + 1)).filterMap f = (List.range n).filterMap f ++ (f n).toList := by
  rw [List.range_succ, List.filterMap_append]
  cases h : f n <;> simp [h]
theorem cw_dealOut {mb : Nat → Int32} {wB wA wJ : Int32} {hi : Nat} (h : RW M 42 l) (hp : RP M lo hi wB wA wJ) (hlo : lo ≤ hi + 1) (hhi : hi < 24) (ht : t + 7 < 41) (hmb : ∀ p, lo ≤ p → p ≤ hi → M.1 (t + 7) p = mb p)
    (hA : ∀ k, k < hi + 1 - lo → bt wA (lo + k) = A k) (hB : ∀ k, k < hi + 1 - lo → bt wB (lo + k) = B k) (hz : ∀ p, p < 32 → (p < lo ∨ hi < p) → bt wA p = false ∧ bt wB p = false) (hJ : wJ = nI 0 ↔ ¬ 0 < fb_ct (iJ A B) (hi + 1 - lo)) (hl : l.length ≤ lo) :
    ∃ M', fX6_dealOut t M = some M' ∧ gFr (Drow 42) M M' ∧ RW M' 42 (l ++ ((List.range (hi + 1 - lo)).filterMap (i0 A B (hi + 1 - lo))).map (mbI mb wJ lo)) := by
  generalize hlen : hi + 1 - lo = len at hA hB hJ
  have h32 : lo + len ≤ 32 := by omega
  have hU : ∀ k, k < len → bt (wA ||| wB) (lo + k) = iU A B k := fun k hk => by rw [b_or, hA k hk, hB k hk]; rfl
  have cU : fb_ct (bt (wA ||| wB)) 32 = fb_ct (iU A B) len := ct_off h32 hU (fun p hp hz1 => by
    obtain ⟨z1, z2⟩ := hz p hp (by omega)
    rw [b_or, z1, z2]; rfl)
  have LA : Lf (wA &&& (wB ^^^ mO 1)) lo len (iA A B) 0 := fun p hp => by
    rw [b_and, p_not wB hp]
    constructor
    · intro hb
      rw [Bool.and_eq_true] at hb
      by_cases q : p < lo ∨ hi < p
      · rw [(hz p hp q).1] at hb; cases hb.1
      · refine ⟨p - lo, by omega, by omega, ?_, Nat.zero_le _⟩
        have e : p = lo + (p - lo) := by omega
        rw [e, hA _ (by omega), hB _ (by omega)] at hb
        unfold iA; rw [hb.1, hb.2]; rfl
    · intro ⟨k, hk, e, h1, _⟩
      subst e
      rw [hA k hk, hB k hk]; exact h1
  have LB : Lf (wB &&& (wA ^^^ mO 1)) lo len (iB A B) 0 := fun p hp => by
    rw [b_and, p_not wA hp]
    constructor
    · intro hb
      rw [Bool.and_eq_true] at hb
      by_cases q : p < lo ∨ hi < p
      · rw [(hz p hp q).2] at hb; cases hb.1
      · refine ⟨p - lo, by omega, by omega, ?_, Nat.zero_le _⟩
        have e : p = lo + (p - lo) := by omega
        rw [e, hA _ (by omega), hB _ (by omega)] at hb
        unfold iB; rw [hb.1, hb.2]; rfl
    · intro ⟨k, hk, e, h1, _⟩
      subst e
      rw [hA k hk, hB k hk]; exact h1
  have hsum := i_sum A B len
  have hUle := fb_ct_le (iU A B) len
  have hAle := fb_ct_le (iA A B) len
  have hBle := fb_ct_le (iB A B) len
  obtain ⟨q, e1, F, R⟩ : ∃ q, gLoop (fun z9 => fX6_dealOut_l50 t z9.1 z9.2.1 z9.2.2.1 z9.2.2.2.1 z9.2.2.2.2.1 z9.2.2.2.2.2) gFu (wA &&& (wB ^^^ mO 1), wB &&& (wA ^^^ mO 1), nI (fb_ct (iU A B) len), wJ, nI lo, M) = some q ∧ gFr (Drow 42) M q ∧ RW q 42 (l ++ ((List.range len).filterMap (i0 A B len)).map (mbI mb wJ lo)) := by
    refine gLoop_i (fun k s => ∃ x2 x3 M', s = (x2, x3, nI (fb_ct (iU A B) len - fb_ct (iU A B) k), (if fb_ct (iU A B) k ≤ fb_ct (iA A B) len then wJ else nI 0), nI (lo + k), M') ∧ Lf x2 lo len (iA A B) (fb_ct (iU A B) k) ∧ Lf x3 lo len (iB A B) (fb_ct (iU A B) k + fb_ct (iB A B) len - fb_ct (iU A B) len) ∧ gFr (Drow 42) M M' ∧ RW M' 42 (l ++ ((List.range k).filterMap (i0 A B len)).map (mbI mb wJ lo))) _ len
      ⟨_, _, M, by rw [show fb_ct (iU A B) 0 = 0 from rfl, if_pos (Nat.zero_le _)]; rfl, LA, Lf_cg LB (fun k hk hb => by rw [show fb_ct (iU A B) 0 = 0 from rfl]; omega), gFr_rf, by simpa using h⟩ (by show len < 4096; omega) ?_
    rintro k s hk ⟨x2, x3, M', rfl, L2, L3, hF, hR⟩
    have hp' := RP_of hp (gFr_c1 hF (c := 41) (fun k z => by rcases z with ⟨z, -⟩ | z <;> omega))
    have em : M'.1 (t + 7) = M.1 (t + 7) := gFr_c1 hF (fun k z => by rcases z with ⟨z, -⟩ | z <;> omega)
    rcases Nat.lt_or_ge k len with q | q
    · have hbU := hU k q
      have hfl := flen (f := i0 A B len) k
      have hln : (l ++ ((List.range k).filterMap (i0 A B len)).map (mbI mb wJ lo)).length < 24 := by rw [List.length_append, List.length_map]; omega
      have hnl := Lf_ne L2 h32
      have hnl3 := Lf_ne L3 h32
      have hcU := fb_ct_mono (iU A B) hk
      have hR' : ∀ M2 y, i0 A B len k = some y → RW M2 42 (l ++ ((List.range k).filterMap (i0 A B len)).map (mbI mb wJ lo) ++ [mbI mb wJ lo y]) → RW M2 42 (l ++ ((List.range (k + 1)).filterMap (i0 A B len)).map (mbI mb wJ lo)) := fun M2 y hy h2 => by
        rw [fmap_succ (mb := mb) (wJ := wJ), hy, List.map_append, ← List.append_assoc]; exact h2
      cases hu : iU A B k
      · -- it stays
        obtain ⟨M2, e2, F2, R2⟩ := cw_put hR hln (mb (lo + k))
        have hc : fb_ct (iU A B) (k + 1) = fb_ct (iU A B) k := by rw [fb_ct_succ, hu]; rfl
        refine Or.inl ⟨_, ?_, q, x2, x3, M2, rfl, by rw [hc]; exact L2, by rw [hc]; exact L3, gFr_tr hF F2, hR' M2 (some k) (by unfold i0; rw [if_pos hu]) R2⟩
        rw [hc]
        rw [hu] at hbU
        simp (disch := omega) only [p_bnd, p_nm, p_gSEl, p_gSEr, p_l0, p_l1, p_l2, p_l3, p_l4, p_l5, p_l6, p_l7, p_l8, p_l9, p_l10, p_l14, p_l16, p_l20, p_l22, p_l24, p_l30, p_l31, p_l32, p_l38, p_l40, p_l41, p_l43, p_l48, p_l57, p_l59, p_l60, p_l61, p_l62, p_l63, p_l97, p_l98, p_l101, p_l122, p_l158, p_l201, p_l255, p_l256, p_l374, p_l880, p_l900, p_l1000, p_l2618, p_neg, nI_add, p_mul, p_sub, p_addm, p_addm0, p_subm, p_le, p_lt, p_eq, p_mO_eq, p_eq_mO, p_mO_lt, p_nlt_mO, p_mO_le, p_le_mO, p_rI, p_rL, p_wI, p_wL, p_wF, p_has10, p_has11, p_ib0, p_ib1, p_shl1, p_zv0, p_zv1, p_zvib, p_ibd, p_ibn, if_pos, if_neg, if_true, if_false, ne_eq, not_true, not_false_iff, Decidable.not_not, Nat.not_lt, Nat.not_le, Bool.true_eq_false, Bool.false_eq_true, eq_self, reduceIte, Nat.reduceAdd, Nat.reduceMul, Nat.reduceSub, Nat.reduceEqDiff, Nat.reduceLT, Nat.reduceLeDiff, reduceCtorEq, fX6_dealOut_l50, fX6_dealOut_b180, hp'.2.1, hp'.2.2.1, hp'.2.2.2.1, hbU, em, hmb (lo + k) (by omega) (by omega), e2, Nat.add_assoc]
      · have hlt := iU_step q hu
        have hc : fb_ct (iU A B) (k + 1) = fb_ct (iU A B) k + 1 := by rw [fb_ct_succ, hu]; rfl
        rw [hu] at hbU
        by_cases c1 : fb_ct (iU A B) k < fb_ct (iA A B) len
        · -- one of AHEAD
          have n2 := hnl.mpr c1
          obtain ⟨a1, a2, a3⟩ := gNth_ok c1
          obtain ⟨b1, b2, b3⟩ := Lf_low L2 h32 c1
          obtain ⟨M2, e2, F2, R2⟩ := cw_put hR hln (mb (lo + gNth (iA A B) (fb_ct (iU A B) k) len))
          refine Or.inl ⟨_, ?_, q, x2 &&& (x2 - nI 1), x3, M2, rfl, by rw [hc]; exact Lf_drop L2 h32 c1, by rw [hc]; exact Lf_cg L3 (fun j hj hb => by omega), gFr_tr hF F2, hR' M2 (some (gNth (iA A B) (fb_ct (iU A B) k) len)) (by unfold i0; rw [if_neg (by rw [hu]; decide), if_pos c1]) R2⟩
          rw [hc, if_pos (show fb_ct (iU A B) k + 1 ≤ fb_ct (iA A B) len by omega), if_pos (show fb_ct (iU A B) k ≤ fb_ct (iA A B) len by omega)]
          have n2' : ¬ x2 = 0 := n2
          unfold fX6_dealOut_l50
          rw [hp'.2.1, if_neg (by rw [p_lt (by omega) (by omega)]; omega), hp'.2.2.1, hp'.2.2.2.1, p_has10 (by omega), p_bnd, hbU, if_neg (by rw [show (0 : Int32) = nI 0 from rfl, p_ib0]; decide), if_neg n2', p_ntz b1 b2 b3, p_bnd]
          simp (disch := omega) only [p_bnd, p_nm, p_gSEl, p_gSEr, p_l0, p_l1, p_l2, p_l3, p_l4, p_l5, p_l6, p_l7, p_l8, p_l9, p_l10, p_l14, p_l16, p_l20, p_l22, p_l24, p_l30, p_l31, p_l32, p_l38, p_l40, p_l41, p_l43, p_l48, p_l57, p_l59, p_l60, p_l61, p_l62, p_l63, p_l97, p_l98, p_l101, p_l122, p_l158, p_l201, p_l255, p_l256, p_l374, p_l880, p_l900, p_l1000, p_l2618, p_neg, nI_add, p_mul, p_sub, p_addm, p_addm0, p_subm, p_le, p_lt, p_eq, p_mO_eq, p_eq_mO, p_mO_lt, p_nlt_mO, p_mO_le, p_le_mO, p_rI, p_rL, p_wI, p_wL, p_wF, p_has10, p_has11, p_ib0, p_ib1, p_shl1, p_zv0, p_zv1, p_zvib, p_ibd, p_ibn, if_pos, if_neg, if_true, if_false, ne_eq, not_true, not_false_iff, Decidable.not_not, Nat.not_lt, Nat.not_le, Bool.true_eq_false, Bool.false_eq_true, eq_self, reduceIte, Nat.reduceAdd, Nat.reduceMul, Nat.reduceSub, Nat.reduceEqDiff, Nat.reduceLT, Nat.reduceLeDiff, reduceCtorEq, fX6_dealOut_b177, fX6_dealOut_b180, em, hmb (lo + gNth (iA A B) (fb_ct (iU A B) k) len) (by omega) (by omega), e2, Nat.add_assoc, Nat.sub_sub]
        · have n2 : x2 = 0 := Classical.byContradiction fun z => c1 (hnl.mp z)
          by_cases c2 : fb_ct (iU A B) k = fb_ct (iA A B) len ∧ 0 < fb_ct (iJ A B) len
          · -- the joined one
            have nJ : ¬ wJ = 0 := fun z => hJ.mp z c2.2
            obtain ⟨M2, e2, F2, R2⟩ := cw_put hR hln wJ
            refine Or.inl ⟨_, ?_, q, x2, x3, M2, rfl, by rw [hc]; exact Lf_cg L2 (fun j hj hb => by have := ct_lt hj hb; omega), by rw [hc]; exact Lf_cg L3 (fun j hj hb => by omega), gFr_tr hF F2, hR' M2 none (by unfold i0; rw [if_neg (by rw [hu]; decide), if_neg c1, if_pos c2]) R2⟩
            rw [hc, if_neg (show ¬ fb_ct (iU A B) k + 1 ≤ fb_ct (iA A B) len by omega), if_pos (show fb_ct (iU A B) k ≤ fb_ct (iA A B) len by omega)]
            unfold fX6_dealOut_l50
            rw [hp'.2.1, if_neg (by rw [p_lt (by omega) (by omega)]; omega), hp'.2.2.1, hp'.2.2.2.1, p_has10 (by omega), p_bnd, hbU, if_neg (by rw [show (0 : Int32) = nI 0 from rfl, p_ib0]; decide), if_pos n2, if_neg nJ, e2, p_bnd]
            simp (disch := omega) only [p_bnd, p_nm, p_gSEl, p_gSEr, p_l0, p_l1, p_l2, p_l3, p_l4, p_l5, p_l6, p_l7, p_l8, p_l9, p_l10, p_l14, p_l16, p_l20, p_l22, p_l24, p_l30, p_l31, p_l32, p_l38, p_l40, p_l41, p_l43, p_l48, p_l57, p_l59, p_l60, p_l61, p_l62, p_l63, p_l97, p_l98, p_l101, p_l122, p_l158, p_l201, p_l255, p_l256, p_l374, p_l880, p_l900, p_l1000, p_l2618, p_neg, nI_add, p_mul, p_sub, p_addm, p_addm0, p_subm, p_le, p_lt, p_eq, p_mO_eq, p_eq_mO, p_mO_lt, p_nlt_mO, p_mO_le, p_le_mO, p_rI, p_rL, p_wI, p_wL, p_wF, p_has10, p_has11, p_ib0, p_ib1, p_shl1, p_zv0, p_zv1, p_zvib, p_ibd, p_ibn, if_pos, if_neg, if_true, if_false, ne_eq, not_true, not_false_iff, Decidable.not_not, Nat.not_lt, Nat.not_le, Bool.true_eq_false, Bool.false_eq_true, eq_self, reduceIte, Nat.reduceAdd, Nat.reduceMul, Nat.reduceSub, Nat.reduceEqDiff, Nat.reduceLT, Nat.reduceLeDiff, reduceCtorEq, fX6_dealOut_b177, fX6_dealOut_b180, Nat.add_assoc, Nat.sub_sub]
          · have n5 : (if fb_ct (iU A B) k ≤ fb_ct (iA A B) len then wJ else nI 0) = 0 := by
              split
              · exact hJ.mpr (fun z => c2 ⟨by omega, z⟩)
              · rfl
            have n5' : (if fb_ct (iU A B) (k + 1) ≤ fb_ct (iA A B) len then wJ else nI 0) = 0 := by
              split
              · omega
              · rfl
            by_cases c3 : fb_ct (iU A B) len ≤ fb_ct (iU A B) k + fb_ct (iB A B) len
            · -- one of BEHIND
              have c4 : fb_ct (iU A B) k + fb_ct (iB A B) len - fb_ct (iU A B) len < fb_ct (iB A B) len := by omega
              have n3 : ¬ x3 = 0 := hnl3.mpr c4
              obtain ⟨a1, a2, a3⟩ := gNth_ok c4
              obtain ⟨b1, b2, b3⟩ := Lf_low L3 h32 c4
              have hct := Lf_ct L3 h32
              obtain ⟨M2, e2, F2, R2⟩ := cw_put hR hln (mb (lo + gNth (iB A B) (fb_ct (iU A B) k + fb_ct (iB A B) len - fb_ct (iU A B) len) len))
              refine Or.inl ⟨_, ?_, q, x2, x3 &&& (x3 - nI 1), M2, rfl, by rw [hc]; exact Lf_cg L2 (fun j hj hb => by have := ct_lt hj hb; omega), by rw [hc, show fb_ct (iU A B) k + 1 + fb_ct (iB A B) len - fb_ct (iU A B) len = fb_ct (iU A B) k + fb_ct (iB A B) len - fb_ct (iU A B) len + 1 by omega]; exact Lf_drop L3 h32 c4, gFr_tr hF F2, hR' M2 (some (gNth (iB A B) (fb_ct (iU A B) k + fb_ct (iB A B) len - fb_ct (iU A B) len) len)) (by unfold i0; rw [if_neg (by rw [hu]; decide), if_neg c1, if_neg c2, if_pos c3]) R2⟩
              rw [n5, n5']
              unfold fX6_dealOut_l50
              rw [hp'.2.1, if_neg (by rw [p_lt (by omega) (by omega)]; omega), hp'.2.2.1, hp'.2.2.2.1, p_has10 (by omega), p_bnd, hbU, if_neg (by rw [show (0 : Int32) = nI 0 from rfl, p_ib0]; decide), if_pos n2, if_pos rfl, if_neg n3, p_bitCount, p_bnd, hct, if_pos (by rw [p_eq (by omega) (by omega)]; omega), p_ntz b1 b2 b3, p_bnd, hc]
              simp (disch := omega) only [p_bnd, p_nm, p_gSEl, p_gSEr, p_l0, p_l1, p_l2, p_l3, p_l4, p_l5, p_l6, p_l7, p_l8, p_l9, p_l10, p_l14, p_l16, p_l20, p_l22, p_l24, p_l30, p_l31, p_l32, p_l38, p_l40, p_l41, p_l43, p_l48, p_l57, p_l59, p_l60, p_l61, p_l62, p_l63, p_l97, p_l98, p_l101, p_l122, p_l158, p_l201, p_l255, p_l256, p_l374, p_l880, p_l900, p_l1000, p_l2618, p_neg, nI_add, p_mul, p_sub, p_addm, p_addm0, p_subm, p_le, p_lt, p_eq, p_mO_eq, p_eq_mO, p_mO_lt, p_nlt_mO, p_mO_le, p_le_mO, p_rI, p_rL, p_wI, p_wL, p_wF, p_has10, p_has11, p_ib0, p_ib1, p_shl1, p_zv0, p_zv1, p_zvib, p_ibd, p_ibn, if_pos, if_neg, if_true, if_false, ne_eq, not_true, not_false_iff, Decidable.not_not, Nat.not_lt, Nat.not_le, Bool.true_eq_false, Bool.false_eq_true, eq_self, reduceIte, Nat.reduceAdd, Nat.reduceMul, Nat.reduceSub, Nat.reduceEqDiff, Nat.reduceLT, Nat.reduceLeDiff, reduceCtorEq, fX6_dealOut_b177, fX6_dealOut_b180, em, hmb (lo + gNth (iB A B) (fb_ct (iU A B) k + fb_ct (iB A B) len - fb_ct (iU A B) len) len) (by omega) (by omega), e2, Nat.add_assoc, Nat.sub_sub]
            · -- none
              have hct := Lf_ct L3 h32
              refine Or.inl ⟨_, ?_, q, x2, x3, M', rfl, by rw [hc]; exact Lf_cg L2 (fun j hj hb => by have := ct_lt hj hb; omega), by rw [hc]; exact Lf_cg L3 (fun j hj hb => by omega), hF, ?_⟩
              · rw [n5, n5']
                unfold fX6_dealOut_l50
                rw [hp'.2.1, if_neg (by rw [p_lt (by omega) (by omega)]; omega), hp'.2.2.1, hp'.2.2.2.1, p_has10 (by omega), p_bnd, hbU, if_neg (by rw [show (0 : Int32) = nI 0 from rfl, p_ib0]; decide), if_pos n2, if_pos rfl]
                by_cases n3 : x3 = 0
                · rw [if_pos n3, hc]
                  simp (disch := omega) only [p_bnd, p_nm, p_gSEl, p_gSEr, p_l0, p_l1, p_l2, p_l3, p_l4, p_l5, p_l6, p_l7, p_l8, p_l9, p_l10, p_l14, p_l16, p_l20, p_l22, p_l24, p_l30, p_l31, p_l32, p_l38, p_l40, p_l41, p_l43, p_l48, p_l57, p_l59, p_l60, p_l61, p_l62, p_l63, p_l97, p_l98, p_l101, p_l122, p_l158, p_l201, p_l255, p_l256, p_l374, p_l880, p_l900, p_l1000, p_l2618, p_neg, nI_add, p_mul, p_sub, p_addm, p_addm0, p_subm, p_le, p_lt, p_eq, p_mO_eq, p_eq_mO, p_mO_lt, p_nlt_mO, p_mO_le, p_le_mO, p_rI, p_rL, p_wI, p_wL, p_wF, p_has10, p_has11, p_ib0, p_ib1, p_shl1, p_zv0, p_zv1, p_zvib, p_ibd, p_ibn, if_pos, if_neg, if_true, if_false, ne_eq, not_true, not_false_iff, Decidable.not_not, Nat.not_lt, Nat.not_le, Bool.true_eq_false, Bool.false_eq_true, eq_self, reduceIte, Nat.reduceAdd, Nat.reduceMul, Nat.reduceSub, Nat.reduceEqDiff, Nat.reduceLT, Nat.reduceLeDiff, reduceCtorEq, fX6_dealOut_b177, fX6_dealOut_b180, Nat.add_assoc, Nat.sub_sub]
                · rw [if_neg n3, p_bitCount, p_bnd, hct, if_neg (by rw [p_eq (by omega) (by omega)]; omega), hc]
                  simp (disch := omega) only [p_bnd, p_nm, p_gSEl, p_gSEr, p_l0, p_l1, p_l2, p_l3, p_l4, p_l5, p_l6, p_l7, p_l8, p_l9, p_l10, p_l14, p_l16, p_l20, p_l22, p_l24, p_l30, p_l31, p_l32, p_l38, p_l40, p_l41, p_l43, p_l48, p_l57, p_l59, p_l60, p_l61, p_l62, p_l63, p_l97, p_l98, p_l101, p_l122, p_l158, p_l201, p_l255, p_l256, p_l374, p_l880, p_l900, p_l1000, p_l2618, p_neg, nI_add, p_mul, p_sub, p_addm, p_addm0, p_subm, p_le, p_lt, p_eq, p_mO_eq, p_eq_mO, p_mO_lt, p_nlt_mO, p_mO_le, p_le_mO, p_rI, p_rL, p_wI, p_wL, p_wF, p_has10, p_has11, p_ib0, p_ib1, p_shl1, p_zv0, p_zv1, p_zvib, p_ibd, p_ibn, if_pos, if_neg, if_true, if_false, ne_eq, not_true, not_false_iff, Decidable.not_not, Nat.not_lt, Nat.not_le, Bool.true_eq_false, Bool.false_eq_true, eq_self, reduceIte, Nat.reduceAdd, Nat.reduceMul, Nat.reduceSub, Nat.reduceEqDiff, Nat.reduceLT, Nat.reduceLeDiff, reduceCtorEq, fX6_dealOut_b177, fX6_dealOut_b180, Nat.add_assoc, Nat.sub_sub]
              · rw [fmap_succ (mb := mb) (wJ := wJ)]
                have : i0 A B len k = none := by unfold i0; rw [if_neg (by rw [hu]; decide), if_neg c1, if_neg c2, if_neg c3]
                rw [this]; simpa using hR
    · refine Or.inr ⟨M', ?_, hF, ?_⟩
      · unfold fX6_dealOut_l50
        rw [hp'.2.1, if_pos (by rw [p_lt (by omega) (by omega)]; omega)]
      · have e9 : k = len := by omega
        rw [e9] at hR; exact hR
  refine ⟨q, ?_, F, R⟩
  unfold fX6_dealOut
  rw [hp.1, hp.2.2.1, hp.2.2.2.1, hp.2.2.2.2, p_nm, p_bnd, p_nm, p_bnd, p_bitCount, p_bnd, cU, p_nm, p_bnd, p_nm, p_bnd]
  rw [show (-1 : Int32) = mO 1 from rfl, e1, p_bnd]
end DL
