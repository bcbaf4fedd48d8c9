/-! THE RELATION of both memories; readText -/
def rNow (c : Nat) (S : gS) (M N : gMem) : Prop := CS M 1 S ∧ RS N S ∧ sB S (4000 * c) ∧ 1 ≤ sN S
def rPast (c : Nat) (P : List gS) (M N : gMem) : Prop := PC M P ∧ PR N P ∧ ∀ T, T ∈ P → sB T (4000 * c) ∧ 1 ≤ sN T
def rKept (c : Nat) (M N : gMem) : Prop := (M.1 0 3 = nI 0 ∧ N.1 0 7 = nI 0) ∨ ∃ K, M.1 0 3 = nI 1 ∧ N.1 0 7 = nI 1 ∧ CS M 21 K ∧ RR (N.1 4) K ∧ sB K (4000 * c) ∧ 1 ≤ sN K
def rText (M N : gMem) : Prop := ∃ B L, TXc M B L ∧ TXr N B L
def rErr (M N : gMem) : Prop := M.1 32 4 = N.1 0 28 ∧ M.1 32 5 = N.1 0 29
def rOut (M N : gMem) : Prop := ∃ o, o ≤ 256 ∧ M.1 34 1 = nI o ∧ N.1 0 40 = nI o ∧ ∀ k, k < o → M.1 35 k = N.1 18 k
def REL (c : Nat) (M N : gMem) : Prop := ∃ S P, rNow c S M N ∧ rPast c P M N ∧ rKept c M N ∧ rText M N ∧ rErr M N ∧ rOut M N
/-- scratch cells -/
def scD (c k : Nat) : Prop := (11 ≤ c ∧ c ≤ 20) ∨ (36 ≤ c ∧ c ≤ 56) ∨ c = 137 ∨ (c = 32 ∧ (k = 2 ∨ k = 3))
def srD (c k : Nat) : Prop := c = 2 ∨ c = 3 ∨ (6 ≤ c ∧ c ≤ 11) ∨ (13 ≤ c ∧ c ≤ 17) ∨ (c = 0 ∧ k ≠ 6 ∧ k ≠ 7 ∧ k ≠ 21 ∧ k ≠ 28 ∧ k ≠ 29 ∧ k ≠ 40)
section RL
variable {M N M' N' : gMem} {c c' : Nat} {S : gS} {P : List gS} {D D' : Nat → Nat → Prop}
theorem sB_le {b b' : Nat} (h : sB S b) (hb : b ≤ b') : sB S b' := fun a ha => Nat.le_trans (h a ha) hb
theorem rNow_fr (h : rNow c S M N) (F : gFr D M M') (G : gFr D' N N') (hd : ∀ c k, 1 ≤ c → c ≤ 10 → ¬ D c k) (hd' : ∀ k, ¬ D' 1 k) : rNow c S M' N' :=
  ⟨CS_fr h.1 F (fun j k hj => hd _ _ (by omega) (by omega)), RS_of h.2.1 (gFr_c1 G hd'), h.2.2⟩
theorem rPast_fr (h : rPast c P M N) (F : gFr D M M') (G : gFr D' N N') (hd : ∀ c k, (c = 0 ∧ k = 5) ∨ c = 31 ∨ (57 ≤ c ∧ c ≤ 136) → ¬ D c k) (hd' : ∀ c k, (c = 0 ∧ k = 6) ∨ c = 5 → ¬ D' c k) : rPast c P M' N' :=
  ⟨PC_of h.1 (F 0 5 (hd _ _ (by omega))).1 (fun d k z => F d k (hd _ _ (by omega))), PR_of h.2.1 (G 0 6 (hd' _ _ (by omega))).1 (gFr_c1 G fun k => hd' _ _ (by omega)), h.2.2⟩
theorem rKept_fr (h : rKept c M N) (F : gFr D M M') (G : gFr D' N N') (hd : ∀ c k, (c = 0 ∧ k = 3) ∨ (21 ≤ c ∧ c ≤ 30) → ¬ D c k) (hd' : ∀ c k, (c = 0 ∧ k = 7) ∨ c = 4 → ¬ D' c k) : rKept c M' N' := by
  have e1 := (F 0 3 (hd _ _ (by omega))).1
  have e2 := (G 0 7 (hd' _ _ (by omega))).1
  rcases h with ⟨h1, h2⟩ | ⟨K, h1, h2, h3, h4, h5⟩
  · exact Or.inl ⟨e1.trans h1, e2.trans h2⟩
  · exact Or.inr ⟨K, e1.trans h1, e2.trans h2, CS_fr h3 F (fun j k hj => hd _ _ (by omega)), by rw [gFr_c1 G fun k => hd' _ _ (by omega)]; exact h4, h5⟩
theorem rText_fr (h : rText M N) (F : gFr D M M') (G : gFr D' N N') (hd : ∀ c k, (c = 32 ∧ k = 1) ∨ c = 33 → ¬ D c k) (hd' : ∀ c k, (c = 0 ∧ k = 21) ∨ c = 12 → ¬ D' c k) : rText M' N' := by
  obtain ⟨B, L, h1, h2⟩ := h
  exact ⟨B, L, TXc_of h1 (F 32 1 (hd _ _ (by omega))).1 (gFr_c1 F fun k => hd _ _ (by omega)), TXr_of h2 (G 0 21 (hd' _ _ (by omega))).1 (gFr_c1 G fun k => hd' _ _ (by omega))⟩
theorem rErr_fr (h : rErr M N) (F : gFr D M M') (G : gFr D' N N') (hd : ∀ k, 4 ≤ k → k ≤ 5 → ¬ D 32 k) (hd' : ∀ k, 28 ≤ k → k ≤ 29 → ¬ D' 0 k) : rErr M' N' :=
  ⟨by rw [(F 32 4 (hd _ (by omega) (by omega))).1, (G 0 28 (hd' _ (by omega) (by omega))).1]; exact h.1, by rw [(F 32 5 (hd _ (by omega) (by omega))).1, (G 0 29 (hd' _ (by omega) (by omega))).1]; exact h.2⟩
theorem rOut_fr (h : rOut M N) (F : gFr D M M') (G : gFr D' N N') (hd : ∀ c k, (c = 34 ∧ k = 1) ∨ c = 35 → ¬ D c k) (hd' : ∀ c k, (c = 0 ∧ k = 40) ∨ c = 18 → ¬ D' c k) : rOut M' N' := by
  obtain ⟨o, h1, h2, h3, h4⟩ := h
  exact ⟨o, h1, by rw [(F 34 1 (hd _ _ (by omega))).1]; exact h2, by rw [(G 0 40 (hd' _ _ (by omega))).1]; exact h3, fun k hk => by rw [(F 35 k (hd _ _ (by omega))).1, (G 18 k (hd' _ _ (by omega))).1]; exact h4 k hk⟩
theorem REL_sc (h : REL c M N) (F : gFr scD M M') (G : gFr srD N N') : REL c M' N' := by
  obtain ⟨S, P, h1, h2, h3, h4, h5, h6⟩ := h
  exact ⟨S, P, rNow_fr h1 F G (fun c k a b z => by unfold scD at z; omega) (fun k z => by unfold srD at z; omega), rPast_fr h2 F G (fun c k a z => by unfold scD at z; omega) (fun c k a z => by unfold srD at z; omega), rKept_fr h3 F G (fun c k a z => by unfold scD at z; omega) (fun c k a z => by unfold srD at z; omega), rText_fr h4 F G (fun c k a z => by unfold scD at z; omega) (fun c k a z => by unfold srD at z; omega), rErr_fr h5 F G (fun k a b z => by unfold scD at z; omega) (fun k a b z => by unfold srD at z; omega), rOut_fr h6 F G (fun c k a z => by unfold scD at z; omega) (fun c k a z => by unfold srD at z; omega)⟩
theorem REL_mono (h : REL c M N) (hc : c ≤ c') : REL c' M N := by
  have q : 4000 * c ≤ 4000 * c' := Nat.mul_le_mul_left _ hc
  obtain ⟨S, P, h1, h2, h3, h4⟩ := h
  refine ⟨S, P, ⟨h1.1, h1.2.1, sB_le h1.2.2.1 q, h1.2.2.2⟩, ⟨h2.1, h2.2.1, fun T hT => ⟨sB_le (h2.2.2 T hT).1 q, (h2.2.2 T hT).2⟩⟩, ?_, h4⟩
  rcases h3 with h3 | ⟨K, a, b, d, e, f, g⟩
  · exact Or.inl h3
  · exact Or.inr ⟨K, a, b, d, e, sB_le f q, g⟩
/-- one step of the law, by a helper -/
def STL (c : Nat) (x y : Option (Int32 × gMem)) : Prop := ∃ k M' b N', x = some (nI k, M') ∧ y = some (b, N') ∧ k ≤ 2 ∧ N'.1 0 0 = nI k ∧ (k = 0 → M'.2.1 137 0 = b.toInt64) ∧ REL c M' N'
theorem STL_no {x y : Option (Int32 × gMem)} {k : Nat} {b : Int32} (hx : x = some (nI k, M')) (hy : y = some (b, N')) (h1 : 1 ≤ k) (h2 : k ≤ 2) (h0 : N'.1 0 0 = nI k) (h : REL c M' N') : STL c x y :=
  ⟨k, M', b, N', hx, hy, h2, h0, fun z => absurd z (by omega), h⟩
theorem STL_ok {x y : Option (Int32 × gMem)} {b : Int32} (hx : x = some (nI 0, gL M' 137 0 b.toInt64)) (hy : y = some (b, N')) (h0 : N'.1 0 0 = nI 0) (h : REL c M' N') : STL c x y :=
  ⟨0, gL M' 137 0 b.toInt64, b, N', hx, hy, by omega, h0, fun _ => by rw [p_gL]; exact if_pos ⟨rfl, rfl⟩, REL_sc h (gFr_L (by unfold scD; omega)) gFr_rf⟩
theorem p_out (M : gMem) (x : Int64) : wL M 137 1 (0 : Int32) x = some (gL M 137 0 x) := p_wL (k := 0) (n := 1) (by omega) (by omega)
/-- helpers that change memory / that don't -/
theorem gSE_l {α β γ : Type} {a : α} {f : α → γ} {g : β → γ} : gSE (.inl a) f g = f a := rfl
theorem gSE_r {α β γ : Type} {b : β} {f : α → γ} {g : β → γ} : gSE (.inr b) f g = g b := rfl
theorem fl_ok {x : Option ((Int32 ⊕ Nat) × gMem)} {v : Int32} {M1 : gMem} (e : x = some (.inl v, M1)) (g : ((Int32 ⊕ Nat) × gMem) → Nat → Option (Int32 × gMem)) : (x.bind fun v1 => gSE v1.1 (fun u2 => (wL v1.2 137 1 (0 : Int32) u2.toInt64).bind fun M4 => some ((0 : Int32), M4)) (g v1)) = some (nI 0, gL M1 137 0 v.toInt64) := by
  subst e
  rw [p_bnd]
  dsimp only
  rw [gSE_l, p_out, p_bnd]; rfl
theorem fl_ok0 {x : Option (Int32 ⊕ Nat)} {v : Int32} {M : gMem} (e : x = some (.inl v)) (g : Nat → Option (Int32 × gMem)) : (x.bind fun v1 => gSE v1 (fun u2 => (wL M 137 1 (0 : Int32) u2.toInt64).bind fun M4 => some ((0 : Int32), M4)) g) = some (nI 0, gL M 137 0 v.toInt64) := by
  subst e
  rw [p_bnd, gSE_l, p_out, p_bnd]; rfl
theorem fl_no {x : Option ((Int32 ⊕ Nat) × gMem)} {k : Nat} {M1 : gMem} (e : x = some (.inr k, M1)) (f : ((Int32 ⊕ Nat) × gMem) → Int32 → Option (Int32 × gMem)) (g : ((Int32 ⊕ Nat) × gMem) → Nat → Option (Int32 × gMem)) : (x.bind fun v1 => gSE v1.1 (f v1) (g v1)) = g (.inr k, M1) k := by
  subst e; rfl
theorem fl_no0 {x : Option (Int32 ⊕ Nat)} {k : Nat} (e : x = some (.inr k)) (f : Int32 → Option (Int32 × gMem)) (g : Nat → Option (Int32 × gMem)) : (x.bind fun v1 => gSE v1 f g) = g k := by
  subst e; rfl
theorem st_readText (h : REL c M N) : STL c (fL_readText M) (fX11_readText N) := by
  obtain ⟨S, P, h1, h2, h3, ⟨B, L, tc, tr⟩, h5, h6⟩ := h
  obtain ⟨N2, g2, G2, I2, J2⟩ := r_keepsBefore (gI N 0 0 (nI 0))
  have G2' : gFr (fun c k => c = 1 ∨ c = 3 ∨ (c = 0 ∧ k = 0)) N N2 := gFr_tr (gFr_I (by omega)) (gFr_mo G2 (fun c k z => by omega))
  have G3 : gFr (fun c k => c = 1 ∨ c = 3 ∨ (c = 0 ∧ (k = 0 ∨ k = 31))) N (gI N2 0 31 (nI 0)) := gFr_trI (gFr_mo G2' (fun c k z => by omega)) (by omega)
  have t3 : TXr (gI N2 0 31 (nI 0)) B L := TXr_fr tr G3 (fun c k z w => by omega)
  obtain ⟨b, M4, N4, N0, s0, F4, G4, a4, yes, no⟩ := lk_all tc t3 (p_gI_s _ _ _ _) (fun k hk => by rw [p_gI_n (Or.inl (by decide))]; exact J2 k hk)
  generalize hN3 : gI N2 0 31 (nI 0) = N3 at G3 t3 G4 s0
  have row3 : ∀ k, k < 374 → N4.1 3 k = N.1 1 k := fun k hk => by
    rw [(G4 3 k (by unfold DrT; omega)).1, ← hN3, p_gI_n (Or.inl (by decide)), I2 k hk, p_gI_n (Or.inl (by decide))]
  have ry : fX11_readText N = (fX11_ends N4).bind fun v6 => if v6.1 = 0 then ((wF v6.2 0 0 (1 : Int32)).bind fun M8 => (fX11_laysBefore M8).bind fun v9 => some ((0 : Int32), v9)) else (gLoop (fun z9 => fX11_readText_l43 z9.1 z9.2) gFu ((0 : Int32), v6.2)).bind fun w12 => (wF w12 0 6 (0 : Int32)).bind fun M13 => (rI M13 1 374 (0 : Int32)).bind fun v14 => some (v14, M13) := by
    unfold fX11_readText
    rw [show (0 : Int32) = nI 0 from rfl, p_wF, p_bnd, g2, p_bnd, p_wF, p_bnd, hN3, s0, p_bnd, a4, p_bnd]
  generalize hN5 : gI (gI (gI N4 0 21 (nI 0)) 0 28 (N4.1 0 26)) 0 29 (N4.1 0 27) = N5
  have ee : fX11_ends N4 = some (if N4.1 0 26 = 0 then (1 : Int32) else (0 : Int32), N5) := by
    unfold fX11_ends
    rw [show (0 : Int32) = nI 0 from rfl, p_wF, p_bnd, p_gI_n (Or.inr (by decide)), p_wF, p_bnd, p_gI_n (Or.inr (by decide)), p_gI_n (Or.inr (by decide)), p_wF, p_bnd, hN5]
    rw [show N5.1 0 26 = N4.1 0 26 by rw [← hN5, p_gI_n (Or.inr (by decide)), p_gI_n (Or.inr (by decide)), p_gI_n (Or.inr (by decide))]]
  have G5 : gFr (fun c k => c = 0 ∧ (k = 21 ∨ k = 28 ∨ k = 29)) N4 N5 := by rw [← hN5]; exact gFr_trI (gFr_trI (gFr_I (by omega)) (by omega)) (by omega)
  have v21 : N5.1 0 21 = nI 0 := by rw [← hN5, p_gI_n (Or.inr (by decide)), p_gI_n (Or.inr (by decide)), p_gI_s]
  have v28 : N5.1 0 28 = N4.1 0 26 := by rw [← hN5, p_gI_n (Or.inr (by decide)), p_gI_s]
  have v29 : N5.1 0 29 = N4.1 0 27 := by rw [← hN5, p_gI_s]
  have GA : gFr (fun c k => c = 1 ∨ c = 3 ∨ c = 6 ∨ c = 8 ∨ c = 9 ∨ c = 10 ∨ (c = 0 ∧ k ≠ 6 ∧ k ≠ 7 ∧ k ≠ 40)) N N5 := gFr_tr (gFr_mo G3 (fun c k z => by omega)) (gFr_tr (gFr_mo G4 (fun c k z => by unfold DrT at z; omega)) (gFr_mo G5 (fun c k z => by omega)))
  rw [ry, ee, p_bnd]
  dsimp only
  cases b
  · obtain ⟨cx, e, p, e1, e9, p9, E1, E2⟩ := no rfl
    obtain ⟨N9, g9, G9, I9⟩ := r_laysBefore (gI N5 0 0 (nI 1))
    have FA : gFr (fun c k => DcT c k ∨ (c = 32 ∧ k = 1)) M (gI M4 32 1 (nI 0)) := gFr_trI (gFr_mo F4 (fun c k z => Or.inl z)) (Or.inr ⟨rfl, rfl⟩)
    have GB : gFr (fun c k => c = 1 ∨ c = 3 ∨ c = 6 ∨ c = 8 ∨ c = 9 ∨ c = 10 ∨ (c = 0 ∧ k ≠ 6 ∧ k ≠ 7 ∧ k ≠ 40)) N N9 := gFr_tr (gFr_trI GA (by omega)) (gFr_mo G9 (fun c k z => by omega))
    have n0 : ∀ k, k ≠ 0 → N9.1 0 k = N5.1 0 k := fun k z => by rw [(G9 0 k (by omega)).1, p_gI_n (Or.inr z)]
    refine STL_no (k := 1) (M' := gI M4 32 1 (nI 0)) (N' := N9) (b := nI 0) ?_ ?_ (by omega) (by omega) ?_ ⟨S, P, ⟨?_, ⟨RR_ew h1.2.1.1 h1.2.1.2 (fun k hk => ?_), h1.2.1.2⟩, h1.2.2⟩, rPast_fr h2 FA GB (fun c k a z => by unfold DcT at z; omega) (fun c k a z => by omega), rKept_fr h3 FA GB (fun c k a z => by unfold DcT at z; omega) (fun c k a z => by omega), ⟨B, 0, ⟨p_gI_s _ _ _ _, by omega, fun i hi => absurd hi (Nat.not_lt_zero i)⟩, ⟨(n0 21 (by decide)).trans v21, by omega, fun i hi => absurd hi (Nat.not_lt_zero i)⟩⟩, ⟨?_, ?_⟩, rOut_fr h6 FA GB (fun c k a z => by unfold DcT at z; omega) (fun c k a z => by omega)⟩
    · unfold fL_readText fX10_readText
      rw [cx, p_bnd, show (0 : Int32) = nI 0 from rfl, p_wF, p_bnd]
      rfl
    · rw [E2.1, if_neg (show ¬ nI e = 0 by rw [show (0 : Int32) = nI 0 from rfl, p_eq (by omega) (by omega)]; omega), if_pos rfl, p_wF, p_bnd, show (1 : Int32) = nI 1 from rfl, g9]; rfl
    · rw [(G9 0 0 (by omega)).1, p_gI_s]
    · exact CS_fr h1.1 FA (fun j k hj z => by unfold DcT at z; omega)
    · rw [I9 k hk, p_gI_n (Or.inl (by decide)), (G5 3 k (by omega)).1]; exact row3 k hk
    · rw [p_gI_n (Or.inr (by decide)), n0 _ (by decide), v28, E1.1, E2.1]
    · rw [p_gI_n (Or.inr (by decide)), n0 _ (by decide), v29, E1.2, E2.2]
  · obtain ⟨S', h1', C', R', E', ⟨E6, E7⟩, M5, e5, cx⟩ := yes rfl
    obtain ⟨M5', e5', F5, C5⟩ := cs_clearA C'
    obtain rfl : M5 = M5' := by rw [e5] at e5'; exact Option.some.inj e5'
    have C6 : CS (gI M5 32 1 (nI 0)) 11 (sZa S') := CS_fr C5 (gFr_I (D := fun c _ => c = 32) rfl) (fun j k hj z => by omega)
    obtain ⟨M7, e7, F7, C7⟩ := cs_copy (t := 1) C6 (Or.inl (by decide))
    have C8 : CS (gI M7 0 5 (nI 0)) 1 (sZa S') := CS_fr C7 (gFr_I (D := fun c _ => c = 0) rfl) (fun j k hj z => by omega)
    have FA : gFr (fun c k => DcT c k ∨ (c = 32 ∧ k = 1) ∨ (1 ≤ c ∧ c ≤ 10) ∨ (c = 0 ∧ k = 5)) M (gI M7 0 5 (nI 0)) := gFr_trI (gFr_tr (gFr_trI (gFr_tr (gFr_mo F4 (fun c k z => Or.inl z)) (gFr_mo F5 (fun c k z => by unfold DcT; omega))) (by omega)) (gFr_mo F7 (fun c k z => by omega))) (by omega)
    obtain ⟨N9, g9, G9, I9⟩ : ∃ r, gLoop (fun z9 => fX11_readText_l43 z9.1 z9.2) gFu ((0 : Int32), N5) = some r ∧ gFr (fun c _ => c = 1) N5 r ∧ ∀ k, r.1 1 k = if 5 ≤ k ∧ k < 14 then nI 0 else N5.1 1 k := by
      refine gLoop_i (fun k s => s.1 = nI k ∧ k ≤ 9 ∧ gFr (fun c _ => c = 1) N5 s.2 ∧ ∀ q, s.2.1 1 q = if 5 ≤ q ∧ q < 5 + k then nI 0 else N5.1 1 q) _ 9 ⟨rfl, by omega, gFr_rf, fun q => by rw [if_neg (by omega)]⟩ (by decide) ?_
      rintro k ⟨s1, N'⟩ hk ⟨rfl, h9, hF, hA⟩
      rcases Nat.lt_or_ge k 9 with q | q
      · refine Or.inl ⟨(nI (k + 1), gI N' 1 (5 + k) (nI 0)), ?_, q, rfl, by omega, gFr_trI hF rfl, fun i => ?_⟩
        · simp (disch := omega) only [p_bnd, p_nm, p_gSEl, p_gSEr, p_l0, p_l1, p_l2, p_l3, p_l4, p_l5, p_l6, p_l7, p_l8, p_l9, p_l10, p_l14, p_l16, p_l20, p_l22, p_l24, p_l30, p_l31, p_l32, p_l38, p_l40, p_l41, p_l43, p_l48, p_l57, p_l59, p_l60, p_l61, p_l62, p_l63, p_l97, p_l98, p_l101, p_l122, p_l158, p_l201, p_l255, p_l256, p_l374, p_l880, p_l900, p_l1000, p_l2618, p_neg, nI_add, p_mul, p_sub, p_addm, p_addm0, p_subm, p_le, p_lt, p_eq, p_mO_eq, p_eq_mO, p_mO_lt, p_nlt_mO, p_mO_le, p_le_mO, p_rI, p_rL, p_wI, p_wL, p_wF, p_has10, p_has11, p_ib0, p_ib1, p_shl1, p_zv0, p_zv1, p_zvib, p_ibd, p_ibn, if_pos, if_neg, if_true, if_false, ne_eq, not_true, not_false_iff, Decidable.not_not, Nat.not_lt, Nat.not_le, Bool.true_eq_false, Bool.false_eq_true, eq_self, reduceIte, Nat.reduceAdd, Nat.reduceMul, Nat.reduceSub, Nat.reduceEqDiff, Nat.reduceLT, Nat.reduceLeDiff, reduceCtorEq, fX11_readText_l43]
        · show (gI N' 1 (5 + k) (nI 0)).1 1 i = _
          rw [p_gI, hA]
          by_cases d : i = 5 + k
          · rw [if_pos ⟨rfl, d⟩, if_pos (by omega)]
          · rw [if_neg (fun z => d z.2)]
            by_cases d2 : 5 ≤ i ∧ i < 5 + k
            · rw [if_pos d2, if_pos (by omega)]
            · rw [if_neg d2, if_neg (by omega)]
      · refine Or.inr ⟨N', ?_, hF, fun i => ?_⟩
        · simp (disch := omega) only [p_bnd, p_nm, p_gSEl, p_gSEr, p_l0, p_l1, p_l2, p_l3, p_l4, p_l5, p_l6, p_l7, p_l8, p_l9, p_l10, p_l14, p_l16, p_l20, p_l22, p_l24, p_l30, p_l31, p_l32, p_l38, p_l40, p_l41, p_l43, p_l48, p_l57, p_l59, p_l60, p_l61, p_l62, p_l63, p_l97, p_l98, p_l101, p_l122, p_l158, p_l201, p_l255, p_l256, p_l374, p_l880, p_l900, p_l1000, p_l2618, p_neg, nI_add, p_mul, p_sub, p_addm, p_addm0, p_subm, p_le, p_lt, p_eq, p_mO_eq, p_eq_mO, p_mO_lt, p_nlt_mO, p_mO_le, p_le_mO, p_rI, p_rL, p_wI, p_wL, p_wF, p_has10, p_has11, p_ib0, p_ib1, p_shl1, p_zv0, p_zv1, p_zvib, p_ibd, p_ibn, if_pos, if_neg, if_true, if_false, ne_eq, not_true, not_false_iff, Decidable.not_not, Nat.not_lt, Nat.not_le, Bool.true_eq_false, Bool.false_eq_true, eq_self, reduceIte, Nat.reduceAdd, Nat.reduceMul, Nat.reduceSub, Nat.reduceEqDiff, Nat.reduceLT, Nat.reduceLeDiff, reduceCtorEq, fX11_readText_l43]
        · rw [hA, show 5 + k = 14 by omega]
    have RZ : RS (gI N9 0 6 (nI 0)) (sZa S') := by
      have R5 := RS_of R' (gFr_c1 G5 (fun k z => by omega))
      obtain ⟨⟨q0, qa, qo, qf, qt⟩, hW⟩ := R5
      obtain ⟨n24, m60, g24⟩ := sW_24 hW
      have o : ∀ k, ¬ (5 ≤ k ∧ k < 14) → (gI N9 0 6 (nI 0)).1 1 k = N5.1 1 k := fun k z => by rw [p_gI_n (Or.inl (by decide)), I9, if_neg z]
      refine ⟨⟨?_, fun a ha => ?_, fun p hp => ?_, fun i hi => ?_, fun t ht => ?_⟩, sZa_W hW⟩
      · rw [o _ (by omega), o _ (by omega), o _ (by omega), o _ (by omega), o _ (by omega)]; exact q0
      · rw [p_gI_n (Or.inl (by decide)), I9, if_pos (by omega)]; rfl
      · rw [o _ (by omega)]; exact qo p hp
      · rw [o _ (by omega), o _ (by omega)]; exact qf i hi
      · rw [o _ (by omega), o _ (by omega), o _ (by omega)]
        obtain ⟨t1, t2, t3, t4⟩ := qt t ht
        exact ⟨t1, t2, t3, fun k hk => by rw [o _ (by omega)]; exact t4 k hk⟩
    have GB : gFr (fun c k => c = 1 ∨ c = 3 ∨ c = 6 ∨ c = 8 ∨ c = 9 ∨ c = 10 ∨ (c = 0 ∧ k ≠ 7 ∧ k ≠ 40)) N (gI N9 0 6 (nI 0)) := gFr_trI (gFr_tr (gFr_mo GA (fun c k z => by omega)) (gFr_mo G9 (fun c k z => by omega))) (by omega)
    have n0 : ∀ k, k ≠ 6 → (gI N9 0 6 (nI 0)).1 0 k = N5.1 0 k := fun k z => by rw [p_gI_n (Or.inr z), (G9 0 k (by omega)).1]
    have m32 : ∀ k, 4 ≤ k → (gI M7 0 5 (nI 0)).1 32 k = M4.1 32 k := fun k z => by
      rw [p_gI_n (Or.inl (by decide)), (F7 32 k (by omega)).1, p_gI_n (Or.inr (by omega)), (F5 32 k (by omega)).1]
    obtain ⟨-, -, pm, hp, -⟩ := h2.1
    refine STL_ok (M' := gI M7 0 5 (nI 0)) (N' := gI N9 0 6 (nI 0)) (b := nI (sN S')) ?_ ?_ ?_ ⟨sZa S', [], ⟨C8, RZ, fun a ha => Nat.zero_le _, h1'⟩, ⟨⟨Nat.zero_le _, p_gI_s _ _ _ _, pm, ⟨fun j hj => ?_, hp.2⟩, fun j T z => by cases j <;> cases z⟩, ⟨Nat.zero_le _, p_gI_s _ _ _ _, fun j T z => by cases j <;> cases z⟩, fun T z => by cases z⟩, rKept_fr h3 FA GB (fun c k a z => by unfold DcT at z; omega) (fun c k a z => by omega), ⟨B, 0, ⟨?_, by omega, fun i hi => absurd hi (Nat.not_lt_zero i)⟩, ⟨(n0 21 (by decide)).trans v21, by omega, fun i hi => absurd hi (Nat.not_lt_zero i)⟩⟩, ⟨?_, ?_⟩, rOut_fr h6 FA GB (fun c k a z => by unfold DcT at z; omega) (fun c k a z => by omega)⟩
    · refine fl_ok ?_ _
      unfold fX10_readText
      rw [cx, p_bnd]
      dsimp only
      rw [show (0 : Int32) = nI 0 from rfl, p_wF, p_bnd, if_neg (show ¬ nI 1 = nI 0 by decide), e7, p_bnd, p_wF, p_bnd, cs_n C8]; rfl
    · rw [E6, if_pos (show nI 0 = 0 from rfl), if_neg (show ¬ (1 : Int32) = 0 by decide), g9, p_bnd, show (0 : Int32) = nI 0 from rfl, p_wF, p_bnd, p_rI (by omega) (by omega), p_bnd, RZ.1.1.1]; rfl
    · rw [n0 _ (by decide), (G5 0 0 (by omega)).1, (G4 0 0 (by unfold DrT; omega)).1, ← hN3, p_gI_n (Or.inr (by decide)), (G2 0 0 (by omega)).1, p_gI_s]
    · rw [(FA 31 j (by unfold DcT; omega)).2.2]; exact hp.1 j hj
    · rw [p_gI_n (Or.inl (by decide)), (F7 32 1 (by omega)).1, p_gI_s]
    · rw [m32 _ (by omega), n0 _ (by decide), v28, E'.1, E6]
    · rw [m32 _ (by omega), n0 _ (by decide), v29, E'.2, E7]
end RL
