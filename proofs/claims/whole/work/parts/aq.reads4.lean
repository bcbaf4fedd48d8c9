/-! STEPS that only ask: fresh, size, arrow, account -/
section RE4
variable {M N M' N' : gMem} {c k a b : Nat} {S : gS} {P : List gS} {x y : Int32}
theorem x_place (hc : CS M 1 S) (hr : RS N S) (x : Int32) : (∃ a, a < sG S ∧ x = nI a ∧ fX11_noPlace x N = some (nI 0, gI N 0 0 (nI 0)) ∧ fX10_checkPlace x (M.1 1 11) = some (.inl ())) ∨ (fX11_noPlace x N = some (nI 1, gI N 0 0 (nI 1)) ∧ fX10_checkPlace x (M.1 1 11) = some (.inr 2)) := by
  have hn := (sW_24 hc.2).2.2
  unfold fX11_noPlace fX10_checkPlace
  rw [show rI N 1 374 (2 : Int32) = some (nI (sG S)) by rw [show (2 : Int32) = nI 2 from rfl, p_rI (by omega) (by omega), hr.1.1.2.2.1], p_bnd, cs_g hc]
  rcases x_chk x (sG S) (by omega) with ⟨a, a1, a2, a3, a4, a5⟩ | ⟨a1, a2⟩
  · left
    exact ⟨a, a1, a2, by rw [a3]; rfl, by rw [if_neg a4, if_pos a5]⟩
  · right
    refine ⟨by rw [a1]; rfl, ?_⟩
    rcases a2 with b | ⟨b, b2⟩
    · rw [if_pos b]; rfl
    · rw [if_neg b, if_neg b2]; rfl
theorem st_fresh (h : REL c M N) (x : Int32) : STL c (fL_fresh x M) (fX11_fresh x N) := by
  obtain ⟨S, P, h1, h2, h3, h4, h5, h6⟩ := id h
  have hg := (sW_24 h1.1.2).2.2
  rcases x_place h1.1 h1.2.1 x with ⟨a, ha, rfl, e0, e1⟩ | ⟨e0, e1⟩
  · have hr : RS (gI N 0 0 (nI 0)) S := RS_of h1.2.1 (p_gI_o (by decide))
    obtain ⟨M1, m1, F1, R1, -⟩ := cs_sortAll h1.1 (by decide)
    obtain ⟨N1, g1, G1, H1⟩ := rs_laysFresh hr
    obtain ⟨f1, f2, f3⟩ := fO_at h1.1.2 ha
    have r46 : M1.1 46 a = sMb S (sPl S ((fO S).getD a 0)) := R1.2 a _ (by rw [List.getElem?_map, f1]; rfl)
    have r11 : N1.1 11 a = nI ((fO S).getD a 0) := by
      have := H1 a _ f1
      rw [Nat.zero_add] at this; exact this
    refine STL_ok (M' := M1) (N' := N1) (b := nI ((fO S).getD a 0)) (fl_ok ?_ _) ?_ ?_ (REL_sc h (gFr_mo F1 (fun c k z => by unfold Dso at z; unfold scD; omega)) (gFr_tr (G00 N _) (gFr_mo G1 (fun c k z => by unfold srD; omega))))
    · unfold fX10_fresh
      rw [e1, p_bnd, gSE_l, m1, p_bnd, p_rI (by omega) (by omega), p_bnd, r46, cs_headOf h1.1.2 (h1.1.2.p f2), p_bnd, f3]
    · unfold fX11_fresh
      rw [e0, p_bnd]
      dsimp only
      rw [if_pos (show nI 0 = 0 from rfl), g1, p_bnd, p_rI (by omega) (by omega), p_bnd, r11]
    · rw [(G1 0 0 (by omega)).1, p_gI_s]
  · refine STL_sc (k := 1) (v := nI 0) (N' := gI N 0 0 (nI 1)) h ?_ ?_ (by omega) (by omega) (p_gI_s _ _ _ _) (G00 N _)
    · unfold fL_fresh fX10_fresh
      rw [e1]; rfl
    · unfold fX11_fresh
      rw [e0]; rfl
theorem x_ne (q : x < nI 0 ∨ (¬ x < nI 0 ∧ nI b < x)) (hb : b < 2147483647) (hk : k ≤ b) : x ≠ nI k := by
  rintro rfl
  rcases q with z | ⟨-, z⟩
  · rw [p_lt (by omega) (by omega)] at z; omega
  · rw [p_lt (by omega) (by omega)] at z; omega
theorem st_size (h : REL c M N) (x : Int32) : STL c (fL_size x M) (fX11_size x N) := by
  obtain ⟨S, P, h1, h2, h3, h4, h5, h6⟩ := id h
  have hr : RS (gI N 0 0 (nI 0)) S := RS_of h1.2.1 (p_gI_o (by decide))
  rcases x_in x 0 8 (by omega) (by omega) with ⟨a, -, a8, rfl, e⟩ | ⟨q, e⟩
  · have ry : fX11_size (nI a) N = if nI a = (5 : Int32) then ((fX11_largest (gI N 0 0 (nI 0))).bind fun v6 => some (v6, gI N 0 0 (nI 0))) else if nI a = (6 : Int32) then ((fX11_inners (gI N 0 0 (nI 0))).bind fun v8 => some (v8, gI N 0 0 (nI 0))) else if nI a = (7 : Int32) then ((fX11_groupsOfMore (gI N 0 0 (nI 0))).bind fun v10 => some (v10, gI N 0 0 (nI 0))) else if nI a = (8 : Int32) then (some ((gI N 0 0 (nI 0)).1 0 6, gI N 0 0 (nI 0))) else (rI (gI N 0 0 (nI 0)) 1 374 (nI a)).bind fun v12 => some (v12, gI N 0 0 (nI 0)) := by
      unfold fX11_size
      rw [show fX11_in (nI a) (0 : Int32) (8 : Int32) = _ from e, p_bnd, if_neg (show ¬ nI 1 = 0 by decide), show (0 : Int32) = nI 0 from rfl, r_wr0, p_bnd]
      dsimp only
      rw [if_pos rfl]
    have fin : ∀ v, fX10_size (nI a) M = some (.inl v) → fX11_size (nI a) N = some (v, gI N 0 0 (nI 0)) → STL c (fL_size (nI a) M) (fX11_size (nI a) N) := fun v a1 a2 => STL_r (v := v) (N' := gI N 0 0 (nI 0)) h (fl_ok0 a1 _) a2 (p_gI_s _ _ _ _) (G00 N _)
    obtain ⟨⟨q0, q1, q2, q3, q4⟩, -⟩ := hr.1
    rcases (show a = 0 ∨ a = 1 ∨ a = 2 ∨ a = 3 ∨ a = 4 ∨ a = 5 ∨ a = 6 ∨ a = 7 ∨ a = 8 by omega) with rfl | rfl | rfl | rfl | rfl | rfl | rfl | rfl | rfl
    · refine fin (nI (sN S)) ?_ ?_
      · unfold fX10_size
        rw [if_pos (show nI 0 = (0 : Int32) from rfl), cs_n h1.1]
      · rw [ry, if_neg (by decide), if_neg (by decide), if_neg (by decide), if_neg (by decide), p_rI (by omega) (by omega), p_bnd, q0]
    · refine fin (nI (sM S)) ?_ ?_
      · unfold fX10_size
        rw [if_neg (by decide), if_pos (show nI 1 = (1 : Int32) from rfl), cs_m h1.1]
      · rw [ry, if_neg (by decide), if_neg (by decide), if_neg (by decide), if_neg (by decide), p_rI (by omega) (by omega), p_bnd, q1]
    · refine fin (nI (sG S)) ?_ ?_
      · unfold fX10_size
        rw [if_neg (by decide), if_neg (by decide), if_pos (show nI 2 = (2 : Int32) from rfl), cs_g h1.1]
      · rw [ry, if_neg (by decide), if_neg (by decide), if_neg (by decide), if_neg (by decide), p_rI (by omega) (by omega), p_bnd, q2]
    · refine fin (nI (sMo S)) ?_ ?_
      · unfold fX10_size
        rw [if_neg (by decide), if_neg (by decide), if_neg (by decide), if_pos (show nI 3 = (3 : Int32) from rfl), cs_mo h1.1]
      · rw [ry, if_neg (by decide), if_neg (by decide), if_neg (by decide), if_neg (by decide), p_rI (by omega) (by omega), p_bnd, q3]
    · refine fin (nI (sJo S)) ?_ ?_
      · unfold fX10_size
        rw [if_neg (by decide), if_neg (by decide), if_neg (by decide), if_neg (by decide), if_pos (show nI 4 = (4 : Int32) from rfl), cs_jo h1.1]
      · rw [ry, if_neg (by decide), if_neg (by decide), if_neg (by decide), if_neg (by decide), p_rI (by omega) (by omega), p_bnd, q4]
    · refine fin _ ?_ (by rw [ry, if_pos (show nI 5 = (5 : Int32) from rfl), rs_largest hr, p_bnd])
      unfold fX10_size
      rw [if_neg (by decide), if_neg (by decide), if_neg (by decide), if_neg (by decide), if_neg (by decide), if_pos (show nI 5 = (5 : Int32) from rfl), cs_largest h1.1, p_bnd]
    · refine fin _ ?_ (by rw [ry, if_neg (by decide), if_pos (show nI 6 = (6 : Int32) from rfl), rs_inners hr, p_bnd])
      unfold fX10_size
      rw [if_neg (by decide), if_neg (by decide), if_neg (by decide), if_neg (by decide), if_neg (by decide), if_neg (by decide), if_pos (show nI 6 = (6 : Int32) from rfl), cs_innerArrows h1.1, p_bnd]
    · refine fin _ ?_ (by rw [ry, if_neg (by decide), if_neg (by decide), if_pos (show nI 7 = (7 : Int32) from rfl), rs_groupsOfMore hr, p_bnd])
      unfold fX10_size
      rw [if_neg (by decide), if_neg (by decide), if_neg (by decide), if_neg (by decide), if_neg (by decide), if_neg (by decide), if_neg (by decide), if_pos (show nI 7 = (7 : Int32) from rfl), cs_trueGroups h1.1, p_bnd]
    · refine fin (nI P.length) ?_ (by rw [ry, if_neg (by decide), if_neg (by decide), if_neg (by decide), if_pos (show nI 8 = (8 : Int32) from rfl), p_gI_n (Or.inr (by decide)), h2.2.1.2.1])
      unfold fX10_size
      rw [if_neg (by decide), if_neg (by decide), if_neg (by decide), if_neg (by decide), if_neg (by decide), if_neg (by decide), if_neg (by decide), if_neg (by decide), if_pos (show nI 8 = (8 : Int32) from rfl), h2.1.2.1]
  · refine STL_sc (k := 1) (v := nI 0) (N' := gI N 0 0 (nI 1)) h ?_ ?_ (by omega) (by omega) (p_gI_s _ _ _ _) (G00 N _)
    · unfold fL_size fX10_size
      have ne : ∀ k, k ≤ 8 → x ≠ nI k := fun k hk => x_ne q (by decide) hk
      rw [if_neg (show ¬ x = (0 : Int32) from ne 0 (by decide)), if_neg (show ¬ x = (1 : Int32) from ne 1 (by decide)), if_neg (show ¬ x = (2 : Int32) from ne 2 (by decide)), if_neg (show ¬ x = (3 : Int32) from ne 3 (by decide)), if_neg (show ¬ x = (4 : Int32) from ne 4 (by decide)), if_neg (show ¬ x = (5 : Int32) from ne 5 (by decide)), if_neg (show ¬ x = (6 : Int32) from ne 6 (by decide)), if_neg (show ¬ x = (7 : Int32) from ne 7 (by decide)), if_neg (show ¬ x = (8 : Int32) from ne 8 (by decide))]; rfl
    · unfold fX11_size
      rw [show fX11_in x (0 : Int32) (8 : Int32) = _ from e]; rfl
/-- an answer as a long -/
def ST8 (c : Nat) (x : Option (Int32 × gMem)) (y : Option (Int64 × gMem)) : Prop := ∃ k M' b N', x = some (nI k, M') ∧ y = some (b, N') ∧ k ≤ 2 ∧ N'.1 0 0 = nI k ∧ (k = 0 → M'.2.1 137 0 = b) ∧ REL c M' N'
theorem nI_64 {k : Nat} (h : k < 2147483648) : (nI k).toInt64 = lN k := by
  apply Int64.toInt_inj.mp
  rw [Int32.toInt_toInt64, nI_int h]
  symm
  exact Int64.toInt_ofNat_of_lt (by omega)
theorem st_account (h : REL c M N) (hcb : 4000 * c < 2147483648) (x : Int32) : ST8 c (fL_account x M) (fX11_account x N) := by
  obtain ⟨S, P, h1, h2, h3, h4, h5, h6⟩ := id h
  rcases x_in x 0 8 (by omega) (by omega) with ⟨a, -, a8, rfl, e⟩ | ⟨q, e⟩
  · have hb := h1.2.2.1 a (by omega)
    have hm : M.2.1 10 a = lN (sAc S a) := cs_ac h1.1 (by omega)
    have hw : (gI N 0 0 (nI 0)).1 1 (5 + a) = nI (sAc S a) := by rw [p_gI_n (Or.inl (by decide))]; exact h1.2.1.1.2.1 a (by omega)
    refine ⟨0, gL M 137 0 (lN (sAc S a)), lN (sAc S a), gI N 0 0 (nI 0), ?_, ?_, by omega, p_gI_s _ _ _ _, fun _ => by rw [p_gL]; exact if_pos ⟨rfl, rfl⟩, REL_sc h (gFr_L (by unfold scD; omega)) (G00 N _)⟩
    · unfold fL_account fX10_account
      rw [if_neg (by rw [show (0 : Int32) = nI 0 from rfl, p_lt (by omega) (by omega)]; omega), if_pos (by rw [show (9 : Int32) = nI 9 from rfl, p_lt (by omega) (by omega)]; omega), p_rL (by omega) (by omega), p_bnd, p_bnd, gSE_l, hm, p_out, p_bnd]; rfl
    · unfold fX11_account
      rw [show fX11_in (nI a) (0 : Int32) (8 : Int32) = _ from e, p_bnd, if_neg (show ¬ nI 1 = 0 by decide), show (0 : Int32) = nI 0 from rfl, r_wr0, p_bnd]
      dsimp only
      rw [if_pos rfl, show (5 : Int32) + nI a = nI (5 + a) from nI_add _ _, p_rI (by omega) (by omega), p_bnd, hw, nI_64 (by omega)]
  · refine ⟨1, M, (0 : Int64), gI N 0 0 (nI 1), ?_, ?_, by omega, p_gI_s _ _ _ _, fun z => by omega, REL_sc h gFr_rf (G00 N _)⟩
    · unfold fL_account fX10_account
      rcases q with z | ⟨z, z2⟩
      · rw [if_pos (show x < (0 : Int32) from z)]; rfl
      · rw [if_neg (show ¬ x < (0 : Int32) from z), if_neg (show ¬ x < (9 : Int32) from x_lt (k := 8) (by decide) z2)]; rfl
    · unfold fX11_account
      rw [show fX11_in x (0 : Int32) (8 : Int32) = _ from e]; rfl
end RE4
