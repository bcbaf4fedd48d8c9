/-! STEPS with fractions: innerShare, meanMoved; what the library's wide import gives is taken as three facts -/
def HF : Prop := ∀ a b : Nat, a ≤ 60 → b ≤ 60 → 0 < b → ∃ v, fdivO (FP.i2f (nI a)) (FP.i2f (nI b)) = some v
def HD : Prop := ∀ a b : Nat, a < 2147483648 → b < 2147483648 → 0 < b → ∃ v, ddivO (FP.i2d (nI a)) (FP.i2d (nI b)) = some v
def HL : Prop := ∀ k : Nat, k < 2147483648 → FP.l2d (lN k) = FP.i2d (nI k)
section FLO
variable {M N M' N' : gMem} {c : Nat} {S : gS} {P : List gS}
theorem st_innerShare (hf : HF) (h : REL c M N) : ∃ v N', fX10_innerShare M = some v ∧ fX11_innerShare N = some (v, N') ∧ REL c M N' := by
  obtain ⟨S, P, h1, h2, h3, h4, h5, h6⟩ := id h
  have hm := h1.1.2.1.2.1
  have hr : RS (gI N 0 0 (nI 0)) S := RS_of h1.2.1 (p_gI_o (by decide))
  have e1 : rI (gI N 0 0 (nI 0)) 1 374 (1 : Int32) = some (nI (sM S)) := by rw [show (1 : Int32) = nI 1 from rfl, p_rI (by omega) (by omega), hr.1.1.2.1]
  have ry : fX11_innerShare N = if nI (sM S) = 0 then (some (FP.fconst0, gI N 0 0 (nI 0))) else (fdivO (FP.i2f (nI (fb_ct (sIn S) (sM S)))) (FP.i2f (nI (sM S)))).bind fun v6 => some (v6, gI N 0 0 (nI 0)) := by
    unfold fX11_innerShare
    rw [show (0 : Int32) = nI 0 from rfl, p_wF, p_bnd, e1, p_bnd, rs_inners hr, p_bnd, p_bnd]
  have cx : fX10_innerShare M = if nI (sM S) = 0 then (some FP.fconst0) else (fdivO (FP.i2f (nI (fb_ct (sIn S) (sM S)))) (FP.i2f (nI (sM S)))).bind fun v3 => some v3 := by
    unfold fX10_innerShare
    rw [cs_m h1.1, cs_innerArrows h1.1, p_bnd]
  by_cases z : sM S = 0
  · have e9 : nI (sM S) = 0 := by rw [z]; rfl
    exact ⟨_, _, cx.trans (if_pos e9), ry.trans (if_pos e9), REL_sc h gFr_rf (G00 N _)⟩
  · have e9 : ¬ nI (sM S) = 0 := by rw [show (0 : Int32) = nI 0 from rfl, p_eq (by omega) (by omega)]; exact z
    have le := fb_ct_le (sIn S) (sM S)
    obtain ⟨v, hv⟩ := hf (fb_ct (sIn S) (sM S)) (sM S) (by omega) (by omega) (by omega)
    rw [if_neg e9, hv, p_bnd] at cx ry
    exact ⟨v, _, cx, ry, REL_sc h gFr_rf (G00 N _)⟩
theorem st_meanMoved (hd : HD) (hl : HL) (h : REL c M N) (hcb : 4000 * c < 2147483648) : ∃ v N', fX10_meanMoved M = some v ∧ fX11_meanMoved N = some (v, N') ∧ REL c M N' := by
  obtain ⟨S, P, h1, h2, h3, h4, h5, h6⟩ := id h
  have b2 := h1.2.2.1 2 (by omega)
  have b5 := h1.2.2.1 5 (by omega)
  have hr : RS (gI N 0 0 (nI 0)) S := RS_of h1.2.1 (p_gI_o (by decide))
  have e7 : rI (gI N 0 0 (nI 0)) 1 374 (7 : Int32) = some (nI (sAc S 2)) := by rw [show (7 : Int32) = nI 7 from rfl, p_rI (by omega) (by omega)]; congr 1; exact hr.1.2.1 2 (by omega)
  have e10 : rI (gI N 0 0 (nI 0)) 1 374 (10 : Int32) = some (nI (sAc S 5)) := by rw [show (10 : Int32) = nI 10 from rfl, p_rI (by omega) (by omega)]; congr 1; exact hr.1.2.1 5 (by omega)
  have m2 : rL M 10 9 (2 : Int32) = some (lN (sAc S 2)) := by rw [show (2 : Int32) = nI 2 from rfl, p_rL (by omega) (by omega)]; congr 1; exact cs_ac h1.1 (by omega)
  have m5 : rL M 10 9 (5 : Int32) = some (lN (sAc S 5)) := by rw [show (5 : Int32) = nI 5 from rfl, p_rL (by omega) (by omega)]; congr 1; exact cs_ac h1.1 (by omega)
  have ry : fX11_meanMoved N = if nI (sAc S 2) = 0 then (some (FP.dconst0, gI N 0 0 (nI 0))) else (ddivO (FP.i2d (nI (sAc S 5))) (FP.i2d (nI (sAc S 2)))).bind fun v6 => some (v6, gI N 0 0 (nI 0)) := by
    unfold fX11_meanMoved
    rw [show (0 : Int32) = nI 0 from rfl, p_wF, p_bnd, e7, p_bnd, e10, p_bnd, p_bnd]
  have cx : fX10_meanMoved M = if (lg_cmp (lN (sAc S 2)) (0 : Int64)) = 0 then (some FP.dconst0) else (ddivO (FP.l2d (lN (sAc S 5))) (FP.l2d (lN (sAc S 2)))).bind fun v4 => some v4 := by
    unfold fX10_meanMoved
    rw [m2, p_bnd, m5, p_bnd]
  have cz : (lg_cmp (lN (sAc S 2)) (0 : Int64) = 0) = (sAc S 2 = 0) := cmp_0 (b := 0) (by omega) (by decide)
  by_cases z : sAc S 2 = 0
  · have e9 : nI (sAc S 2) = 0 := by rw [z]; rfl
    exact ⟨_, _, cx.trans (if_pos (by rw [cz]; exact z)), ry.trans (if_pos e9), REL_sc h gFr_rf (G00 N _)⟩
  · have e9 : ¬ nI (sAc S 2) = 0 := by rw [show (0 : Int32) = nI 0 from rfl, p_eq (by omega) (by omega)]; exact z
    obtain ⟨v, hv⟩ := hd (sAc S 5) (sAc S 2) (by omega) (by omega) (by omega)
    rw [if_neg (by rw [cz]; exact z), hl _ (by omega), hl _ (by omega), hv, p_bnd] at cx
    rw [if_neg e9, hv, p_bnd] at ry
    exact ⟨v, _, cx, ry, REL_sc h gFr_rf (G00 N _)⟩
end FLO
