/-! OUTPUT: orders, arrows; the steps -/
section OU2
variable {M N : gMem} {S : gS} {l w : List Nat} {p u x i b c : Nat}
theorem gCt_9 (h : sW S) : gCt S p = gC9 S p (sN S) := by
  have hn := h.1.1
  unfold gCt gC9 sMb
  rw [ct_mkS (n := sN S) (by omega) (fun v hv e => (of_decide_eq_true e).1)]
  exact fb_ct_cong fun k hk => decide_eq_decide.mpr ⟨fun z => z.2, fun z => ⟨hk, z⟩⟩
theorem gCt_1 (h : sW S) (hp : p < sG S) : 1 ≤ gCt S p := by
  obtain ⟨a, b⟩ := sHd_ok h.2.2.1 hp
  rw [gCt_9 h]
  exact fb_ct_pos.mpr ⟨_, a, decide_eq_true b⟩
theorem c_putGroup (hc : CS M 1 S) (hp : p < sG S) (h : OC1 M l) (hl : l.length + 7 * gC9 S p (sN S) ≤ 249) : ∃ r, fX4_putGroup 1 (sMb S p) M = some r ∧ gFr Do1 M r ∧ OC1 r (l ++ oGx S p) := by
  have g1 := gCt_1 hc.2 hp
  have g9 : gCt S p ≤ 32 := fb_ct_le _ _
  have tl := oG1_le (p := p) hc.2 (sN S) (Nat.le_refl _)
  have eb : fJ6_bitCount_0f7a4 (sMb S p) = some (nI (gCt S p)) := p_bitCount _
  unfold fX4_putGroup oGx
  rw [eb, p_bnd, p_nm, p_bnd]
  by_cases c : gCt S p = 1
  · obtain ⟨r, e, F, O⟩ := c_grpL (b0 := false) hc hp h (by omega)
    have ev : (if nI (gCt S p) ≤ (1 : Int32) then (0 : Int32) else (1 : Int32)) = (0 : Int32) := if_pos (by rw [c]; decide)
    rw [ev, if_pos rfl, if_pos c]
    refine ⟨r, ?_, F, O⟩
    unfold fX4_putGroup_b24
    rw [show gLoop (fun z9 => fX4_putGroup_l27 1 (sMb S p) (0 : Int32) z9.1 z9.2) gFu ((0 : Int32), M) = _ from e, p_bnd, if_pos rfl]
  · obtain ⟨M1, e1, F1, O1⟩ := c_put (b := 40) h (by omega) (by decide)
    have hc1 : CS M1 1 S := CS_fr hc F1 (fun j k hj z => by unfold Do1 at z; omega)
    obtain ⟨M2, e2, F2, O2⟩ := c_grpL (b0 := true) hc1 hp O1 (by rw [List.length_append]; show _ + 1 + _ ≤ _; omega)
    obtain ⟨M3, e3, F3, O3⟩ := c_put (b := 41) O2 (by rw [List.length_append, List.length_append]; show _ + 1 + _ < _; omega) (by decide)
    have ev : (if nI (gCt S p) ≤ (1 : Int32) then (0 : Int32) else (1 : Int32)) = (1 : Int32) := if_neg (by rw [show (1 : Int32) = nI 1 from rfl, p_le (by omega) (by omega)]; omega)
    rw [ev, if_neg (show ¬ (1 : Int32) = 0 by decide), if_neg c, show (40 : Int32) = nI 40 from rfl, e1, p_bnd]
    refine ⟨M3, ?_, gFr_tr F1 (gFr_tr F2 F3), by rw [← List.append_assoc, ← List.append_assoc]; exact O3⟩
    unfold fX4_putGroup_b24
    rw [show gLoop (fun z9 => fX4_putGroup_l27 1 (sMb S p) (1 : Int32) z9.1 z9.2) gFu ((0 : Int32), M1) = _ from e2, p_bnd, if_neg (show ¬ (1 : Int32) = 0 by decide), show (41 : Int32) = nI 41 from rfl, e3, p_bnd]
theorem r_putGroup (hr : RS N S) (hp : p < sG S) (h : OR1 N l) (hl : l.length + 7 * gC9 S p (sN S) ≤ 249) : ∃ r, fX11_tellsGroup (nI p) N = some r ∧ gFr Do2 N r ∧ OR1 r (l ++ oGx S p) := by
  have g9 : gCt S p ≤ 32 := fb_ct_le _ _
  have tl := oG1_le (p := p) hr.2 (sN S) (Nat.le_refl _)
  have eb : fX11_many (sMb S p) = some (nI (gCt S p)) := p_many _
  unfold fX11_tellsGroup oGx
  rw [rs_membersAt hr hp, p_bnd, eb, p_bnd, p_nm, p_bnd]
  by_cases c : gCt S p = 1
  · obtain ⟨r, e, F, O⟩ := r_grpL (b0 := true) hr hp h (by omega)
    have ev : (if nI (gCt S p) = (1 : Int32) then (1 : Int32) else (0 : Int32)) = (1 : Int32) := if_pos (by rw [c]; rfl)
    rw [ev, if_neg (show ¬ (1 : Int32) = 0 by decide), if_pos c]
    refine ⟨r, ?_, F, O⟩
    unfold fX11_tellsGroup_b30
    rw [show gLoop (fun z9 => fX11_tellsGroup_l33 (nI p) (sMb S p) (1 : Int32) z9.1 z9.2) gFu ((0 : Int32), N) = _ from e, p_bnd, if_neg (show ¬ (1 : Int32) = 0 by decide)]
  · obtain ⟨M1, e1, F1, O1⟩ := r_put (b := 40) h (by omega)
    have hr1 : RS M1 S := RS_of hr (gFr_c1 F1 fun k z => by unfold Do2 at z; omega)
    obtain ⟨M2, e2, F2, O2⟩ := r_grpL (b0 := false) hr1 hp O1 (by rw [List.length_append]; show _ + 1 + _ ≤ _; omega)
    obtain ⟨M3, e3, F3, O3⟩ := r_put (b := 41) O2 (by rw [List.length_append, List.length_append]; show _ + 1 + _ < _; omega)
    have ev : (if nI (gCt S p) = (1 : Int32) then (1 : Int32) else (0 : Int32)) = (0 : Int32) := if_neg (by rw [show (1 : Int32) = nI 1 from rfl, p_eq (by omega) (by omega)]; exact c)
    rw [ev, if_pos rfl, if_neg c, show (40 : Int32) = nI 40 from rfl, e1, p_bnd]
    refine ⟨M3, ?_, gFr_tr F1 (gFr_tr F2 F3), by rw [← List.append_assoc, ← List.append_assoc]; exact O3⟩
    unfold fX11_tellsGroup_b30
    rw [show gLoop (fun z9 => fX11_tellsGroup_l33 (nI p) (sMb S p) (0 : Int32) z9.1 z9.2) gFu ((0 : Int32), M1) = _ from e2, p_bnd, if_pos rfl, show (41 : Int32) = nI 41 from rfl, e3, p_bnd]
/-- the order's text -/
def oT (S : gS) : Nat → List Nat
  | 0 => []
  | p + 1 => oT S p ++ ((if p = 0 then [] else [32]) ++ oGx S p)
def lt9 (S : gS) (p : Nat) : Nat := fb_ct (fun v => decide (sPl S v < p)) (sN S)
theorem lt9_s : lt9 S (p + 1) = lt9 S p + gC9 S p (sN S) := by
  unfold lt9 gC9
  rw [← fb_ct_or (fun k hk z => by have a := of_decide_eq_true z.1; have b := of_decide_eq_true z.2; omega)]
  refine fb_ct_cong fun k hk => ?_
  rw [← Bool.decide_or]
  exact decide_eq_decide.mpr (by omega)
theorem oT_le (h : sW S) : ∀ p, (oT S p).length ≤ 7 * lt9 S p + 3 * p := by
  intro p
  induction p with
  | zero => exact Nat.zero_le _
  | succ p ih =>
    have := oGx_le (p := p) h
    have e := lt9_s (S := S) (p := p)
    show (oT S p ++ ((if p = 0 then [] else [32]) ++ oGx S p)).length ≤ _
    rw [List.length_append, List.length_append]
    have : (if p = 0 then ([] : List Nat) else [32]).length ≤ 1 := by split <;> decide
    omega
theorem oT_room (h : sW S) (hp : p < sG S) : (oT S p).length + 1 + 7 * gC9 S p (sN S) ≤ 241 := by
  have a := oT_le h p
  have e := lt9_s (S := S) (p := p)
  have b : lt9 S (p + 1) ≤ sN S := fb_ct_le _ _
  obtain ⟨a24, -, g24⟩ := sW_24 h
  omega
theorem oT_all (h : sW S) : (oT S (sG S)).length ≤ 240 := by
  have a := oT_le h (sG S)
  have b : lt9 S (sG S) ≤ sN S := fb_ct_le _ _
  obtain ⟨a24, -, g24⟩ := sW_24 h
  omega
theorem c_order (hc : CS M 1 S) : ∃ r, fX10_writeOrder M = some (nI (oT S (sG S)).length, r) ∧ gFr Do1 M r ∧ OC1 r (oT S (sG S)) := by
  obtain ⟨a24, -, g24⟩ := sW_24 hc.2
  have h0 : OC1 (gI M 34 1 (nI 0)) (oT S 0) := ⟨p_gI_s _ _ _ _, fun j hj => absurd hj (Nat.not_lt_zero j)⟩
  have F0 : gFr Do1 M (gI M 34 1 (nI 0)) := gFr_I (Or.inl ⟨rfl, rfl⟩)
  obtain ⟨r, e, F, O⟩ : ∃ r, gLoop (fun z9 => fX10_writeOrder_l10 z9.1 z9.2) gFu ((0 : Int32), gI M 34 1 (nI 0)) = some r ∧ gFr Do1 M r ∧ OC1 r (oT S (sG S)) := by
    refine gLoop_i (fun p s => s.1 = nI p ∧ p ≤ sG S ∧ gFr Do1 M s.2 ∧ OC1 s.2 (oT S p)) _ (sG S) ⟨rfl, by omega, F0, h0⟩ (by show sG S < 4096; omega) ?_
    rintro p ⟨s1, M'⟩ hp ⟨rfl, hle, hF, hO⟩
    have hF : gFr Do1 M M' := hF
    have hc' : CS M' 1 S := CS_fr hc hF (fun j k hj z => by unfold Do1 at z; omega)
    have eg := cs_g hc'
    rcases Nat.lt_or_ge p (sG S) with q | q
    · have rm := oT_room hc.2 q
      have b34 : ∀ {M2 : gMem} {l2 : List Nat}, gFr Do1 M M2 → OC1 M2 l2 → l2.length + 7 * gC9 S p (sN S) ≤ 249 → ∃ r, fX10_writeOrder_b34 (nI p) M2 = some (.inl (nI (p + 1), r)) ∧ gFr Do1 M2 r ∧ OC1 r (l2 ++ oGx S p) := fun {M2 l2} f2 o2 h2 => by
        have hc2 : CS M2 1 S := CS_fr hc f2 (fun j k hj z => by unfold Do1 at z; omega)
        have hm : M2.1 8 p = sMb S p := cs_mb hc2 q
        obtain ⟨r, e, F, O⟩ := c_putGroup hc2 q o2 h2
        refine ⟨r, ?_, F, O⟩
        unfold fX10_writeOrder_b34
        rw [p_rI (by omega) (by omega), p_bnd, hm, e, p_bnd, show nI p + (1 : Int32) = nI (p + 1) from nI_add _ _]
      by_cases d : p = 0
      · obtain ⟨r, e, F, O⟩ := b34 hF hO (by show (oT S p).length + _ ≤ _; omega)
        refine Or.inl ⟨(nI (p + 1), r), ?_, q, rfl, by omega, gFr_tr hF F, ?_⟩
        · show fX10_writeOrder_l10 (nI p) M' = _
          unfold fX10_writeOrder_l10
          rw [eg, if_neg (by rw [p_le (by omega) (by omega)]; omega), if_pos (by rw [show (0 : Int32) = nI 0 from rfl, p_le (by omega) (by omega)]; omega), e]
        · show OC1 r (oT S p ++ ((if p = 0 then [] else [32]) ++ oGx S p))
          rw [if_pos d, List.nil_append]; exact O
      · obtain ⟨M3, e3, F3, O3⟩ := c_put (b := 32) hO (by show (oT S p).length < _; omega) (by decide)
        obtain ⟨r, e, F, O⟩ := b34 (gFr_tr hF F3) O3 (by rw [List.length_append]; show (oT S p).length + 1 + _ ≤ _; omega)
        refine Or.inl ⟨(nI (p + 1), r), ?_, q, rfl, by omega, gFr_tr hF (gFr_tr F3 F), ?_⟩
        · show fX10_writeOrder_l10 (nI p) M' = _
          unfold fX10_writeOrder_l10
          rw [eg, if_neg (by rw [p_le (by omega) (by omega)]; omega), if_neg (by rw [show (0 : Int32) = nI 0 from rfl, p_le (by omega) (by omega)]; omega), show (32 : Int32) = nI 32 from rfl, e3, p_bnd, e]
        · show OC1 r (oT S p ++ ((if p = 0 then [] else [32]) ++ oGx S p))
          rw [if_neg d, ← List.append_assoc]; exact O
    · have e9 : p = sG S := by omega
      refine Or.inr ⟨M', ?_, hF, by rw [← e9]; exact hO⟩
      show fX10_writeOrder_l10 (nI p) M' = _
      unfold fX10_writeOrder_l10
      rw [eg, if_pos (by rw [p_le (by omega) (by omega)]; omega)]
  refine ⟨r, ?_, F, O⟩
  unfold fX10_writeOrder
  rw [show (0 : Int32) = nI 0 from rfl, p_wF, p_bnd, show gLoop (fun z9 => fX10_writeOrder_l10 z9.1 z9.2) gFu (nI 0, gI M 34 1 (nI 0)) = _ from e, p_bnd, O.1]
theorem r_order (hr : RS N S) : ∃ r, fX11_writeOrder N = some (nI (oT S (sG S)).length, r) ∧ gFr (fun c k => Do2 c k ∨ (c = 0 ∧ k = 0)) N r ∧ OR1 r (oT S (sG S)) ∧ r.1 0 0 = nI 0 := by
  obtain ⟨a24, -, g24⟩ := sW_24 hr.2
  generalize hN0 : gI (gI N 0 0 (nI 0)) 0 40 (nI 0) = N0
  have h0 : OR1 N0 (oT S 0) := ⟨by rw [← hN0, p_gI_s]; rfl, fun j hj => absurd hj (Nat.not_lt_zero j)⟩
  have F0 : gFr (fun c k => Do2 c k ∨ (c = 0 ∧ k = 0)) N N0 := by rw [← hN0]; exact gFr_trI (gFr_I (Or.inr ⟨rfl, rfl⟩)) (Or.inl (Or.inl ⟨rfl, rfl⟩))
  have z0 : N0.1 0 0 = nI 0 := by rw [← hN0, p_gI_n (Or.inr (by decide)), p_gI_s]
  have hr0 : RS N0 S := RS_of hr (gFr_c1 F0 fun k z => by unfold Do2 at z; omega)
  obtain ⟨r, e, F, O⟩ : ∃ r, gLoop (fun z9 => fX11_writeOrder_l12 z9.1 z9.2) gFu ((0 : Int32), N0) = some r ∧ gFr Do2 N0 r ∧ OR1 r (oT S (sG S)) := by
    refine gLoop_i (fun p s => s.1 = nI p ∧ p ≤ sG S ∧ gFr Do2 N0 s.2 ∧ OR1 s.2 (oT S p)) _ (sG S) ⟨rfl, by omega, gFr_rf, h0⟩ (by show sG S < 4096; omega) ?_
    rintro p ⟨s1, M'⟩ hp ⟨rfl, hle, hF, hO⟩
    have hF : gFr Do2 N0 M' := hF
    have hr' : RS M' S := RS_of hr0 (gFr_c1 hF fun k z => by unfold Do2 at z; omega)
    have eg : rI M' 1 374 (2 : Int32) = some (nI (sG S)) := by rw [show (2 : Int32) = nI 2 from rfl, p_rI (by omega) (by omega), hr'.1.1.2.2.1]
    rcases Nat.lt_or_ge p (sG S) with q | q
    · have rm := oT_room hr.2 q
      have b34 : ∀ {M2 : gMem} {l2 : List Nat}, gFr Do2 N0 M2 → OR1 M2 l2 → l2.length + 7 * gC9 S p (sN S) ≤ 249 → ∃ r, fX11_writeOrder_b32 (nI p) M2 = some (.inl (nI (p + 1), r)) ∧ gFr Do2 M2 r ∧ OR1 r (l2 ++ oGx S p) := fun {M2 l2} f2 o2 h2 => by
        have hr2 : RS M2 S := RS_of hr0 (gFr_c1 f2 fun k z => by unfold Do2 at z; omega)
        obtain ⟨r, e, F, O⟩ := r_putGroup hr2 q o2 h2
        refine ⟨r, ?_, F, O⟩
        unfold fX11_writeOrder_b32
        rw [e, p_bnd, show nI p + (1 : Int32) = nI (p + 1) from nI_add _ _]
      by_cases d : p = 0
      · obtain ⟨r, e, F, O⟩ := b34 hF hO (by show (oT S p).length + _ ≤ _; omega)
        refine Or.inl ⟨(nI (p + 1), r), ?_, q, rfl, by omega, gFr_tr hF F, ?_⟩
        · show fX11_writeOrder_l12 (nI p) M' = _
          unfold fX11_writeOrder_l12
          rw [eg, p_bnd, if_neg (by rw [p_le (by omega) (by omega)]; omega), if_pos (by rw [show (0 : Int32) = nI 0 from rfl, p_le (by omega) (by omega)]; omega), e]
        · show OR1 r (oT S p ++ ((if p = 0 then [] else [32]) ++ oGx S p))
          rw [if_pos d, List.nil_append]; exact O
      · obtain ⟨M3, e3, F3, O3⟩ := r_put (b := 32) hO (by show (oT S p).length < _; omega)
        obtain ⟨r, e, F, O⟩ := b34 (gFr_tr hF F3) O3 (by rw [List.length_append]; show (oT S p).length + 1 + _ ≤ _; omega)
        refine Or.inl ⟨(nI (p + 1), r), ?_, q, rfl, by omega, gFr_tr hF (gFr_tr F3 F), ?_⟩
        · show fX11_writeOrder_l12 (nI p) M' = _
          unfold fX11_writeOrder_l12
          rw [eg, p_bnd, if_neg (by rw [p_le (by omega) (by omega)]; omega), if_neg (by rw [show (0 : Int32) = nI 0 from rfl, p_le (by omega) (by omega)]; omega), show (32 : Int32) = nI 32 from rfl, e3, p_bnd, e]
        · show OR1 r (oT S p ++ ((if p = 0 then [] else [32]) ++ oGx S p))
          rw [if_neg d, ← List.append_assoc]; exact O
    · have e9 : p = sG S := by omega
      refine Or.inr ⟨M', ?_, hF, by rw [← e9]; exact hO⟩
      show fX11_writeOrder_l12 (nI p) M' = _
      unfold fX11_writeOrder_l12
      rw [eg, p_bnd, if_pos (by rw [p_le (by omega) (by omega)]; omega)]
  refine ⟨r, ?_, gFr_tr F0 (gFr_mo F (fun c k z => Or.inl z)), O, (F 0 0 (by unfold Do2; omega)).1.trans z0⟩
  unfold fX11_writeOrder
  rw [show (0 : Int32) = nI 0 from rfl, p_wF, p_bnd, p_wF, p_bnd, hN0, show gLoop (fun z9 => fX11_writeOrder_l12 z9.1 z9.2) gFu (nI 0, N0) = _ from e, p_bnd, O.1]
/-- only the output changes -/
theorem REL_ou {M' N' : gMem} (h : REL c M N) (F : gFr Do1 M M') (G : gFr (fun c k => Do2 c k ∨ (c = 0 ∧ k = 0)) N N') (o1 : OC1 M' l) (o2 : OR1 N' l) (hl : l.length ≤ 256) : REL c M' N' := by
  obtain ⟨S, P, h1, h2, h3, h4, h5, h6⟩ := h
  exact ⟨S, P, rNow_fr h1 F G (fun c k a b z => by unfold Do1 at z; omega) (fun k z => by unfold Do2 at z; omega), rPast_fr h2 F G (fun c k a z => by unfold Do1 at z; omega) (fun c k a z => by unfold Do2 at z; omega), rKept_fr h3 F G (fun c k a z => by unfold Do1 at z; omega) (fun c k a z => by unfold Do2 at z; omega), rText_fr h4 F G (fun c k a z => by unfold Do1 at z; omega) (fun c k a z => by unfold Do2 at z; omega), rErr_fr h5 F G (fun k a b z => by unfold Do1 at z; omega) (fun k a b z => by unfold Do2 at z; omega), l.length, hl, o1.1, o2.1, fun k hk => (o1.2 k hk).trans (o2.2 k hk).symm⟩
theorem st_writeOrder (h : REL c M N) : SD c (fX10_writeOrder M) (fX11_writeOrder N) := by
  obtain ⟨S, P, h1, h2, h3, h4, h5, h6⟩ := id h
  obtain ⟨M1, e1, F1, O1⟩ := c_order h1.1
  obtain ⟨N1, g1, G1, O2, -⟩ := r_order h1.2.1
  have := oT_all h1.1.2
  exact ⟨_, M1, N1, e1, g1, REL_ou h F1 G1 O1 O2 (by omega)⟩
theorem st_outputByte (h : REL c M N) (x : Int32) : SD c ((fX10_outputByte x M).bind fun v => some (v, M)) (fX11_outputByte x N) := by
  obtain ⟨S, P, h1, h2, h3, h4, h5, ⟨o, o6, m34, n40, ob⟩⟩ := id h
  have hr : REL c M (gI N 0 0 (nI 0)) := REL_sc h gFr_rf (gFr_I (by unfold srD; omega))
  have n40' : (gI N 0 0 (nI 0)).1 0 40 = nI o := by rw [p_gI_n (Or.inr (by decide))]; exact n40
  unfold fX10_outputByte fX11_outputByte
  rw [m34, show (wF N 0 0 (0 : Int32)) = some (gI N 0 0 (nI 0)) from rfl, p_bnd, n40']
  rcases x_chk x o (by omega) with ⟨a, ha, rfl, e0, q1, q2⟩ | ⟨e0, q⟩
  · rw [e0, p_bnd, if_neg (show ¬ nI 1 = 0 by decide), if_neg q1, if_pos q2, p_rI (n := 600) (by omega) (by omega), p_bnd]
    rw [p_rI (n := 256) (by omega) (by omega), p_bnd, p_bnd, p_gI_o (by decide)]
    exact ⟨_, M, _, rfl, by rw [ob a ha], hr⟩
  · rw [e0, p_bnd, if_pos (show nI 0 = 0 from rfl)]
    refine ⟨mO 1, M, _, ?_, rfl, hr⟩
    rcases q with b | ⟨b, b2⟩
    · rw [if_pos b]; rfl
    · rw [if_neg b, if_neg b2]; rfl
end OU2
