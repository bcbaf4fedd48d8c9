/-! METHODS, by program: pure functions and contracts -/
theorem dX10_arrowOf_0 : decode cX10_arrowOf 0 = .ok (.aload_n 0, 1) := by decide +kernel
theorem dX10_arrowOf_1 : decode cX10_arrowOf 1 = .ok (.iload_n 1, 1) := by decide +kernel
theorem dX10_arrowOf_2 : decode cX10_arrowOf 2 = .ok (.invokevirtual 170, 3) := by decide +kernel
theorem dX10_arrowOf_5 : decode cX10_arrowOf 5 = .ok (.aload_n 0, 1) := by decide +kernel
theorem dX10_arrowOf_6 : decode cX10_arrowOf 6 = .ok (.iload_n 2, 1) := by decide +kernel
theorem dX10_arrowOf_7 : decode cX10_arrowOf 7 = .ok (.invokevirtual 170, 3) := by decide +kernel
theorem dX10_arrowOf_10 : decode cX10_arrowOf 10 = .ok (.aload_n 0, 1) := by decide +kernel
theorem dX10_arrowOf_11 : decode cX10_arrowOf 11 = .ok (.getfield 12, 3) := by decide +kernel
theorem dX10_arrowOf_14 : decode cX10_arrowOf 14 = .ok (.iload_n 1, 1) := by decide +kernel
theorem dX10_arrowOf_15 : decode cX10_arrowOf 15 = .ok (.iload_n 2, 1) := by decide +kernel
theorem dX10_arrowOf_16 : decode cX10_arrowOf 16 = .ok (.invokevirtual 255, 3) := by decide +kernel
theorem dX10_arrowOf_19 : decode cX10_arrowOf 19 = .ok (.ireturn, 1) := by decide +kernel
abbrev rX10_arrowOf : Room := { frames := 7, cells := 2, slots := 12, locals := 111 }
abbrev mX10_arrowOf : gY := (cX10_arrowOf, RX10, 3, rX10_arrowOf)
def fX10_arrowOf (x1 : Int32) (x2 : Int32) (M0 : gMem) : Option (Int32 ⊕ Nat) :=
  (fX10_checkTask x1 M0).bind fun v1 => gSE v1 (fun u2 => (fX10_checkTask x2 M0).bind fun v4 => gSE v4 (fun u5 => (fX2_numberOf 1 x1 x2 M0).bind fun v7 => some (.inl v7)) (fun x6 => some (.inr x6))) (fun x3 => some (.inr x3))
set_option maxRecDepth 20000 in
theorem tX10_arrowOf {X : gX} {V : gEnv} {x1 : Int32} {x2 : Int32} {M0 : gMem}  {o : (Int32 ⊕ Nat)} (h : fX10_arrowOf x1 x2 M0 = some o) (O : gOX X V mX10_arrowOf gShC (some .int) (gOI o) M0) : gG X V mX10_arrowOf gShC M0 0 0 0 [(0, .ref (gAd V 0)), (1, .int x1), (2, .int x2)] [] := by
  unfold fX10_arrowOf at h
  refine g_aload_n 0 rfl rfl dX10_arrowOf_0 ?_
  refine g_iload_n 1 rfl rfl dX10_arrowOf_1 ?_
  obtain ⟨v1, ev1, h⟩ := g_bnd h
  rcases v1 with u2 | x3
  · have h := g_sl h
    refine g_callVX LX10_170 sC_0 rfl (kX10_checkTask O.2.2.1 ev1) rfl rfl (Nat.le_of_ble_eq_true rfl) ⟨Nat.le_of_ble_eq_true rfl, Nat.le_of_ble_eq_true rfl⟩ ⟨Nat.le_of_ble_eq_true rfl, Nat.le_of_ble_eq_true rfl⟩ dX10_arrowOf_2 rfl ?_
    refine g_aload_n 0 rfl rfl dX10_arrowOf_5 ?_
    refine g_iload_n 2 rfl rfl dX10_arrowOf_6 ?_
    obtain ⟨v4, ev4, h⟩ := g_bnd h
    rcases v4 with u5 | x6
    · have h := g_sl h
      refine g_callVX LX10_170 sC_0 rfl (kX10_checkTask O.2.2.1 ev4) rfl rfl (Nat.le_of_ble_eq_true rfl) ⟨Nat.le_of_ble_eq_true rfl, Nat.le_of_ble_eq_true rfl⟩ ⟨Nat.le_of_ble_eq_true rfl, Nat.le_of_ble_eq_true rfl⟩ dX10_arrowOf_7 rfl ?_
      refine g_aload_n 0 rfl rfl dX10_arrowOf_10 ?_
      refine g_getR FX10_12 sC_0 rfl dX10_arrowOf_11 ?_
      refine g_iload_n 1 rfl rfl dX10_arrowOf_14 ?_
      refine g_iload_n 2 rfl rfl dX10_arrowOf_15 ?_
      obtain ⟨v7, ev7, h⟩ := g_bnd h
      refine g_callV LX10_255 sC_1 rfl (kX2_numberOf nC_1 ev7) rfl rfl (Nat.le_of_ble_eq_true rfl) ⟨Nat.le_of_ble_eq_true rfl, Nat.le_of_ble_eq_true rfl⟩ ⟨Nat.le_of_ble_eq_true rfl, Nat.le_of_ble_eq_true rfl⟩ dX10_arrowOf_16 rfl ?_
      cases h
      exact g_iretX O ⟨Nat.le_of_ble_eq_true rfl, Nat.le_of_ble_eq_true rfl⟩ rfl dX10_arrowOf_19
    · have h := g_sr h
      cases h
      exact g_callVT LX10_170 sC_0 rfl O (kX10_checkTask O.2.2.1 ev4) rfl rfl (Nat.le_of_ble_eq_true rfl) ⟨Nat.le_of_ble_eq_true rfl, Nat.le_of_ble_eq_true rfl⟩ ⟨Nat.le_of_ble_eq_true rfl, Nat.le_of_ble_eq_true rfl⟩ dX10_arrowOf_7
  · have h := g_sr h
    cases h
    exact g_callVT LX10_170 sC_0 rfl O (kX10_checkTask O.2.2.1 ev1) rfl rfl (Nat.le_of_ble_eq_true rfl) ⟨Nat.le_of_ble_eq_true rfl, Nat.le_of_ble_eq_true rfl⟩ ⟨Nat.le_of_ble_eq_true rfl, Nat.le_of_ble_eq_true rfl⟩ dX10_arrowOf_2
theorem kX10_arrowOf {l : Launch} {V : gEnv} {M0 : gMem} {x1 : Int32} {x2 : Int32} (hst : l.stackTraces = false)  {o : (Int32 ⊕ Nat)} (h : fX10_arrowOf x1 x2 M0 = some o) : gMX l yX10_arrowOf cX10_arrowOf 3 (some .int) rX10_arrowOf V gShC [.ref (gAd V 0), .int x1, .int x2] M0 (gOI o) M0 :=
  gMX.of hst (by decide) (Nat.le_of_ble_eq_true rfl) rfl (fun X _ O => tX10_arrowOf  h O)
theorem dX10_reaches_0 : decode cX10_reaches 0 = .ok (.aload_n 0, 1) := by decide +kernel
theorem dX10_reaches_1 : decode cX10_reaches 1 = .ok (.iload_n 1, 1) := by decide +kernel
theorem dX10_reaches_2 : decode cX10_reaches 2 = .ok (.invokevirtual 170, 3) := by decide +kernel
theorem dX10_reaches_5 : decode cX10_reaches 5 = .ok (.aload_n 0, 1) := by decide +kernel
theorem dX10_reaches_6 : decode cX10_reaches 6 = .ok (.iload_n 2, 1) := by decide +kernel
theorem dX10_reaches_7 : decode cX10_reaches 7 = .ok (.invokevirtual 170, 3) := by decide +kernel
theorem dX10_reaches_10 : decode cX10_reaches 10 = .ok (.aload_n 0, 1) := by decide +kernel
theorem dX10_reaches_11 : decode cX10_reaches 11 = .ok (.getfield 12, 3) := by decide +kernel
theorem dX10_reaches_14 : decode cX10_reaches 14 = .ok (.getfield 198, 3) := by decide +kernel
theorem dX10_reaches_17 : decode cX10_reaches 17 = .ok (.iload_n 1, 1) := by decide +kernel
theorem dX10_reaches_18 : decode cX10_reaches 18 = .ok (.iaload, 1) := by decide +kernel
theorem dX10_reaches_19 : decode cX10_reaches 19 = .ok (.iload_n 2, 1) := by decide +kernel
theorem dX10_reaches_20 : decode cX10_reaches 20 = .ok (.invokestatic 259, 3) := by decide +kernel
theorem dX10_reaches_23 : decode cX10_reaches 23 = .ok (.ireturn, 1) := by decide +kernel
abbrev rX10_reaches : Room := { frames := 7, cells := 2, slots := 12, locals := 111 }
abbrev mX10_reaches : gY := (cX10_reaches, RX10, 3, rX10_reaches)
def fX10_reaches (x1 : Int32) (x2 : Int32) (M0 : gMem) : Option (Int32 ⊕ Nat) :=
  (fX10_checkTask x1 M0).bind fun v1 => gSE v1 (fun u2 => (fX10_checkTask x2 M0).bind fun v4 => gSE v4 (fun u5 => (rI M0 7 24 x1).bind fun v7 => (fX10_has v7 x2).bind fun v8 => (zv v8).bind fun v9 => some (.inl v9)) (fun x6 => some (.inr x6))) (fun x3 => some (.inr x3))
set_option maxRecDepth 20000 in
theorem tX10_reaches {X : gX} {V : gEnv} {x1 : Int32} {x2 : Int32} {M0 : gMem}  {o : (Int32 ⊕ Nat)} (h : fX10_reaches x1 x2 M0 = some o) (O : gOX X V mX10_reaches gShC (some .boolean) (gOI o) M0) : gG X V mX10_reaches gShC M0 0 0 0 [(0, .ref (gAd V 0)), (1, .int x1), (2, .int x2)] [] := by
  unfold fX10_reaches at h
  refine g_aload_n 0 rfl rfl dX10_reaches_0 ?_
  refine g_iload_n 1 rfl rfl dX10_reaches_1 ?_
  obtain ⟨v1, ev1, h⟩ := g_bnd h
  rcases v1 with u2 | x3
  · have h := g_sl h
    refine g_callVX LX10_170 sC_0 rfl (kX10_checkTask O.2.2.1 ev1) rfl rfl (Nat.le_of_ble_eq_true rfl) ⟨Nat.le_of_ble_eq_true rfl, Nat.le_of_ble_eq_true rfl⟩ ⟨Nat.le_of_ble_eq_true rfl, Nat.le_of_ble_eq_true rfl⟩ dX10_reaches_2 rfl ?_
    refine g_aload_n 0 rfl rfl dX10_reaches_5 ?_
    refine g_iload_n 2 rfl rfl dX10_reaches_6 ?_
    obtain ⟨v4, ev4, h⟩ := g_bnd h
    rcases v4 with u5 | x6
    · have h := g_sl h
      refine g_callVX LX10_170 sC_0 rfl (kX10_checkTask O.2.2.1 ev4) rfl rfl (Nat.le_of_ble_eq_true rfl) ⟨Nat.le_of_ble_eq_true rfl, Nat.le_of_ble_eq_true rfl⟩ ⟨Nat.le_of_ble_eq_true rfl, Nat.le_of_ble_eq_true rfl⟩ dX10_reaches_7 rfl ?_
      refine g_aload_n 0 rfl rfl dX10_reaches_10 ?_
      refine g_getR FX10_12 sC_0 rfl dX10_reaches_11 ?_
      refine g_getR FX10_198 sC_1 rfl dX10_reaches_14 ?_
      refine g_iload_n 1 rfl rfl dX10_reaches_17 ?_
      obtain ⟨v7, ev7, h⟩ := g_bnd h
      refine g_iald' ev7 sC_7 dX10_reaches_18 ?_
      refine g_iload_n 2 rfl rfl dX10_reaches_19 ?_
      obtain ⟨v8, ev8, h⟩ := g_bnd h
      refine g_callS LX10_259 (kX10_has ev8) rfl rfl (Nat.le_of_ble_eq_true rfl) ⟨Nat.le_of_ble_eq_true rfl, Nat.le_of_ble_eq_true rfl⟩ ⟨Nat.le_of_ble_eq_true rfl, Nat.le_of_ble_eq_true rfl⟩ dX10_reaches_20 rfl ?_
      obtain ⟨v9, ev9, h⟩ := g_bnd h
      refine g_zv ev9 ?_
      cases h
      exact g_iretX O ⟨Nat.le_of_ble_eq_true rfl, Nat.le_of_ble_eq_true rfl⟩ (g_nz (zv_ok ev9)) dX10_reaches_23
    · have h := g_sr h
      cases h
      exact g_callVT LX10_170 sC_0 rfl O (kX10_checkTask O.2.2.1 ev4) rfl rfl (Nat.le_of_ble_eq_true rfl) ⟨Nat.le_of_ble_eq_true rfl, Nat.le_of_ble_eq_true rfl⟩ ⟨Nat.le_of_ble_eq_true rfl, Nat.le_of_ble_eq_true rfl⟩ dX10_reaches_7
  · have h := g_sr h
    cases h
    exact g_callVT LX10_170 sC_0 rfl O (kX10_checkTask O.2.2.1 ev1) rfl rfl (Nat.le_of_ble_eq_true rfl) ⟨Nat.le_of_ble_eq_true rfl, Nat.le_of_ble_eq_true rfl⟩ ⟨Nat.le_of_ble_eq_true rfl, Nat.le_of_ble_eq_true rfl⟩ dX10_reaches_2
theorem kX10_reaches {l : Launch} {V : gEnv} {M0 : gMem} {x1 : Int32} {x2 : Int32} (hst : l.stackTraces = false)  {o : (Int32 ⊕ Nat)} (h : fX10_reaches x1 x2 M0 = some o) : gMX l yX10_reaches cX10_reaches 3 (some .boolean) rX10_reaches V gShC [.ref (gAd V 0), .int x1, .int x2] M0 (gOI o) M0 :=
  gMX.of hst (by decide) (Nat.le_of_ble_eq_true rfl) rfl (fun X _ O => tX10_reaches  h O)
theorem dX10_far_0 : decode cX10_far 0 = .ok (.aload_n 0, 1) := by decide +kernel
theorem dX10_far_1 : decode cX10_far 1 = .ok (.iload_n 1, 1) := by decide +kernel
theorem dX10_far_2 : decode cX10_far 2 = .ok (.invokevirtual 170, 3) := by decide +kernel
theorem dX10_far_5 : decode cX10_far 5 = .ok (.aload_n 0, 1) := by decide +kernel
theorem dX10_far_6 : decode cX10_far 6 = .ok (.iload_n 2, 1) := by decide +kernel
theorem dX10_far_7 : decode cX10_far 7 = .ok (.invokevirtual 170, 3) := by decide +kernel
theorem dX10_far_10 : decode cX10_far 10 = .ok (.aload_n 0, 1) := by decide +kernel
theorem dX10_far_11 : decode cX10_far 11 = .ok (.getfield 86, 3) := by decide +kernel
theorem dX10_far_14 : decode cX10_far 14 = .ok (.aload_n 0, 1) := by decide +kernel
theorem dX10_far_15 : decode cX10_far 15 = .ok (.getfield 12, 3) := by decide +kernel
theorem dX10_far_18 : decode cX10_far 18 = .ok (.iload_n 2, 1) := by decide +kernel
theorem dX10_far_19 : decode cX10_far 19 = .ok (.invokevirtual 263, 3) := by decide +kernel
theorem dX10_far_22 : decode cX10_far 22 = .ok (.aload_n 0, 1) := by decide +kernel
theorem dX10_far_23 : decode cX10_far 23 = .ok (.getfield 86, 3) := by decide +kernel
theorem dX10_far_26 : decode cX10_far 26 = .ok (.getfield 266, 3) := by decide +kernel
theorem dX10_far_29 : decode cX10_far 29 = .ok (.iload_n 1, 1) := by decide +kernel
theorem dX10_far_30 : decode cX10_far 30 = .ok (.iaload, 1) := by decide +kernel
theorem dX10_far_31 : decode cX10_far 31 = .ok (.ireturn, 1) := by decide +kernel
abbrev rX10_far : Room := { frames := 7, cells := 2, slots := 12, locals := 111 }
abbrev mX10_far : gY := (cX10_far, RX10, 3, rX10_far)
def fX10_far (x1 : Int32) (x2 : Int32) (M0 : gMem) : Option ((Int32 ⊕ Nat) × gMem) :=
  (fX10_checkTask x1 M0).bind fun v1 => gSE v1 (fun u2 => (fX10_checkTask x2 M0).bind fun v4 => gSE v4 (fun u5 => (fX9_measure 1 x2 M0).bind fun v7 => (rI v7 56 24 x1).bind fun v8 => some (.inl v8, v7)) (fun x6 => some (.inr x6, M0))) (fun x3 => some (.inr x3, M0))
set_option maxRecDepth 20000 in
theorem tX10_far {X : gX} {V : gEnv} {x1 : Int32} {x2 : Int32} {M0 : gMem}  {o : ((Int32 ⊕ Nat) × gMem)} (h : fX10_far x1 x2 M0 = some o) (O : gOX X V mX10_far gShC (some .int) (gOI o.1) o.2) : gG X V mX10_far gShC M0 0 0 0 [(0, .ref (gAd V 0)), (1, .int x1), (2, .int x2)] [] := by
  unfold fX10_far at h
  refine g_aload_n 0 rfl rfl dX10_far_0 ?_
  refine g_iload_n 1 rfl rfl dX10_far_1 ?_
  obtain ⟨v1, ev1, h⟩ := g_bnd h
  rcases v1 with u2 | x3
  · have h := g_sl h
    refine g_callVX LX10_170 sC_0 rfl (kX10_checkTask O.2.2.1 ev1) rfl rfl (Nat.le_of_ble_eq_true rfl) ⟨Nat.le_of_ble_eq_true rfl, Nat.le_of_ble_eq_true rfl⟩ ⟨Nat.le_of_ble_eq_true rfl, Nat.le_of_ble_eq_true rfl⟩ dX10_far_2 rfl ?_
    refine g_aload_n 0 rfl rfl dX10_far_5 ?_
    refine g_iload_n 2 rfl rfl dX10_far_6 ?_
    obtain ⟨v4, ev4, h⟩ := g_bnd h
    rcases v4 with u5 | x6
    · have h := g_sl h
      refine g_callVX LX10_170 sC_0 rfl (kX10_checkTask O.2.2.1 ev4) rfl rfl (Nat.le_of_ble_eq_true rfl) ⟨Nat.le_of_ble_eq_true rfl, Nat.le_of_ble_eq_true rfl⟩ ⟨Nat.le_of_ble_eq_true rfl, Nat.le_of_ble_eq_true rfl⟩ dX10_far_7 rfl ?_
      refine g_aload_n 0 rfl rfl dX10_far_10 ?_
      refine g_getR FX10_86 sC_0 rfl dX10_far_11 ?_
      refine g_aload_n 0 rfl rfl dX10_far_14 ?_
      refine g_getR FX10_12 sC_0 rfl dX10_far_15 ?_
      refine g_iload_n 2 rfl rfl dX10_far_18 ?_
      obtain ⟨v7, ev7, h⟩ := g_bnd h
      refine g_callV LX10_263 sC_55 rfl (kX9_measure nC_1 ev7) rfl rfl (Nat.le_of_ble_eq_true rfl) ⟨Nat.le_of_ble_eq_true rfl, Nat.le_of_ble_eq_true rfl⟩ ⟨Nat.le_of_ble_eq_true rfl, Nat.le_of_ble_eq_true rfl⟩ dX10_far_19 rfl ?_
      refine g_aload_n 0 rfl rfl dX10_far_22 ?_
      refine g_getR FX10_86 sC_0 rfl dX10_far_23 ?_
      refine g_getR FX10_266 sC_55 rfl dX10_far_26 ?_
      refine g_iload_n 1 rfl rfl dX10_far_29 ?_
      obtain ⟨v8, ev8, h⟩ := g_bnd h
      refine g_iald' ev8 sC_56 dX10_far_30 ?_
      cases h
      exact g_iretX O ⟨Nat.le_of_ble_eq_true rfl, Nat.le_of_ble_eq_true rfl⟩ rfl dX10_far_31
    · have h := g_sr h
      cases h
      exact g_callVT LX10_170 sC_0 rfl O (kX10_checkTask O.2.2.1 ev4) rfl rfl (Nat.le_of_ble_eq_true rfl) ⟨Nat.le_of_ble_eq_true rfl, Nat.le_of_ble_eq_true rfl⟩ ⟨Nat.le_of_ble_eq_true rfl, Nat.le_of_ble_eq_true rfl⟩ dX10_far_7
  · have h := g_sr h
    cases h
    exact g_callVT LX10_170 sC_0 rfl O (kX10_checkTask O.2.2.1 ev1) rfl rfl (Nat.le_of_ble_eq_true rfl) ⟨Nat.le_of_ble_eq_true rfl, Nat.le_of_ble_eq_true rfl⟩ ⟨Nat.le_of_ble_eq_true rfl, Nat.le_of_ble_eq_true rfl⟩ dX10_far_2
theorem kX10_far {l : Launch} {V : gEnv} {M0 : gMem} {x1 : Int32} {x2 : Int32} (hst : l.stackTraces = false)  {o : ((Int32 ⊕ Nat) × gMem)} (h : fX10_far x1 x2 M0 = some o) : gMX l yX10_far cX10_far 3 (some .int) rX10_far V gShC [.ref (gAd V 0), .int x1, .int x2] M0 (gOI o.1) o.2 :=
  gMX.of hst (by decide) (Nat.le_of_ble_eq_true rfl) rfl (fun X _ O => tX10_far  h O)
theorem dX10_on_0 : decode cX10_on 0 = .ok (.aload_n 0, 1) := by decide +kernel
theorem dX10_on_1 : decode cX10_on 1 = .ok (.iload_n 1, 1) := by decide +kernel
theorem dX10_on_2 : decode cX10_on 2 = .ok (.invokevirtual 170, 3) := by decide +kernel
theorem dX10_on_5 : decode cX10_on 5 = .ok (.aload_n 0, 1) := by decide +kernel
theorem dX10_on_6 : decode cX10_on 6 = .ok (.iload_n 2, 1) := by decide +kernel
theorem dX10_on_7 : decode cX10_on 7 = .ok (.invokevirtual 170, 3) := by decide +kernel
theorem dX10_on_10 : decode cX10_on 10 = .ok (.aload_n 0, 1) := by decide +kernel
theorem dX10_on_11 : decode cX10_on 11 = .ok (.getfield 86, 3) := by decide +kernel
theorem dX10_on_14 : decode cX10_on 14 = .ok (.aload_n 0, 1) := by decide +kernel
theorem dX10_on_15 : decode cX10_on 15 = .ok (.getfield 12, 3) := by decide +kernel
theorem dX10_on_18 : decode cX10_on 18 = .ok (.iload_n 2, 1) := by decide +kernel
theorem dX10_on_19 : decode cX10_on 19 = .ok (.invokevirtual 263, 3) := by decide +kernel
theorem dX10_on_22 : decode cX10_on 22 = .ok (.iload_n 3, 1) := by decide +kernel
theorem dX10_on_23 : decode cX10_on 23 = .ok (.ifCond .lt 16, 3) := by decide +kernel
theorem dX10_on_26 : decode cX10_on 26 = .ok (.iload_n 3, 1) := by decide +kernel
theorem dX10_on_27 : decode cX10_on 27 = .ok (.aload_n 0, 1) := by decide +kernel
theorem dX10_on_28 : decode cX10_on 28 = .ok (.getfield 86, 3) := by decide +kernel
theorem dX10_on_31 : decode cX10_on 31 = .ok (.getfield 266, 3) := by decide +kernel
theorem dX10_on_34 : decode cX10_on 34 = .ok (.iload_n 1, 1) := by decide +kernel
theorem dX10_on_35 : decode cX10_on 35 = .ok (.iaload, 1) := by decide +kernel
theorem dX10_on_36 : decode cX10_on 36 = .ok (.if_icmp .le 5, 3) := by decide +kernel
theorem dX10_on_39 : decode cX10_on 39 = .ok (.iconst (-1), 1) := by decide +kernel
theorem dX10_on_40 : decode cX10_on 40 = .ok (.ireturn, 1) := by decide +kernel
theorem dX10_on_41 : decode cX10_on 41 = .ok (.iload_n 1, 1) := by decide +kernel
theorem dX10_on_42 : decode cX10_on 42 = .ok (.istore 4, 2) := by decide +kernel
theorem dX10_on_44 : decode cX10_on 44 = .ok (.iconst 0, 1) := by decide +kernel
theorem dX10_on_45 : decode cX10_on 45 = .ok (.istore 5, 2) := by decide +kernel
theorem dX10_on_47 : decode cX10_on 47 = .ok (.iload 5, 2) := by decide +kernel
theorem dX10_on_49 : decode cX10_on 49 = .ok (.iload_n 3, 1) := by decide +kernel
theorem dX10_on_50 : decode cX10_on 50 = .ok (.if_icmp .ge 30, 3) := by decide +kernel
theorem dX10_on_53 : decode cX10_on 53 = .ok (.iload 4, 2) := by decide +kernel
theorem dX10_on_55 : decode cX10_on 55 = .ok (.iconst (-1), 1) := by decide +kernel
theorem dX10_on_56 : decode cX10_on 56 = .ok (.if_icmp .eq 24, 3) := by decide +kernel
theorem dX10_on_59 : decode cX10_on 59 = .ok (.aload_n 0, 1) := by decide +kernel
theorem dX10_on_60 : decode cX10_on 60 = .ok (.getfield 86, 3) := by decide +kernel
theorem dX10_on_63 : decode cX10_on 63 = .ok (.aload_n 0, 1) := by decide +kernel
theorem dX10_on_64 : decode cX10_on 64 = .ok (.getfield 12, 3) := by decide +kernel
theorem dX10_on_67 : decode cX10_on 67 = .ok (.iload 4, 2) := by decide +kernel
theorem dX10_on_69 : decode cX10_on 69 = .ok (.invokevirtual 269, 3) := by decide +kernel
theorem dX10_on_72 : decode cX10_on 72 = .ok (.istore 4, 2) := by decide +kernel
theorem dX10_on_74 : decode cX10_on 74 = .ok (.iinc 5 1, 3) := by decide +kernel
theorem dX10_on_77 : decode cX10_on 77 = .ok (.goto (-30), 3) := by decide +kernel
theorem dX10_on_80 : decode cX10_on 80 = .ok (.iload 4, 2) := by decide +kernel
theorem dX10_on_82 : decode cX10_on 82 = .ok (.ireturn, 1) := by decide +kernel
abbrev rX10_on : Room := { frames := 7, cells := 2, slots := 12, locals := 111 }
abbrev mX10_on : gY := (cX10_on, RX10, 6, rX10_on)
def fX10_on_l47 (x3 : Int32) (M0 : gMem) (x4 : Int32) (x5 : Int32) : Option ((Int32 × Int32) ⊕ Int32) :=
  if x3 ≤ x5 then (some (.inr x4)) else if x4 = (-1 : Int32) then (some (.inr x4)) else (fX9_stepFrom 1 x4 M0).bind fun v13 => some (.inl (v13, x5 + (1 : Int32)))
set_option maxRecDepth 20000 in
theorem tX10_on_l47 {X : gX} {V : gEnv} {x3 : Int32} {M0 : gMem} {x4 : Int32} {x5 : Int32}  {o : ((Int32 × Int32) ⊕ Int32)} (h : fX10_on_l47 x3 M0 x4 x5 = some o) (Kc : ∀ s9, o = .inl s9 → gG X V mX10_on gShC M0 2 12 47 [(0, .ref (gAd V 0)), (3, .int x3), (4, .int s9.1), (5, .int s9.2)] []) (Kx : ∀ e9, o = .inr e9 → gG X V mX10_on gShC M0 2 12 80 [(4, .int e9)] []) : gG X V mX10_on gShC M0 2 12 47 [(0, .ref (gAd V 0)), (3, .int x3), (4, .int x4), (5, .int x5)] [] := by
  unfold fX10_on_l47 at h
  refine g_iload 3 rfl dX10_on_47 ?_
  refine g_iload_n 1 rfl rfl dX10_on_49 ?_
  rcases g_ite h with ⟨c11, h⟩ | ⟨c11, h⟩
  · refine g_icmp_ge_t c11 (tgt := 80) rfl dX10_on_50 ?_
    cases h
    refine g_sub [2] rfl ?_
    exact Kx x4 rfl
  · refine g_icmp_ge_f c11 (tgt := 80) rfl dX10_on_50 ?_
    refine g_iload 2 rfl dX10_on_53 ?_
    refine g_iconst (v := -1) rfl dX10_on_55 ?_
    rcases g_ite h with ⟨c12, h⟩ | ⟨c12, h⟩
    · refine g_icmp_eq_t c12 (tgt := 80) rfl dX10_on_56 ?_
      cases h
      refine g_sub [2] rfl ?_
      exact Kx x4 rfl
    · refine g_icmp_eq_f c12 (tgt := 80) rfl dX10_on_56 ?_
      refine g_aload_n 0 rfl rfl dX10_on_59 ?_
      refine g_getR FX10_86 sC_0 rfl dX10_on_60 ?_
      refine g_aload_n 0 rfl rfl dX10_on_63 ?_
      refine g_getR FX10_12 sC_0 rfl dX10_on_64 ?_
      refine g_iload 2 rfl dX10_on_67 ?_
      obtain ⟨v13, ev13, h⟩ := g_bnd h
      refine g_callV LX10_269 sC_55 rfl (kX9_stepFrom nC_1 ev13) rfl rfl (Nat.le_of_ble_eq_true rfl) ⟨Nat.le_of_ble_eq_true rfl, Nat.le_of_ble_eq_true rfl⟩ ⟨Nat.le_of_ble_eq_true rfl, Nat.le_of_ble_eq_true rfl⟩ dX10_on_69 rfl ?_
      refine g_istore (ls' := [(4, .int v13), (0, .ref (gAd V 0)), (3, .int x3), (5, .int x5)]) (Nat.le_of_ble_eq_true rfl) rfl dX10_on_72 ?_
      refine g_iinc (j := 3) (v := x5 + (1 : Int32)) (ls' := [(5, .int (x5 + (1 : Int32))), (4, .int v13), (0, .ref (gAd V 0)), (3, .int x3)]) rfl rfl (Nat.le_of_ble_eq_true rfl) rfl dX10_on_74 ?_
      refine g_goto (tgt := 47) rfl dX10_on_77 ?_
      cases h
      refine g_sub [2, 3, 1, 0] rfl ?_
      exact Kc (v13, x5 + (1 : Int32)) rfl
def fX10_on (x1 : Int32) (x2 : Int32) (x3 : Int32) (M0 : gMem) : Option ((Int32 ⊕ Nat) × gMem) :=
  (fX10_checkTask x1 M0).bind fun v1 => gSE v1 (fun u2 => (fX10_checkTask x2 M0).bind fun v4 => gSE v4 (fun u5 => (fX9_measure 1 x2 M0).bind fun v7 => if x3 < 0 then (some (.inl (-1 : Int32), v7)) else (rI v7 56 24 x1).bind fun v9 => if x3 ≤ v9 then ((gLoop (fun z9 => fX10_on_l47 x3 v7 z9.1 z9.2) gFu (x1, (0 : Int32))).bind fun w14 => some (.inl w14, v7)) else some (.inl (-1 : Int32), v7)) (fun x6 => some (.inr x6, M0))) (fun x3 => some (.inr x3, M0))
set_option maxRecDepth 20000 in
theorem tX10_on {X : gX} {V : gEnv} {x1 : Int32} {x2 : Int32} {x3 : Int32} {M0 : gMem}  {o : ((Int32 ⊕ Nat) × gMem)} (h : fX10_on x1 x2 x3 M0 = some o) (O : gOX X V mX10_on gShC (some .int) (gOI o.1) o.2) : gG X V mX10_on gShC M0 0 0 0 [(0, .ref (gAd V 0)), (1, .int x1), (2, .int x2), (3, .int x3)] [] := by
  unfold fX10_on at h
  refine g_aload_n 0 rfl rfl dX10_on_0 ?_
  refine g_iload_n 1 rfl rfl dX10_on_1 ?_
  obtain ⟨v1, ev1, h⟩ := g_bnd h
  rcases v1 with u2 | x3
  · have h := g_sl h
    refine g_callVX LX10_170 sC_0 rfl (kX10_checkTask O.2.2.1 ev1) rfl rfl (Nat.le_of_ble_eq_true rfl) ⟨Nat.le_of_ble_eq_true rfl, Nat.le_of_ble_eq_true rfl⟩ ⟨Nat.le_of_ble_eq_true rfl, Nat.le_of_ble_eq_true rfl⟩ dX10_on_2 rfl ?_
    refine g_aload_n 0 rfl rfl dX10_on_5 ?_
    refine g_iload_n 2 rfl rfl dX10_on_6 ?_
    obtain ⟨v4, ev4, h⟩ := g_bnd h
    rcases v4 with u5 | x6
    · have h := g_sl h
      refine g_callVX LX10_170 sC_0 rfl (kX10_checkTask O.2.2.1 ev4) rfl rfl (Nat.le_of_ble_eq_true rfl) ⟨Nat.le_of_ble_eq_true rfl, Nat.le_of_ble_eq_true rfl⟩ ⟨Nat.le_of_ble_eq_true rfl, Nat.le_of_ble_eq_true rfl⟩ dX10_on_7 rfl ?_
      refine g_aload_n 0 rfl rfl dX10_on_10 ?_
      refine g_getR FX10_86 sC_0 rfl dX10_on_11 ?_
      refine g_aload_n 0 rfl rfl dX10_on_14 ?_
      refine g_getR FX10_12 sC_0 rfl dX10_on_15 ?_
      refine g_iload_n 2 rfl rfl dX10_on_18 ?_
      obtain ⟨v7, ev7, h⟩ := g_bnd h
      refine g_callV LX10_263 sC_55 rfl (kX9_measure nC_1 ev7) rfl rfl (Nat.le_of_ble_eq_true rfl) ⟨Nat.le_of_ble_eq_true rfl, Nat.le_of_ble_eq_true rfl⟩ ⟨Nat.le_of_ble_eq_true rfl, Nat.le_of_ble_eq_true rfl⟩ dX10_on_19 rfl ?_
      refine g_iload_n 3 rfl rfl dX10_on_22 ?_
      rcases g_ite h with ⟨c8, h⟩ | ⟨c8, h⟩
      · refine g_if_lt_t c8 (tgt := 39) rfl dX10_on_23 ?_
        refine g_iconst (v := -1) rfl dX10_on_39 ?_
        cases h
        exact g_iretX O ⟨Nat.le_of_ble_eq_true rfl, Nat.le_of_ble_eq_true rfl⟩ rfl dX10_on_40
      · refine g_if_lt_f c8 (tgt := 39) rfl dX10_on_23 ?_
        refine g_iload_n 3 rfl rfl dX10_on_26 ?_
        refine g_aload_n 0 rfl rfl dX10_on_27 ?_
        refine g_getR FX10_86 sC_0 rfl dX10_on_28 ?_
        refine g_getR FX10_266 sC_55 rfl dX10_on_31 ?_
        refine g_iload_n 1 rfl rfl dX10_on_34 ?_
        obtain ⟨v9, ev9, h⟩ := g_bnd h
        refine g_iald' ev9 sC_56 dX10_on_35 ?_
        rcases g_ite h with ⟨c10, h⟩ | ⟨c10, h⟩
        · refine g_icmp_le_t c10 (tgt := 41) rfl dX10_on_36 ?_
          refine g_iload_n 1 rfl rfl dX10_on_41 ?_
          refine g_istore (ls' := [(4, .int x1), (0, .ref (gAd V 0)), (1, .int x1), (2, .int x2), (3, .int x3)]) (Nat.le_of_ble_eq_true rfl) rfl dX10_on_42 ?_
          refine g_iconst (v := 0) rfl dX10_on_44 ?_
          refine g_istore (ls' := [(5, .int (0 : Int32)), (4, .int x1), (0, .ref (gAd V 0)), (1, .int x1), (2, .int x2), (3, .int x3)]) (Nat.le_of_ble_eq_true rfl) rfl dX10_on_45 ?_
          obtain ⟨w14, ew14, h⟩ := g_bnd h
          refine g_sub [2, 5, 1, 0] rfl ?_
          have KX : gG X V mX10_on gShC v7 2 12 80 [(4, .int w14)] [] := by
            refine g_iload 0 rfl dX10_on_80 ?_
            cases h
            exact g_iretX O ⟨Nat.le_of_ble_eq_true rfl, Nat.le_of_ble_eq_true rfl⟩ rfl dX10_on_82
          exact gLoop_Q ew14 (fun z9 => gG X V mX10_on gShC v7 2 12 47 [(0, .ref (gAd V 0)), (3, .int x3), (4, .int z9.1), (5, .int z9.2)] []) (fun s9 o9 hb9 hc9 hx9 => tX10_on_l47  hb9 hc9 (fun e9 he9 => by cases hx9 _ he9; exact KX))
        · refine g_icmp_le_f c10 (tgt := 41) rfl dX10_on_36 ?_
          refine g_iconst (v := -1) rfl dX10_on_39 ?_
          cases h
          exact g_iretX O ⟨Nat.le_of_ble_eq_true rfl, Nat.le_of_ble_eq_true rfl⟩ rfl dX10_on_40
    · have h := g_sr h
      cases h
      exact g_callVT LX10_170 sC_0 rfl O (kX10_checkTask O.2.2.1 ev4) rfl rfl (Nat.le_of_ble_eq_true rfl) ⟨Nat.le_of_ble_eq_true rfl, Nat.le_of_ble_eq_true rfl⟩ ⟨Nat.le_of_ble_eq_true rfl, Nat.le_of_ble_eq_true rfl⟩ dX10_on_7
  · have h := g_sr h
    cases h
    exact g_callVT LX10_170 sC_0 rfl O (kX10_checkTask O.2.2.1 ev1) rfl rfl (Nat.le_of_ble_eq_true rfl) ⟨Nat.le_of_ble_eq_true rfl, Nat.le_of_ble_eq_true rfl⟩ ⟨Nat.le_of_ble_eq_true rfl, Nat.le_of_ble_eq_true rfl⟩ dX10_on_2
theorem kX10_on {l : Launch} {V : gEnv} {M0 : gMem} {x1 : Int32} {x2 : Int32} {x3 : Int32} (hst : l.stackTraces = false)  {o : ((Int32 ⊕ Nat) × gMem)} (h : fX10_on x1 x2 x3 M0 = some o) : gMX l yX10_on cX10_on 6 (some .int) rX10_on V gShC [.ref (gAd V 0), .int x1, .int x2, .int x3] M0 (gOI o.1) o.2 :=
  gMX.of hst (by decide) (Nat.le_of_ble_eq_true rfl) rfl (fun X _ O => tX10_on  h O)
theorem dX10_trial_0 : decode cX10_trial 0 = .ok (.aload_n 0, 1) := by decide +kernel
theorem dX10_trial_1 : decode cX10_trial 1 = .ok (.iload_n 1, 1) := by decide +kernel
theorem dX10_trial_2 : decode cX10_trial 2 = .ok (.invokevirtual 170, 3) := by decide +kernel
theorem dX10_trial_5 : decode cX10_trial 5 = .ok (.aload_n 0, 1) := by decide +kernel
theorem dX10_trial_6 : decode cX10_trial 6 = .ok (.iload_n 2, 1) := by decide +kernel
theorem dX10_trial_7 : decode cX10_trial 7 = .ok (.invokevirtual 170, 3) := by decide +kernel
theorem dX10_trial_10 : decode cX10_trial 10 = .ok (.iload_n 3, 1) := by decide +kernel
theorem dX10_trial_11 : decode cX10_trial 11 = .ok (.ifCond .lt 8, 3) := by decide +kernel
theorem dX10_trial_14 : decode cX10_trial 14 = .ok (.iload_n 3, 1) := by decide +kernel
theorem dX10_trial_15 : decode cX10_trial 15 = .ok (.iconst 5, 1) := by decide +kernel
theorem dX10_trial_16 : decode cX10_trial 16 = .ok (.if_icmp .le 14, 3) := by decide +kernel
theorem dX10_trial_19 : decode cX10_trial 19 = .ok (.new 110, 3) := by decide +kernel
theorem dX10_trial_22 : decode cX10_trial 22 = .ok (.dup, 1) := by decide +kernel
theorem dX10_trial_23 : decode cX10_trial 23 = .ok (.ldc_w 273, 3) := by decide +kernel
theorem dX10_trial_26 : decode cX10_trial 26 = .ok (.invokespecial 114, 3) := by decide +kernel
theorem dX10_trial_29 : decode cX10_trial 29 = .ok (.athrow, 1) := by decide +kernel
theorem dX10_trial_30 : decode cX10_trial 30 = .ok (.aload_n 0, 1) := by decide +kernel
theorem dX10_trial_31 : decode cX10_trial 31 = .ok (.getfield 12, 3) := by decide +kernel
theorem dX10_trial_34 : decode cX10_trial 34 = .ok (.iload_n 1, 1) := by decide +kernel
theorem dX10_trial_35 : decode cX10_trial 35 = .ok (.iload_n 2, 1) := by decide +kernel
theorem dX10_trial_36 : decode cX10_trial 36 = .ok (.invokevirtual 275, 3) := by decide +kernel
theorem dX10_trial_39 : decode cX10_trial 39 = .ok (.istore 4, 2) := by decide +kernel
theorem dX10_trial_41 : decode cX10_trial 41 = .ok (.iload 4, 2) := by decide +kernel
theorem dX10_trial_43 : decode cX10_trial 43 = .ok (.ifCond .eq 11, 3) := by decide +kernel
theorem dX10_trial_46 : decode cX10_trial 46 = .ok (.iload 4, 2) := by decide +kernel
theorem dX10_trial_48 : decode cX10_trial 48 = .ok (.iconst 4, 1) := by decide +kernel
theorem dX10_trial_49 : decode cX10_trial 49 = .ok (.if_icmp .eq 5, 3) := by decide +kernel
theorem dX10_trial_52 : decode cX10_trial 52 = .ok (.iconst 0, 1) := by decide +kernel
theorem dX10_trial_53 : decode cX10_trial 53 = .ok (.ireturn, 1) := by decide +kernel
theorem dX10_trial_54 : decode cX10_trial 54 = .ok (.aload_n 0, 1) := by decide +kernel
theorem dX10_trial_55 : decode cX10_trial 55 = .ok (.getfield 65, 3) := by decide +kernel
theorem dX10_trial_58 : decode cX10_trial 58 = .ok (.aload_n 0, 1) := by decide +kernel
theorem dX10_trial_59 : decode cX10_trial 59 = .ok (.getfield 12, 3) := by decide +kernel
theorem dX10_trial_62 : decode cX10_trial 62 = .ok (.iload_n 1, 1) := by decide +kernel
theorem dX10_trial_63 : decode cX10_trial 63 = .ok (.iload_n 2, 1) := by decide +kernel
theorem dX10_trial_64 : decode cX10_trial 64 = .ok (.invokevirtual 278, 3) := by decide +kernel
theorem dX10_trial_67 : decode cX10_trial 67 = .ok (.iload_n 3, 1) := by decide +kernel
theorem dX10_trial_68 : decode cX10_trial 68 = .ok (.tableswitch 93 0 4 #[36, 44, 55, 66, 85], 36) := by decide +kernel
theorem dX10_trial_104 : decode cX10_trial 104 = .ok (.aload_n 0, 1) := by decide +kernel
theorem dX10_trial_105 : decode cX10_trial 105 = .ok (.getfield 65, 3) := by decide +kernel
theorem dX10_trial_108 : decode cX10_trial 108 = .ok (.invokevirtual 282, 3) := by decide +kernel
theorem dX10_trial_111 : decode cX10_trial 111 = .ok (.ireturn, 1) := by decide +kernel
theorem dX10_trial_112 : decode cX10_trial 112 = .ok (.aload_n 0, 1) := by decide +kernel
theorem dX10_trial_113 : decode cX10_trial 113 = .ok (.getfield 65, 3) := by decide +kernel
theorem dX10_trial_116 : decode cX10_trial 116 = .ok (.getfield 285, 3) := by decide +kernel
theorem dX10_trial_119 : decode cX10_trial 119 = .ok (.invokestatic 190, 3) := by decide +kernel
theorem dX10_trial_122 : decode cX10_trial 122 = .ok (.ireturn, 1) := by decide +kernel
theorem dX10_trial_123 : decode cX10_trial 123 = .ok (.aload_n 0, 1) := by decide +kernel
theorem dX10_trial_124 : decode cX10_trial 124 = .ok (.getfield 65, 3) := by decide +kernel
theorem dX10_trial_127 : decode cX10_trial 127 = .ok (.getfield 288, 3) := by decide +kernel
theorem dX10_trial_130 : decode cX10_trial 130 = .ok (.invokestatic 190, 3) := by decide +kernel
theorem dX10_trial_133 : decode cX10_trial 133 = .ok (.ireturn, 1) := by decide +kernel
theorem dX10_trial_134 : decode cX10_trial 134 = .ok (.aload_n 0, 1) := by decide +kernel
theorem dX10_trial_135 : decode cX10_trial 135 = .ok (.getfield 65, 3) := by decide +kernel
theorem dX10_trial_138 : decode cX10_trial 138 = .ok (.getfield 285, 3) := by decide +kernel
theorem dX10_trial_141 : decode cX10_trial 141 = .ok (.aload_n 0, 1) := by decide +kernel
theorem dX10_trial_142 : decode cX10_trial 142 = .ok (.getfield 65, 3) := by decide +kernel
theorem dX10_trial_145 : decode cX10_trial 145 = .ok (.getfield 288, 3) := by decide +kernel
theorem dX10_trial_148 : decode cX10_trial 148 = .ok (.iand, 1) := by decide +kernel
theorem dX10_trial_149 : decode cX10_trial 149 = .ok (.invokestatic 190, 3) := by decide +kernel
theorem dX10_trial_152 : decode cX10_trial 152 = .ok (.ireturn, 1) := by decide +kernel
theorem dX10_trial_153 : decode cX10_trial 153 = .ok (.aload_n 0, 1) := by decide +kernel
theorem dX10_trial_154 : decode cX10_trial 154 = .ok (.getfield 65, 3) := by decide +kernel
theorem dX10_trial_157 : decode cX10_trial 157 = .ok (.getfield 291, 3) := by decide +kernel
theorem dX10_trial_160 : decode cX10_trial 160 = .ok (.ireturn, 1) := by decide +kernel
theorem dX10_trial_161 : decode cX10_trial 161 = .ok (.iload 4, 2) := by decide +kernel
theorem dX10_trial_163 : decode cX10_trial 163 = .ok (.iconst 4, 1) := by decide +kernel
theorem dX10_trial_164 : decode cX10_trial 164 = .ok (.if_icmp .ne 7, 3) := by decide +kernel
theorem dX10_trial_167 : decode cX10_trial 167 = .ok (.iconst 0, 1) := by decide +kernel
theorem dX10_trial_168 : decode cX10_trial 168 = .ok (.goto 21, 3) := by decide +kernel
theorem dX10_trial_171 : decode cX10_trial 171 = .ok (.aload_n 0, 1) := by decide +kernel
theorem dX10_trial_172 : decode cX10_trial 172 = .ok (.getfield 65, 3) := by decide +kernel
theorem dX10_trial_175 : decode cX10_trial 175 = .ok (.aload_n 0, 1) := by decide +kernel
theorem dX10_trial_176 : decode cX10_trial 176 = .ok (.getfield 12, 3) := by decide +kernel
theorem dX10_trial_179 : decode cX10_trial 179 = .ok (.aload_n 0, 1) := by decide +kernel
theorem dX10_trial_180 : decode cX10_trial 180 = .ok (.getfield 12, 3) := by decide +kernel
theorem dX10_trial_183 : decode cX10_trial 183 = .ok (.getfield 152, 3) := by decide +kernel
theorem dX10_trial_186 : decode cX10_trial 186 = .ok (.invokevirtual 294, 3) := by decide +kernel
theorem dX10_trial_189 : decode cX10_trial 189 = .ok (.ireturn, 1) := by decide +kernel
abbrev rX10_trial : Room := { frames := 7, cells := 3, slots := 18, locals := 111 }
abbrev mX10_trial : gY := (cX10_trial, RX10, 5, rX10_trial)
def fX10_trial_b19 (M0 : gMem) : Option ((Int32 ⊕ Nat) × gMem) :=
  some (.inr 1, M0)
set_option maxRecDepth 20000 in
theorem tX10_trial_b19 {X : gX} {V : gEnv} {M0 : gMem}  {o : ((Int32 ⊕ Nat) × gMem)} (h : fX10_trial_b19 M0 = some o) (O : gOX X V mX10_trial gShC (some .int) (gOI o.1) o.2) : gG X V mX10_trial gShC M0 2 12 19 [] [] := by
  unfold fX10_trial_b19 at h
  cases h
  exact g_throwW O U_1 SX10_273 ⟨Nat.le_of_ble_eq_true rfl, Nat.le_of_ble_eq_true rfl⟩ ⟨Nat.le_of_ble_eq_true rfl, Nat.le_of_ble_eq_true rfl⟩ dX10_trial_19 dX10_trial_22 dX10_trial_23 dX10_trial_26 dX10_trial_29
def fX10_trial_b54 (x1 : Int32) (x2 : Int32) (x3 : Int32) (x4 : Int32) (M0 : gMem) : Option ((Int32 ⊕ Nat) × gMem) :=
  (fX6_survey 1 x1 x2 M0).bind fun v11 => if x3 = (0 : Int32) then ((fX6_affected v11).bind fun v13 => some (.inl v13, v11)) else if x3 = (1 : Int32) then ((fJ6_bitCount_0f7a4 (v11.1 41 3)).bind fun v15 => some (.inl v15, v11)) else if x3 = (2 : Int32) then ((fJ6_bitCount_0f7a4 (v11.1 41 4)).bind fun v17 => some (.inl v17, v11)) else if x3 = (3 : Int32) then ((fJ6_bitCount_0f7a4 ((v11.1 41 3) &&& (v11.1 41 4))).bind fun v19 => some (.inl v19, v11)) else if x3 = (4 : Int32) then (some (.inl (v11.1 41 6), v11)) else if x4 = (4 : Int32) then (some (.inl (0 : Int32), v11)) else (fX6_arrange 1 (v11.1 1 12) v11).bind fun v22 => some (.inl v22.1, v22.2)
set_option maxRecDepth 20000 in
theorem tX10_trial_b54 {X : gX} {V : gEnv} {x1 : Int32} {x2 : Int32} {x3 : Int32} {x4 : Int32} {M0 : gMem}  {o : ((Int32 ⊕ Nat) × gMem)} (h : fX10_trial_b54 x1 x2 x3 x4 M0 = some o) (O : gOX X V mX10_trial gShC (some .int) (gOI o.1) o.2) : gG X V mX10_trial gShC M0 2 12 54 [(0, .ref (gAd V 0)), (1, .int x1), (2, .int x2), (3, .int x3), (4, .int x4)] [] := by
  unfold fX10_trial_b54 at h
  refine g_aload_n 0 rfl rfl dX10_trial_54 ?_
  refine g_getR FX10_65 sC_0 rfl dX10_trial_55 ?_
  refine g_aload_n 0 rfl rfl dX10_trial_58 ?_
  refine g_getR FX10_12 sC_0 rfl dX10_trial_59 ?_
  refine g_iload_n 1 rfl rfl dX10_trial_62 ?_
  refine g_iload_n 2 rfl rfl dX10_trial_63 ?_
  obtain ⟨v11, ev11, h⟩ := g_bnd h
  refine g_callV LX10_278 sC_41 rfl (kX6_survey nC_1 ev11) rfl rfl (Nat.le_of_ble_eq_true rfl) ⟨Nat.le_of_ble_eq_true rfl, Nat.le_of_ble_eq_true rfl⟩ ⟨Nat.le_of_ble_eq_true rfl, Nat.le_of_ble_eq_true rfl⟩ dX10_trial_64 rfl ?_
  refine g_iload_n 3 rfl rfl dX10_trial_67 ?_
  rcases g_ite h with ⟨c12, h⟩ | ⟨c12, h⟩
  · refine g_tabIn (off := 36) (tgt := 104) (by rw [c12]; decide) (by rw [c12]; decide) (by rw [c12]; rfl) rfl dX10_trial_68 ?_
    refine g_aload_n 0 rfl rfl dX10_trial_104 ?_
    refine g_getR FX10_65 sC_0 rfl dX10_trial_105 ?_
    obtain ⟨v13, ev13, h⟩ := g_bnd h
    refine g_callV LX10_282 sC_41 rfl (kX6_affected ev13) rfl rfl (Nat.le_of_ble_eq_true rfl) ⟨Nat.le_of_ble_eq_true rfl, Nat.le_of_ble_eq_true rfl⟩ ⟨Nat.le_of_ble_eq_true rfl, Nat.le_of_ble_eq_true rfl⟩ dX10_trial_108 rfl ?_
    cases h
    exact g_iretX O ⟨Nat.le_of_ble_eq_true rfl, Nat.le_of_ble_eq_true rfl⟩ rfl dX10_trial_111
  ·
    rcases g_ite h with ⟨c14, h⟩ | ⟨c14, h⟩
    · refine g_tabIn (off := 44) (tgt := 112) (by rw [c14]; decide) (by rw [c14]; decide) (by rw [c14]; rfl) rfl dX10_trial_68 ?_
      refine g_aload_n 0 rfl rfl dX10_trial_112 ?_
      refine g_getR FX10_65 sC_0 rfl dX10_trial_113 ?_
      refine g_getI FX10_285 sC_41 rfl dX10_trial_116 ?_
      obtain ⟨v15, ev15, h⟩ := g_bnd h
      refine g_callS LX10_190 (kJ6_bitCount_0f7a4 ev15) rfl rfl (Nat.le_of_ble_eq_true rfl) ⟨Nat.le_of_ble_eq_true rfl, Nat.le_of_ble_eq_true rfl⟩ ⟨Nat.le_of_ble_eq_true rfl, Nat.le_of_ble_eq_true rfl⟩ dX10_trial_119 rfl ?_
      cases h
      exact g_iretX O ⟨Nat.le_of_ble_eq_true rfl, Nat.le_of_ble_eq_true rfl⟩ rfl dX10_trial_122
    ·
      rcases g_ite h with ⟨c16, h⟩ | ⟨c16, h⟩
      · refine g_tabIn (off := 55) (tgt := 123) (by rw [c16]; decide) (by rw [c16]; decide) (by rw [c16]; rfl) rfl dX10_trial_68 ?_
        refine g_aload_n 0 rfl rfl dX10_trial_123 ?_
        refine g_getR FX10_65 sC_0 rfl dX10_trial_124 ?_
        refine g_getI FX10_288 sC_41 rfl dX10_trial_127 ?_
        obtain ⟨v17, ev17, h⟩ := g_bnd h
        refine g_callS LX10_190 (kJ6_bitCount_0f7a4 ev17) rfl rfl (Nat.le_of_ble_eq_true rfl) ⟨Nat.le_of_ble_eq_true rfl, Nat.le_of_ble_eq_true rfl⟩ ⟨Nat.le_of_ble_eq_true rfl, Nat.le_of_ble_eq_true rfl⟩ dX10_trial_130 rfl ?_
        cases h
        exact g_iretX O ⟨Nat.le_of_ble_eq_true rfl, Nat.le_of_ble_eq_true rfl⟩ rfl dX10_trial_133
      ·
        rcases g_ite h with ⟨c18, h⟩ | ⟨c18, h⟩
        · refine g_tabIn (off := 66) (tgt := 134) (by rw [c18]; decide) (by rw [c18]; decide) (by rw [c18]; rfl) rfl dX10_trial_68 ?_
          refine g_aload_n 0 rfl rfl dX10_trial_134 ?_
          refine g_getR FX10_65 sC_0 rfl dX10_trial_135 ?_
          refine g_getI FX10_285 sC_41 rfl dX10_trial_138 ?_
          refine g_aload_n 0 rfl rfl dX10_trial_141 ?_
          refine g_getR FX10_65 sC_0 rfl dX10_trial_142 ?_
          refine g_getI FX10_288 sC_41 rfl dX10_trial_145 ?_
          refine g_iand dX10_trial_148 ?_
          obtain ⟨v19, ev19, h⟩ := g_bnd h
          refine g_callS LX10_190 (kJ6_bitCount_0f7a4 ev19) rfl rfl (Nat.le_of_ble_eq_true rfl) ⟨Nat.le_of_ble_eq_true rfl, Nat.le_of_ble_eq_true rfl⟩ ⟨Nat.le_of_ble_eq_true rfl, Nat.le_of_ble_eq_true rfl⟩ dX10_trial_149 rfl ?_
          cases h
          exact g_iretX O ⟨Nat.le_of_ble_eq_true rfl, Nat.le_of_ble_eq_true rfl⟩ rfl dX10_trial_152
        ·
          rcases g_ite h with ⟨c20, h⟩ | ⟨c20, h⟩
          · refine g_tabIn (off := 85) (tgt := 153) (by rw [c20]; decide) (by rw [c20]; decide) (by rw [c20]; rfl) rfl dX10_trial_68 ?_
            refine g_aload_n 0 rfl rfl dX10_trial_153 ?_
            refine g_getR FX10_65 sC_0 rfl dX10_trial_154 ?_
            refine g_getI FX10_291 sC_41 rfl dX10_trial_157 ?_
            cases h
            exact g_iretX O ⟨Nat.le_of_ble_eq_true rfl, Nat.le_of_ble_eq_true rfl⟩ rfl dX10_trial_160
          ·
            have nc12 := gne (0 : Int32) (j := 0) rfl c12
            have nc14 := gne (1 : Int32) (j := 1) rfl c14
            have nc16 := gne (2 : Int32) (j := 2) rfl c16
            have nc18 := gne (3 : Int32) (j := 3) rfl c18
            have nc20 := gne (4 : Int32) (j := 4) rfl c20
            refine g_tabOut (tgt := 161) (by omega) rfl dX10_trial_68 ?_
            refine g_iload 4 rfl dX10_trial_161 ?_
            refine g_iconst (v := 4) rfl dX10_trial_163 ?_
            rcases g_ite h with ⟨c21, h⟩ | ⟨c21, h⟩
            · refine g_icmp_ne_f c21 (tgt := 171) rfl dX10_trial_164 ?_
              refine g_iconst (v := 0) rfl dX10_trial_167 ?_
              refine g_goto (tgt := 189) rfl dX10_trial_168 ?_
              cases h
              exact g_iretX O ⟨Nat.le_of_ble_eq_true rfl, Nat.le_of_ble_eq_true rfl⟩ rfl dX10_trial_189
            · refine g_icmp_ne_t c21 (tgt := 171) rfl dX10_trial_164 ?_
              refine g_aload_n 0 rfl rfl dX10_trial_171 ?_
              refine g_getR FX10_65 sC_0 rfl dX10_trial_172 ?_
              refine g_aload_n 0 rfl rfl dX10_trial_175 ?_
              refine g_getR FX10_12 sC_0 rfl dX10_trial_176 ?_
              refine g_aload_n 0 rfl rfl dX10_trial_179 ?_
              refine g_getR FX10_12 sC_0 rfl dX10_trial_180 ?_
              refine g_getI FX10_152 sC_1 rfl dX10_trial_183 ?_
              obtain ⟨v22, ev22, h⟩ := g_bnd h
              refine g_callV LX10_294 sC_41 rfl (kX6_arrange nC_1 ev22) rfl rfl (Nat.le_of_ble_eq_true rfl) ⟨Nat.le_of_ble_eq_true rfl, Nat.le_of_ble_eq_true rfl⟩ ⟨Nat.le_of_ble_eq_true rfl, Nat.le_of_ble_eq_true rfl⟩ dX10_trial_186 rfl ?_
              cases h
              exact g_iretX O ⟨Nat.le_of_ble_eq_true rfl, Nat.le_of_ble_eq_true rfl⟩ rfl dX10_trial_189
def fX10_trial (x1 : Int32) (x2 : Int32) (x3 : Int32) (M0 : gMem) : Option ((Int32 ⊕ Nat) × gMem) :=
  (fX10_checkTask x1 M0).bind fun v1 => gSE v1 (fun u2 => (fX10_checkTask x2 M0).bind fun v4 => gSE v4 (fun u5 => if x3 < 0 then (fX10_trial_b19 M0) else if x3 ≤ (5 : Int32) then ((fX2_refusal 1 x1 x2 M0).bind fun v9 => if v9 = 0 then (fX10_trial_b54 x1 x2 x3 v9 M0) else if v9 = (4 : Int32) then (fX10_trial_b54 x1 x2 x3 v9 M0) else some (.inl (0 : Int32), M0)) else fX10_trial_b19 M0) (fun x6 => some (.inr x6, M0))) (fun x3 => some (.inr x3, M0))
set_option maxRecDepth 20000 in
theorem tX10_trial {X : gX} {V : gEnv} {x1 : Int32} {x2 : Int32} {x3 : Int32} {M0 : gMem}  {o : ((Int32 ⊕ Nat) × gMem)} (h : fX10_trial x1 x2 x3 M0 = some o) (O : gOX X V mX10_trial gShC (some .int) (gOI o.1) o.2) : gG X V mX10_trial gShC M0 0 0 0 [(0, .ref (gAd V 0)), (1, .int x1), (2, .int x2), (3, .int x3)] [] := by
  unfold fX10_trial at h
  refine g_aload_n 0 rfl rfl dX10_trial_0 ?_
  refine g_iload_n 1 rfl rfl dX10_trial_1 ?_
  obtain ⟨v1, ev1, h⟩ := g_bnd h
  rcases v1 with u2 | x3
  · have h := g_sl h
    refine g_callVX LX10_170 sC_0 rfl (kX10_checkTask O.2.2.1 ev1) rfl rfl (Nat.le_of_ble_eq_true rfl) ⟨Nat.le_of_ble_eq_true rfl, Nat.le_of_ble_eq_true rfl⟩ ⟨Nat.le_of_ble_eq_true rfl, Nat.le_of_ble_eq_true rfl⟩ dX10_trial_2 rfl ?_
    refine g_aload_n 0 rfl rfl dX10_trial_5 ?_
    refine g_iload_n 2 rfl rfl dX10_trial_6 ?_
    obtain ⟨v4, ev4, h⟩ := g_bnd h
    rcases v4 with u5 | x6
    · have h := g_sl h
      refine g_callVX LX10_170 sC_0 rfl (kX10_checkTask O.2.2.1 ev4) rfl rfl (Nat.le_of_ble_eq_true rfl) ⟨Nat.le_of_ble_eq_true rfl, Nat.le_of_ble_eq_true rfl⟩ ⟨Nat.le_of_ble_eq_true rfl, Nat.le_of_ble_eq_true rfl⟩ dX10_trial_7 rfl ?_
      refine g_iload_n 3 rfl rfl dX10_trial_10 ?_
      rcases g_ite h with ⟨c7, h⟩ | ⟨c7, h⟩
      · refine g_if_lt_t c7 (tgt := 19) rfl dX10_trial_11 ?_
        refine g_sub [] rfl ?_
        exact tX10_trial_b19  h O
      · refine g_if_lt_f c7 (tgt := 19) rfl dX10_trial_11 ?_
        refine g_iload_n 3 rfl rfl dX10_trial_14 ?_
        refine g_iconst (v := 5) rfl dX10_trial_15 ?_
        rcases g_ite h with ⟨c8, h⟩ | ⟨c8, h⟩
        · refine g_icmp_le_t c8 (tgt := 30) rfl dX10_trial_16 ?_
          refine g_aload_n 0 rfl rfl dX10_trial_30 ?_
          refine g_getR FX10_12 sC_0 rfl dX10_trial_31 ?_
          refine g_iload_n 1 rfl rfl dX10_trial_34 ?_
          refine g_iload_n 2 rfl rfl dX10_trial_35 ?_
          obtain ⟨v9, ev9, h⟩ := g_bnd h
          refine g_callV LX10_275 sC_1 rfl (kX2_refusal nC_1 ev9) rfl rfl (Nat.le_of_ble_eq_true rfl) ⟨Nat.le_of_ble_eq_true rfl, Nat.le_of_ble_eq_true rfl⟩ ⟨Nat.le_of_ble_eq_true rfl, Nat.le_of_ble_eq_true rfl⟩ dX10_trial_36 rfl ?_
          refine g_istore (ls' := [(4, .int v9), (0, .ref (gAd V 0)), (1, .int x1), (2, .int x2), (3, .int x3)]) (Nat.le_of_ble_eq_true rfl) rfl dX10_trial_39 ?_
          refine g_iload 0 rfl dX10_trial_41 ?_
          rcases g_ite h with ⟨c10, h⟩ | ⟨c10, h⟩
          · refine g_if_eq_t c10 (tgt := 54) rfl dX10_trial_43 ?_
            refine g_sub [1, 2, 3, 4, 0] rfl ?_
            exact tX10_trial_b54  h O
          · refine g_if_eq_f c10 (tgt := 54) rfl dX10_trial_43 ?_
            refine g_iload 0 rfl dX10_trial_46 ?_
            refine g_iconst (v := 4) rfl dX10_trial_48 ?_
            rcases g_ite h with ⟨c23, h⟩ | ⟨c23, h⟩
            · refine g_icmp_eq_t c23 (tgt := 54) rfl dX10_trial_49 ?_
              refine g_sub [1, 2, 3, 4, 0] rfl ?_
              exact tX10_trial_b54  h O
            · refine g_icmp_eq_f c23 (tgt := 54) rfl dX10_trial_49 ?_
              refine g_iconst (v := 0) rfl dX10_trial_52 ?_
              cases h
              exact g_iretX O ⟨Nat.le_of_ble_eq_true rfl, Nat.le_of_ble_eq_true rfl⟩ rfl dX10_trial_53
        · refine g_icmp_le_f c8 (tgt := 30) rfl dX10_trial_16 ?_
          refine g_sub [] rfl ?_
          exact tX10_trial_b19  h O
    · have h := g_sr h
      cases h
      exact g_callVT LX10_170 sC_0 rfl O (kX10_checkTask O.2.2.1 ev4) rfl rfl (Nat.le_of_ble_eq_true rfl) ⟨Nat.le_of_ble_eq_true rfl, Nat.le_of_ble_eq_true rfl⟩ ⟨Nat.le_of_ble_eq_true rfl, Nat.le_of_ble_eq_true rfl⟩ dX10_trial_7
  · have h := g_sr h
    cases h
    exact g_callVT LX10_170 sC_0 rfl O (kX10_checkTask O.2.2.1 ev1) rfl rfl (Nat.le_of_ble_eq_true rfl) ⟨Nat.le_of_ble_eq_true rfl, Nat.le_of_ble_eq_true rfl⟩ ⟨Nat.le_of_ble_eq_true rfl, Nat.le_of_ble_eq_true rfl⟩ dX10_trial_2
theorem kX10_trial {l : Launch} {V : gEnv} {M0 : gMem} {x1 : Int32} {x2 : Int32} {x3 : Int32} (hst : l.stackTraces = false)  {o : ((Int32 ⊕ Nat) × gMem)} (h : fX10_trial x1 x2 x3 M0 = some o) : gMX l yX10_trial cX10_trial 5 (some .int) rX10_trial V gShC [.ref (gAd V 0), .int x1, .int x2, .int x3] M0 (gOI o.1) o.2 :=
  gMX.of hst (by decide) (Nat.le_of_ble_eq_true rfl) rfl (fun X _ O => tX10_trial  h O)
theorem dX10_why_0 : decode cX10_why 0 = .ok (.aload_n 0, 1) := by decide +kernel
theorem dX10_why_1 : decode cX10_why 1 = .ok (.iload_n 1, 1) := by decide +kernel
theorem dX10_why_2 : decode cX10_why 2 = .ok (.invokevirtual 170, 3) := by decide +kernel
theorem dX10_why_5 : decode cX10_why 5 = .ok (.aload_n 0, 1) := by decide +kernel
theorem dX10_why_6 : decode cX10_why 6 = .ok (.iload_n 2, 1) := by decide +kernel
theorem dX10_why_7 : decode cX10_why 7 = .ok (.invokevirtual 170, 3) := by decide +kernel
theorem dX10_why_10 : decode cX10_why 10 = .ok (.iload_n 3, 1) := by decide +kernel
theorem dX10_why_11 : decode cX10_why 11 = .ok (.ifCond .ge 14, 3) := by decide +kernel
theorem dX10_why_14 : decode cX10_why 14 = .ok (.new 110, 3) := by decide +kernel
theorem dX10_why_17 : decode cX10_why 17 = .ok (.dup, 1) := by decide +kernel
theorem dX10_why_18 : decode cX10_why 18 = .ok (.ldc_w 297, 3) := by decide +kernel
theorem dX10_why_21 : decode cX10_why 21 = .ok (.invokespecial 114, 3) := by decide +kernel
theorem dX10_why_24 : decode cX10_why 24 = .ok (.athrow, 1) := by decide +kernel
theorem dX10_why_25 : decode cX10_why 25 = .ok (.aload_n 0, 1) := by decide +kernel
theorem dX10_why_26 : decode cX10_why 26 = .ok (.getfield 12, 3) := by decide +kernel
theorem dX10_why_29 : decode cX10_why 29 = .ok (.iload_n 1, 1) := by decide +kernel
theorem dX10_why_30 : decode cX10_why 30 = .ok (.iload_n 2, 1) := by decide +kernel
theorem dX10_why_31 : decode cX10_why 31 = .ok (.invokevirtual 275, 3) := by decide +kernel
theorem dX10_why_34 : decode cX10_why 34 = .ok (.istore 4, 2) := by decide +kernel
theorem dX10_why_36 : decode cX10_why 36 = .ok (.iload_n 3, 1) := by decide +kernel
theorem dX10_why_37 : decode cX10_why 37 = .ok (.ifCond .ne 6, 3) := by decide +kernel
theorem dX10_why_40 : decode cX10_why 40 = .ok (.iload 4, 2) := by decide +kernel
theorem dX10_why_42 : decode cX10_why 42 = .ok (.ireturn, 1) := by decide +kernel
theorem dX10_why_43 : decode cX10_why 43 = .ok (.iload 4, 2) := by decide +kernel
theorem dX10_why_45 : decode cX10_why 45 = .ok (.iconst 4, 1) := by decide +kernel
theorem dX10_why_46 : decode cX10_why 46 = .ok (.if_icmp .ne 8, 3) := by decide +kernel
theorem dX10_why_49 : decode cX10_why 49 = .ok (.iload_n 3, 1) := by decide +kernel
theorem dX10_why_50 : decode cX10_why 50 = .ok (.iconst 2, 1) := by decide +kernel
theorem dX10_why_51 : decode cX10_why 51 = .ok (.if_icmp .le 5, 3) := by decide +kernel
theorem dX10_why_54 : decode cX10_why 54 = .ok (.iconst 0, 1) := by decide +kernel
theorem dX10_why_55 : decode cX10_why 55 = .ok (.ireturn, 1) := by decide +kernel
theorem dX10_why_56 : decode cX10_why 56 = .ok (.aload_n 0, 1) := by decide +kernel
theorem dX10_why_57 : decode cX10_why 57 = .ok (.getfield 86, 3) := by decide +kernel
theorem dX10_why_60 : decode cX10_why 60 = .ok (.aload_n 0, 1) := by decide +kernel
theorem dX10_why_61 : decode cX10_why 61 = .ok (.getfield 12, 3) := by decide +kernel
theorem dX10_why_64 : decode cX10_why 64 = .ok (.iload_n 1, 1) := by decide +kernel
theorem dX10_why_65 : decode cX10_why 65 = .ok (.invokevirtual 263, 3) := by decide +kernel
theorem dX10_why_68 : decode cX10_why 68 = .ok (.iload_n 3, 1) := by decide +kernel
theorem dX10_why_69 : decode cX10_why 69 = .ok (.iconst 1, 1) := by decide +kernel
theorem dX10_why_70 : decode cX10_why 70 = .ok (.if_icmp .ne 21, 3) := by decide +kernel
theorem dX10_why_73 : decode cX10_why 73 = .ok (.bipush 101, 2) := by decide +kernel
theorem dX10_why_75 : decode cX10_why 75 = .ok (.aload_n 0, 1) := by decide +kernel
theorem dX10_why_76 : decode cX10_why 76 = .ok (.getfield 86, 3) := by decide +kernel
theorem dX10_why_79 : decode cX10_why 79 = .ok (.aload_n 0, 1) := by decide +kernel
theorem dX10_why_80 : decode cX10_why 80 = .ok (.getfield 12, 3) := by decide +kernel
theorem dX10_why_83 : decode cX10_why 83 = .ok (.iload_n 2, 1) := by decide +kernel
theorem dX10_why_84 : decode cX10_why 84 = .ok (.invokevirtual 269, 3) := by decide +kernel
theorem dX10_why_87 : decode cX10_why 87 = .ok (.iadd, 1) := by decide +kernel
theorem dX10_why_88 : decode cX10_why 88 = .ok (.goto 16, 3) := by decide +kernel
theorem dX10_why_91 : decode cX10_why 91 = .ok (.sipush 201, 3) := by decide +kernel
theorem dX10_why_94 : decode cX10_why 94 = .ok (.aload_n 0, 1) := by decide +kernel
theorem dX10_why_95 : decode cX10_why 95 = .ok (.getfield 86, 3) := by decide +kernel
theorem dX10_why_98 : decode cX10_why 98 = .ok (.getfield 266, 3) := by decide +kernel
theorem dX10_why_101 : decode cX10_why 101 = .ok (.iload_n 2, 1) := by decide +kernel
theorem dX10_why_102 : decode cX10_why 102 = .ok (.iaload, 1) := by decide +kernel
theorem dX10_why_103 : decode cX10_why 103 = .ok (.iadd, 1) := by decide +kernel
theorem dX10_why_104 : decode cX10_why 104 = .ok (.ireturn, 1) := by decide +kernel
abbrev rX10_why : Room := { frames := 7, cells := 3, slots := 18, locals := 111 }
abbrev mX10_why : gY := (cX10_why, RX10, 5, rX10_why)
def fX10_why (x1 : Int32) (x2 : Int32) (x3 : Int32) (M0 : gMem) : Option ((Int32 ⊕ Nat) × gMem) :=
  (fX10_checkTask x1 M0).bind fun v1 => gSE v1 (fun u2 => (fX10_checkTask x2 M0).bind fun v4 => gSE v4 (fun u5 => if 0 ≤ x3 then ((fX2_refusal 1 x1 x2 M0).bind fun v8 => if x3 = 0 then (some (.inl v8, M0)) else if v8 = (4 : Int32) then (if x3 ≤ (2 : Int32) then ((fX9_measure 1 x1 M0).bind fun v12 => if x3 = (1 : Int32) then ((fX9_stepFrom 1 x2 v12).bind fun v14 => some (.inl ((101 : Int32) + v14), v12)) else (rI v12 56 24 x2).bind fun v15 => some (.inl ((201 : Int32) + v15), v12)) else some (.inl (0 : Int32), M0)) else some (.inl (0 : Int32), M0)) else some (.inr 1, M0)) (fun x6 => some (.inr x6, M0))) (fun x3 => some (.inr x3, M0))
set_option maxRecDepth 20000 in
theorem tX10_why {X : gX} {V : gEnv} {x1 : Int32} {x2 : Int32} {x3 : Int32} {M0 : gMem}  {o : ((Int32 ⊕ Nat) × gMem)} (h : fX10_why x1 x2 x3 M0 = some o) (O : gOX X V mX10_why gShC (some .int) (gOI o.1) o.2) : gG X V mX10_why gShC M0 0 0 0 [(0, .ref (gAd V 0)), (1, .int x1), (2, .int x2), (3, .int x3)] [] := by
  unfold fX10_why at h
  refine g_aload_n 0 rfl rfl dX10_why_0 ?_
  refine g_iload_n 1 rfl rfl dX10_why_1 ?_
  obtain ⟨v1, ev1, h⟩ := g_bnd h
  rcases v1 with u2 | x3
  · have h := g_sl h
    refine g_callVX LX10_170 sC_0 rfl (kX10_checkTask O.2.2.1 ev1) rfl rfl (Nat.le_of_ble_eq_true rfl) ⟨Nat.le_of_ble_eq_true rfl, Nat.le_of_ble_eq_true rfl⟩ ⟨Nat.le_of_ble_eq_true rfl, Nat.le_of_ble_eq_true rfl⟩ dX10_why_2 rfl ?_
    refine g_aload_n 0 rfl rfl dX10_why_5 ?_
    refine g_iload_n 2 rfl rfl dX10_why_6 ?_
    obtain ⟨v4, ev4, h⟩ := g_bnd h
    rcases v4 with u5 | x6
    · have h := g_sl h
      refine g_callVX LX10_170 sC_0 rfl (kX10_checkTask O.2.2.1 ev4) rfl rfl (Nat.le_of_ble_eq_true rfl) ⟨Nat.le_of_ble_eq_true rfl, Nat.le_of_ble_eq_true rfl⟩ ⟨Nat.le_of_ble_eq_true rfl, Nat.le_of_ble_eq_true rfl⟩ dX10_why_7 rfl ?_
      refine g_iload_n 3 rfl rfl dX10_why_10 ?_
      rcases g_ite h with ⟨c7, h⟩ | ⟨c7, h⟩
      · refine g_if_ge_t c7 (tgt := 25) rfl dX10_why_11 ?_
        refine g_aload_n 0 rfl rfl dX10_why_25 ?_
        refine g_getR FX10_12 sC_0 rfl dX10_why_26 ?_
        refine g_iload_n 1 rfl rfl dX10_why_29 ?_
        refine g_iload_n 2 rfl rfl dX10_why_30 ?_
        obtain ⟨v8, ev8, h⟩ := g_bnd h
        refine g_callV LX10_275 sC_1 rfl (kX2_refusal nC_1 ev8) rfl rfl (Nat.le_of_ble_eq_true rfl) ⟨Nat.le_of_ble_eq_true rfl, Nat.le_of_ble_eq_true rfl⟩ ⟨Nat.le_of_ble_eq_true rfl, Nat.le_of_ble_eq_true rfl⟩ dX10_why_31 rfl ?_
        refine g_istore (ls' := [(4, .int v8), (0, .ref (gAd V 0)), (1, .int x1), (2, .int x2), (3, .int x3)]) (Nat.le_of_ble_eq_true rfl) rfl dX10_why_34 ?_
        refine g_iload_n 4 rfl rfl dX10_why_36 ?_
        rcases g_ite h with ⟨c9, h⟩ | ⟨c9, h⟩
        · refine g_if_ne_f c9 (tgt := 43) rfl dX10_why_37 ?_
          refine g_iload 0 rfl dX10_why_40 ?_
          cases h
          exact g_iretX O ⟨Nat.le_of_ble_eq_true rfl, Nat.le_of_ble_eq_true rfl⟩ rfl dX10_why_42
        · refine g_if_ne_t c9 (tgt := 43) rfl dX10_why_37 ?_
          refine g_iload 0 rfl dX10_why_43 ?_
          refine g_iconst (v := 4) rfl dX10_why_45 ?_
          rcases g_ite h with ⟨c10, h⟩ | ⟨c10, h⟩
          · refine g_icmp_ne_f c10 (tgt := 54) rfl dX10_why_46 ?_
            refine g_iload_n 4 rfl rfl dX10_why_49 ?_
            refine g_iconst (v := 2) rfl dX10_why_50 ?_
            rcases g_ite h with ⟨c11, h⟩ | ⟨c11, h⟩
            · refine g_icmp_le_t c11 (tgt := 56) rfl dX10_why_51 ?_
              refine g_aload_n 1 rfl rfl dX10_why_56 ?_
              refine g_getR FX10_86 sC_0 rfl dX10_why_57 ?_
              refine g_aload_n 1 rfl rfl dX10_why_60 ?_
              refine g_getR FX10_12 sC_0 rfl dX10_why_61 ?_
              refine g_iload_n 2 rfl rfl dX10_why_64 ?_
              obtain ⟨v12, ev12, h⟩ := g_bnd h
              refine g_callV LX10_263 sC_55 rfl (kX9_measure nC_1 ev12) rfl rfl (Nat.le_of_ble_eq_true rfl) ⟨Nat.le_of_ble_eq_true rfl, Nat.le_of_ble_eq_true rfl⟩ ⟨Nat.le_of_ble_eq_true rfl, Nat.le_of_ble_eq_true rfl⟩ dX10_why_65 rfl ?_
              refine g_iload_n 4 rfl rfl dX10_why_68 ?_
              refine g_iconst (v := 1) rfl dX10_why_69 ?_
              rcases g_ite h with ⟨c13, h⟩ | ⟨c13, h⟩
              · refine g_icmp_ne_f c13 (tgt := 91) rfl dX10_why_70 ?_
                refine g_bipush (v := 101) rfl dX10_why_73 ?_
                refine g_aload_n 1 rfl rfl dX10_why_75 ?_
                refine g_getR FX10_86 sC_0 rfl dX10_why_76 ?_
                refine g_aload_n 1 rfl rfl dX10_why_79 ?_
                refine g_getR FX10_12 sC_0 rfl dX10_why_80 ?_
                refine g_iload_n 3 rfl rfl dX10_why_83 ?_
                obtain ⟨v14, ev14, h⟩ := g_bnd h
                refine g_callV LX10_269 sC_55 rfl (kX9_stepFrom nC_1 ev14) rfl rfl (Nat.le_of_ble_eq_true rfl) ⟨Nat.le_of_ble_eq_true rfl, Nat.le_of_ble_eq_true rfl⟩ ⟨Nat.le_of_ble_eq_true rfl, Nat.le_of_ble_eq_true rfl⟩ dX10_why_84 rfl ?_
                refine g_iadd dX10_why_87 ?_
                refine g_goto (tgt := 104) rfl dX10_why_88 ?_
                cases h
                exact g_iretX O ⟨Nat.le_of_ble_eq_true rfl, Nat.le_of_ble_eq_true rfl⟩ rfl dX10_why_104
              · refine g_icmp_ne_t c13 (tgt := 91) rfl dX10_why_70 ?_
                refine g_sipush (v := 201) rfl dX10_why_91 ?_
                refine g_aload_n 1 rfl rfl dX10_why_94 ?_
                refine g_getR FX10_86 sC_0 rfl dX10_why_95 ?_
                refine g_getR FX10_266 sC_55 rfl dX10_why_98 ?_
                refine g_iload_n 3 rfl rfl dX10_why_101 ?_
                obtain ⟨v15, ev15, h⟩ := g_bnd h
                refine g_iald' ev15 sC_56 dX10_why_102 ?_
                refine g_iadd dX10_why_103 ?_
                cases h
                exact g_iretX O ⟨Nat.le_of_ble_eq_true rfl, Nat.le_of_ble_eq_true rfl⟩ rfl dX10_why_104
            · refine g_icmp_le_f c11 (tgt := 56) rfl dX10_why_51 ?_
              refine g_iconst (v := 0) rfl dX10_why_54 ?_
              cases h
              exact g_iretX O ⟨Nat.le_of_ble_eq_true rfl, Nat.le_of_ble_eq_true rfl⟩ rfl dX10_why_55
          · refine g_icmp_ne_t c10 (tgt := 54) rfl dX10_why_46 ?_
            refine g_iconst (v := 0) rfl dX10_why_54 ?_
            cases h
            exact g_iretX O ⟨Nat.le_of_ble_eq_true rfl, Nat.le_of_ble_eq_true rfl⟩ rfl dX10_why_55
      · refine g_if_ge_f c7 (tgt := 25) rfl dX10_why_11 ?_
        cases h
        exact g_throwW O U_1 SX10_297 ⟨Nat.le_of_ble_eq_true rfl, Nat.le_of_ble_eq_true rfl⟩ ⟨Nat.le_of_ble_eq_true rfl, Nat.le_of_ble_eq_true rfl⟩ dX10_why_14 dX10_why_17 dX10_why_18 dX10_why_21 dX10_why_24
    · have h := g_sr h
      cases h
      exact g_callVT LX10_170 sC_0 rfl O (kX10_checkTask O.2.2.1 ev4) rfl rfl (Nat.le_of_ble_eq_true rfl) ⟨Nat.le_of_ble_eq_true rfl, Nat.le_of_ble_eq_true rfl⟩ ⟨Nat.le_of_ble_eq_true rfl, Nat.le_of_ble_eq_true rfl⟩ dX10_why_7
  · have h := g_sr h
    cases h
    exact g_callVT LX10_170 sC_0 rfl O (kX10_checkTask O.2.2.1 ev1) rfl rfl (Nat.le_of_ble_eq_true rfl) ⟨Nat.le_of_ble_eq_true rfl, Nat.le_of_ble_eq_true rfl⟩ ⟨Nat.le_of_ble_eq_true rfl, Nat.le_of_ble_eq_true rfl⟩ dX10_why_2
theorem kX10_why {l : Launch} {V : gEnv} {M0 : gMem} {x1 : Int32} {x2 : Int32} {x3 : Int32} (hst : l.stackTraces = false)  {o : ((Int32 ⊕ Nat) × gMem)} (h : fX10_why x1 x2 x3 M0 = some o) : gMX l yX10_why cX10_why 5 (some .int) rX10_why V gShC [.ref (gAd V 0), .int x1, .int x2, .int x3] M0 (gOI o.1) o.2 :=
  gMX.of hst (by decide) (Nat.le_of_ble_eq_true rfl) rfl (fun X _ O => tX10_why  h O)
theorem dX10_bestMode_0 : decode cX10_bestMode 0 = .ok (.aload_n 0, 1) := by decide +kernel
theorem dX10_bestMode_1 : decode cX10_bestMode 1 = .ok (.iload_n 1, 1) := by decide +kernel
theorem dX10_bestMode_2 : decode cX10_bestMode 2 = .ok (.invokevirtual 170, 3) := by decide +kernel
theorem dX10_bestMode_5 : decode cX10_bestMode 5 = .ok (.aload_n 0, 1) := by decide +kernel
theorem dX10_bestMode_6 : decode cX10_bestMode 6 = .ok (.iload_n 2, 1) := by decide +kernel
theorem dX10_bestMode_7 : decode cX10_bestMode 7 = .ok (.invokevirtual 170, 3) := by decide +kernel
theorem dX10_bestMode_10 : decode cX10_bestMode 10 = .ok (.aload_n 0, 1) := by decide +kernel
theorem dX10_bestMode_11 : decode cX10_bestMode 11 = .ok (.getfield 12, 3) := by decide +kernel
theorem dX10_bestMode_14 : decode cX10_bestMode 14 = .ok (.iload_n 1, 1) := by decide +kernel
theorem dX10_bestMode_15 : decode cX10_bestMode 15 = .ok (.iload_n 2, 1) := by decide +kernel
theorem dX10_bestMode_16 : decode cX10_bestMode 16 = .ok (.invokevirtual 275, 3) := by decide +kernel
theorem dX10_bestMode_19 : decode cX10_bestMode 19 = .ok (.ifCond .eq 5, 3) := by decide +kernel
theorem dX10_bestMode_22 : decode cX10_bestMode 22 = .ok (.iconst (-1), 1) := by decide +kernel
theorem dX10_bestMode_23 : decode cX10_bestMode 23 = .ok (.ireturn, 1) := by decide +kernel
theorem dX10_bestMode_24 : decode cX10_bestMode 24 = .ok (.aload_n 0, 1) := by decide +kernel
theorem dX10_bestMode_25 : decode cX10_bestMode 25 = .ok (.getfield 65, 3) := by decide +kernel
theorem dX10_bestMode_28 : decode cX10_bestMode 28 = .ok (.aload_n 0, 1) := by decide +kernel
theorem dX10_bestMode_29 : decode cX10_bestMode 29 = .ok (.getfield 12, 3) := by decide +kernel
theorem dX10_bestMode_32 : decode cX10_bestMode 32 = .ok (.iload_n 1, 1) := by decide +kernel
theorem dX10_bestMode_33 : decode cX10_bestMode 33 = .ok (.iload_n 2, 1) := by decide +kernel
theorem dX10_bestMode_34 : decode cX10_bestMode 34 = .ok (.invokevirtual 278, 3) := by decide +kernel
theorem dX10_bestMode_37 : decode cX10_bestMode 37 = .ok (.iconst 0, 1) := by decide +kernel
theorem dX10_bestMode_38 : decode cX10_bestMode 38 = .ok (.istore_n 3, 1) := by decide +kernel
theorem dX10_bestMode_39 : decode cX10_bestMode 39 = .ok (.aload_n 0, 1) := by decide +kernel
theorem dX10_bestMode_40 : decode cX10_bestMode 40 = .ok (.getfield 65, 3) := by decide +kernel
theorem dX10_bestMode_43 : decode cX10_bestMode 43 = .ok (.aload_n 0, 1) := by decide +kernel
theorem dX10_bestMode_44 : decode cX10_bestMode 44 = .ok (.getfield 12, 3) := by decide +kernel
theorem dX10_bestMode_47 : decode cX10_bestMode 47 = .ok (.iconst 0, 1) := by decide +kernel
theorem dX10_bestMode_48 : decode cX10_bestMode 48 = .ok (.invokevirtual 294, 3) := by decide +kernel
theorem dX10_bestMode_51 : decode cX10_bestMode 51 = .ok (.istore 4, 2) := by decide +kernel
theorem dX10_bestMode_53 : decode cX10_bestMode 53 = .ok (.iconst 1, 1) := by decide +kernel
theorem dX10_bestMode_54 : decode cX10_bestMode 54 = .ok (.istore 5, 2) := by decide +kernel
theorem dX10_bestMode_56 : decode cX10_bestMode 56 = .ok (.iload 5, 2) := by decide +kernel
theorem dX10_bestMode_58 : decode cX10_bestMode 58 = .ok (.iconst 2, 1) := by decide +kernel
theorem dX10_bestMode_59 : decode cX10_bestMode 59 = .ok (.if_icmp .gt 38, 3) := by decide +kernel
theorem dX10_bestMode_62 : decode cX10_bestMode 62 = .ok (.aload_n 0, 1) := by decide +kernel
theorem dX10_bestMode_63 : decode cX10_bestMode 63 = .ok (.getfield 65, 3) := by decide +kernel
theorem dX10_bestMode_66 : decode cX10_bestMode 66 = .ok (.aload_n 0, 1) := by decide +kernel
theorem dX10_bestMode_67 : decode cX10_bestMode 67 = .ok (.getfield 12, 3) := by decide +kernel
theorem dX10_bestMode_70 : decode cX10_bestMode 70 = .ok (.iload 5, 2) := by decide +kernel
theorem dX10_bestMode_72 : decode cX10_bestMode 72 = .ok (.invokevirtual 294, 3) := by decide +kernel
theorem dX10_bestMode_75 : decode cX10_bestMode 75 = .ok (.istore 6, 2) := by decide +kernel
theorem dX10_bestMode_77 : decode cX10_bestMode 77 = .ok (.iload 6, 2) := by decide +kernel
theorem dX10_bestMode_79 : decode cX10_bestMode 79 = .ok (.iload 4, 2) := by decide +kernel
theorem dX10_bestMode_81 : decode cX10_bestMode 81 = .ok (.if_icmp .ge 10, 3) := by decide +kernel
theorem dX10_bestMode_84 : decode cX10_bestMode 84 = .ok (.iload 5, 2) := by decide +kernel
theorem dX10_bestMode_86 : decode cX10_bestMode 86 = .ok (.istore_n 3, 1) := by decide +kernel
theorem dX10_bestMode_87 : decode cX10_bestMode 87 = .ok (.iload 6, 2) := by decide +kernel
theorem dX10_bestMode_89 : decode cX10_bestMode 89 = .ok (.istore 4, 2) := by decide +kernel
theorem dX10_bestMode_91 : decode cX10_bestMode 91 = .ok (.iinc 5 1, 3) := by decide +kernel
theorem dX10_bestMode_94 : decode cX10_bestMode 94 = .ok (.goto (-38), 3) := by decide +kernel
theorem dX10_bestMode_97 : decode cX10_bestMode 97 = .ok (.iload_n 3, 1) := by decide +kernel
theorem dX10_bestMode_98 : decode cX10_bestMode 98 = .ok (.ireturn, 1) := by decide +kernel
abbrev rX10_bestMode : Room := { frames := 7, cells := 2, slots := 12, locals := 111 }
abbrev mX10_bestMode : gY := (cX10_bestMode, RX10, 7, rX10_bestMode)
def fX10_bestMode_b91 (x3 : Int32) (x4 : Int32) (x5 : Int32) (M0 : gMem) : Option ((Int32 × Int32 × Int32 × gMem) ⊕ (Int32 × gMem)) :=
  some (.inl (x3, x4, x5 + (1 : Int32), M0))
set_option maxRecDepth 20000 in
theorem tX10_bestMode_b91 {X : gX} {V : gEnv} {x3 : Int32} {x4 : Int32} {x5 : Int32} {M0 : gMem}  {o : ((Int32 × Int32 × Int32 × gMem) ⊕ (Int32 × gMem))} (h : fX10_bestMode_b91 x3 x4 x5 M0 = some o) (Kc : ∀ s9, o = .inl s9 → gG X V mX10_bestMode gShC s9.2.2.2 2 12 56 [(0, .ref (gAd V 0)), (3, .int s9.1), (4, .int s9.2.1), (5, .int s9.2.2.1)] []) (Kx : ∀ e9, o = .inr e9 → gG X V mX10_bestMode gShC e9.2 2 12 97 [(3, .int e9.1)] []) : gG X V mX10_bestMode gShC M0 2 12 91 [(0, .ref (gAd V 0)), (3, .int x3), (4, .int x4), (5, .int x5)] [] := by
  unfold fX10_bestMode_b91 at h
  refine g_iinc (j := 3) (v := x5 + (1 : Int32)) (ls' := [(5, .int (x5 + (1 : Int32))), (0, .ref (gAd V 0)), (3, .int x3), (4, .int x4)]) rfl rfl (Nat.le_of_ble_eq_true rfl) rfl dX10_bestMode_91 ?_
  refine g_goto (tgt := 56) rfl dX10_bestMode_94 ?_
  cases h
  refine g_sub [1, 2, 3, 0] rfl ?_
  exact Kc (x3, x4, x5 + (1 : Int32), M0) rfl
def fX10_bestMode_l56 (x3 : Int32) (x4 : Int32) (x5 : Int32) (M0 : gMem) : Option ((Int32 × Int32 × Int32 × gMem) ⊕ (Int32 × gMem)) :=
  if (2 : Int32) < x5 then (some (.inr (x3, M0))) else (fX6_arrange 1 x5 M0).bind fun v12 => if x4 ≤ v12.1 then (fX10_bestMode_b91 x3 x4 x5 v12.2) else fX10_bestMode_b91 x5 v12.1 x5 v12.2
set_option maxRecDepth 20000 in
theorem tX10_bestMode_l56 {X : gX} {V : gEnv} {x3 : Int32} {x4 : Int32} {x5 : Int32} {M0 : gMem}  {o : ((Int32 × Int32 × Int32 × gMem) ⊕ (Int32 × gMem))} (h : fX10_bestMode_l56 x3 x4 x5 M0 = some o) (Kc : ∀ s9, o = .inl s9 → gG X V mX10_bestMode gShC s9.2.2.2 2 12 56 [(0, .ref (gAd V 0)), (3, .int s9.1), (4, .int s9.2.1), (5, .int s9.2.2.1)] []) (Kx : ∀ e9, o = .inr e9 → gG X V mX10_bestMode gShC e9.2 2 12 97 [(3, .int e9.1)] []) : gG X V mX10_bestMode gShC M0 2 12 56 [(0, .ref (gAd V 0)), (3, .int x3), (4, .int x4), (5, .int x5)] [] := by
  unfold fX10_bestMode_l56 at h
  refine g_iload 3 rfl dX10_bestMode_56 ?_
  refine g_iconst (v := 2) rfl dX10_bestMode_58 ?_
  rcases g_ite h with ⟨c11, h⟩ | ⟨c11, h⟩
  · refine g_icmp_gt_t c11 (tgt := 97) rfl dX10_bestMode_59 ?_
    cases h
    refine g_sub [1] rfl ?_
    exact Kx (x3, M0) rfl
  · refine g_icmp_gt_f c11 (tgt := 97) rfl dX10_bestMode_59 ?_
    refine g_aload_n 0 rfl rfl dX10_bestMode_62 ?_
    refine g_getR FX10_65 sC_0 rfl dX10_bestMode_63 ?_
    refine g_aload_n 0 rfl rfl dX10_bestMode_66 ?_
    refine g_getR FX10_12 sC_0 rfl dX10_bestMode_67 ?_
    refine g_iload 3 rfl dX10_bestMode_70 ?_
    obtain ⟨v12, ev12, h⟩ := g_bnd h
    refine g_callV LX10_294 sC_41 rfl (kX6_arrange nC_1 ev12) rfl rfl (Nat.le_of_ble_eq_true rfl) ⟨Nat.le_of_ble_eq_true rfl, Nat.le_of_ble_eq_true rfl⟩ ⟨Nat.le_of_ble_eq_true rfl, Nat.le_of_ble_eq_true rfl⟩ dX10_bestMode_72 rfl ?_
    refine g_istore (ls' := [(6, .int v12.1), (0, .ref (gAd V 0)), (3, .int x3), (4, .int x4), (5, .int x5)]) (Nat.le_of_ble_eq_true rfl) rfl dX10_bestMode_75 ?_
    refine g_iload 0 rfl dX10_bestMode_77 ?_
    refine g_iload 3 rfl dX10_bestMode_79 ?_
    rcases g_ite h with ⟨c13, h⟩ | ⟨c13, h⟩
    · refine g_icmp_ge_t c13 (tgt := 91) rfl dX10_bestMode_81 ?_
      refine g_sub [1, 2, 3, 4] rfl ?_
      exact tX10_bestMode_b91  h Kc Kx
    · refine g_icmp_ge_f c13 (tgt := 91) rfl dX10_bestMode_81 ?_
      refine g_iload 4 rfl dX10_bestMode_84 ?_
      refine g_istore_n (ls' := [(3, .int x5), (6, .int v12.1), (0, .ref (gAd V 0)), (4, .int x4), (5, .int x5)]) rfl (Nat.le_of_ble_eq_true rfl) rfl dX10_bestMode_86 ?_
      refine g_iload 1 rfl dX10_bestMode_87 ?_
      refine g_istore (ls' := [(4, .int v12.1), (3, .int x5), (6, .int v12.1), (0, .ref (gAd V 0)), (5, .int x5)]) (Nat.le_of_ble_eq_true rfl) rfl dX10_bestMode_89 ?_
      refine g_sub [3, 1, 0, 4] rfl ?_
      exact tX10_bestMode_b91  h Kc Kx
def fX10_bestMode (x1 : Int32) (x2 : Int32) (M0 : gMem) : Option ((Int32 ⊕ Nat) × gMem) :=
  (fX10_checkTask x1 M0).bind fun v1 => gSE v1 (fun u2 => (fX10_checkTask x2 M0).bind fun v4 => gSE v4 (fun u5 => (fX2_refusal 1 x1 x2 M0).bind fun v7 => if v7 = 0 then ((fX6_survey 1 x1 x2 M0).bind fun v9 => (fX6_arrange 1 (0 : Int32) v9).bind fun v10 => (gLoop (fun z9 => fX10_bestMode_l56 z9.1 z9.2.1 z9.2.2.1 z9.2.2.2) gFu ((0 : Int32), v10.1, (1 : Int32), v10.2)).bind fun w14 => some (.inl w14.1, w14.2)) else some (.inl (-1 : Int32), M0)) (fun x6 => some (.inr x6, M0))) (fun x3 => some (.inr x3, M0))
set_option maxRecDepth 20000 in
theorem tX10_bestMode {X : gX} {V : gEnv} {x1 : Int32} {x2 : Int32} {M0 : gMem}  {o : ((Int32 ⊕ Nat) × gMem)} (h : fX10_bestMode x1 x2 M0 = some o) (O : gOX X V mX10_bestMode gShC (some .int) (gOI o.1) o.2) : gG X V mX10_bestMode gShC M0 0 0 0 [(0, .ref (gAd V 0)), (1, .int x1), (2, .int x2)] [] := by
  unfold fX10_bestMode at h
  refine g_aload_n 0 rfl rfl dX10_bestMode_0 ?_
  refine g_iload_n 1 rfl rfl dX10_bestMode_1 ?_
  obtain ⟨v1, ev1, h⟩ := g_bnd h
  rcases v1 with u2 | x3
  · have h := g_sl h
    refine g_callVX LX10_170 sC_0 rfl (kX10_checkTask O.2.2.1 ev1) rfl rfl (Nat.le_of_ble_eq_true rfl) ⟨Nat.le_of_ble_eq_true rfl, Nat.le_of_ble_eq_true rfl⟩ ⟨Nat.le_of_ble_eq_true rfl, Nat.le_of_ble_eq_true rfl⟩ dX10_bestMode_2 rfl ?_
    refine g_aload_n 0 rfl rfl dX10_bestMode_5 ?_
    refine g_iload_n 2 rfl rfl dX10_bestMode_6 ?_
    obtain ⟨v4, ev4, h⟩ := g_bnd h
    rcases v4 with u5 | x6
    · have h := g_sl h
      refine g_callVX LX10_170 sC_0 rfl (kX10_checkTask O.2.2.1 ev4) rfl rfl (Nat.le_of_ble_eq_true rfl) ⟨Nat.le_of_ble_eq_true rfl, Nat.le_of_ble_eq_true rfl⟩ ⟨Nat.le_of_ble_eq_true rfl, Nat.le_of_ble_eq_true rfl⟩ dX10_bestMode_7 rfl ?_
      refine g_aload_n 0 rfl rfl dX10_bestMode_10 ?_
      refine g_getR FX10_12 sC_0 rfl dX10_bestMode_11 ?_
      refine g_iload_n 1 rfl rfl dX10_bestMode_14 ?_
      refine g_iload_n 2 rfl rfl dX10_bestMode_15 ?_
      obtain ⟨v7, ev7, h⟩ := g_bnd h
      refine g_callV LX10_275 sC_1 rfl (kX2_refusal nC_1 ev7) rfl rfl (Nat.le_of_ble_eq_true rfl) ⟨Nat.le_of_ble_eq_true rfl, Nat.le_of_ble_eq_true rfl⟩ ⟨Nat.le_of_ble_eq_true rfl, Nat.le_of_ble_eq_true rfl⟩ dX10_bestMode_16 rfl ?_
      rcases g_ite h with ⟨c8, h⟩ | ⟨c8, h⟩
      · refine g_if_eq_t c8 (tgt := 24) rfl dX10_bestMode_19 ?_
        refine g_aload_n 0 rfl rfl dX10_bestMode_24 ?_
        refine g_getR FX10_65 sC_0 rfl dX10_bestMode_25 ?_
        refine g_aload_n 0 rfl rfl dX10_bestMode_28 ?_
        refine g_getR FX10_12 sC_0 rfl dX10_bestMode_29 ?_
        refine g_iload_n 1 rfl rfl dX10_bestMode_32 ?_
        refine g_iload_n 2 rfl rfl dX10_bestMode_33 ?_
        obtain ⟨v9, ev9, h⟩ := g_bnd h
        refine g_callV LX10_278 sC_41 rfl (kX6_survey nC_1 ev9) rfl rfl (Nat.le_of_ble_eq_true rfl) ⟨Nat.le_of_ble_eq_true rfl, Nat.le_of_ble_eq_true rfl⟩ ⟨Nat.le_of_ble_eq_true rfl, Nat.le_of_ble_eq_true rfl⟩ dX10_bestMode_34 rfl ?_
        refine g_iconst (v := 0) rfl dX10_bestMode_37 ?_
        refine g_istore_n (ls' := [(3, .int (0 : Int32)), (0, .ref (gAd V 0)), (1, .int x1), (2, .int x2)]) rfl (Nat.le_of_ble_eq_true rfl) rfl dX10_bestMode_38 ?_
        refine g_aload_n 1 rfl rfl dX10_bestMode_39 ?_
        refine g_getR FX10_65 sC_0 rfl dX10_bestMode_40 ?_
        refine g_aload_n 1 rfl rfl dX10_bestMode_43 ?_
        refine g_getR FX10_12 sC_0 rfl dX10_bestMode_44 ?_
        refine g_iconst (v := 0) rfl dX10_bestMode_47 ?_
        obtain ⟨v10, ev10, h⟩ := g_bnd h
        refine g_callV LX10_294 sC_41 rfl (kX6_arrange nC_1 ev10) rfl rfl (Nat.le_of_ble_eq_true rfl) ⟨Nat.le_of_ble_eq_true rfl, Nat.le_of_ble_eq_true rfl⟩ ⟨Nat.le_of_ble_eq_true rfl, Nat.le_of_ble_eq_true rfl⟩ dX10_bestMode_48 rfl ?_
        refine g_istore (ls' := [(4, .int v10.1), (3, .int (0 : Int32)), (0, .ref (gAd V 0)), (1, .int x1), (2, .int x2)]) (Nat.le_of_ble_eq_true rfl) rfl dX10_bestMode_51 ?_
        refine g_iconst (v := 1) rfl dX10_bestMode_53 ?_
        refine g_istore (ls' := [(5, .int (1 : Int32)), (4, .int v10.1), (3, .int (0 : Int32)), (0, .ref (gAd V 0)), (1, .int x1), (2, .int x2)]) (Nat.le_of_ble_eq_true rfl) rfl dX10_bestMode_54 ?_
        obtain ⟨w14, ew14, h⟩ := g_bnd h
        refine g_sub [3, 2, 1, 0] rfl ?_
        have KX : gG X V mX10_bestMode gShC w14.2 2 12 97 [(3, .int w14.1)] [] := by
          refine g_iload_n 0 rfl rfl dX10_bestMode_97 ?_
          cases h
          exact g_iretX O ⟨Nat.le_of_ble_eq_true rfl, Nat.le_of_ble_eq_true rfl⟩ rfl dX10_bestMode_98
        exact gLoop_Q ew14 (fun z9 => gG X V mX10_bestMode gShC z9.2.2.2 2 12 56 [(0, .ref (gAd V 0)), (3, .int z9.1), (4, .int z9.2.1), (5, .int z9.2.2.1)] []) (fun s9 o9 hb9 hc9 hx9 => tX10_bestMode_l56  hb9 hc9 (fun e9 he9 => by cases hx9 _ he9; exact KX))
      · refine g_if_eq_f c8 (tgt := 24) rfl dX10_bestMode_19 ?_
        refine g_iconst (v := -1) rfl dX10_bestMode_22 ?_
        cases h
        exact g_iretX O ⟨Nat.le_of_ble_eq_true rfl, Nat.le_of_ble_eq_true rfl⟩ rfl dX10_bestMode_23
    · have h := g_sr h
      cases h
      exact g_callVT LX10_170 sC_0 rfl O (kX10_checkTask O.2.2.1 ev4) rfl rfl (Nat.le_of_ble_eq_true rfl) ⟨Nat.le_of_ble_eq_true rfl, Nat.le_of_ble_eq_true rfl⟩ ⟨Nat.le_of_ble_eq_true rfl, Nat.le_of_ble_eq_true rfl⟩ dX10_bestMode_7
  · have h := g_sr h
    cases h
    exact g_callVT LX10_170 sC_0 rfl O (kX10_checkTask O.2.2.1 ev1) rfl rfl (Nat.le_of_ble_eq_true rfl) ⟨Nat.le_of_ble_eq_true rfl, Nat.le_of_ble_eq_true rfl⟩ ⟨Nat.le_of_ble_eq_true rfl, Nat.le_of_ble_eq_true rfl⟩ dX10_bestMode_2
theorem kX10_bestMode {l : Launch} {V : gEnv} {M0 : gMem} {x1 : Int32} {x2 : Int32} (hst : l.stackTraces = false)  {o : ((Int32 ⊕ Nat) × gMem)} (h : fX10_bestMode x1 x2 M0 = some o) : gMX l yX10_bestMode cX10_bestMode 7 (some .int) rX10_bestMode V gShC [.ref (gAd V 0), .int x1, .int x2] M0 (gOI o.1) o.2 :=
  gMX.of hst (by decide) (Nat.le_of_ble_eq_true rfl) rfl (fun X _ O => tX10_bestMode  h O)
