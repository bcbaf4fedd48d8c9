/-! METHODS, by program: pure functions and contracts -/
theorem dX10_undo_0 : decode cX10_undo 0 = .ok (.aload_n 0, 1) := by decide +kernel
theorem dX10_undo_1 : decode cX10_undo 1 = .ok (.getfield 30, 3) := by decide +kernel
theorem dX10_undo_4 : decode cX10_undo 4 = .ok (.ifCond .ne 5, 3) := by decide +kernel
theorem dX10_undo_7 : decode cX10_undo 7 = .ok (.iconst (-1), 1) := by decide +kernel
theorem dX10_undo_8 : decode cX10_undo 8 = .ok (.ireturn, 1) := by decide +kernel
theorem dX10_undo_9 : decode cX10_undo 9 = .ok (.aload_n 0, 1) := by decide +kernel
theorem dX10_undo_10 : decode cX10_undo 10 = .ok (.dup, 1) := by decide +kernel
theorem dX10_undo_11 : decode cX10_undo 11 = .ok (.getfield 30, 3) := by decide +kernel
theorem dX10_undo_14 : decode cX10_undo 14 = .ok (.iconst 1, 1) := by decide +kernel
theorem dX10_undo_15 : decode cX10_undo 15 = .ok (.isub, 1) := by decide +kernel
theorem dX10_undo_16 : decode cX10_undo 16 = .ok (.putfield 30, 3) := by decide +kernel
theorem dX10_undo_19 : decode cX10_undo 19 = .ok (.aload_n 0, 1) := by decide +kernel
theorem dX10_undo_20 : decode cX10_undo 20 = .ok (.getfield 12, 3) := by decide +kernel
theorem dX10_undo_23 : decode cX10_undo 23 = .ok (.aload_n 0, 1) := by decide +kernel
theorem dX10_undo_24 : decode cX10_undo 24 = .ok (.getfield 26, 3) := by decide +kernel
theorem dX10_undo_27 : decode cX10_undo 27 = .ok (.aload_n 0, 1) := by decide +kernel
theorem dX10_undo_28 : decode cX10_undo 28 = .ok (.getfield 30, 3) := by decide +kernel
theorem dX10_undo_31 : decode cX10_undo 31 = .ok (.aaload, 1) := by decide +kernel
theorem dX10_undo_32 : decode cX10_undo 32 = .ok (.invokevirtual 121, 3) := by decide +kernel
theorem dX10_undo_35 : decode cX10_undo 35 = .ok (.aload_n 0, 1) := by decide +kernel
theorem dX10_undo_36 : decode cX10_undo 36 = .ok (.getfield 30, 3) := by decide +kernel
theorem dX10_undo_39 : decode cX10_undo 39 = .ok (.ireturn, 1) := by decide +kernel
abbrev rX10_undo : Room := { frames := 2, cells := 0, slots := 0, locals := 81 }
abbrev mX10_undo : gY := (cX10_undo, RX10, 1, rX10_undo)
def fX10_undo (M0 : gMem) : Option (Int32 × gMem) :=
  if (M0.1 0 5) = 0 then (some ((-1 : Int32), M0)) else (wF M0 0 5 ((M0.1 0 5) - (1 : Int32))).bind fun M2 => (rN M2 31 8 (M2.1 0 5) gNb).bind fun q3 => (fX2_copyFrom 1 q3 M2).bind fun v4 => some (v4.1 0 5, v4)
set_option maxRecDepth 20000 in
theorem tX10_undo {X : gX} {V : gEnv} {M0 : gMem}  {o : (Int32 × gMem)} (h : fX10_undo M0 = some o) (O : gO X V mX10_undo gShC (some .int) (some (.int o.1)) o.2) : gG X V mX10_undo gShC M0 0 0 0 [(0, .ref (gAd V 0))] [] := by
  unfold fX10_undo at h
  refine g_aload_n 0 rfl rfl dX10_undo_0 ?_
  refine g_getI FX10_30 sC_0 rfl dX10_undo_1 ?_
  rcases g_ite h with ⟨c1, h⟩ | ⟨c1, h⟩
  · refine g_if_ne_f c1 (tgt := 9) rfl dX10_undo_4 ?_
    refine g_iconst (v := -1) rfl dX10_undo_7 ?_
    cases h
    exact g_iret O ⟨Nat.le_of_ble_eq_true rfl, Nat.le_of_ble_eq_true rfl⟩ rfl dX10_undo_8
  · refine g_if_ne_t c1 (tgt := 9) rfl dX10_undo_4 ?_
    refine g_aload_n 0 rfl rfl dX10_undo_9 ?_
    refine g_dup rfl dX10_undo_10 ?_
    refine g_getI FX10_30 sC_0 rfl dX10_undo_11 ?_
    refine g_iconst (v := 1) rfl dX10_undo_14 ?_
    refine g_isub dX10_undo_15 ?_
    obtain ⟨M2, eM2, h⟩ := g_bnd h
    refine g_putI' eM2 FX10_30 jX10 sC_0 rfl rfl rfl dX10_undo_16 ?_
    refine g_aload_n 0 rfl rfl dX10_undo_19 ?_
    refine g_getR FX10_12 sC_0 rfl dX10_undo_20 ?_
    refine g_aload_n 0 rfl rfl dX10_undo_23 ?_
    refine g_getR FX10_26 sC_0 rfl dX10_undo_24 ?_
    refine g_aload_n 0 rfl rfl dX10_undo_27 ?_
    refine g_getI FX10_30 sC_0 rfl dX10_undo_28 ?_
    obtain ⟨q3, eq3, h⟩ := g_bnd h
    have hq3 := gNb_ok (rN_ok eq3).2.2
    refine g_aald' eq3 sC_31 dX10_undo_31 ?_
    obtain ⟨v4, ev4, h⟩ := g_bnd h
    refine g_callV LX10_121 sC_1 rfl (kX2_copyFrom nC_1 hq3 ev4) rfl rfl (Nat.le_of_ble_eq_true rfl) ⟨Nat.le_of_ble_eq_true rfl, Nat.le_of_ble_eq_true rfl⟩ ⟨Nat.le_of_ble_eq_true rfl, Nat.le_of_ble_eq_true rfl⟩ dX10_undo_32 rfl ?_
    refine g_aload_n 0 rfl rfl dX10_undo_35 ?_
    refine g_getI FX10_30 sC_0 rfl dX10_undo_36 ?_
    cases h
    exact g_iret O ⟨Nat.le_of_ble_eq_true rfl, Nat.le_of_ble_eq_true rfl⟩ rfl dX10_undo_39
theorem kX10_undo {l : Launch} {V : gEnv} {M0 : gMem}   {o : (Int32 × gMem)} (h : fX10_undo M0 = some o) : gM l yX10_undo cX10_undo 1 (some .int) rX10_undo V gShC [.ref (gAd V 0)] M0 (some (.int o.1)) o.2 :=
  gM.of (by decide) (Nat.le_of_ble_eq_true rfl) rfl (fun X _ O => tX10_undo  h O)
theorem dX10_save_0 : decode cX10_save 0 = .ok (.aload_n 0, 1) := by decide +kernel
theorem dX10_save_1 : decode cX10_save 1 = .ok (.getfield 19, 3) := by decide +kernel
theorem dX10_save_4 : decode cX10_save 4 = .ok (.aload_n 0, 1) := by decide +kernel
theorem dX10_save_5 : decode cX10_save 5 = .ok (.getfield 12, 3) := by decide +kernel
theorem dX10_save_8 : decode cX10_save 8 = .ok (.invokevirtual 121, 3) := by decide +kernel
theorem dX10_save_11 : decode cX10_save 11 = .ok (.aload_n 0, 1) := by decide +kernel
theorem dX10_save_12 : decode cX10_save 12 = .ok (.iconst 1, 1) := by decide +kernel
theorem dX10_save_13 : decode cX10_save 13 = .ok (.putfield 22, 3) := by decide +kernel
theorem dX10_save_16 : decode cX10_save 16 = .ok (.aload_n 0, 1) := by decide +kernel
theorem dX10_save_17 : decode cX10_save 17 = .ok (.getfield 12, 3) := by decide +kernel
theorem dX10_save_20 : decode cX10_save 20 = .ok (.getfield 146, 3) := by decide +kernel
theorem dX10_save_23 : decode cX10_save 23 = .ok (.ireturn, 1) := by decide +kernel
abbrev rX10_save : Room := { frames := 2, cells := 0, slots := 0, locals := 81 }
abbrev mX10_save : gY := (cX10_save, RX10, 1, rX10_save)
def fX10_save (M0 : gMem) : Option (Int32 × gMem) :=
  (fX2_copyFrom 21 1 M0).bind fun v1 => (wZ v1 0 3 (1 : Int32)).bind fun M2 => some (M2.1 1 10, M2)
set_option maxRecDepth 20000 in
theorem tX10_save {X : gX} {V : gEnv} {M0 : gMem}  {o : (Int32 × gMem)} (h : fX10_save M0 = some o) (O : gO X V mX10_save gShC (some .int) (some (.int o.1)) o.2) : gG X V mX10_save gShC M0 0 0 0 [(0, .ref (gAd V 0))] [] := by
  unfold fX10_save at h
  refine g_aload_n 0 rfl rfl dX10_save_0 ?_
  refine g_getR FX10_19 sC_0 rfl dX10_save_1 ?_
  refine g_aload_n 0 rfl rfl dX10_save_4 ?_
  refine g_getR FX10_12 sC_0 rfl dX10_save_5 ?_
  obtain ⟨v1, ev1, h⟩ := g_bnd h
  refine g_callV LX10_121 sC_21 rfl (kX2_copyFrom nC_21 nC_1 ev1) rfl rfl (Nat.le_of_ble_eq_true rfl) ⟨Nat.le_of_ble_eq_true rfl, Nat.le_of_ble_eq_true rfl⟩ ⟨Nat.le_of_ble_eq_true rfl, Nat.le_of_ble_eq_true rfl⟩ dX10_save_8 rfl ?_
  refine g_aload_n 0 rfl rfl dX10_save_11 ?_
  refine g_iconst (v := 1) rfl dX10_save_12 ?_
  obtain ⟨M2, eM2, h⟩ := g_bnd h
  refine g_putZ' eM2 FX10_22 jX10 sC_0 rfl rfl rfl dX10_save_13 ?_
  refine g_aload_n 0 rfl rfl dX10_save_16 ?_
  refine g_getR FX10_12 sC_0 rfl dX10_save_17 ?_
  refine g_getI FX10_146 sC_1 rfl dX10_save_20 ?_
  cases h
  exact g_iret O ⟨Nat.le_of_ble_eq_true rfl, Nat.le_of_ble_eq_true rfl⟩ rfl dX10_save_23
theorem kX10_save {l : Launch} {V : gEnv} {M0 : gMem}   {o : (Int32 × gMem)} (h : fX10_save M0 = some o) : gM l yX10_save cX10_save 1 (some .int) rX10_save V gShC [.ref (gAd V 0)] M0 (some (.int o.1)) o.2 :=
  gM.of (by decide) (Nat.le_of_ble_eq_true rfl) rfl (fun X _ O => tX10_save  h O)
theorem dX10_restore_0 : decode cX10_restore 0 = .ok (.aload_n 0, 1) := by decide +kernel
theorem dX10_restore_1 : decode cX10_restore 1 = .ok (.getfield 22, 3) := by decide +kernel
theorem dX10_restore_4 : decode cX10_restore 4 = .ok (.ifCond .ne 14, 3) := by decide +kernel
theorem dX10_restore_7 : decode cX10_restore 7 = .ok (.new 99, 3) := by decide +kernel
theorem dX10_restore_10 : decode cX10_restore 10 = .ok (.dup, 1) := by decide +kernel
theorem dX10_restore_11 : decode cX10_restore 11 = .ok (.ldc_w 385, 3) := by decide +kernel
theorem dX10_restore_14 : decode cX10_restore 14 = .ok (.invokespecial 103, 3) := by decide +kernel
theorem dX10_restore_17 : decode cX10_restore 17 = .ok (.athrow, 1) := by decide +kernel
theorem dX10_restore_18 : decode cX10_restore 18 = .ok (.aload_n 0, 1) := by decide +kernel
theorem dX10_restore_19 : decode cX10_restore 19 = .ok (.getfield 12, 3) := by decide +kernel
theorem dX10_restore_22 : decode cX10_restore 22 = .ok (.aload_n 0, 1) := by decide +kernel
theorem dX10_restore_23 : decode cX10_restore 23 = .ok (.getfield 19, 3) := by decide +kernel
theorem dX10_restore_26 : decode cX10_restore 26 = .ok (.invokevirtual 121, 3) := by decide +kernel
theorem dX10_restore_29 : decode cX10_restore 29 = .ok (.aload_n 0, 1) := by decide +kernel
theorem dX10_restore_30 : decode cX10_restore 30 = .ok (.iconst 0, 1) := by decide +kernel
theorem dX10_restore_31 : decode cX10_restore 31 = .ok (.putfield 30, 3) := by decide +kernel
theorem dX10_restore_34 : decode cX10_restore 34 = .ok (.aload_n 0, 1) := by decide +kernel
theorem dX10_restore_35 : decode cX10_restore 35 = .ok (.getfield 12, 3) := by decide +kernel
theorem dX10_restore_38 : decode cX10_restore 38 = .ok (.getfield 146, 3) := by decide +kernel
theorem dX10_restore_41 : decode cX10_restore 41 = .ok (.ireturn, 1) := by decide +kernel
abbrev rX10_restore : Room := { frames := 6, cells := 1, slots := 6, locals := 90 }
abbrev mX10_restore : gY := (cX10_restore, RX10, 1, rX10_restore)
def fX10_restore (M0 : gMem) : Option ((Int32 ⊕ Nat) × gMem) :=
  if (M0.1 0 3) = 0 then (some (.inr 0, M0)) else (fX2_copyFrom 1 21 M0).bind fun v2 => (wF v2 0 5 (0 : Int32)).bind fun M3 => some (.inl (M3.1 1 10), M3)
set_option maxRecDepth 20000 in
theorem tX10_restore {X : gX} {V : gEnv} {M0 : gMem}  {o : ((Int32 ⊕ Nat) × gMem)} (h : fX10_restore M0 = some o) (O : gOX X V mX10_restore gShC (some .int) (gOI o.1) o.2) : gG X V mX10_restore gShC M0 0 0 0 [(0, .ref (gAd V 0))] [] := by
  unfold fX10_restore at h
  refine g_aload_n 0 rfl rfl dX10_restore_0 ?_
  refine g_getI FX10_22 sC_0 rfl dX10_restore_1 ?_
  rcases g_ite h with ⟨c1, h⟩ | ⟨c1, h⟩
  · refine g_if_ne_f c1 (tgt := 18) rfl dX10_restore_4 ?_
    cases h
    exact g_throwW O U_0 SX10_385 ⟨Nat.le_of_ble_eq_true rfl, Nat.le_of_ble_eq_true rfl⟩ ⟨Nat.le_of_ble_eq_true rfl, Nat.le_of_ble_eq_true rfl⟩ dX10_restore_7 dX10_restore_10 dX10_restore_11 dX10_restore_14 dX10_restore_17
  · refine g_if_ne_t c1 (tgt := 18) rfl dX10_restore_4 ?_
    refine g_aload_n 0 rfl rfl dX10_restore_18 ?_
    refine g_getR FX10_12 sC_0 rfl dX10_restore_19 ?_
    refine g_aload_n 0 rfl rfl dX10_restore_22 ?_
    refine g_getR FX10_19 sC_0 rfl dX10_restore_23 ?_
    obtain ⟨v2, ev2, h⟩ := g_bnd h
    refine g_callV LX10_121 sC_1 rfl (kX2_copyFrom nC_1 nC_21 ev2) rfl rfl (Nat.le_of_ble_eq_true rfl) ⟨Nat.le_of_ble_eq_true rfl, Nat.le_of_ble_eq_true rfl⟩ ⟨Nat.le_of_ble_eq_true rfl, Nat.le_of_ble_eq_true rfl⟩ dX10_restore_26 rfl ?_
    refine g_aload_n 0 rfl rfl dX10_restore_29 ?_
    refine g_iconst (v := 0) rfl dX10_restore_30 ?_
    obtain ⟨M3, eM3, h⟩ := g_bnd h
    refine g_putI' eM3 FX10_30 jX10 sC_0 rfl rfl rfl dX10_restore_31 ?_
    refine g_aload_n 0 rfl rfl dX10_restore_34 ?_
    refine g_getR FX10_12 sC_0 rfl dX10_restore_35 ?_
    refine g_getI FX10_146 sC_1 rfl dX10_restore_38 ?_
    cases h
    exact g_iretX O ⟨Nat.le_of_ble_eq_true rfl, Nat.le_of_ble_eq_true rfl⟩ rfl dX10_restore_41
theorem kX10_restore {l : Launch} {V : gEnv} {M0 : gMem}  (hst : l.stackTraces = false)  {o : ((Int32 ⊕ Nat) × gMem)} (h : fX10_restore M0 = some o) : gMX l yX10_restore cX10_restore 1 (some .int) rX10_restore V gShC [.ref (gAd V 0)] M0 (gOI o.1) o.2 :=
  gMX.of hst (by decide) (Nat.le_of_ble_eq_true rfl) rfl (fun X _ O => tX10_restore  h O)
