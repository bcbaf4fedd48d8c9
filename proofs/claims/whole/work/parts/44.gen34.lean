/-! METHODS, by program: pure functions and contracts -/
theorem dX10_undo_0 : decode cX10_undo 0 = .ok (.aload_n 0, 1) := by decide +kernel
theorem dX10_undo_1 : decode cX10_undo 1 = .ok (.getfield 30, 3) := by decide +kernel
theorem dX10_undo_4 : decode cX10_undo 4 = .ok (.ifCond .ne 5, 3) := by decide +kernel
theorem dX10_undo_7 : decode cX10_undo 7 = .ok (.iconst (-1), 1) := by decide +kernel
theorem dX10_undo_8 : decode cX10_undo 8 = .ok (.ireturn, 1) := by decide +kernel
theorem dX10_undo_9 : decode cX10_undo 9 = .ok (.aload_n 0, 1) := by decide +kernel
theorem dX10_undo_10 : decode cX10_undo 10 = .ok (.dup, 1) := by decide +kernel
theorem dX10_undo_11 : decode cX10_undo 11 = .ok (.getfield 30, 3) := by decide +kernel
theorem dX10_undo_14 : decode cX10_undo 14 = .ok (.iconst 1, 1) := by decide +kernel
theorem dX10_undo_15 : decode cX10_undo 15 = .ok (.isub, 1) := by decide +kernel
theorem dX10_undo_16 : decode cX10_undo 16 = .ok (.putfield 30, 3) := by decide +kernel
theorem dX10_undo_19 : decode cX10_undo 19 = .ok (.aload_n 0, 1) := by decide +kernel
theorem dX10_undo_20 : decode cX10_undo 20 = .ok (.getfield 12, 3) := by decide +kernel
theorem dX10_undo_23 : decode cX10_undo 23 = .ok (.aload_n 0, 1) := by decide +kernel
theorem dX10_undo_24 : decode cX10_undo 24 = .ok (.getfield 26, 3) := by decide +kernel
theorem dX10_undo_27 : decode cX10_undo 27 = .ok (.aload_n 0, 1) := by decide +kernel
theorem dX10_undo_28 : decode cX10_undo 28 = .ok (.getfield 30, 3) := by decide +kernel
theorem dX10_undo_31 : decode cX10_undo 31 = .ok (.aaload, 1) := by decide +kernel
theorem dX10_undo_32 : decode cX10_undo 32 = .ok (.invokevirtual 121, 3) := by decide +kernel
theorem dX10_undo_35 : decode cX10_undo 35 = .ok (.aload_n 0, 1) := by decide +kernel
theorem dX10_undo_36 : decode cX10_undo 36 = .ok (.getfield 30, 3) := by decide +kernel
theorem dX10_undo_39 : decode cX10_undo 39 = .ok (.ireturn, 1) := by decide +kernel
abbrev rX10_undo : Room := { frames := 2, cells := 0, slots := 0, locals := 81 }
abbrev mX10_undo : gY := (cX10_undo, RX10, 1, rX10_undo)
def fX10_undo (M0 : gMem) : Option (Int32 × gMem) :=
  if (M0.1 0 5) = 0 then (some ((-1 : Int32), M0)) else (wF M0 0 5 ((M0.1 0 5) - (1 : Int32))).bind fun M2 => (rN M2 31 8 (M2.1 0 5) gNb).bind fun q3 => (fX2_copyFrom 1 q3 M2).bind fun v4 => some (v4.1 0 5, v4)
set_option maxRecDepth 20000 in
theorem tX10_undo {X : gX} {V : gEnv} {M0 : gMem}  {o : (Int32 × gMem)} (h : fX10_undo M0 = some o) (O : gO X V mX10_undo gShC (some .int) (some (.int o.1)) o.2) : gG X V mX10_undo gShC M0 0 0 0 [(0, .ref (gAd V 0))] [] := by
  unfold fX10_undo at h
  refine g_aload_n 0 rfl rfl dX10_undo_0 ?_
  refine g_getI FX10_30 sC_0 rfl dX10_undo_1 ?_
  rcases g_ite h with ⟨c1, h⟩ | ⟨c1, h⟩
  · refine g_if_ne_f c1 (tgt := 9) rfl dX10_undo_4 ?_
    refine g_iconst (v := -1) rfl dX10_undo_7 ?_
    cases h
    exact g_iret O ⟨Nat.le_of_ble_eq_true rfl, Nat.le_of_ble_eq_true rfl⟩ rfl dX10_undo_8
  · refine g_if_ne_t c1 (tgt := 9) rfl dX10_undo_4 ?_
    refine g_aload_n 0 rfl rfl dX10_undo_9 ?_
    refine g_dup rfl dX10_undo_10 ?_
    refine g_getI FX10_30 sC_0 rfl dX10_undo_11 ?_
    refine g_iconst (v := 1) rfl dX10_undo_14 ?_
    refine g_isub dX10_undo_15 ?_
    obtain ⟨M2, eM2, h⟩ := g_bnd h
    refine g_putI' eM2 FX10_30 jX10 sC_0 rfl rfl rfl dX10_undo_16 ?_
    refine g_aload_n 0 rfl rfl dX10_undo_19 ?_
    refine g_getR FX10_12 sC_0 rfl dX10_undo_20 ?_
    refine g_aload_n 0 rfl rfl dX10_undo_23 ?_
    refine g_getR FX10_26 sC_0 rfl dX10_undo_24 ?_
    refine g_aload_n 0 rfl rfl dX10_undo_27 ?_
    refine g_getI FX10_30 sC_0 rfl dX10_undo_28 ?_
    obtain ⟨q3, eq3, h⟩ := g_bnd h
    have hq3 := gNb_ok (rN_ok eq3).2.2
    refine g_aald' eq3 sC_31 dX10_undo_31 ?_
    obtain ⟨v4, ev4, h⟩ := g_bnd h
    refine g_callV LX10_121 sC_1 rfl (kX2_copyFrom nC_1 hq3 ev4) rfl rfl (Nat.le_of_ble_eq_true rfl) ⟨Nat.le_of_ble_eq_true rfl, Nat.le_of_ble_eq_true rfl⟩ ⟨Nat.le_of_ble_eq_true rfl, Nat.le_of_ble_eq_true rfl⟩ dX10_undo_32 rfl ?_
    refine g_aload_n 0 rfl rfl dX10_undo_35 ?_
    refine g_getI FX10_30 sC_0 rfl dX10_undo_36 ?_
    cases h
    exact g_iret O ⟨Nat.le_of_ble_eq_true rfl, Nat.le_of_ble_eq_true rfl⟩ rfl dX10_undo_39
theorem kX10_undo {l : Launch} {V : gEnv} {M0 : gMem}   {o : (Int32 × gMem)} (h : fX10_undo M0 = some o) : gM l yX10_undo cX10_undo 1 (some .int) rX10_undo V gShC [.ref (gAd V 0)] M0 (some (.int o.1)) o.2 :=
  gM.of (by decide) (Nat.le_of_ble_eq_true rfl) rfl (fun X _ O => tX10_undo  h O)
theorem dX10_save_0 : decode cX10_save 0 = .ok (.aload_n 0, 1) := by decide +kernel
theorem dX10_save_1 : decode cX10_save 1 = .ok (.getfield 19, 3) := by decide +kernel
theorem dX10_save_4 : decode cX10_save 4 = .ok (.aload_n 0, 1) := by decide +kernel
theorem dX10_save_5 : decode cX10_save 5 = .ok (.getfield 12, 3) := by decide +kernel
theorem dX10_save_8 : decode cX10_save 8 = .ok (.invokevirtual 121, 3) := by decide +kernel
theorem dX10_save_11 : decode cX10_save 11 = .ok (.aload_n 0, 1) := by decide +kernel
theorem dX10_save_12 : decode cX10_save 12 = .ok (.iconst 1, 1) := by decide +kernel
theorem dX10_save_13 : decode cX10_save 13 = .ok (.putfield 22, 3) := by decide +kernel
theorem dX10_save_16 : decode cX10_save 16 = .ok (.aload_n 0, 1) := by decide +kernel
theorem dX10_save_17 : decode cX10_save 17 = .ok (.getfield 12, 3) := by decide +kernel
theorem dX10_save_20 : decode cX10_save 20 = .ok (.getfield 146, 3) := by decide +kernel
theorem dX10_save_23 : decode cX10_save 23 = .ok (.ireturn, 1) := by decide +kernel
abbrev rX10_save : Room := { frames := 2, cells := 0, slots := 0, locals := 81 }
abbrev mX10_save : gY := (cX10_save, RX10, 1, rX10_save)
def fX10_save (M0 : gMem) : Option (Int32 × gMem) :=
  (fX2_copyFrom 21 1 M0).bind fun v1 => (wZ v1 0 3 (1 : Int32)).bind fun M2 => some (M2.1 1 10, M2)
set_option maxRecDepth 20000 in
theorem tX10_save {X : gX} {V : gEnv} {M0 : gMem}  {o : (Int32 × gMem)} (h : fX10_save M0 = some o) (O : gO X V mX10_save gShC (some .int) (some (.int o.1)) o.2) : gG X V mX10_save gShC M0 0 0 0 [(0, .ref (gAd V 0))] [] := by
  unfold fX10_save at h
  refine g_aload_n 0 rfl rfl dX10_save_0 ?_
  refine g_getR FX10_19 sC_0 rfl dX10_save_1 ?_
  refine g_aload_n 0 rfl rfl dX10_save_4 ?_
  refine g_getR FX10_12 sC_0 rfl dX10_save_5 ?_
  obtain ⟨v1, ev1, h⟩ := g_bnd h
  refine g_callV LX10_121 sC_21 rfl (kX2_copyFrom nC_21 nC_1 ev1) rfl rfl (Nat.le_of_ble_eq_true rfl) ⟨Nat.le_of_ble_eq_true rfl, Nat.le_of_ble_eq_true rfl⟩ ⟨Nat.le_of_ble_eq_true rfl, Nat.le_of_ble_eq_true rfl⟩ dX10_save_8 rfl ?_
  refine g_aload_n 0 rfl rfl dX10_save_11 ?_
  refine g_iconst (v := 1) rfl dX10_save_12 ?_
  obtain ⟨M2, eM2, h⟩ := g_bnd h
  refine g_putZ' eM2 FX10_22 jX10 sC_0 rfl rfl rfl dX10_save_13 ?_
  refine g_aload_n 0 rfl rfl dX10_save_16 ?_
  refine g_getR FX10_12 sC_0 rfl dX10_save_17 ?_
  refine g_getI FX10_146 sC_1 rfl dX10_save_20 ?_
  cases h
  exact g_iret O ⟨Nat.le_of_ble_eq_true rfl, Nat.le_of_ble_eq_true rfl⟩ rfl dX10_save_23
theorem kX10_save {l : Launch} {V : gEnv} {M0 : gMem}   {o : (Int32 × gMem)} (h : fX10_save M0 = some o) : gM l yX10_save cX10_save 1 (some .int) rX10_save V gShC [.ref (gAd V 0)] M0 (some (.int o.1)) o.2 :=
  gM.of (by decide) (Nat.le_of_ble_eq_true rfl) rfl (fun X _ O => tX10_save  h O)
theorem dX10_restore_0 : decode cX10_restore 0 = .ok (.aload_n 0, 1) := by decide +kernel
theorem dX10_restore_1 : decode cX10_restore 1 = .ok (.getfield 22, 3) := by decide +kernel
theorem dX10_restore_4 : decode cX10_restore 4 = .ok (.ifCond .ne 14, 3) := by decide +kernel
theorem dX10_restore_7 : decode cX10_restore 7 = .ok (.new 99, 3) := by decide +kernel
theorem dX10_restore_10 : decode cX10_restore 10 = .ok (.dup, 1) := by decide +kernel
theorem dX10_restore_11 : decode cX10_restore 11 = .ok (.ldc_w 385, 3) := by decide +kernel
theorem dX10_restore_14 : decode cX10_restore 14 = .ok (.invokespecial 103, 3) := by decide +kernel
theorem dX10_restore_17 : decode cX10_restore 17 = .ok (.athrow, 1) := by decide +kernel
theorem dX10_restore_18 : decode cX10_restore 18 = .ok (.aload_n 0, 1) := by decide +kernel
theorem dX10_restore_19 : decode cX10_restore 19 = .ok (.getfield 12, 3) := by decide +kernel
theorem dX10_restore_22 : decode cX10_restore 22 = .ok (.aload_n 0, 1) := by decide +kernel
theorem dX10_restore_23 : decode cX10_restore 23 = .ok (.getfield 19, 3) := by decide +kernel
theorem dX10_restore_26 : decode cX10_restore 26 = .ok (.invokevirtual 121, 3) := by decide +kernel
theorem dX10_restore_29 : decode cX10_restore 29 = .ok (.aload_n 0, 1) := by decide +kernel
theorem dX10_restore_30 : decode cX10_restore 30 = .ok (.iconst 0, 1) := by decide +kernel
theorem dX10_restore_31 : decode cX10_restore 31 = .ok (.putfield 30, 3) := by decide +kernel
theorem dX10_restore_34 : decode cX10_restore 34 = .ok (.aload_n 0, 1) := by decide +kernel
theorem dX10_restore_35 : decode cX10_restore 35 = .ok (.getfield 12, 3) := by decide +kernel
theorem dX10_restore_38 : decode cX10_restore 38 = .ok (.getfield 146, 3) := by decide +kernel
theorem dX10_restore_41 : decode cX10_restore 41 = .ok (.ireturn, 1) := by decide +kernel
abbrev rX10_restore : Room := { frames := 6, cells := 1, slots := 6, locals := 90 }
abbrev mX10_restore : gY := (cX10_restore, RX10, 1, rX10_restore)
def fX10_restore (M0 : gMem) : Option ((Int32 ⊕ Nat) × gMem) :=
  if (M0.1 0 3) = 0 then (some (.inr 0, M0)) else (fX2_copyFrom 1 21 M0).bind fun v2 => (wF v2 0 5 (0 : Int32)).bind fun M3 => some (.inl (M3.1 1 10), M3)
set_option maxRecDepth 20000 in
theorem tX10_restore {X : gX} {V : gEnv} {M0 : gMem}  {o : ((Int32 ⊕ Nat) × gMem)} (h : fX10_restore M0 = some o) (O : gOX X V mX10_restore gShC (some .int) (gOI o.1) o.2) : gG X V mX10_restore gShC M0 0 0 0 [(0, .ref (gAd V 0))] [] := by
  unfold fX10_restore at h
  refine g_aload_n 0 rfl rfl dX10_restore_0 ?_
  refine g_getI FX10_22 sC_0 rfl dX10_restore_1 ?_
  rcases g_ite h with ⟨c1, h⟩ | ⟨c1, h⟩
  · refine g_if_ne_f c1 (tgt := 18) rfl dX10_restore_4 ?_
    cases h
    exact g_throwW O U_0 SX10_385 ⟨Nat.le_of_ble_eq_true rfl, Nat.le_of_ble_eq_true rfl⟩ ⟨Nat.le_of_ble_eq_true rfl, Nat.le_of_ble_eq_true rfl⟩ dX10_restore_7 dX10_restore_10 dX10_restore_11 dX10_restore_14 dX10_restore_17
  · refine g_if_ne_t c1 (tgt := 18) rfl dX10_restore_4 ?_
    refine g_aload_n 0 rfl rfl dX10_restore_18 ?_
    refine g_getR FX10_12 sC_0 rfl dX10_restore_19 ?_
    refine g_aload_n 0 rfl rfl dX10_restore_22 ?_
    refine g_getR FX10_19 sC_0 rfl dX10_restore_23 ?_
    obtain ⟨v2, ev2, h⟩ := g_bnd h
    refine g_callV LX10_121 sC_1 rfl (kX2_copyFrom nC_1 nC_21 ev2) rfl rfl (Nat.le_of_ble_eq_true rfl) ⟨Nat.le_of_ble_eq_true rfl, Nat.le_of_ble_eq_true rfl⟩ ⟨Nat.le_of_ble_eq_true rfl, Nat.le_of_ble_eq_true rfl⟩ dX10_restore_26 rfl ?_
    refine g_aload_n 0 rfl rfl dX10_restore_29 ?_
    refine g_iconst (v := 0) rfl dX10_restore_30 ?_
    obtain ⟨M3, eM3, h⟩ := g_bnd h
    refine g_putI' eM3 FX10_30 jX10 sC_0 rfl rfl rfl dX10_restore_31 ?_
    refine g_aload_n 0 rfl rfl dX10_restore_34 ?_
    refine g_getR FX10_12 sC_0 rfl dX10_restore_35 ?_
    refine g_getI FX10_146 sC_1 rfl dX10_restore_38 ?_
    cases h
    exact g_iretX O ⟨Nat.le_of_ble_eq_true rfl, Nat.le_of_ble_eq_true rfl⟩ rfl dX10_restore_41
theorem kX10_restore {l : Launch} {V : gEnv} {M0 : gMem}  (hst : l.stackTraces = false)  {o : ((Int32 ⊕ Nat) × gMem)} (h : fX10_restore M0 = some o) : gMX l yX10_restore cX10_restore 1 (some .int) rX10_restore V gShC [.ref (gAd V 0)] M0 (gOI o.1) o.2 :=
  gMX.of hst (by decide) (Nat.le_of_ble_eq_true rfl) rfl (fun X _ O => tX10_restore  h O)
theorem dL_append_0 : decode cL_append 0 = .ok (.aload 6, 2) := by decide +kernel
theorem dL_append_2 : decode cL_append 2 = .ok (.iconst 0, 1) := by decide +kernel
theorem dL_append_3 : decode cL_append 3 = .ok (.aload_n 0, 1) := by decide +kernel
theorem dL_append_4 : decode cL_append 4 = .ok (.iload_n 1, 1) := by decide +kernel
theorem dL_append_5 : decode cL_append 5 = .ok (.iload_n 2, 1) := by decide +kernel
theorem dL_append_6 : decode cL_append 6 = .ok (.iload_n 3, 1) := by decide +kernel
theorem dL_append_7 : decode cL_append 7 = .ok (.iload 4, 2) := by decide +kernel
theorem dL_append_9 : decode cL_append 9 = .ok (.iload 5, 2) := by decide +kernel
theorem dL_append_11 : decode cL_append 11 = .ok (.invokevirtual 7, 3) := by decide +kernel
theorem dL_append_14 : decode cL_append 14 = .ok (.i2l, 1) := by decide +kernel
theorem dL_append_15 : decode cL_append 15 = .ok (.lastore, 1) := by decide +kernel
theorem dL_append_16 : decode cL_append 16 = .ok (.goto 7, 3) := by decide +kernel
theorem dL_append_19 : decode cL_append 19 = .ok (.astore 7, 2) := by decide +kernel
theorem dL_append_21 : decode cL_append 21 = .ok (.iconst 1, 1) := by decide +kernel
theorem dL_append_22 : decode cL_append 22 = .ok (.ireturn, 1) := by decide +kernel
theorem dL_append_23 : decode cL_append 23 = .ok (.iconst 0, 1) := by decide +kernel
theorem dL_append_24 : decode cL_append 24 = .ok (.ireturn, 1) := by decide +kernel
abbrev rL_append : Room := { frames := 7, cells := 1, slots := 6, locals := 115 }
abbrev mL_append : gY := (cL_append, RL, 8, rL_append)
def fL_append (x1 : Int32) (x2 : Int32) (x3 : Int32) (x4 : Int32) (x5 : Int32) (M0 : gMem) : Option (Int32 × gMem) :=
  (fX10_append x1 x2 x3 x4 x5 M0).bind fun v1 => gSE v1.1 (fun u2 => (wL v1.2 137 1 (0 : Int32) u2.toInt64).bind fun M4 => some ((0 : Int32), M4)) (fun x3 => if x3 = 0 then (some ((1 : Int32), v1.2)) else none)
set_option maxRecDepth 20000 in
theorem tL_append {X : gX} {V : gEnv} {x1 : Int32} {x2 : Int32} {x3 : Int32} {x4 : Int32} {x5 : Int32} {M0 : gMem} (hs9 : X.2.1.stackTraces = false) (hT9 : (gXc X).exceptionTable.toList = tableOf [(0, 16, 19, 13)])  {o : (Int32 × gMem)} (h : fL_append x1 x2 x3 x4 x5 M0 = some o) (O : gO X V mL_append gShC (some .int) (some (.int o.1)) o.2) : gG X V mL_append gShC M0 0 0 0 [(0, .ref (gAd V 0)), (1, .int x1), (2, .int x2), (3, .int x3), (4, .int x4), (5, .int x5), (6, .ref (gAd V 137))] [] := by
  unfold fL_append at h
  refine g_aload 6 rfl dL_append_0 ?_
  refine g_iconst (v := 0) rfl dL_append_2 ?_
  refine g_aload_n 0 rfl rfl dL_append_3 ?_
  refine g_iload_n 1 rfl rfl dL_append_4 ?_
  refine g_iload_n 2 rfl rfl dL_append_5 ?_
  refine g_iload_n 3 rfl rfl dL_append_6 ?_
  refine g_iload 4 rfl dL_append_7 ?_
  refine g_iload 5 rfl dL_append_9 ?_
  obtain ⟨v1, ev1, h⟩ := g_bnd h
  have hk9 := (kX10_append (V := V) hs9 ev1)
  cases hq9 : v1.1 with
  | inl u2 =>
    rw [hq9] at h hk9
    have h := g_sl h
    refine g_callVX LL_7 sC_0 rfl hk9 rfl rfl (Nat.le_of_ble_eq_true rfl) ⟨Nat.le_of_ble_eq_true rfl, Nat.le_of_ble_eq_true rfl⟩ ⟨Nat.le_of_ble_eq_true rfl, Nat.le_of_ble_eq_true rfl⟩ dL_append_11 rfl ?_
    refine g_i2l dL_append_14 ?_
    obtain ⟨M4, eM4, h⟩ := g_bnd h
    refine g_last' eM4 sC_137 dL_append_15 ?_
    refine g_goto (tgt := 23) rfl dL_append_16 ?_
    refine g_iconst (v := 0) rfl dL_append_23 ?_
    cases h
    exact g_iret O ⟨Nat.le_of_ble_eq_true rfl, Nat.le_of_ble_eq_true rfl⟩ rfl dL_append_24
  | inr x3 =>
    rw [hq9] at h hk9
    have h := g_sr h
    rcases g_ite h with ⟨c5, h⟩ | ⟨c5, h⟩
    · subst c5
      refine g_callVC hT9 LL_7 sC_0 rfl hk9 rfl rfl (Nat.le_of_ble_eq_true rfl) ⟨Nat.le_of_ble_eq_true rfl, Nat.le_of_ble_eq_true rfl⟩ ⟨Nat.le_of_ble_eq_true rfl, Nat.le_of_ble_eq_true rfl⟩ dL_append_11 [] ⟨0, 16, 19, 13⟩ [] rfl (Or.inl rfl) rfl (by decide) YL_13 (by decide) (fun q9 => ?_)
      refine g_astore (ls' := [(7, .ref q9), (0, .ref (gAd V 0)), (1, .int x1), (2, .int x2), (3, .int x3), (4, .int x4), (5, .int x5), (6, .ref (gAd V 137))]) (Nat.le_of_ble_eq_true rfl) rfl dL_append_19 ?_
      refine g_iconst (v := 1) rfl dL_append_21 ?_
      cases h
      exact g_iret O ⟨Nat.le_of_ble_eq_true rfl, Nat.le_of_ble_eq_true rfl⟩ rfl dL_append_22
    ·
      cases h
theorem kL_append {l : Launch} {V : gEnv} {M0 : gMem} {x1 : Int32} {x2 : Int32} {x3 : Int32} {x4 : Int32} {x5 : Int32} (hst : l.stackTraces = false)  {o : (Int32 × gMem)} (h : fL_append x1 x2 x3 x4 x5 M0 = some o) : gMT l yL_append cL_append 8 (some .int) [(0, 16, 19, 13)] rL_append V gShC [.ref (gAd V 0), .int x1, .int x2, .int x3, .int x4, .int x5, .ref (gAd V 137)] M0 (some (.int o.1)) o.2 :=
  gMT.of (by decide) (Nat.le_of_ble_eq_true rfl) rfl (fun X hl9 hT O => tL_append (by rw [hl9]; exact hst) hT  h O)
theorem dL_truncate_0 : decode cL_truncate 0 = .ok (.aload_n 2, 1) := by decide +kernel
theorem dL_truncate_1 : decode cL_truncate 1 = .ok (.iconst 0, 1) := by decide +kernel
theorem dL_truncate_2 : decode cL_truncate 2 = .ok (.aload_n 0, 1) := by decide +kernel
theorem dL_truncate_3 : decode cL_truncate 3 = .ok (.iload_n 1, 1) := by decide +kernel
theorem dL_truncate_4 : decode cL_truncate 4 = .ok (.invokevirtual 15, 3) := by decide +kernel
theorem dL_truncate_7 : decode cL_truncate 7 = .ok (.i2l, 1) := by decide +kernel
theorem dL_truncate_8 : decode cL_truncate 8 = .ok (.lastore, 1) := by decide +kernel
theorem dL_truncate_9 : decode cL_truncate 9 = .ok (.goto 6, 3) := by decide +kernel
theorem dL_truncate_12 : decode cL_truncate 12 = .ok (.astore_n 3, 1) := by decide +kernel
theorem dL_truncate_13 : decode cL_truncate 13 = .ok (.iconst 1, 1) := by decide +kernel
theorem dL_truncate_14 : decode cL_truncate 14 = .ok (.ireturn, 1) := by decide +kernel
theorem dL_truncate_15 : decode cL_truncate 15 = .ok (.iconst 0, 1) := by decide +kernel
theorem dL_truncate_16 : decode cL_truncate 16 = .ok (.ireturn, 1) := by decide +kernel
abbrev rL_truncate : Room := { frames := 7, cells := 1, slots := 6, locals := 111 }
abbrev mL_truncate : gY := (cL_truncate, RL, 4, rL_truncate)
def fL_truncate (x1 : Int32) (M0 : gMem) : Option (Int32 × gMem) :=
  (fX10_truncate x1 M0).bind fun v1 => gSE v1.1 (fun u2 => (wL v1.2 137 1 (0 : Int32) u2.toInt64).bind fun M4 => some ((0 : Int32), M4)) (fun x3 => if x3 = 1 then (some ((1 : Int32), v1.2)) else none)
set_option maxRecDepth 20000 in
theorem tL_truncate {X : gX} {V : gEnv} {x1 : Int32} {M0 : gMem} (hs9 : X.2.1.stackTraces = false) (hT9 : (gXc X).exceptionTable.toList = tableOf [(0, 9, 12, 19)])  {o : (Int32 × gMem)} (h : fL_truncate x1 M0 = some o) (O : gO X V mL_truncate gShC (some .int) (some (.int o.1)) o.2) : gG X V mL_truncate gShC M0 0 0 0 [(0, .ref (gAd V 0)), (1, .int x1), (2, .ref (gAd V 137))] [] := by
  unfold fL_truncate at h
  refine g_aload_n 2 rfl rfl dL_truncate_0 ?_
  refine g_iconst (v := 0) rfl dL_truncate_1 ?_
  refine g_aload_n 0 rfl rfl dL_truncate_2 ?_
  refine g_iload_n 1 rfl rfl dL_truncate_3 ?_
  obtain ⟨v1, ev1, h⟩ := g_bnd h
  have hk9 := (kX10_truncate (V := V) hs9 ev1)
  cases hq9 : v1.1 with
  | inl u2 =>
    rw [hq9] at h hk9
    have h := g_sl h
    refine g_callVX LL_15 sC_0 rfl hk9 rfl rfl (Nat.le_of_ble_eq_true rfl) ⟨Nat.le_of_ble_eq_true rfl, Nat.le_of_ble_eq_true rfl⟩ ⟨Nat.le_of_ble_eq_true rfl, Nat.le_of_ble_eq_true rfl⟩ dL_truncate_4 rfl ?_
    refine g_i2l dL_truncate_7 ?_
    obtain ⟨M4, eM4, h⟩ := g_bnd h
    refine g_last' eM4 sC_137 dL_truncate_8 ?_
    refine g_goto (tgt := 15) rfl dL_truncate_9 ?_
    refine g_iconst (v := 0) rfl dL_truncate_15 ?_
    cases h
    exact g_iret O ⟨Nat.le_of_ble_eq_true rfl, Nat.le_of_ble_eq_true rfl⟩ rfl dL_truncate_16
  | inr x3 =>
    rw [hq9] at h hk9
    have h := g_sr h
    rcases g_ite h with ⟨c5, h⟩ | ⟨c5, h⟩
    · subst c5
      refine g_callVC hT9 LL_15 sC_0 rfl hk9 rfl rfl (Nat.le_of_ble_eq_true rfl) ⟨Nat.le_of_ble_eq_true rfl, Nat.le_of_ble_eq_true rfl⟩ ⟨Nat.le_of_ble_eq_true rfl, Nat.le_of_ble_eq_true rfl⟩ dL_truncate_4 [] ⟨0, 9, 12, 19⟩ [] rfl (Or.inl rfl) rfl (by decide) YL_19 (by decide) (fun q9 => ?_)
      refine g_astore_n (ls' := [(3, .ref q9), (0, .ref (gAd V 0)), (1, .int x1), (2, .ref (gAd V 137))]) rfl (Nat.le_of_ble_eq_true rfl) rfl dL_truncate_12 ?_
      refine g_iconst (v := 1) rfl dL_truncate_13 ?_
      cases h
      exact g_iret O ⟨Nat.le_of_ble_eq_true rfl, Nat.le_of_ble_eq_true rfl⟩ rfl dL_truncate_14
    ·
      cases h
theorem kL_truncate {l : Launch} {V : gEnv} {M0 : gMem} {x1 : Int32} (hst : l.stackTraces = false)  {o : (Int32 × gMem)} (h : fL_truncate x1 M0 = some o) : gMT l yL_truncate cL_truncate 4 (some .int) [(0, 9, 12, 19)] rL_truncate V gShC [.ref (gAd V 0), .int x1, .ref (gAd V 137)] M0 (some (.int o.1)) o.2 :=
  gMT.of (by decide) (Nat.le_of_ble_eq_true rfl) rfl (fun X hl9 hT O => tL_truncate (by rw [hl9]; exact hst) hT  h O)
theorem dL_readText_0 : decode cL_readText 0 = .ok (.aload_n 1, 1) := by decide +kernel
theorem dL_readText_1 : decode cL_readText 1 = .ok (.iconst 0, 1) := by decide +kernel
theorem dL_readText_2 : decode cL_readText 2 = .ok (.aload_n 0, 1) := by decide +kernel
theorem dL_readText_3 : decode cL_readText 3 = .ok (.invokevirtual 21, 3) := by decide +kernel
theorem dL_readText_6 : decode cL_readText 6 = .ok (.i2l, 1) := by decide +kernel
theorem dL_readText_7 : decode cL_readText 7 = .ok (.lastore, 1) := by decide +kernel
theorem dL_readText_8 : decode cL_readText 8 = .ok (.goto 6, 3) := by decide +kernel
theorem dL_readText_11 : decode cL_readText 11 = .ok (.astore_n 2, 1) := by decide +kernel
theorem dL_readText_12 : decode cL_readText 12 = .ok (.iconst 1, 1) := by decide +kernel
theorem dL_readText_13 : decode cL_readText 13 = .ok (.ireturn, 1) := by decide +kernel
theorem dL_readText_14 : decode cL_readText 14 = .ok (.iconst 0, 1) := by decide +kernel
theorem dL_readText_15 : decode cL_readText 15 = .ok (.ireturn, 1) := by decide +kernel
abbrev rL_readText : Room := { frames := 8, cells := 1, slots := 6, locals := 211 }
abbrev mL_readText : gY := (cL_readText, RL, 3, rL_readText)
def fL_readText (M0 : gMem) : Option (Int32 × gMem) :=
  (fX10_readText M0).bind fun v1 => gSE v1.1 (fun u2 => (wL v1.2 137 1 (0 : Int32) u2.toInt64).bind fun M4 => some ((0 : Int32), M4)) (fun x3 => if x3 = 1 then (some ((1 : Int32), v1.2)) else none)
set_option maxRecDepth 20000 in
theorem tL_readText {X : gX} {V : gEnv} {M0 : gMem} (hs9 : X.2.1.stackTraces = false) (hT9 : (gXc X).exceptionTable.toList = tableOf [(0, 8, 11, 19)])  {o : (Int32 × gMem)} (h : fL_readText M0 = some o) (O : gO X V mL_readText gShC (some .int) (some (.int o.1)) o.2) : gG X V mL_readText gShC M0 0 0 0 [(0, .ref (gAd V 0)), (1, .ref (gAd V 137))] [] := by
  unfold fL_readText at h
  refine g_aload_n 1 rfl rfl dL_readText_0 ?_
  refine g_iconst (v := 0) rfl dL_readText_1 ?_
  refine g_aload_n 0 rfl rfl dL_readText_2 ?_
  obtain ⟨v1, ev1, h⟩ := g_bnd h
  have hk9 := (kX10_readText (V := V) hs9 ev1)
  cases hq9 : v1.1 with
  | inl u2 =>
    rw [hq9] at h hk9
    have h := g_sl h
    refine g_callVX LL_21 sC_0 rfl hk9 rfl rfl (Nat.le_of_ble_eq_true rfl) ⟨Nat.le_of_ble_eq_true rfl, Nat.le_of_ble_eq_true rfl⟩ ⟨Nat.le_of_ble_eq_true rfl, Nat.le_of_ble_eq_true rfl⟩ dL_readText_3 rfl ?_
    refine g_i2l dL_readText_6 ?_
    obtain ⟨M4, eM4, h⟩ := g_bnd h
    refine g_last' eM4 sC_137 dL_readText_7 ?_
    refine g_goto (tgt := 14) rfl dL_readText_8 ?_
    refine g_iconst (v := 0) rfl dL_readText_14 ?_
    cases h
    exact g_iret O ⟨Nat.le_of_ble_eq_true rfl, Nat.le_of_ble_eq_true rfl⟩ rfl dL_readText_15
  | inr x3 =>
    rw [hq9] at h hk9
    have h := g_sr h
    rcases g_ite h with ⟨c5, h⟩ | ⟨c5, h⟩
    · subst c5
      refine g_callVC hT9 LL_21 sC_0 rfl hk9 rfl rfl (Nat.le_of_ble_eq_true rfl) ⟨Nat.le_of_ble_eq_true rfl, Nat.le_of_ble_eq_true rfl⟩ ⟨Nat.le_of_ble_eq_true rfl, Nat.le_of_ble_eq_true rfl⟩ dL_readText_3 [] ⟨0, 8, 11, 19⟩ [] rfl (Or.inl rfl) rfl (by decide) YL_19 (by decide) (fun q9 => ?_)
      refine g_astore_n (ls' := [(2, .ref q9), (0, .ref (gAd V 0)), (1, .ref (gAd V 137))]) rfl (Nat.le_of_ble_eq_true rfl) rfl dL_readText_11 ?_
      refine g_iconst (v := 1) rfl dL_readText_12 ?_
      cases h
      exact g_iret O ⟨Nat.le_of_ble_eq_true rfl, Nat.le_of_ble_eq_true rfl⟩ rfl dL_readText_13
    ·
      cases h
theorem kL_readText {l : Launch} {V : gEnv} {M0 : gMem}  (hst : l.stackTraces = false)  {o : (Int32 × gMem)} (h : fL_readText M0 = some o) : gMT l yL_readText cL_readText 3 (some .int) [(0, 8, 11, 19)] rL_readText V gShC [.ref (gAd V 0), .ref (gAd V 137)] M0 (some (.int o.1)) o.2 :=
  gMT.of (by decide) (Nat.le_of_ble_eq_true rfl) rfl (fun X hl9 hT O => tL_readText (by rw [hl9]; exact hst) hT  h O)
theorem dL_runOrders_0 : decode cL_runOrders 0 = .ok (.aload_n 1, 1) := by decide +kernel
theorem dL_runOrders_1 : decode cL_runOrders 1 = .ok (.iconst 0, 1) := by decide +kernel
theorem dL_runOrders_2 : decode cL_runOrders 2 = .ok (.aload_n 0, 1) := by decide +kernel
theorem dL_runOrders_3 : decode cL_runOrders 3 = .ok (.invokevirtual 25, 3) := by decide +kernel
theorem dL_runOrders_6 : decode cL_runOrders 6 = .ok (.i2l, 1) := by decide +kernel
theorem dL_runOrders_7 : decode cL_runOrders 7 = .ok (.lastore, 1) := by decide +kernel
theorem dL_runOrders_8 : decode cL_runOrders 8 = .ok (.goto 6, 3) := by decide +kernel
theorem dL_runOrders_11 : decode cL_runOrders 11 = .ok (.astore_n 2, 1) := by decide +kernel
theorem dL_runOrders_12 : decode cL_runOrders 12 = .ok (.iconst 1, 1) := by decide +kernel
theorem dL_runOrders_13 : decode cL_runOrders 13 = .ok (.ireturn, 1) := by decide +kernel
theorem dL_runOrders_14 : decode cL_runOrders 14 = .ok (.iconst 0, 1) := by decide +kernel
theorem dL_runOrders_15 : decode cL_runOrders 15 = .ok (.ireturn, 1) := by decide +kernel
abbrev rL_runOrders : Room := { frames := 9, cells := 1, slots := 6, locals := 229 }
abbrev mL_runOrders : gY := (cL_runOrders, RL, 3, rL_runOrders)
def fL_runOrders (M0 : gMem) : Option (Int32 × gMem) :=
  (fX10_runOrders M0).bind fun v1 => gSE v1.1 (fun u2 => (wL v1.2 137 1 (0 : Int32) u2.toInt64).bind fun M4 => some ((0 : Int32), M4)) (fun x3 => if x3 = 1 then (some ((1 : Int32), v1.2)) else none)
set_option maxRecDepth 20000 in
theorem tL_runOrders {X : gX} {V : gEnv} {M0 : gMem} (hs9 : X.2.1.stackTraces = false) (hT9 : (gXc X).exceptionTable.toList = tableOf [(0, 8, 11, 19)])  {o : (Int32 × gMem)} (h : fL_runOrders M0 = some o) (O : gO X V mL_runOrders gShC (some .int) (some (.int o.1)) o.2) : gG X V mL_runOrders gShC M0 0 0 0 [(0, .ref (gAd V 0)), (1, .ref (gAd V 137))] [] := by
  unfold fL_runOrders at h
  refine g_aload_n 1 rfl rfl dL_runOrders_0 ?_
  refine g_iconst (v := 0) rfl dL_runOrders_1 ?_
  refine g_aload_n 0 rfl rfl dL_runOrders_2 ?_
  obtain ⟨v1, ev1, h⟩ := g_bnd h
  have hk9 := (kX10_runOrders (V := V) hs9 ev1)
  cases hq9 : v1.1 with
  | inl u2 =>
    rw [hq9] at h hk9
    have h := g_sl h
    refine g_callVX LL_25 sC_0 rfl hk9 rfl rfl (Nat.le_of_ble_eq_true rfl) ⟨Nat.le_of_ble_eq_true rfl, Nat.le_of_ble_eq_true rfl⟩ ⟨Nat.le_of_ble_eq_true rfl, Nat.le_of_ble_eq_true rfl⟩ dL_runOrders_3 rfl ?_
    refine g_i2l dL_runOrders_6 ?_
    obtain ⟨M4, eM4, h⟩ := g_bnd h
    refine g_last' eM4 sC_137 dL_runOrders_7 ?_
    refine g_goto (tgt := 14) rfl dL_runOrders_8 ?_
    refine g_iconst (v := 0) rfl dL_runOrders_14 ?_
    cases h
    exact g_iret O ⟨Nat.le_of_ble_eq_true rfl, Nat.le_of_ble_eq_true rfl⟩ rfl dL_runOrders_15
  | inr x3 =>
    rw [hq9] at h hk9
    have h := g_sr h
    rcases g_ite h with ⟨c5, h⟩ | ⟨c5, h⟩
    · subst c5
      refine g_callVC hT9 LL_25 sC_0 rfl hk9 rfl rfl (Nat.le_of_ble_eq_true rfl) ⟨Nat.le_of_ble_eq_true rfl, Nat.le_of_ble_eq_true rfl⟩ ⟨Nat.le_of_ble_eq_true rfl, Nat.le_of_ble_eq_true rfl⟩ dL_runOrders_3 [] ⟨0, 8, 11, 19⟩ [] rfl (Or.inl rfl) rfl (by decide) YL_19 (by decide) (fun q9 => ?_)
      refine g_astore_n (ls' := [(2, .ref q9), (0, .ref (gAd V 0)), (1, .ref (gAd V 137))]) rfl (Nat.le_of_ble_eq_true rfl) rfl dL_runOrders_11 ?_
      refine g_iconst (v := 1) rfl dL_runOrders_12 ?_
      cases h
      exact g_iret O ⟨Nat.le_of_ble_eq_true rfl, Nat.le_of_ble_eq_true rfl⟩ rfl dL_runOrders_13
    ·
      cases h
theorem kL_runOrders {l : Launch} {V : gEnv} {M0 : gMem}  (hst : l.stackTraces = false)  {o : (Int32 × gMem)} (h : fL_runOrders M0 = some o) : gMT l yL_runOrders cL_runOrders 3 (some .int) [(0, 8, 11, 19)] rL_runOrders V gShC [.ref (gAd V 0), .ref (gAd V 137)] M0 (some (.int o.1)) o.2 :=
  gMT.of (by decide) (Nat.le_of_ble_eq_true rfl) rfl (fun X hl9 hT O => tL_runOrders (by rw [hl9]; exact hst) hT  h O)
theorem dL_size_0 : decode cL_size 0 = .ok (.aload_n 2, 1) := by decide +kernel
theorem dL_size_1 : decode cL_size 1 = .ok (.iconst 0, 1) := by decide +kernel
theorem dL_size_2 : decode cL_size 2 = .ok (.aload_n 0, 1) := by decide +kernel
theorem dL_size_3 : decode cL_size 3 = .ok (.iload_n 1, 1) := by decide +kernel
theorem dL_size_4 : decode cL_size 4 = .ok (.invokevirtual 28, 3) := by decide +kernel
theorem dL_size_7 : decode cL_size 7 = .ok (.i2l, 1) := by decide +kernel
theorem dL_size_8 : decode cL_size 8 = .ok (.lastore, 1) := by decide +kernel
theorem dL_size_9 : decode cL_size 9 = .ok (.goto 6, 3) := by decide +kernel
theorem dL_size_12 : decode cL_size 12 = .ok (.astore_n 3, 1) := by decide +kernel
theorem dL_size_13 : decode cL_size 13 = .ok (.iconst 1, 1) := by decide +kernel
theorem dL_size_14 : decode cL_size 14 = .ok (.ireturn, 1) := by decide +kernel
theorem dL_size_15 : decode cL_size 15 = .ok (.iconst 0, 1) := by decide +kernel
theorem dL_size_16 : decode cL_size 16 = .ok (.ireturn, 1) := by decide +kernel
abbrev rL_size : Room := { frames := 7, cells := 1, slots := 6, locals := 111 }
abbrev mL_size : gY := (cL_size, RL, 4, rL_size)
def fL_size (x1 : Int32) (M0 : gMem) : Option (Int32 × gMem) :=
  (fX10_size x1 M0).bind fun v1 => gSE v1 (fun u2 => (wL M0 137 1 (0 : Int32) u2.toInt64).bind fun M4 => some ((0 : Int32), M4)) (fun x3 => if x3 = 1 then (some ((1 : Int32), M0)) else none)
set_option maxRecDepth 20000 in
theorem tL_size {X : gX} {V : gEnv} {x1 : Int32} {M0 : gMem} (hs9 : X.2.1.stackTraces = false) (hT9 : (gXc X).exceptionTable.toList = tableOf [(0, 9, 12, 19)])  {o : (Int32 × gMem)} (h : fL_size x1 M0 = some o) (O : gO X V mL_size gShC (some .int) (some (.int o.1)) o.2) : gG X V mL_size gShC M0 0 0 0 [(0, .ref (gAd V 0)), (1, .int x1), (2, .ref (gAd V 137))] [] := by
  unfold fL_size at h
  refine g_aload_n 2 rfl rfl dL_size_0 ?_
  refine g_iconst (v := 0) rfl dL_size_1 ?_
  refine g_aload_n 0 rfl rfl dL_size_2 ?_
  refine g_iload_n 1 rfl rfl dL_size_3 ?_
  obtain ⟨v1, ev1, h⟩ := g_bnd h
  have hk9 := (kX10_size (V := V) hs9 ev1)
  cases hq9 : v1 with
  | inl u2 =>
    rw [hq9] at h hk9
    have h := g_sl h
    refine g_callVX LL_28 sC_0 rfl hk9 rfl rfl (Nat.le_of_ble_eq_true rfl) ⟨Nat.le_of_ble_eq_true rfl, Nat.le_of_ble_eq_true rfl⟩ ⟨Nat.le_of_ble_eq_true rfl, Nat.le_of_ble_eq_true rfl⟩ dL_size_4 rfl ?_
    refine g_i2l dL_size_7 ?_
    obtain ⟨M4, eM4, h⟩ := g_bnd h
    refine g_last' eM4 sC_137 dL_size_8 ?_
    refine g_goto (tgt := 15) rfl dL_size_9 ?_
    refine g_iconst (v := 0) rfl dL_size_15 ?_
    cases h
    exact g_iret O ⟨Nat.le_of_ble_eq_true rfl, Nat.le_of_ble_eq_true rfl⟩ rfl dL_size_16
  | inr x3 =>
    rw [hq9] at h hk9
    have h := g_sr h
    rcases g_ite h with ⟨c5, h⟩ | ⟨c5, h⟩
    · subst c5
      refine g_callVC hT9 LL_28 sC_0 rfl hk9 rfl rfl (Nat.le_of_ble_eq_true rfl) ⟨Nat.le_of_ble_eq_true rfl, Nat.le_of_ble_eq_true rfl⟩ ⟨Nat.le_of_ble_eq_true rfl, Nat.le_of_ble_eq_true rfl⟩ dL_size_4 [] ⟨0, 9, 12, 19⟩ [] rfl (Or.inl rfl) rfl (by decide) YL_19 (by decide) (fun q9 => ?_)
      refine g_astore_n (ls' := [(3, .ref q9), (0, .ref (gAd V 0)), (1, .int x1), (2, .ref (gAd V 137))]) rfl (Nat.le_of_ble_eq_true rfl) rfl dL_size_12 ?_
      refine g_iconst (v := 1) rfl dL_size_13 ?_
      cases h
      exact g_iret O ⟨Nat.le_of_ble_eq_true rfl, Nat.le_of_ble_eq_true rfl⟩ rfl dL_size_14
    ·
      cases h
theorem kL_size {l : Launch} {V : gEnv} {M0 : gMem} {x1 : Int32} (hst : l.stackTraces = false)  {o : (Int32 × gMem)} (h : fL_size x1 M0 = some o) : gMT l yL_size cL_size 4 (some .int) [(0, 9, 12, 19)] rL_size V gShC [.ref (gAd V 0), .int x1, .ref (gAd V 137)] M0 (some (.int o.1)) o.2 :=
  gMT.of (by decide) (Nat.le_of_ble_eq_true rfl) rfl (fun X hl9 hT O => tL_size (by rw [hl9]; exact hst) hT  h O)
theorem dL_task_0 : decode cL_task 0 = .ok (.aload_n 3, 1) := by decide +kernel
theorem dL_task_1 : decode cL_task 1 = .ok (.iconst 0, 1) := by decide +kernel
theorem dL_task_2 : decode cL_task 2 = .ok (.aload_n 0, 1) := by decide +kernel
theorem dL_task_3 : decode cL_task 3 = .ok (.iload_n 1, 1) := by decide +kernel
theorem dL_task_4 : decode cL_task 4 = .ok (.iload_n 2, 1) := by decide +kernel
theorem dL_task_5 : decode cL_task 5 = .ok (.invokevirtual 31, 3) := by decide +kernel
theorem dL_task_8 : decode cL_task 8 = .ok (.i2l, 1) := by decide +kernel
theorem dL_task_9 : decode cL_task 9 = .ok (.lastore, 1) := by decide +kernel
theorem dL_task_10 : decode cL_task 10 = .ok (.goto 11, 3) := by decide +kernel
theorem dL_task_13 : decode cL_task 13 = .ok (.astore 4, 2) := by decide +kernel
theorem dL_task_15 : decode cL_task 15 = .ok (.iconst 1, 1) := by decide +kernel
theorem dL_task_16 : decode cL_task 16 = .ok (.ireturn, 1) := by decide +kernel
theorem dL_task_17 : decode cL_task 17 = .ok (.astore 4, 2) := by decide +kernel
theorem dL_task_19 : decode cL_task 19 = .ok (.iconst 2, 1) := by decide +kernel
theorem dL_task_20 : decode cL_task 20 = .ok (.ireturn, 1) := by decide +kernel
theorem dL_task_21 : decode cL_task 21 = .ok (.iconst 0, 1) := by decide +kernel
theorem dL_task_22 : decode cL_task 22 = .ok (.ireturn, 1) := by decide +kernel
abbrev rL_task : Room := { frames := 8, cells := 2, slots := 12, locals := 133 }
abbrev mL_task : gY := (cL_task, RL, 5, rL_task)
def fL_task (x1 : Int32) (x2 : Int32) (M0 : gMem) : Option (Int32 × gMem) :=
  (fX10_task x1 x2 M0).bind fun v1 => gSE v1 (fun u2 => (wL M0 137 1 (0 : Int32) u2.toInt64).bind fun M4 => some ((0 : Int32), M4)) (fun x3 => if x3 = 2 then (some ((1 : Int32), M0)) else if x3 = 1 then (some ((2 : Int32), M0)) else none)
set_option maxRecDepth 20000 in
theorem tL_task {X : gX} {V : gEnv} {x1 : Int32} {x2 : Int32} {M0 : gMem} (hs9 : X.2.1.stackTraces = false) (hT9 : (gXc X).exceptionTable.toList = tableOf [(0, 10, 13, 35), (0, 10, 17, 19)])  {o : (Int32 × gMem)} (h : fL_task x1 x2 M0 = some o) (O : gO X V mL_task gShC (some .int) (some (.int o.1)) o.2) : gG X V mL_task gShC M0 0 0 0 [(0, .ref (gAd V 0)), (1, .int x1), (2, .int x2), (3, .ref (gAd V 137))] [] := by
  unfold fL_task at h
  refine g_aload_n 3 rfl rfl dL_task_0 ?_
  refine g_iconst (v := 0) rfl dL_task_1 ?_
  refine g_aload_n 0 rfl rfl dL_task_2 ?_
  refine g_iload_n 1 rfl rfl dL_task_3 ?_
  refine g_iload_n 2 rfl rfl dL_task_4 ?_
  obtain ⟨v1, ev1, h⟩ := g_bnd h
  have hk9 := (kX10_task (V := V) hs9 ev1)
  cases hq9 : v1 with
  | inl u2 =>
    rw [hq9] at h hk9
    have h := g_sl h
    refine g_callVX LL_31 sC_0 rfl hk9 rfl rfl (Nat.le_of_ble_eq_true rfl) ⟨Nat.le_of_ble_eq_true rfl, Nat.le_of_ble_eq_true rfl⟩ ⟨Nat.le_of_ble_eq_true rfl, Nat.le_of_ble_eq_true rfl⟩ dL_task_5 rfl ?_
    refine g_i2l dL_task_8 ?_
    obtain ⟨M4, eM4, h⟩ := g_bnd h
    refine g_last' eM4 sC_137 dL_task_9 ?_
    refine g_goto (tgt := 21) rfl dL_task_10 ?_
    refine g_iconst (v := 0) rfl dL_task_21 ?_
    cases h
    exact g_iret O ⟨Nat.le_of_ble_eq_true rfl, Nat.le_of_ble_eq_true rfl⟩ rfl dL_task_22
  | inr x3 =>
    rw [hq9] at h hk9
    have h := g_sr h
    rcases g_ite h with ⟨c5, h⟩ | ⟨c5, h⟩
    · subst c5
      refine g_callVC hT9 LL_31 sC_0 rfl hk9 rfl rfl (Nat.le_of_ble_eq_true rfl) ⟨Nat.le_of_ble_eq_true rfl, Nat.le_of_ble_eq_true rfl⟩ ⟨Nat.le_of_ble_eq_true rfl, Nat.le_of_ble_eq_true rfl⟩ dL_task_5 [] ⟨0, 10, 13, 35⟩ [⟨0, 10, 17, 19⟩] rfl (Or.inl rfl) rfl (by decide) YL_35 (by decide) (fun q9 => ?_)
      refine g_astore (ls' := [(4, .ref q9), (0, .ref (gAd V 0)), (1, .int x1), (2, .int x2), (3, .ref (gAd V 137))]) (Nat.le_of_ble_eq_true rfl) rfl dL_task_13 ?_
      refine g_iconst (v := 1) rfl dL_task_15 ?_
      cases h
      exact g_iret O ⟨Nat.le_of_ble_eq_true rfl, Nat.le_of_ble_eq_true rfl⟩ rfl dL_task_16
    ·
      rcases g_ite h with ⟨c6, h⟩ | ⟨c6, h⟩
      · subst c6
        refine g_callVC hT9 LL_31 sC_0 rfl hk9 rfl rfl (Nat.le_of_ble_eq_true rfl) ⟨Nat.le_of_ble_eq_true rfl, Nat.le_of_ble_eq_true rfl⟩ ⟨Nat.le_of_ble_eq_true rfl, Nat.le_of_ble_eq_true rfl⟩ dL_task_5 [⟨0, 10, 13, 35⟩] ⟨0, 10, 17, 19⟩ [] rfl (Or.inr ⟨⟨0, 10, 13, 35⟩, rfl, by decide, YL_35, rfl⟩) rfl (by decide) YL_19 (by decide) (fun q9 => ?_)
        refine g_astore (ls' := [(4, .ref q9), (0, .ref (gAd V 0)), (1, .int x1), (2, .int x2), (3, .ref (gAd V 137))]) (Nat.le_of_ble_eq_true rfl) rfl dL_task_17 ?_
        refine g_iconst (v := 2) rfl dL_task_19 ?_
        cases h
        exact g_iret O ⟨Nat.le_of_ble_eq_true rfl, Nat.le_of_ble_eq_true rfl⟩ rfl dL_task_20
      ·
        cases h
theorem kL_task {l : Launch} {V : gEnv} {M0 : gMem} {x1 : Int32} {x2 : Int32} (hst : l.stackTraces = false)  {o : (Int32 × gMem)} (h : fL_task x1 x2 M0 = some o) : gMT l yL_task cL_task 5 (some .int) [(0, 10, 13, 35), (0, 10, 17, 19)] rL_task V gShC [.ref (gAd V 0), .int x1, .int x2, .ref (gAd V 137)] M0 (some (.int o.1)) o.2 :=
  gMT.of (by decide) (Nat.le_of_ble_eq_true rfl) rfl (fun X hl9 hT O => tL_task (by rw [hl9]; exact hst) hT  h O)
theorem dL_letter_0 : decode cL_letter 0 = .ok (.aload_n 3, 1) := by decide +kernel
theorem dL_letter_1 : decode cL_letter 1 = .ok (.iconst 0, 1) := by decide +kernel
theorem dL_letter_2 : decode cL_letter 2 = .ok (.aload_n 0, 1) := by decide +kernel
theorem dL_letter_3 : decode cL_letter 3 = .ok (.iload_n 1, 1) := by decide +kernel
theorem dL_letter_4 : decode cL_letter 4 = .ok (.iload_n 2, 1) := by decide +kernel
theorem dL_letter_5 : decode cL_letter 5 = .ok (.invokevirtual 37, 3) := by decide +kernel
theorem dL_letter_8 : decode cL_letter 8 = .ok (.i2l, 1) := by decide +kernel
theorem dL_letter_9 : decode cL_letter 9 = .ok (.lastore, 1) := by decide +kernel
theorem dL_letter_10 : decode cL_letter 10 = .ok (.goto 7, 3) := by decide +kernel
theorem dL_letter_13 : decode cL_letter 13 = .ok (.astore 4, 2) := by decide +kernel
theorem dL_letter_15 : decode cL_letter 15 = .ok (.iconst 1, 1) := by decide +kernel
theorem dL_letter_16 : decode cL_letter 16 = .ok (.ireturn, 1) := by decide +kernel
theorem dL_letter_17 : decode cL_letter 17 = .ok (.iconst 0, 1) := by decide +kernel
theorem dL_letter_18 : decode cL_letter 18 = .ok (.ireturn, 1) := by decide +kernel
abbrev rL_letter : Room := { frames := 8, cells := 1, slots := 6, locals := 134 }
abbrev mL_letter : gY := (cL_letter, RL, 5, rL_letter)
def fL_letter (x1 : Int32) (x2 : Int32) (M0 : gMem) : Option (Int32 × gMem) :=
  (fX10_letter x1 x2 M0).bind fun v1 => gSE v1 (fun u2 => (wL M0 137 1 (0 : Int32) u2.toInt64).bind fun M4 => some ((0 : Int32), M4)) (fun x3 => if x3 = 2 then (some ((1 : Int32), M0)) else none)
set_option maxRecDepth 20000 in
theorem tL_letter {X : gX} {V : gEnv} {x1 : Int32} {x2 : Int32} {M0 : gMem} (hs9 : X.2.1.stackTraces = false) (hT9 : (gXc X).exceptionTable.toList = tableOf [(0, 10, 13, 35)])  {o : (Int32 × gMem)} (h : fL_letter x1 x2 M0 = some o) (O : gO X V mL_letter gShC (some .int) (some (.int o.1)) o.2) : gG X V mL_letter gShC M0 0 0 0 [(0, .ref (gAd V 0)), (1, .int x1), (2, .int x2), (3, .ref (gAd V 137))] [] := by
  unfold fL_letter at h
  refine g_aload_n 3 rfl rfl dL_letter_0 ?_
  refine g_iconst (v := 0) rfl dL_letter_1 ?_
  refine g_aload_n 0 rfl rfl dL_letter_2 ?_
  refine g_iload_n 1 rfl rfl dL_letter_3 ?_
  refine g_iload_n 2 rfl rfl dL_letter_4 ?_
  obtain ⟨v1, ev1, h⟩ := g_bnd h
  have hk9 := (kX10_letter (V := V) hs9 ev1)
  cases hq9 : v1 with
  | inl u2 =>
    rw [hq9] at h hk9
    have h := g_sl h
    refine g_callVX LL_37 sC_0 rfl hk9 rfl rfl (Nat.le_of_ble_eq_true rfl) ⟨Nat.le_of_ble_eq_true rfl, Nat.le_of_ble_eq_true rfl⟩ ⟨Nat.le_of_ble_eq_true rfl, Nat.le_of_ble_eq_true rfl⟩ dL_letter_5 rfl ?_
    refine g_i2l dL_letter_8 ?_
    obtain ⟨M4, eM4, h⟩ := g_bnd h
    refine g_last' eM4 sC_137 dL_letter_9 ?_
    refine g_goto (tgt := 17) rfl dL_letter_10 ?_
    refine g_iconst (v := 0) rfl dL_letter_17 ?_
    cases h
    exact g_iret O ⟨Nat.le_of_ble_eq_true rfl, Nat.le_of_ble_eq_true rfl⟩ rfl dL_letter_18
  | inr x3 =>
    rw [hq9] at h hk9
    have h := g_sr h
    rcases g_ite h with ⟨c5, h⟩ | ⟨c5, h⟩
    · subst c5
      refine g_callVC hT9 LL_37 sC_0 rfl hk9 rfl rfl (Nat.le_of_ble_eq_true rfl) ⟨Nat.le_of_ble_eq_true rfl, Nat.le_of_ble_eq_true rfl⟩ ⟨Nat.le_of_ble_eq_true rfl, Nat.le_of_ble_eq_true rfl⟩ dL_letter_5 [] ⟨0, 10, 13, 35⟩ [] rfl (Or.inl rfl) rfl (by decide) YL_35 (by decide) (fun q9 => ?_)
      refine g_astore (ls' := [(4, .ref q9), (0, .ref (gAd V 0)), (1, .int x1), (2, .int x2), (3, .ref (gAd V 137))]) (Nat.le_of_ble_eq_true rfl) rfl dL_letter_13 ?_
      refine g_iconst (v := 1) rfl dL_letter_15 ?_
      cases h
      exact g_iret O ⟨Nat.le_of_ble_eq_true rfl, Nat.le_of_ble_eq_true rfl⟩ rfl dL_letter_16
    ·
      cases h
theorem kL_letter {l : Launch} {V : gEnv} {M0 : gMem} {x1 : Int32} {x2 : Int32} (hst : l.stackTraces = false)  {o : (Int32 × gMem)} (h : fL_letter x1 x2 M0 = some o) : gMT l yL_letter cL_letter 5 (some .int) [(0, 10, 13, 35)] rL_letter V gShC [.ref (gAd V 0), .int x1, .int x2, .ref (gAd V 137)] M0 (some (.int o.1)) o.2 :=
  gMT.of (by decide) (Nat.le_of_ble_eq_true rfl) rfl (fun X hl9 hT O => tL_letter (by rw [hl9]; exact hst) hT  h O)
theorem dL_group_0 : decode cL_group 0 = .ok (.aload_n 3, 1) := by decide +kernel
theorem dL_group_1 : decode cL_group 1 = .ok (.iconst 0, 1) := by decide +kernel
theorem dL_group_2 : decode cL_group 2 = .ok (.aload_n 0, 1) := by decide +kernel
theorem dL_group_3 : decode cL_group 3 = .ok (.iload_n 1, 1) := by decide +kernel
theorem dL_group_4 : decode cL_group 4 = .ok (.iload_n 2, 1) := by decide +kernel
theorem dL_group_5 : decode cL_group 5 = .ok (.invokevirtual 40, 3) := by decide +kernel
theorem dL_group_8 : decode cL_group 8 = .ok (.i2l, 1) := by decide +kernel
theorem dL_group_9 : decode cL_group 9 = .ok (.lastore, 1) := by decide +kernel
theorem dL_group_10 : decode cL_group 10 = .ok (.goto 11, 3) := by decide +kernel
theorem dL_group_13 : decode cL_group 13 = .ok (.astore 4, 2) := by decide +kernel
theorem dL_group_15 : decode cL_group 15 = .ok (.iconst 1, 1) := by decide +kernel
theorem dL_group_16 : decode cL_group 16 = .ok (.ireturn, 1) := by decide +kernel
theorem dL_group_17 : decode cL_group 17 = .ok (.astore 4, 2) := by decide +kernel
theorem dL_group_19 : decode cL_group 19 = .ok (.iconst 2, 1) := by decide +kernel
theorem dL_group_20 : decode cL_group 20 = .ok (.ireturn, 1) := by decide +kernel
theorem dL_group_21 : decode cL_group 21 = .ok (.iconst 0, 1) := by decide +kernel
theorem dL_group_22 : decode cL_group 22 = .ok (.ireturn, 1) := by decide +kernel
abbrev rL_group : Room := { frames := 8, cells := 2, slots := 12, locals := 134 }
abbrev mL_group : gY := (cL_group, RL, 5, rL_group)
def fL_group (x1 : Int32) (x2 : Int32) (M0 : gMem) : Option (Int32 × gMem) :=
  (fX10_group x1 x2 M0).bind fun v1 => gSE v1.1 (fun u2 => (wL v1.2 137 1 (0 : Int32) u2.toInt64).bind fun M4 => some ((0 : Int32), M4)) (fun x3 => if x3 = 2 then (some ((1 : Int32), v1.2)) else if x3 = 1 then (some ((2 : Int32), v1.2)) else none)
set_option maxRecDepth 20000 in
theorem tL_group {X : gX} {V : gEnv} {x1 : Int32} {x2 : Int32} {M0 : gMem} (hs9 : X.2.1.stackTraces = false) (hT9 : (gXc X).exceptionTable.toList = tableOf [(0, 10, 13, 35), (0, 10, 17, 19)])  {o : (Int32 × gMem)} (h : fL_group x1 x2 M0 = some o) (O : gO X V mL_group gShC (some .int) (some (.int o.1)) o.2) : gG X V mL_group gShC M0 0 0 0 [(0, .ref (gAd V 0)), (1, .int x1), (2, .int x2), (3, .ref (gAd V 137))] [] := by
  unfold fL_group at h
  refine g_aload_n 3 rfl rfl dL_group_0 ?_
  refine g_iconst (v := 0) rfl dL_group_1 ?_
  refine g_aload_n 0 rfl rfl dL_group_2 ?_
  refine g_iload_n 1 rfl rfl dL_group_3 ?_
  refine g_iload_n 2 rfl rfl dL_group_4 ?_
  obtain ⟨v1, ev1, h⟩ := g_bnd h
  have hk9 := (kX10_group (V := V) hs9 ev1)
  cases hq9 : v1.1 with
  | inl u2 =>
    rw [hq9] at h hk9
    have h := g_sl h
    refine g_callVX LL_40 sC_0 rfl hk9 rfl rfl (Nat.le_of_ble_eq_true rfl) ⟨Nat.le_of_ble_eq_true rfl, Nat.le_of_ble_eq_true rfl⟩ ⟨Nat.le_of_ble_eq_true rfl, Nat.le_of_ble_eq_true rfl⟩ dL_group_5 rfl ?_
    refine g_i2l dL_group_8 ?_
    obtain ⟨M4, eM4, h⟩ := g_bnd h
    refine g_last' eM4 sC_137 dL_group_9 ?_
    refine g_goto (tgt := 21) rfl dL_group_10 ?_
    refine g_iconst (v := 0) rfl dL_group_21 ?_
    cases h
    exact g_iret O ⟨Nat.le_of_ble_eq_true rfl, Nat.le_of_ble_eq_true rfl⟩ rfl dL_group_22
  | inr x3 =>
    rw [hq9] at h hk9
    have h := g_sr h
    rcases g_ite h with ⟨c5, h⟩ | ⟨c5, h⟩
    · subst c5
      refine g_callVC hT9 LL_40 sC_0 rfl hk9 rfl rfl (Nat.le_of_ble_eq_true rfl) ⟨Nat.le_of_ble_eq_true rfl, Nat.le_of_ble_eq_true rfl⟩ ⟨Nat.le_of_ble_eq_true rfl, Nat.le_of_ble_eq_true rfl⟩ dL_group_5 [] ⟨0, 10, 13, 35⟩ [⟨0, 10, 17, 19⟩] rfl (Or.inl rfl) rfl (by decide) YL_35 (by decide) (fun q9 => ?_)
      refine g_astore (ls' := [(4, .ref q9), (0, .ref (gAd V 0)), (1, .int x1), (2, .int x2), (3, .ref (gAd V 137))]) (Nat.le_of_ble_eq_true rfl) rfl dL_group_13 ?_
      refine g_iconst (v := 1) rfl dL_group_15 ?_
      cases h
      exact g_iret O ⟨Nat.le_of_ble_eq_true rfl, Nat.le_of_ble_eq_true rfl⟩ rfl dL_group_16
    ·
      rcases g_ite h with ⟨c6, h⟩ | ⟨c6, h⟩
      · subst c6
        refine g_callVC hT9 LL_40 sC_0 rfl hk9 rfl rfl (Nat.le_of_ble_eq_true rfl) ⟨Nat.le_of_ble_eq_true rfl, Nat.le_of_ble_eq_true rfl⟩ ⟨Nat.le_of_ble_eq_true rfl, Nat.le_of_ble_eq_true rfl⟩ dL_group_5 [⟨0, 10, 13, 35⟩] ⟨0, 10, 17, 19⟩ [] rfl (Or.inr ⟨⟨0, 10, 13, 35⟩, rfl, by decide, YL_35, rfl⟩) rfl (by decide) YL_19 (by decide) (fun q9 => ?_)
        refine g_astore (ls' := [(4, .ref q9), (0, .ref (gAd V 0)), (1, .int x1), (2, .int x2), (3, .ref (gAd V 137))]) (Nat.le_of_ble_eq_true rfl) rfl dL_group_17 ?_
        refine g_iconst (v := 2) rfl dL_group_19 ?_
        cases h
        exact g_iret O ⟨Nat.le_of_ble_eq_true rfl, Nat.le_of_ble_eq_true rfl⟩ rfl dL_group_20
      ·
        cases h
theorem kL_group {l : Launch} {V : gEnv} {M0 : gMem} {x1 : Int32} {x2 : Int32} (hst : l.stackTraces = false)  {o : (Int32 × gMem)} (h : fL_group x1 x2 M0 = some o) : gMT l yL_group cL_group 5 (some .int) [(0, 10, 13, 35), (0, 10, 17, 19)] rL_group V gShC [.ref (gAd V 0), .int x1, .int x2, .ref (gAd V 137)] M0 (some (.int o.1)) o.2 :=
  gMT.of (by decide) (Nat.le_of_ble_eq_true rfl) rfl (fun X hl9 hT O => tL_group (by rw [hl9]; exact hst) hT  h O)
theorem dL_arrow_0 : decode cL_arrow 0 = .ok (.aload_n 3, 1) := by decide +kernel
theorem dL_arrow_1 : decode cL_arrow 1 = .ok (.iconst 0, 1) := by decide +kernel
theorem dL_arrow_2 : decode cL_arrow 2 = .ok (.aload_n 0, 1) := by decide +kernel
theorem dL_arrow_3 : decode cL_arrow 3 = .ok (.iload_n 1, 1) := by decide +kernel
theorem dL_arrow_4 : decode cL_arrow 4 = .ok (.iload_n 2, 1) := by decide +kernel
theorem dL_arrow_5 : decode cL_arrow 5 = .ok (.invokevirtual 43, 3) := by decide +kernel
theorem dL_arrow_8 : decode cL_arrow 8 = .ok (.i2l, 1) := by decide +kernel
theorem dL_arrow_9 : decode cL_arrow 9 = .ok (.lastore, 1) := by decide +kernel
theorem dL_arrow_10 : decode cL_arrow 10 = .ok (.goto 11, 3) := by decide +kernel
theorem dL_arrow_13 : decode cL_arrow 13 = .ok (.astore 4, 2) := by decide +kernel
theorem dL_arrow_15 : decode cL_arrow 15 = .ok (.iconst 1, 1) := by decide +kernel
theorem dL_arrow_16 : decode cL_arrow 16 = .ok (.ireturn, 1) := by decide +kernel
theorem dL_arrow_17 : decode cL_arrow 17 = .ok (.astore 4, 2) := by decide +kernel
theorem dL_arrow_19 : decode cL_arrow 19 = .ok (.iconst 2, 1) := by decide +kernel
theorem dL_arrow_20 : decode cL_arrow 20 = .ok (.ireturn, 1) := by decide +kernel
theorem dL_arrow_21 : decode cL_arrow 21 = .ok (.iconst 0, 1) := by decide +kernel
theorem dL_arrow_22 : decode cL_arrow 22 = .ok (.ireturn, 1) := by decide +kernel
abbrev rL_arrow : Room := { frames := 8, cells := 2, slots := 12, locals := 133 }
abbrev mL_arrow : gY := (cL_arrow, RL, 5, rL_arrow)
def fL_arrow (x1 : Int32) (x2 : Int32) (M0 : gMem) : Option (Int32 × gMem) :=
  (fX10_arrow x1 x2 M0).bind fun v1 => gSE v1 (fun u2 => (wL M0 137 1 (0 : Int32) u2.toInt64).bind fun M4 => some ((0 : Int32), M4)) (fun x3 => if x3 = 2 then (some ((1 : Int32), M0)) else if x3 = 1 then (some ((2 : Int32), M0)) else none)
set_option maxRecDepth 20000 in
theorem tL_arrow {X : gX} {V : gEnv} {x1 : Int32} {x2 : Int32} {M0 : gMem} (hs9 : X.2.1.stackTraces = false) (hT9 : (gXc X).exceptionTable.toList = tableOf [(0, 10, 13, 35), (0, 10, 17, 19)])  {o : (Int32 × gMem)} (h : fL_arrow x1 x2 M0 = some o) (O : gO X V mL_arrow gShC (some .int) (some (.int o.1)) o.2) : gG X V mL_arrow gShC M0 0 0 0 [(0, .ref (gAd V 0)), (1, .int x1), (2, .int x2), (3, .ref (gAd V 137))] [] := by
  unfold fL_arrow at h
  refine g_aload_n 3 rfl rfl dL_arrow_0 ?_
  refine g_iconst (v := 0) rfl dL_arrow_1 ?_
  refine g_aload_n 0 rfl rfl dL_arrow_2 ?_
  refine g_iload_n 1 rfl rfl dL_arrow_3 ?_
  refine g_iload_n 2 rfl rfl dL_arrow_4 ?_
  obtain ⟨v1, ev1, h⟩ := g_bnd h
  have hk9 := (kX10_arrow (V := V) hs9 ev1)
  cases hq9 : v1 with
  | inl u2 =>
    rw [hq9] at h hk9
    have h := g_sl h
    refine g_callVX LL_43 sC_0 rfl hk9 rfl rfl (Nat.le_of_ble_eq_true rfl) ⟨Nat.le_of_ble_eq_true rfl, Nat.le_of_ble_eq_true rfl⟩ ⟨Nat.le_of_ble_eq_true rfl, Nat.le_of_ble_eq_true rfl⟩ dL_arrow_5 rfl ?_
    refine g_i2l dL_arrow_8 ?_
    obtain ⟨M4, eM4, h⟩ := g_bnd h
    refine g_last' eM4 sC_137 dL_arrow_9 ?_
    refine g_goto (tgt := 21) rfl dL_arrow_10 ?_
    refine g_iconst (v := 0) rfl dL_arrow_21 ?_
    cases h
    exact g_iret O ⟨Nat.le_of_ble_eq_true rfl, Nat.le_of_ble_eq_true rfl⟩ rfl dL_arrow_22
  | inr x3 =>
    rw [hq9] at h hk9
    have h := g_sr h
    rcases g_ite h with ⟨c5, h⟩ | ⟨c5, h⟩
    · subst c5
      refine g_callVC hT9 LL_43 sC_0 rfl hk9 rfl rfl (Nat.le_of_ble_eq_true rfl) ⟨Nat.le_of_ble_eq_true rfl, Nat.le_of_ble_eq_true rfl⟩ ⟨Nat.le_of_ble_eq_true rfl, Nat.le_of_ble_eq_true rfl⟩ dL_arrow_5 [] ⟨0, 10, 13, 35⟩ [⟨0, 10, 17, 19⟩] rfl (Or.inl rfl) rfl (by decide) YL_35 (by decide) (fun q9 => ?_)
      refine g_astore (ls' := [(4, .ref q9), (0, .ref (gAd V 0)), (1, .int x1), (2, .int x2), (3, .ref (gAd V 137))]) (Nat.le_of_ble_eq_true rfl) rfl dL_arrow_13 ?_
      refine g_iconst (v := 1) rfl dL_arrow_15 ?_
      cases h
      exact g_iret O ⟨Nat.le_of_ble_eq_true rfl, Nat.le_of_ble_eq_true rfl⟩ rfl dL_arrow_16
    ·
      rcases g_ite h with ⟨c6, h⟩ | ⟨c6, h⟩
      · subst c6
        refine g_callVC hT9 LL_43 sC_0 rfl hk9 rfl rfl (Nat.le_of_ble_eq_true rfl) ⟨Nat.le_of_ble_eq_true rfl, Nat.le_of_ble_eq_true rfl⟩ ⟨Nat.le_of_ble_eq_true rfl, Nat.le_of_ble_eq_true rfl⟩ dL_arrow_5 [⟨0, 10, 13, 35⟩] ⟨0, 10, 17, 19⟩ [] rfl (Or.inr ⟨⟨0, 10, 13, 35⟩, rfl, by decide, YL_35, rfl⟩) rfl (by decide) YL_19 (by decide) (fun q9 => ?_)
        refine g_astore (ls' := [(4, .ref q9), (0, .ref (gAd V 0)), (1, .int x1), (2, .int x2), (3, .ref (gAd V 137))]) (Nat.le_of_ble_eq_true rfl) rfl dL_arrow_17 ?_
        refine g_iconst (v := 2) rfl dL_arrow_19 ?_
        cases h
        exact g_iret O ⟨Nat.le_of_ble_eq_true rfl, Nat.le_of_ble_eq_true rfl⟩ rfl dL_arrow_20
      ·
        cases h
theorem kL_arrow {l : Launch} {V : gEnv} {M0 : gMem} {x1 : Int32} {x2 : Int32} (hst : l.stackTraces = false)  {o : (Int32 × gMem)} (h : fL_arrow x1 x2 M0 = some o) : gMT l yL_arrow cL_arrow 5 (some .int) [(0, 10, 13, 35), (0, 10, 17, 19)] rL_arrow V gShC [.ref (gAd V 0), .int x1, .int x2, .ref (gAd V 137)] M0 (some (.int o.1)) o.2 :=
  gMT.of (by decide) (Nat.le_of_ble_eq_true rfl) rfl (fun X hl9 hT O => tL_arrow (by rw [hl9]; exact hst) hT  h O)
theorem dL_arrowOf_0 : decode cL_arrowOf 0 = .ok (.aload_n 3, 1) := by decide +kernel
theorem dL_arrowOf_1 : decode cL_arrowOf 1 = .ok (.iconst 0, 1) := by decide +kernel
theorem dL_arrowOf_2 : decode cL_arrowOf 2 = .ok (.aload_n 0, 1) := by decide +kernel
theorem dL_arrowOf_3 : decode cL_arrowOf 3 = .ok (.iload_n 1, 1) := by decide +kernel
theorem dL_arrowOf_4 : decode cL_arrowOf 4 = .ok (.iload_n 2, 1) := by decide +kernel
theorem dL_arrowOf_5 : decode cL_arrowOf 5 = .ok (.invokevirtual 46, 3) := by decide +kernel
theorem dL_arrowOf_8 : decode cL_arrowOf 8 = .ok (.i2l, 1) := by decide +kernel
theorem dL_arrowOf_9 : decode cL_arrowOf 9 = .ok (.lastore, 1) := by decide +kernel
theorem dL_arrowOf_10 : decode cL_arrowOf 10 = .ok (.goto 7, 3) := by decide +kernel
theorem dL_arrowOf_13 : decode cL_arrowOf 13 = .ok (.astore 4, 2) := by decide +kernel
theorem dL_arrowOf_15 : decode cL_arrowOf 15 = .ok (.iconst 1, 1) := by decide +kernel
theorem dL_arrowOf_16 : decode cL_arrowOf 16 = .ok (.ireturn, 1) := by decide +kernel
theorem dL_arrowOf_17 : decode cL_arrowOf 17 = .ok (.iconst 0, 1) := by decide +kernel
theorem dL_arrowOf_18 : decode cL_arrowOf 18 = .ok (.ireturn, 1) := by decide +kernel
abbrev rL_arrowOf : Room := { frames := 8, cells := 2, slots := 12, locals := 133 }
abbrev mL_arrowOf : gY := (cL_arrowOf, RL, 5, rL_arrowOf)
def fL_arrowOf (x1 : Int32) (x2 : Int32) (M0 : gMem) : Option (Int32 × gMem) :=
  (fX10_arrowOf x1 x2 M0).bind fun v1 => gSE v1 (fun u2 => (wL M0 137 1 (0 : Int32) u2.toInt64).bind fun M4 => some ((0 : Int32), M4)) (fun x3 => if x3 = 2 then (some ((1 : Int32), M0)) else none)
set_option maxRecDepth 20000 in
theorem tL_arrowOf {X : gX} {V : gEnv} {x1 : Int32} {x2 : Int32} {M0 : gMem} (hs9 : X.2.1.stackTraces = false) (hT9 : (gXc X).exceptionTable.toList = tableOf [(0, 10, 13, 35)])  {o : (Int32 × gMem)} (h : fL_arrowOf x1 x2 M0 = some o) (O : gO X V mL_arrowOf gShC (some .int) (some (.int o.1)) o.2) : gG X V mL_arrowOf gShC M0 0 0 0 [(0, .ref (gAd V 0)), (1, .int x1), (2, .int x2), (3, .ref (gAd V 137))] [] := by
  unfold fL_arrowOf at h
  refine g_aload_n 3 rfl rfl dL_arrowOf_0 ?_
  refine g_iconst (v := 0) rfl dL_arrowOf_1 ?_
  refine g_aload_n 0 rfl rfl dL_arrowOf_2 ?_
  refine g_iload_n 1 rfl rfl dL_arrowOf_3 ?_
  refine g_iload_n 2 rfl rfl dL_arrowOf_4 ?_
  obtain ⟨v1, ev1, h⟩ := g_bnd h
  have hk9 := (kX10_arrowOf (V := V) hs9 ev1)
  cases hq9 : v1 with
  | inl u2 =>
    rw [hq9] at h hk9
    have h := g_sl h
    refine g_callVX LL_46 sC_0 rfl hk9 rfl rfl (Nat.le_of_ble_eq_true rfl) ⟨Nat.le_of_ble_eq_true rfl, Nat.le_of_ble_eq_true rfl⟩ ⟨Nat.le_of_ble_eq_true rfl, Nat.le_of_ble_eq_true rfl⟩ dL_arrowOf_5 rfl ?_
    refine g_i2l dL_arrowOf_8 ?_
    obtain ⟨M4, eM4, h⟩ := g_bnd h
    refine g_last' eM4 sC_137 dL_arrowOf_9 ?_
    refine g_goto (tgt := 17) rfl dL_arrowOf_10 ?_
    refine g_iconst (v := 0) rfl dL_arrowOf_17 ?_
    cases h
    exact g_iret O ⟨Nat.le_of_ble_eq_true rfl, Nat.le_of_ble_eq_true rfl⟩ rfl dL_arrowOf_18
  | inr x3 =>
    rw [hq9] at h hk9
    have h := g_sr h
    rcases g_ite h with ⟨c5, h⟩ | ⟨c5, h⟩
    · subst c5
      refine g_callVC hT9 LL_46 sC_0 rfl hk9 rfl rfl (Nat.le_of_ble_eq_true rfl) ⟨Nat.le_of_ble_eq_true rfl, Nat.le_of_ble_eq_true rfl⟩ ⟨Nat.le_of_ble_eq_true rfl, Nat.le_of_ble_eq_true rfl⟩ dL_arrowOf_5 [] ⟨0, 10, 13, 35⟩ [] rfl (Or.inl rfl) rfl (by decide) YL_35 (by decide) (fun q9 => ?_)
      refine g_astore (ls' := [(4, .ref q9), (0, .ref (gAd V 0)), (1, .int x1), (2, .int x2), (3, .ref (gAd V 137))]) (Nat.le_of_ble_eq_true rfl) rfl dL_arrowOf_13 ?_
      refine g_iconst (v := 1) rfl dL_arrowOf_15 ?_
      cases h
      exact g_iret O ⟨Nat.le_of_ble_eq_true rfl, Nat.le_of_ble_eq_true rfl⟩ rfl dL_arrowOf_16
    ·
      cases h
theorem kL_arrowOf {l : Launch} {V : gEnv} {M0 : gMem} {x1 : Int32} {x2 : Int32} (hst : l.stackTraces = false)  {o : (Int32 × gMem)} (h : fL_arrowOf x1 x2 M0 = some o) : gMT l yL_arrowOf cL_arrowOf 5 (some .int) [(0, 10, 13, 35)] rL_arrowOf V gShC [.ref (gAd V 0), .int x1, .int x2, .ref (gAd V 137)] M0 (some (.int o.1)) o.2 :=
  gMT.of (by decide) (Nat.le_of_ble_eq_true rfl) rfl (fun X hl9 hT O => tL_arrowOf (by rw [hl9]; exact hst) hT  h O)
theorem dL_reaches_0 : decode cL_reaches 0 = .ok (.aload_n 3, 1) := by decide +kernel
theorem dL_reaches_1 : decode cL_reaches 1 = .ok (.iconst 0, 1) := by decide +kernel
theorem dL_reaches_2 : decode cL_reaches 2 = .ok (.aload_n 0, 1) := by decide +kernel
theorem dL_reaches_3 : decode cL_reaches 3 = .ok (.iload_n 1, 1) := by decide +kernel
theorem dL_reaches_4 : decode cL_reaches 4 = .ok (.iload_n 2, 1) := by decide +kernel
theorem dL_reaches_5 : decode cL_reaches 5 = .ok (.invokevirtual 49, 3) := by decide +kernel
theorem dL_reaches_8 : decode cL_reaches 8 = .ok (.ifCond .eq 7, 3) := by decide +kernel
theorem dL_reaches_11 : decode cL_reaches 11 = .ok (.lconst 1, 1) := by decide +kernel
theorem dL_reaches_12 : decode cL_reaches 12 = .ok (.goto 4, 3) := by decide +kernel
theorem dL_reaches_15 : decode cL_reaches 15 = .ok (.lconst 0, 1) := by decide +kernel
theorem dL_reaches_16 : decode cL_reaches 16 = .ok (.lastore, 1) := by decide +kernel
theorem dL_reaches_17 : decode cL_reaches 17 = .ok (.goto 7, 3) := by decide +kernel
theorem dL_reaches_20 : decode cL_reaches 20 = .ok (.astore 4, 2) := by decide +kernel
theorem dL_reaches_22 : decode cL_reaches 22 = .ok (.iconst 1, 1) := by decide +kernel
theorem dL_reaches_23 : decode cL_reaches 23 = .ok (.ireturn, 1) := by decide +kernel
theorem dL_reaches_24 : decode cL_reaches 24 = .ok (.iconst 0, 1) := by decide +kernel
theorem dL_reaches_25 : decode cL_reaches 25 = .ok (.ireturn, 1) := by decide +kernel
abbrev rL_reaches : Room := { frames := 8, cells := 2, slots := 12, locals := 133 }
abbrev mL_reaches : gY := (cL_reaches, RL, 5, rL_reaches)
def fL_reaches_b16 (s1 : Int32) (s2 : Int64) (M0 : gMem) : Option (Int32 × gMem) :=
  (wL M0 137 1 s1 s2).bind fun M5 => some ((0 : Int32), M5)
set_option maxRecDepth 20000 in
theorem tL_reaches_b16 {X : gX} {V : gEnv} {s1 : Int32} {s2 : Int64} {M0 : gMem} (hs9 : X.2.1.stackTraces = false) (hT9 : (gXc X).exceptionTable.toList = tableOf [(0, 17, 20, 35)])  {o : (Int32 × gMem)} (h : fL_reaches_b16 s1 s2 M0 = some o) (O : gO X V mL_reaches gShC (some .int) (some (.int o.1)) o.2) : gG X V mL_reaches gShC M0 2 12 16 [] [.long s2, .int s1, .ref (gAd V 137)] := by
  unfold fL_reaches_b16 at h
  obtain ⟨M5, eM5, h⟩ := g_bnd h
  refine g_last' eM5 sC_137 dL_reaches_16 ?_
  refine g_goto (tgt := 24) rfl dL_reaches_17 ?_
  refine g_iconst (v := 0) rfl dL_reaches_24 ?_
  cases h
  exact g_iret O ⟨Nat.le_of_ble_eq_true rfl, Nat.le_of_ble_eq_true rfl⟩ rfl dL_reaches_25
def fL_reaches (x1 : Int32) (x2 : Int32) (M0 : gMem) : Option (Int32 × gMem) :=
  (fX10_reaches x1 x2 M0).bind fun v1 => gSE v1 (fun u2 => if u2 = 0 then (fL_reaches_b16 (0 : Int32) (0 : Int64) M0) else fL_reaches_b16 (0 : Int32) (1 : Int64) M0) (fun x3 => if x3 = 2 then (some ((1 : Int32), M0)) else none)
set_option maxRecDepth 20000 in
theorem tL_reaches {X : gX} {V : gEnv} {x1 : Int32} {x2 : Int32} {M0 : gMem} (hs9 : X.2.1.stackTraces = false) (hT9 : (gXc X).exceptionTable.toList = tableOf [(0, 17, 20, 35)])  {o : (Int32 × gMem)} (h : fL_reaches x1 x2 M0 = some o) (O : gO X V mL_reaches gShC (some .int) (some (.int o.1)) o.2) : gG X V mL_reaches gShC M0 0 0 0 [(0, .ref (gAd V 0)), (1, .int x1), (2, .int x2), (3, .ref (gAd V 137))] [] := by
  unfold fL_reaches at h
  refine g_aload_n 3 rfl rfl dL_reaches_0 ?_
  refine g_iconst (v := 0) rfl dL_reaches_1 ?_
  refine g_aload_n 0 rfl rfl dL_reaches_2 ?_
  refine g_iload_n 1 rfl rfl dL_reaches_3 ?_
  refine g_iload_n 2 rfl rfl dL_reaches_4 ?_
  obtain ⟨v1, ev1, h⟩ := g_bnd h
  have hk9 := (kX10_reaches (V := V) hs9 ev1)
  cases hq9 : v1 with
  | inl u2 =>
    rw [hq9] at h hk9
    have h := g_sl h
    refine g_callVX LL_49 sC_0 rfl hk9 rfl rfl (Nat.le_of_ble_eq_true rfl) ⟨Nat.le_of_ble_eq_true rfl, Nat.le_of_ble_eq_true rfl⟩ ⟨Nat.le_of_ble_eq_true rfl, Nat.le_of_ble_eq_true rfl⟩ dL_reaches_5 rfl ?_
    rcases g_ite h with ⟨c4, h⟩ | ⟨c4, h⟩
    · refine g_if_eq_t c4 (tgt := 15) rfl dL_reaches_8 ?_
      refine g_lconst (v := 0) rfl dL_reaches_15 ?_
      refine g_sub [] rfl ?_
      exact tL_reaches_b16 hs9 hT9  h O
    · refine g_if_eq_f c4 (tgt := 15) rfl dL_reaches_8 ?_
      refine g_lconst (v := 1) rfl dL_reaches_11 ?_
      refine g_goto (tgt := 16) rfl dL_reaches_12 ?_
      refine g_sub [] rfl ?_
      exact tL_reaches_b16 hs9 hT9  h O
  | inr x3 =>
    rw [hq9] at h hk9
    have h := g_sr h
    rcases g_ite h with ⟨c6, h⟩ | ⟨c6, h⟩
    · subst c6
      refine g_callVC hT9 LL_49 sC_0 rfl hk9 rfl rfl (Nat.le_of_ble_eq_true rfl) ⟨Nat.le_of_ble_eq_true rfl, Nat.le_of_ble_eq_true rfl⟩ ⟨Nat.le_of_ble_eq_true rfl, Nat.le_of_ble_eq_true rfl⟩ dL_reaches_5 [] ⟨0, 17, 20, 35⟩ [] rfl (Or.inl rfl) rfl (by decide) YL_35 (by decide) (fun q9 => ?_)
      refine g_astore (ls' := [(4, .ref q9), (0, .ref (gAd V 0)), (1, .int x1), (2, .int x2), (3, .ref (gAd V 137))]) (Nat.le_of_ble_eq_true rfl) rfl dL_reaches_20 ?_
      refine g_iconst (v := 1) rfl dL_reaches_22 ?_
      cases h
      exact g_iret O ⟨Nat.le_of_ble_eq_true rfl, Nat.le_of_ble_eq_true rfl⟩ rfl dL_reaches_23
    ·
      cases h
theorem kL_reaches {l : Launch} {V : gEnv} {M0 : gMem} {x1 : Int32} {x2 : Int32} (hst : l.stackTraces = false)  {o : (Int32 × gMem)} (h : fL_reaches x1 x2 M0 = some o) : gMT l yL_reaches cL_reaches 5 (some .int) [(0, 17, 20, 35)] rL_reaches V gShC [.ref (gAd V 0), .int x1, .int x2, .ref (gAd V 137)] M0 (some (.int o.1)) o.2 :=
  gMT.of (by decide) (Nat.le_of_ble_eq_true rfl) rfl (fun X hl9 hT O => tL_reaches (by rw [hl9]; exact hst) hT  h O)
theorem dL_far_0 : decode cL_far 0 = .ok (.aload_n 3, 1) := by decide +kernel
theorem dL_far_1 : decode cL_far 1 = .ok (.iconst 0, 1) := by decide +kernel
theorem dL_far_2 : decode cL_far 2 = .ok (.aload_n 0, 1) := by decide +kernel
theorem dL_far_3 : decode cL_far 3 = .ok (.iload_n 1, 1) := by decide +kernel
theorem dL_far_4 : decode cL_far 4 = .ok (.iload_n 2, 1) := by decide +kernel
theorem dL_far_5 : decode cL_far 5 = .ok (.invokevirtual 53, 3) := by decide +kernel
theorem dL_far_8 : decode cL_far 8 = .ok (.i2l, 1) := by decide +kernel
theorem dL_far_9 : decode cL_far 9 = .ok (.lastore, 1) := by decide +kernel
theorem dL_far_10 : decode cL_far 10 = .ok (.goto 7, 3) := by decide +kernel
theorem dL_far_13 : decode cL_far 13 = .ok (.astore 4, 2) := by decide +kernel
theorem dL_far_15 : decode cL_far 15 = .ok (.iconst 1, 1) := by decide +kernel
theorem dL_far_16 : decode cL_far 16 = .ok (.ireturn, 1) := by decide +kernel
theorem dL_far_17 : decode cL_far 17 = .ok (.iconst 0, 1) := by decide +kernel
theorem dL_far_18 : decode cL_far 18 = .ok (.ireturn, 1) := by decide +kernel
abbrev rL_far : Room := { frames := 8, cells := 2, slots := 12, locals := 133 }
abbrev mL_far : gY := (cL_far, RL, 5, rL_far)
def fL_far (x1 : Int32) (x2 : Int32) (M0 : gMem) : Option (Int32 × gMem) :=
  (fX10_far x1 x2 M0).bind fun v1 => gSE v1.1 (fun u2 => (wL v1.2 137 1 (0 : Int32) u2.toInt64).bind fun M4 => some ((0 : Int32), M4)) (fun x3 => if x3 = 2 then (some ((1 : Int32), v1.2)) else none)
set_option maxRecDepth 20000 in
theorem tL_far {X : gX} {V : gEnv} {x1 : Int32} {x2 : Int32} {M0 : gMem} (hs9 : X.2.1.stackTraces = false) (hT9 : (gXc X).exceptionTable.toList = tableOf [(0, 10, 13, 35)])  {o : (Int32 × gMem)} (h : fL_far x1 x2 M0 = some o) (O : gO X V mL_far gShC (some .int) (some (.int o.1)) o.2) : gG X V mL_far gShC M0 0 0 0 [(0, .ref (gAd V 0)), (1, .int x1), (2, .int x2), (3, .ref (gAd V 137))] [] := by
  unfold fL_far at h
  refine g_aload_n 3 rfl rfl dL_far_0 ?_
  refine g_iconst (v := 0) rfl dL_far_1 ?_
  refine g_aload_n 0 rfl rfl dL_far_2 ?_
  refine g_iload_n 1 rfl rfl dL_far_3 ?_
  refine g_iload_n 2 rfl rfl dL_far_4 ?_
  obtain ⟨v1, ev1, h⟩ := g_bnd h
  have hk9 := (kX10_far (V := V) hs9 ev1)
  cases hq9 : v1.1 with
  | inl u2 =>
    rw [hq9] at h hk9
    have h := g_sl h
    refine g_callVX LL_53 sC_0 rfl hk9 rfl rfl (Nat.le_of_ble_eq_true rfl) ⟨Nat.le_of_ble_eq_true rfl, Nat.le_of_ble_eq_true rfl⟩ ⟨Nat.le_of_ble_eq_true rfl, Nat.le_of_ble_eq_true rfl⟩ dL_far_5 rfl ?_
    refine g_i2l dL_far_8 ?_
    obtain ⟨M4, eM4, h⟩ := g_bnd h
    refine g_last' eM4 sC_137 dL_far_9 ?_
    refine g_goto (tgt := 17) rfl dL_far_10 ?_
    refine g_iconst (v := 0) rfl dL_far_17 ?_
    cases h
    exact g_iret O ⟨Nat.le_of_ble_eq_true rfl, Nat.le_of_ble_eq_true rfl⟩ rfl dL_far_18
  | inr x3 =>
    rw [hq9] at h hk9
    have h := g_sr h
    rcases g_ite h with ⟨c5, h⟩ | ⟨c5, h⟩
    · subst c5
      refine g_callVC hT9 LL_53 sC_0 rfl hk9 rfl rfl (Nat.le_of_ble_eq_true rfl) ⟨Nat.le_of_ble_eq_true rfl, Nat.le_of_ble_eq_true rfl⟩ ⟨Nat.le_of_ble_eq_true rfl, Nat.le_of_ble_eq_true rfl⟩ dL_far_5 [] ⟨0, 10, 13, 35⟩ [] rfl (Or.inl rfl) rfl (by decide) YL_35 (by decide) (fun q9 => ?_)
      refine g_astore (ls' := [(4, .ref q9), (0, .ref (gAd V 0)), (1, .int x1), (2, .int x2), (3, .ref (gAd V 137))]) (Nat.le_of_ble_eq_true rfl) rfl dL_far_13 ?_
      refine g_iconst (v := 1) rfl dL_far_15 ?_
      cases h
      exact g_iret O ⟨Nat.le_of_ble_eq_true rfl, Nat.le_of_ble_eq_true rfl⟩ rfl dL_far_16
    ·
      cases h
theorem kL_far {l : Launch} {V : gEnv} {M0 : gMem} {x1 : Int32} {x2 : Int32} (hst : l.stackTraces = false)  {o : (Int32 × gMem)} (h : fL_far x1 x2 M0 = some o) : gMT l yL_far cL_far 5 (some .int) [(0, 10, 13, 35)] rL_far V gShC [.ref (gAd V 0), .int x1, .int x2, .ref (gAd V 137)] M0 (some (.int o.1)) o.2 :=
  gMT.of (by decide) (Nat.le_of_ble_eq_true rfl) rfl (fun X hl9 hT O => tL_far (by rw [hl9]; exact hst) hT  h O)
theorem dL_on_0 : decode cL_on 0 = .ok (.aload 4, 2) := by decide +kernel
theorem dL_on_2 : decode cL_on 2 = .ok (.iconst 0, 1) := by decide +kernel
theorem dL_on_3 : decode cL_on 3 = .ok (.aload_n 0, 1) := by decide +kernel
theorem dL_on_4 : decode cL_on 4 = .ok (.iload_n 1, 1) := by decide +kernel
theorem dL_on_5 : decode cL_on 5 = .ok (.iload_n 2, 1) := by decide +kernel
theorem dL_on_6 : decode cL_on 6 = .ok (.iload_n 3, 1) := by decide +kernel
theorem dL_on_7 : decode cL_on 7 = .ok (.invokevirtual 56, 3) := by decide +kernel
theorem dL_on_10 : decode cL_on 10 = .ok (.i2l, 1) := by decide +kernel
theorem dL_on_11 : decode cL_on 11 = .ok (.lastore, 1) := by decide +kernel
theorem dL_on_12 : decode cL_on 12 = .ok (.goto 7, 3) := by decide +kernel
theorem dL_on_15 : decode cL_on 15 = .ok (.astore 5, 2) := by decide +kernel
theorem dL_on_17 : decode cL_on 17 = .ok (.iconst 1, 1) := by decide +kernel
theorem dL_on_18 : decode cL_on 18 = .ok (.ireturn, 1) := by decide +kernel
theorem dL_on_19 : decode cL_on 19 = .ok (.iconst 0, 1) := by decide +kernel
theorem dL_on_20 : decode cL_on 20 = .ok (.ireturn, 1) := by decide +kernel
abbrev rL_on : Room := { frames := 8, cells := 2, slots := 12, locals := 136 }
abbrev mL_on : gY := (cL_on, RL, 6, rL_on)
def fL_on (x1 : Int32) (x2 : Int32) (x3 : Int32) (M0 : gMem) : Option (Int32 × gMem) :=
  (fX10_on x1 x2 x3 M0).bind fun v1 => gSE v1.1 (fun u2 => (wL v1.2 137 1 (0 : Int32) u2.toInt64).bind fun M4 => some ((0 : Int32), M4)) (fun x3 => if x3 = 2 then (some ((1 : Int32), v1.2)) else none)
set_option maxRecDepth 20000 in
theorem tL_on {X : gX} {V : gEnv} {x1 : Int32} {x2 : Int32} {x3 : Int32} {M0 : gMem} (hs9 : X.2.1.stackTraces = false) (hT9 : (gXc X).exceptionTable.toList = tableOf [(0, 12, 15, 35)])  {o : (Int32 × gMem)} (h : fL_on x1 x2 x3 M0 = some o) (O : gO X V mL_on gShC (some .int) (some (.int o.1)) o.2) : gG X V mL_on gShC M0 0 0 0 [(0, .ref (gAd V 0)), (1, .int x1), (2, .int x2), (3, .int x3), (4, .ref (gAd V 137))] [] := by
  unfold fL_on at h
  refine g_aload 4 rfl dL_on_0 ?_
  refine g_iconst (v := 0) rfl dL_on_2 ?_
  refine g_aload_n 0 rfl rfl dL_on_3 ?_
  refine g_iload_n 1 rfl rfl dL_on_4 ?_
  refine g_iload_n 2 rfl rfl dL_on_5 ?_
  refine g_iload_n 3 rfl rfl dL_on_6 ?_
  obtain ⟨v1, ev1, h⟩ := g_bnd h
  have hk9 := (kX10_on (V := V) hs9 ev1)
  cases hq9 : v1.1 with
  | inl u2 =>
    rw [hq9] at h hk9
    have h := g_sl h
    refine g_callVX LL_56 sC_0 rfl hk9 rfl rfl (Nat.le_of_ble_eq_true rfl) ⟨Nat.le_of_ble_eq_true rfl, Nat.le_of_ble_eq_true rfl⟩ ⟨Nat.le_of_ble_eq_true rfl, Nat.le_of_ble_eq_true rfl⟩ dL_on_7 rfl ?_
    refine g_i2l dL_on_10 ?_
    obtain ⟨M4, eM4, h⟩ := g_bnd h
    refine g_last' eM4 sC_137 dL_on_11 ?_
    refine g_goto (tgt := 19) rfl dL_on_12 ?_
    refine g_iconst (v := 0) rfl dL_on_19 ?_
    cases h
    exact g_iret O ⟨Nat.le_of_ble_eq_true rfl, Nat.le_of_ble_eq_true rfl⟩ rfl dL_on_20
  | inr x3 =>
    rw [hq9] at h hk9
    have h := g_sr h
    rcases g_ite h with ⟨c5, h⟩ | ⟨c5, h⟩
    · subst c5
      refine g_callVC hT9 LL_56 sC_0 rfl hk9 rfl rfl (Nat.le_of_ble_eq_true rfl) ⟨Nat.le_of_ble_eq_true rfl, Nat.le_of_ble_eq_true rfl⟩ ⟨Nat.le_of_ble_eq_true rfl, Nat.le_of_ble_eq_true rfl⟩ dL_on_7 [] ⟨0, 12, 15, 35⟩ [] rfl (Or.inl rfl) rfl (by decide) YL_35 (by decide) (fun q9 => ?_)
      refine g_astore (ls' := [(5, .ref q9), (0, .ref (gAd V 0)), (1, .int x1), (2, .int x2), (3, .int x3), (4, .ref (gAd V 137))]) (Nat.le_of_ble_eq_true rfl) rfl dL_on_15 ?_
      refine g_iconst (v := 1) rfl dL_on_17 ?_
      cases h
      exact g_iret O ⟨Nat.le_of_ble_eq_true rfl, Nat.le_of_ble_eq_true rfl⟩ rfl dL_on_18
    ·
      cases h
theorem kL_on {l : Launch} {V : gEnv} {M0 : gMem} {x1 : Int32} {x2 : Int32} {x3 : Int32} (hst : l.stackTraces = false)  {o : (Int32 × gMem)} (h : fL_on x1 x2 x3 M0 = some o) : gMT l yL_on cL_on 6 (some .int) [(0, 12, 15, 35)] rL_on V gShC [.ref (gAd V 0), .int x1, .int x2, .int x3, .ref (gAd V 137)] M0 (some (.int o.1)) o.2 :=
  gMT.of (by decide) (Nat.le_of_ble_eq_true rfl) rfl (fun X hl9 hT O => tL_on (by rw [hl9]; exact hst) hT  h O)
theorem dL_trial_0 : decode cL_trial 0 = .ok (.aload 4, 2) := by decide +kernel
theorem dL_trial_2 : decode cL_trial 2 = .ok (.iconst 0, 1) := by decide +kernel
theorem dL_trial_3 : decode cL_trial 3 = .ok (.aload_n 0, 1) := by decide +kernel
theorem dL_trial_4 : decode cL_trial 4 = .ok (.iload_n 1, 1) := by decide +kernel
theorem dL_trial_5 : decode cL_trial 5 = .ok (.iload_n 2, 1) := by decide +kernel
theorem dL_trial_6 : decode cL_trial 6 = .ok (.iload_n 3, 1) := by decide +kernel
theorem dL_trial_7 : decode cL_trial 7 = .ok (.invokevirtual 60, 3) := by decide +kernel
theorem dL_trial_10 : decode cL_trial 10 = .ok (.i2l, 1) := by decide +kernel
theorem dL_trial_11 : decode cL_trial 11 = .ok (.lastore, 1) := by decide +kernel
theorem dL_trial_12 : decode cL_trial 12 = .ok (.goto 11, 3) := by decide +kernel
theorem dL_trial_15 : decode cL_trial 15 = .ok (.astore 5, 2) := by decide +kernel
theorem dL_trial_17 : decode cL_trial 17 = .ok (.iconst 1, 1) := by decide +kernel
theorem dL_trial_18 : decode cL_trial 18 = .ok (.ireturn, 1) := by decide +kernel
theorem dL_trial_19 : decode cL_trial 19 = .ok (.astore 5, 2) := by decide +kernel
theorem dL_trial_21 : decode cL_trial 21 = .ok (.iconst 2, 1) := by decide +kernel
theorem dL_trial_22 : decode cL_trial 22 = .ok (.ireturn, 1) := by decide +kernel
theorem dL_trial_23 : decode cL_trial 23 = .ok (.iconst 0, 1) := by decide +kernel
theorem dL_trial_24 : decode cL_trial 24 = .ok (.ireturn, 1) := by decide +kernel
abbrev rL_trial : Room := { frames := 8, cells := 3, slots := 18, locals := 135 }
abbrev mL_trial : gY := (cL_trial, RL, 6, rL_trial)
def fL_trial (x1 : Int32) (x2 : Int32) (x3 : Int32) (M0 : gMem) : Option (Int32 × gMem) :=
  (fX10_trial x1 x2 x3 M0).bind fun v1 => gSE v1.1 (fun u2 => (wL v1.2 137 1 (0 : Int32) u2.toInt64).bind fun M4 => some ((0 : Int32), M4)) (fun x3 => if x3 = 2 then (some ((1 : Int32), v1.2)) else if x3 = 1 then (some ((2 : Int32), v1.2)) else none)
set_option maxRecDepth 20000 in
theorem tL_trial {X : gX} {V : gEnv} {x1 : Int32} {x2 : Int32} {x3 : Int32} {M0 : gMem} (hs9 : X.2.1.stackTraces = false) (hT9 : (gXc X).exceptionTable.toList = tableOf [(0, 12, 15, 35), (0, 12, 19, 19)])  {o : (Int32 × gMem)} (h : fL_trial x1 x2 x3 M0 = some o) (O : gO X V mL_trial gShC (some .int) (some (.int o.1)) o.2) : gG X V mL_trial gShC M0 0 0 0 [(0, .ref (gAd V 0)), (1, .int x1), (2, .int x2), (3, .int x3), (4, .ref (gAd V 137))] [] := by
  unfold fL_trial at h
  refine g_aload 4 rfl dL_trial_0 ?_
  refine g_iconst (v := 0) rfl dL_trial_2 ?_
  refine g_aload_n 0 rfl rfl dL_trial_3 ?_
  refine g_iload_n 1 rfl rfl dL_trial_4 ?_
  refine g_iload_n 2 rfl rfl dL_trial_5 ?_
  refine g_iload_n 3 rfl rfl dL_trial_6 ?_
  obtain ⟨v1, ev1, h⟩ := g_bnd h
  have hk9 := (kX10_trial (V := V) hs9 ev1)
  cases hq9 : v1.1 with
  | inl u2 =>
    rw [hq9] at h hk9
    have h := g_sl h
    refine g_callVX LL_60 sC_0 rfl hk9 rfl rfl (Nat.le_of_ble_eq_true rfl) ⟨Nat.le_of_ble_eq_true rfl, Nat.le_of_ble_eq_true rfl⟩ ⟨Nat.le_of_ble_eq_true rfl, Nat.le_of_ble_eq_true rfl⟩ dL_trial_7 rfl ?_
    refine g_i2l dL_trial_10 ?_
    obtain ⟨M4, eM4, h⟩ := g_bnd h
    refine g_last' eM4 sC_137 dL_trial_11 ?_
    refine g_goto (tgt := 23) rfl dL_trial_12 ?_
    refine g_iconst (v := 0) rfl dL_trial_23 ?_
    cases h
    exact g_iret O ⟨Nat.le_of_ble_eq_true rfl, Nat.le_of_ble_eq_true rfl⟩ rfl dL_trial_24
  | inr x3 =>
    rw [hq9] at h hk9
    have h := g_sr h
    rcases g_ite h with ⟨c5, h⟩ | ⟨c5, h⟩
    · subst c5
      refine g_callVC hT9 LL_60 sC_0 rfl hk9 rfl rfl (Nat.le_of_ble_eq_true rfl) ⟨Nat.le_of_ble_eq_true rfl, Nat.le_of_ble_eq_true rfl⟩ ⟨Nat.le_of_ble_eq_true rfl, Nat.le_of_ble_eq_true rfl⟩ dL_trial_7 [] ⟨0, 12, 15, 35⟩ [⟨0, 12, 19, 19⟩] rfl (Or.inl rfl) rfl (by decide) YL_35 (by decide) (fun q9 => ?_)
      refine g_astore (ls' := [(5, .ref q9), (0, .ref (gAd V 0)), (1, .int x1), (2, .int x2), (3, .int x3), (4, .ref (gAd V 137))]) (Nat.le_of_ble_eq_true rfl) rfl dL_trial_15 ?_
      refine g_iconst (v := 1) rfl dL_trial_17 ?_
      cases h
      exact g_iret O ⟨Nat.le_of_ble_eq_true rfl, Nat.le_of_ble_eq_true rfl⟩ rfl dL_trial_18
    ·
      rcases g_ite h with ⟨c6, h⟩ | ⟨c6, h⟩
      · subst c6
        refine g_callVC hT9 LL_60 sC_0 rfl hk9 rfl rfl (Nat.le_of_ble_eq_true rfl) ⟨Nat.le_of_ble_eq_true rfl, Nat.le_of_ble_eq_true rfl⟩ ⟨Nat.le_of_ble_eq_true rfl, Nat.le_of_ble_eq_true rfl⟩ dL_trial_7 [⟨0, 12, 15, 35⟩] ⟨0, 12, 19, 19⟩ [] rfl (Or.inr ⟨⟨0, 12, 15, 35⟩, rfl, by decide, YL_35, rfl⟩) rfl (by decide) YL_19 (by decide) (fun q9 => ?_)
        refine g_astore (ls' := [(5, .ref q9), (0, .ref (gAd V 0)), (1, .int x1), (2, .int x2), (3, .int x3), (4, .ref (gAd V 137))]) (Nat.le_of_ble_eq_true rfl) rfl dL_trial_19 ?_
        refine g_iconst (v := 2) rfl dL_trial_21 ?_
        cases h
        exact g_iret O ⟨Nat.le_of_ble_eq_true rfl, Nat.le_of_ble_eq_true rfl⟩ rfl dL_trial_22
      ·
        cases h
theorem kL_trial {l : Launch} {V : gEnv} {M0 : gMem} {x1 : Int32} {x2 : Int32} {x3 : Int32} (hst : l.stackTraces = false)  {o : (Int32 × gMem)} (h : fL_trial x1 x2 x3 M0 = some o) : gMT l yL_trial cL_trial 6 (some .int) [(0, 12, 15, 35), (0, 12, 19, 19)] rL_trial V gShC [.ref (gAd V 0), .int x1, .int x2, .int x3, .ref (gAd V 137)] M0 (some (.int o.1)) o.2 :=
  gMT.of (by decide) (Nat.le_of_ble_eq_true rfl) rfl (fun X hl9 hT O => tL_trial (by rw [hl9]; exact hst) hT  h O)
theorem dL_why_0 : decode cL_why 0 = .ok (.aload 4, 2) := by decide +kernel
theorem dL_why_2 : decode cL_why 2 = .ok (.iconst 0, 1) := by decide +kernel
theorem dL_why_3 : decode cL_why 3 = .ok (.aload_n 0, 1) := by decide +kernel
theorem dL_why_4 : decode cL_why 4 = .ok (.iload_n 1, 1) := by decide +kernel
theorem dL_why_5 : decode cL_why 5 = .ok (.iload_n 2, 1) := by decide +kernel
theorem dL_why_6 : decode cL_why 6 = .ok (.iload_n 3, 1) := by decide +kernel
theorem dL_why_7 : decode cL_why 7 = .ok (.invokevirtual 63, 3) := by decide +kernel
theorem dL_why_10 : decode cL_why 10 = .ok (.i2l, 1) := by decide +kernel
theorem dL_why_11 : decode cL_why 11 = .ok (.lastore, 1) := by decide +kernel
theorem dL_why_12 : decode cL_why 12 = .ok (.goto 11, 3) := by decide +kernel
theorem dL_why_15 : decode cL_why 15 = .ok (.astore 5, 2) := by decide +kernel
theorem dL_why_17 : decode cL_why 17 = .ok (.iconst 1, 1) := by decide +kernel
theorem dL_why_18 : decode cL_why 18 = .ok (.ireturn, 1) := by decide +kernel
theorem dL_why_19 : decode cL_why 19 = .ok (.astore 5, 2) := by decide +kernel
theorem dL_why_21 : decode cL_why 21 = .ok (.iconst 2, 1) := by decide +kernel
theorem dL_why_22 : decode cL_why 22 = .ok (.ireturn, 1) := by decide +kernel
theorem dL_why_23 : decode cL_why 23 = .ok (.iconst 0, 1) := by decide +kernel
theorem dL_why_24 : decode cL_why 24 = .ok (.ireturn, 1) := by decide +kernel
abbrev rL_why : Room := { frames := 8, cells := 3, slots := 18, locals := 135 }
abbrev mL_why : gY := (cL_why, RL, 6, rL_why)
def fL_why (x1 : Int32) (x2 : Int32) (x3 : Int32) (M0 : gMem) : Option (Int32 × gMem) :=
  (fX10_why x1 x2 x3 M0).bind fun v1 => gSE v1.1 (fun u2 => (wL v1.2 137 1 (0 : Int32) u2.toInt64).bind fun M4 => some ((0 : Int32), M4)) (fun x3 => if x3 = 2 then (some ((1 : Int32), v1.2)) else if x3 = 1 then (some ((2 : Int32), v1.2)) else none)
set_option maxRecDepth 20000 in
theorem tL_why {X : gX} {V : gEnv} {x1 : Int32} {x2 : Int32} {x3 : Int32} {M0 : gMem} (hs9 : X.2.1.stackTraces = false) (hT9 : (gXc X).exceptionTable.toList = tableOf [(0, 12, 15, 35), (0, 12, 19, 19)])  {o : (Int32 × gMem)} (h : fL_why x1 x2 x3 M0 = some o) (O : gO X V mL_why gShC (some .int) (some (.int o.1)) o.2) : gG X V mL_why gShC M0 0 0 0 [(0, .ref (gAd V 0)), (1, .int x1), (2, .int x2), (3, .int x3), (4, .ref (gAd V 137))] [] := by
  unfold fL_why at h
  refine g_aload 4 rfl dL_why_0 ?_
  refine g_iconst (v := 0) rfl dL_why_2 ?_
  refine g_aload_n 0 rfl rfl dL_why_3 ?_
  refine g_iload_n 1 rfl rfl dL_why_4 ?_
  refine g_iload_n 2 rfl rfl dL_why_5 ?_
  refine g_iload_n 3 rfl rfl dL_why_6 ?_
  obtain ⟨v1, ev1, h⟩ := g_bnd h
  have hk9 := (kX10_why (V := V) hs9 ev1)
  cases hq9 : v1.1 with
  | inl u2 =>
    rw [hq9] at h hk9
    have h := g_sl h
    refine g_callVX LL_63 sC_0 rfl hk9 rfl rfl (Nat.le_of_ble_eq_true rfl) ⟨Nat.le_of_ble_eq_true rfl, Nat.le_of_ble_eq_true rfl⟩ ⟨Nat.le_of_ble_eq_true rfl, Nat.le_of_ble_eq_true rfl⟩ dL_why_7 rfl ?_
    refine g_i2l dL_why_10 ?_
    obtain ⟨M4, eM4, h⟩ := g_bnd h
    refine g_last' eM4 sC_137 dL_why_11 ?_
    refine g_goto (tgt := 23) rfl dL_why_12 ?_
    refine g_iconst (v := 0) rfl dL_why_23 ?_
    cases h
    exact g_iret O ⟨Nat.le_of_ble_eq_true rfl, Nat.le_of_ble_eq_true rfl⟩ rfl dL_why_24
  | inr x3 =>
    rw [hq9] at h hk9
    have h := g_sr h
    rcases g_ite h with ⟨c5, h⟩ | ⟨c5, h⟩
    · subst c5
      refine g_callVC hT9 LL_63 sC_0 rfl hk9 rfl rfl (Nat.le_of_ble_eq_true rfl) ⟨Nat.le_of_ble_eq_true rfl, Nat.le_of_ble_eq_true rfl⟩ ⟨Nat.le_of_ble_eq_true rfl, Nat.le_of_ble_eq_true rfl⟩ dL_why_7 [] ⟨0, 12, 15, 35⟩ [⟨0, 12, 19, 19⟩] rfl (Or.inl rfl) rfl (by decide) YL_35 (by decide) (fun q9 => ?_)
      refine g_astore (ls' := [(5, .ref q9), (0, .ref (gAd V 0)), (1, .int x1), (2, .int x2), (3, .int x3), (4, .ref (gAd V 137))]) (Nat.le_of_ble_eq_true rfl) rfl dL_why_15 ?_
      refine g_iconst (v := 1) rfl dL_why_17 ?_
      cases h
      exact g_iret O ⟨Nat.le_of_ble_eq_true rfl, Nat.le_of_ble_eq_true rfl⟩ rfl dL_why_18
    ·
      rcases g_ite h with ⟨c6, h⟩ | ⟨c6, h⟩
      · subst c6
        refine g_callVC hT9 LL_63 sC_0 rfl hk9 rfl rfl (Nat.le_of_ble_eq_true rfl) ⟨Nat.le_of_ble_eq_true rfl, Nat.le_of_ble_eq_true rfl⟩ ⟨Nat.le_of_ble_eq_true rfl, Nat.le_of_ble_eq_true rfl⟩ dL_why_7 [⟨0, 12, 15, 35⟩] ⟨0, 12, 19, 19⟩ [] rfl (Or.inr ⟨⟨0, 12, 15, 35⟩, rfl, by decide, YL_35, rfl⟩) rfl (by decide) YL_19 (by decide) (fun q9 => ?_)
        refine g_astore (ls' := [(5, .ref q9), (0, .ref (gAd V 0)), (1, .int x1), (2, .int x2), (3, .int x3), (4, .ref (gAd V 137))]) (Nat.le_of_ble_eq_true rfl) rfl dL_why_19 ?_
        refine g_iconst (v := 2) rfl dL_why_21 ?_
        cases h
        exact g_iret O ⟨Nat.le_of_ble_eq_true rfl, Nat.le_of_ble_eq_true rfl⟩ rfl dL_why_22
      ·
        cases h
theorem kL_why {l : Launch} {V : gEnv} {M0 : gMem} {x1 : Int32} {x2 : Int32} {x3 : Int32} (hst : l.stackTraces = false)  {o : (Int32 × gMem)} (h : fL_why x1 x2 x3 M0 = some o) : gMT l yL_why cL_why 6 (some .int) [(0, 12, 15, 35), (0, 12, 19, 19)] rL_why V gShC [.ref (gAd V 0), .int x1, .int x2, .int x3, .ref (gAd V 137)] M0 (some (.int o.1)) o.2 :=
  gMT.of (by decide) (Nat.le_of_ble_eq_true rfl) rfl (fun X hl9 hT O => tL_why (by rw [hl9]; exact hst) hT  h O)
