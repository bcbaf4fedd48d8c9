/-! METHODS, by program: pure functions and contracts -/
theorem dL_bestMode_0 : decode cL_bestMode 0 = .ok (.aload_n 3, 1) := by decide +kernel
theorem dL_bestMode_1 : decode cL_bestMode 1 = .ok (.iconst 0, 1) := by decide +kernel
theorem dL_bestMode_2 : decode cL_bestMode 2 = .ok (.aload_n 0, 1) := by decide +kernel
theorem dL_bestMode_3 : decode cL_bestMode 3 = .ok (.iload_n 1, 1) := by decide +kernel
theorem dL_bestMode_4 : decode cL_bestMode 4 = .ok (.iload_n 2, 1) := by decide +kernel
theorem dL_bestMode_5 : decode cL_bestMode 5 = .ok (.invokevirtual 66, 3) := by decide +kernel
theorem dL_bestMode_8 : decode cL_bestMode 8 = .ok (.i2l, 1) := by decide +kernel
theorem dL_bestMode_9 : decode cL_bestMode 9 = .ok (.lastore, 1) := by decide +kernel
theorem dL_bestMode_10 : decode cL_bestMode 10 = .ok (.goto 7, 3) := by decide +kernel
theorem dL_bestMode_13 : decode cL_bestMode 13 = .ok (.astore 4, 2) := by decide +kernel
theorem dL_bestMode_15 : decode cL_bestMode 15 = .ok (.iconst 1, 1) := by decide +kernel
theorem dL_bestMode_16 : decode cL_bestMode 16 = .ok (.ireturn, 1) := by decide +kernel
theorem dL_bestMode_17 : decode cL_bestMode 17 = .ok (.iconst 0, 1) := by decide +kernel
theorem dL_bestMode_18 : decode cL_bestMode 18 = .ok (.ireturn, 1) := by decide +kernel
abbrev rL_bestMode : Room := { frames := 8, cells := 2, slots := 12, locals := 137 }
abbrev mL_bestMode : gY := (cL_bestMode, RL, 5, rL_bestMode)
def fL_bestMode (x1 : Int32) (x2 : Int32) (M0 : gMem) : Option (Int32 × gMem) :=
  (fX10_bestMode x1 x2 M0).bind fun v1 => gSE v1.1 (fun u2 => (wL v1.2 137 1 (0 : Int32) u2.toInt64).bind fun M4 => some ((0 : Int32), M4)) (fun x3 => if x3 = 2 then (some ((1 : Int32), v1.2)) else none)
set_option maxRecDepth 20000 in
theorem tL_bestMode {X : gX} {V : gEnv} {x1 : Int32} {x2 : Int32} {M0 : gMem} (hs9 : X.2.1.stackTraces = false) (hT9 : (gXc X).exceptionTable.toList = tableOf [(0, 10, 13, 35)])  {o : (Int32 × gMem)} (h : fL_bestMode x1 x2 M0 = some o) (O : gO X V mL_bestMode gShC (some .int) (some (.int o.1)) o.2) : gG X V mL_bestMode gShC M0 0 0 0 [(0, .ref (gAd V 0)), (1, .int x1), (2, .int x2), (3, .ref (gAd V 137))] [] := by
  unfold fL_bestMode at h
  refine g_aload_n 3 rfl rfl dL_bestMode_0 ?_
  refine g_iconst (v := 0) rfl dL_bestMode_1 ?_
  refine g_aload_n 0 rfl rfl dL_bestMode_2 ?_
  refine g_iload_n 1 rfl rfl dL_bestMode_3 ?_
  refine g_iload_n 2 rfl rfl dL_bestMode_4 ?_
  obtain ⟨v1, ev1, h⟩ := g_bnd h
  have hk9 := (kX10_bestMode (V := V) hs9 ev1)
  cases hq9 : v1.1 with
  | inl u2 =>
    rw [hq9] at h hk9
    have h := g_sl h
    refine g_callVX LL_66 sC_0 rfl hk9 rfl rfl (Nat.le_of_ble_eq_true rfl) ⟨Nat.le_of_ble_eq_true rfl, Nat.le_of_ble_eq_true rfl⟩ ⟨Nat.le_of_ble_eq_true rfl, Nat.le_of_ble_eq_true rfl⟩ dL_bestMode_5 rfl ?_
    refine g_i2l dL_bestMode_8 ?_
    obtain ⟨M4, eM4, h⟩ := g_bnd h
    refine g_last' eM4 sC_137 dL_bestMode_9 ?_
    refine g_goto (tgt := 17) rfl dL_bestMode_10 ?_
    refine g_iconst (v := 0) rfl dL_bestMode_17 ?_
    cases h
    exact g_iret O ⟨Nat.le_of_ble_eq_true rfl, Nat.le_of_ble_eq_true rfl⟩ rfl dL_bestMode_18
  | inr x3 =>
    rw [hq9] at h hk9
    have h := g_sr h
    rcases g_ite h with ⟨c5, h⟩ | ⟨c5, h⟩
    · subst c5
      refine g_callVC hT9 LL_66 sC_0 rfl hk9 rfl rfl (Nat.le_of_ble_eq_true rfl) ⟨Nat.le_of_ble_eq_true rfl, Nat.le_of_ble_eq_true rfl⟩ ⟨Nat.le_of_ble_eq_true rfl, Nat.le_of_ble_eq_true rfl⟩ dL_bestMode_5 [] ⟨0, 10, 13, 35⟩ [] rfl (Or.inl rfl) rfl (by decide) YL_35 (by decide) (fun q9 => ?_)
      refine g_astore (ls' := [(4, .ref q9), (0, .ref (gAd V 0)), (1, .int x1), (2, .int x2), (3, .ref (gAd V 137))]) (Nat.le_of_ble_eq_true rfl) rfl dL_bestMode_13 ?_
      refine g_iconst (v := 1) rfl dL_bestMode_15 ?_
      cases h
      exact g_iret O ⟨Nat.le_of_ble_eq_true rfl, Nat.le_of_ble_eq_true rfl⟩ rfl dL_bestMode_16
    ·
      cases h
theorem kL_bestMode {l : Launch} {V : gEnv} {M0 : gMem} {x1 : Int32} {x2 : Int32} (hst : l.stackTraces = false)  {o : (Int32 × gMem)} (h : fL_bestMode x1 x2 M0 = some o) : gMT l yL_bestMode cL_bestMode 5 (some .int) [(0, 10, 13, 35)] rL_bestMode V gShC [.ref (gAd V 0), .int x1, .int x2, .ref (gAd V 137)] M0 (some (.int o.1)) o.2 :=
  gMT.of (by decide) (Nat.le_of_ble_eq_true rfl) rfl (fun X hl9 hT O => tL_bestMode (by rw [hl9]; exact hst) hT  h O)
theorem dL_leastPlace_0 : decode cL_leastPlace 0 = .ok (.aload_n 2, 1) := by decide +kernel
theorem dL_leastPlace_1 : decode cL_leastPlace 1 = .ok (.iconst 0, 1) := by decide +kernel
theorem dL_leastPlace_2 : decode cL_leastPlace 2 = .ok (.aload_n 0, 1) := by decide +kernel
theorem dL_leastPlace_3 : decode cL_leastPlace 3 = .ok (.iload_n 1, 1) := by decide +kernel
theorem dL_leastPlace_4 : decode cL_leastPlace 4 = .ok (.invokevirtual 69, 3) := by decide +kernel
theorem dL_leastPlace_7 : decode cL_leastPlace 7 = .ok (.i2l, 1) := by decide +kernel
theorem dL_leastPlace_8 : decode cL_leastPlace 8 = .ok (.lastore, 1) := by decide +kernel
theorem dL_leastPlace_9 : decode cL_leastPlace 9 = .ok (.goto 6, 3) := by decide +kernel
theorem dL_leastPlace_12 : decode cL_leastPlace 12 = .ok (.astore_n 3, 1) := by decide +kernel
theorem dL_leastPlace_13 : decode cL_leastPlace 13 = .ok (.iconst 1, 1) := by decide +kernel
theorem dL_leastPlace_14 : decode cL_leastPlace 14 = .ok (.ireturn, 1) := by decide +kernel
theorem dL_leastPlace_15 : decode cL_leastPlace 15 = .ok (.iconst 0, 1) := by decide +kernel
theorem dL_leastPlace_16 : decode cL_leastPlace 16 = .ok (.ireturn, 1) := by decide +kernel
abbrev rL_leastPlace : Room := { frames := 8, cells := 1, slots := 6, locals := 135 }
abbrev mL_leastPlace : gY := (cL_leastPlace, RL, 4, rL_leastPlace)
def fL_leastPlace (x1 : Int32) (M0 : gMem) : Option (Int32 × gMem) :=
  (fX10_leastPlace x1 M0).bind fun v1 => gSE v1 (fun u2 => (wL M0 137 1 (0 : Int32) u2.toInt64).bind fun M4 => some ((0 : Int32), M4)) (fun x3 => if x3 = 2 then (some ((1 : Int32), M0)) else none)
set_option maxRecDepth 20000 in
theorem tL_leastPlace {X : gX} {V : gEnv} {x1 : Int32} {M0 : gMem} (hs9 : X.2.1.stackTraces = false) (hT9 : (gXc X).exceptionTable.toList = tableOf [(0, 9, 12, 35)])  {o : (Int32 × gMem)} (h : fL_leastPlace x1 M0 = some o) (O : gO X V mL_leastPlace gShC (some .int) (some (.int o.1)) o.2) : gG X V mL_leastPlace gShC M0 0 0 0 [(0, .ref (gAd V 0)), (1, .int x1), (2, .ref (gAd V 137))] [] := by
  unfold fL_leastPlace at h
  refine g_aload_n 2 rfl rfl dL_leastPlace_0 ?_
  refine g_iconst (v := 0) rfl dL_leastPlace_1 ?_
  refine g_aload_n 0 rfl rfl dL_leastPlace_2 ?_
  refine g_iload_n 1 rfl rfl dL_leastPlace_3 ?_
  obtain ⟨v1, ev1, h⟩ := g_bnd h
  have hk9 := (kX10_leastPlace (V := V) hs9 ev1)
  cases hq9 : v1 with
  | inl u2 =>
    rw [hq9] at h hk9
    have h := g_sl h
    refine g_callVX LL_69 sC_0 rfl hk9 rfl rfl (Nat.le_of_ble_eq_true rfl) ⟨Nat.le_of_ble_eq_true rfl, Nat.le_of_ble_eq_true rfl⟩ ⟨Nat.le_of_ble_eq_true rfl, Nat.le_of_ble_eq_true rfl⟩ dL_leastPlace_4 rfl ?_
    refine g_i2l dL_leastPlace_7 ?_
    obtain ⟨M4, eM4, h⟩ := g_bnd h
    refine g_last' eM4 sC_137 dL_leastPlace_8 ?_
    refine g_goto (tgt := 15) rfl dL_leastPlace_9 ?_
    refine g_iconst (v := 0) rfl dL_leastPlace_15 ?_
    cases h
    exact g_iret O ⟨Nat.le_of_ble_eq_true rfl, Nat.le_of_ble_eq_true rfl⟩ rfl dL_leastPlace_16
  | inr x3 =>
    rw [hq9] at h hk9
    have h := g_sr h
    rcases g_ite h with ⟨c5, h⟩ | ⟨c5, h⟩
    · subst c5
      refine g_callVC hT9 LL_69 sC_0 rfl hk9 rfl rfl (Nat.le_of_ble_eq_true rfl) ⟨Nat.le_of_ble_eq_true rfl, Nat.le_of_ble_eq_true rfl⟩ ⟨Nat.le_of_ble_eq_true rfl, Nat.le_of_ble_eq_true rfl⟩ dL_leastPlace_4 [] ⟨0, 9, 12, 35⟩ [] rfl (Or.inl rfl) rfl (by decide) YL_35 (by decide) (fun q9 => ?_)
      refine g_astore_n (ls' := [(3, .ref q9), (0, .ref (gAd V 0)), (1, .int x1), (2, .ref (gAd V 137))]) rfl (Nat.le_of_ble_eq_true rfl) rfl dL_leastPlace_12 ?_
      refine g_iconst (v := 1) rfl dL_leastPlace_13 ?_
      cases h
      exact g_iret O ⟨Nat.le_of_ble_eq_true rfl, Nat.le_of_ble_eq_true rfl⟩ rfl dL_leastPlace_14
    ·
      cases h
theorem kL_leastPlace {l : Launch} {V : gEnv} {M0 : gMem} {x1 : Int32} (hst : l.stackTraces = false)  {o : (Int32 × gMem)} (h : fL_leastPlace x1 M0 = some o) : gMT l yL_leastPlace cL_leastPlace 4 (some .int) [(0, 9, 12, 35)] rL_leastPlace V gShC [.ref (gAd V 0), .int x1, .ref (gAd V 137)] M0 (some (.int o.1)) o.2 :=
  gMT.of (by decide) (Nat.le_of_ble_eq_true rfl) rfl (fun X hl9 hT O => tL_leastPlace (by rw [hl9]; exact hst) hT  h O)
theorem dL_mostPlace_0 : decode cL_mostPlace 0 = .ok (.aload_n 2, 1) := by decide +kernel
theorem dL_mostPlace_1 : decode cL_mostPlace 1 = .ok (.iconst 0, 1) := by decide +kernel
theorem dL_mostPlace_2 : decode cL_mostPlace 2 = .ok (.aload_n 0, 1) := by decide +kernel
theorem dL_mostPlace_3 : decode cL_mostPlace 3 = .ok (.iload_n 1, 1) := by decide +kernel
theorem dL_mostPlace_4 : decode cL_mostPlace 4 = .ok (.invokevirtual 72, 3) := by decide +kernel
theorem dL_mostPlace_7 : decode cL_mostPlace 7 = .ok (.i2l, 1) := by decide +kernel
theorem dL_mostPlace_8 : decode cL_mostPlace 8 = .ok (.lastore, 1) := by decide +kernel
theorem dL_mostPlace_9 : decode cL_mostPlace 9 = .ok (.goto 6, 3) := by decide +kernel
theorem dL_mostPlace_12 : decode cL_mostPlace 12 = .ok (.astore_n 3, 1) := by decide +kernel
theorem dL_mostPlace_13 : decode cL_mostPlace 13 = .ok (.iconst 1, 1) := by decide +kernel
theorem dL_mostPlace_14 : decode cL_mostPlace 14 = .ok (.ireturn, 1) := by decide +kernel
theorem dL_mostPlace_15 : decode cL_mostPlace 15 = .ok (.iconst 0, 1) := by decide +kernel
theorem dL_mostPlace_16 : decode cL_mostPlace 16 = .ok (.ireturn, 1) := by decide +kernel
abbrev rL_mostPlace : Room := { frames := 8, cells := 1, slots := 6, locals := 135 }
abbrev mL_mostPlace : gY := (cL_mostPlace, RL, 4, rL_mostPlace)
def fL_mostPlace (x1 : Int32) (M0 : gMem) : Option (Int32 × gMem) :=
  (fX10_mostPlace x1 M0).bind fun v1 => gSE v1 (fun u2 => (wL M0 137 1 (0 : Int32) u2.toInt64).bind fun M4 => some ((0 : Int32), M4)) (fun x3 => if x3 = 2 then (some ((1 : Int32), M0)) else none)
set_option maxRecDepth 20000 in
theorem tL_mostPlace {X : gX} {V : gEnv} {x1 : Int32} {M0 : gMem} (hs9 : X.2.1.stackTraces = false) (hT9 : (gXc X).exceptionTable.toList = tableOf [(0, 9, 12, 35)])  {o : (Int32 × gMem)} (h : fL_mostPlace x1 M0 = some o) (O : gO X V mL_mostPlace gShC (some .int) (some (.int o.1)) o.2) : gG X V mL_mostPlace gShC M0 0 0 0 [(0, .ref (gAd V 0)), (1, .int x1), (2, .ref (gAd V 137))] [] := by
  unfold fL_mostPlace at h
  refine g_aload_n 2 rfl rfl dL_mostPlace_0 ?_
  refine g_iconst (v := 0) rfl dL_mostPlace_1 ?_
  refine g_aload_n 0 rfl rfl dL_mostPlace_2 ?_
  refine g_iload_n 1 rfl rfl dL_mostPlace_3 ?_
  obtain ⟨v1, ev1, h⟩ := g_bnd h
  have hk9 := (kX10_mostPlace (V := V) hs9 ev1)
  cases hq9 : v1 with
  | inl u2 =>
    rw [hq9] at h hk9
    have h := g_sl h
    refine g_callVX LL_72 sC_0 rfl hk9 rfl rfl (Nat.le_of_ble_eq_true rfl) ⟨Nat.le_of_ble_eq_true rfl, Nat.le_of_ble_eq_true rfl⟩ ⟨Nat.le_of_ble_eq_true rfl, Nat.le_of_ble_eq_true rfl⟩ dL_mostPlace_4 rfl ?_
    refine g_i2l dL_mostPlace_7 ?_
    obtain ⟨M4, eM4, h⟩ := g_bnd h
    refine g_last' eM4 sC_137 dL_mostPlace_8 ?_
    refine g_goto (tgt := 15) rfl dL_mostPlace_9 ?_
    refine g_iconst (v := 0) rfl dL_mostPlace_15 ?_
    cases h
    exact g_iret O ⟨Nat.le_of_ble_eq_true rfl, Nat.le_of_ble_eq_true rfl⟩ rfl dL_mostPlace_16
  | inr x3 =>
    rw [hq9] at h hk9
    have h := g_sr h
    rcases g_ite h with ⟨c5, h⟩ | ⟨c5, h⟩
    · subst c5
      refine g_callVC hT9 LL_72 sC_0 rfl hk9 rfl rfl (Nat.le_of_ble_eq_true rfl) ⟨Nat.le_of_ble_eq_true rfl, Nat.le_of_ble_eq_true rfl⟩ ⟨Nat.le_of_ble_eq_true rfl, Nat.le_of_ble_eq_true rfl⟩ dL_mostPlace_4 [] ⟨0, 9, 12, 35⟩ [] rfl (Or.inl rfl) rfl (by decide) YL_35 (by decide) (fun q9 => ?_)
      refine g_astore_n (ls' := [(3, .ref q9), (0, .ref (gAd V 0)), (1, .int x1), (2, .ref (gAd V 137))]) rfl (Nat.le_of_ble_eq_true rfl) rfl dL_mostPlace_12 ?_
      refine g_iconst (v := 1) rfl dL_mostPlace_13 ?_
      cases h
      exact g_iret O ⟨Nat.le_of_ble_eq_true rfl, Nat.le_of_ble_eq_true rfl⟩ rfl dL_mostPlace_14
    ·
      cases h
theorem kL_mostPlace {l : Launch} {V : gEnv} {M0 : gMem} {x1 : Int32} (hst : l.stackTraces = false)  {o : (Int32 × gMem)} (h : fL_mostPlace x1 M0 = some o) : gMT l yL_mostPlace cL_mostPlace 4 (some .int) [(0, 9, 12, 35)] rL_mostPlace V gShC [.ref (gAd V 0), .int x1, .ref (gAd V 137)] M0 (some (.int o.1)) o.2 :=
  gMT.of (by decide) (Nat.le_of_ble_eq_true rfl) rfl (fun X hl9 hT O => tL_mostPlace (by rw [hl9]; exact hst) hT  h O)
theorem dL_fresh_0 : decode cL_fresh 0 = .ok (.aload_n 2, 1) := by decide +kernel
theorem dL_fresh_1 : decode cL_fresh 1 = .ok (.iconst 0, 1) := by decide +kernel
theorem dL_fresh_2 : decode cL_fresh 2 = .ok (.aload_n 0, 1) := by decide +kernel
theorem dL_fresh_3 : decode cL_fresh 3 = .ok (.iload_n 1, 1) := by decide +kernel
theorem dL_fresh_4 : decode cL_fresh 4 = .ok (.invokevirtual 75, 3) := by decide +kernel
theorem dL_fresh_7 : decode cL_fresh 7 = .ok (.i2l, 1) := by decide +kernel
theorem dL_fresh_8 : decode cL_fresh 8 = .ok (.lastore, 1) := by decide +kernel
theorem dL_fresh_9 : decode cL_fresh 9 = .ok (.goto 6, 3) := by decide +kernel
theorem dL_fresh_12 : decode cL_fresh 12 = .ok (.astore_n 3, 1) := by decide +kernel
theorem dL_fresh_13 : decode cL_fresh 13 = .ok (.iconst 1, 1) := by decide +kernel
theorem dL_fresh_14 : decode cL_fresh 14 = .ok (.ireturn, 1) := by decide +kernel
theorem dL_fresh_15 : decode cL_fresh 15 = .ok (.iconst 0, 1) := by decide +kernel
theorem dL_fresh_16 : decode cL_fresh 16 = .ok (.ireturn, 1) := by decide +kernel
abbrev rL_fresh : Room := { frames := 8, cells := 1, slots := 6, locals := 132 }
abbrev mL_fresh : gY := (cL_fresh, RL, 4, rL_fresh)
def fL_fresh (x1 : Int32) (M0 : gMem) : Option (Int32 × gMem) :=
  (fX10_fresh x1 M0).bind fun v1 => gSE v1.1 (fun u2 => (wL v1.2 137 1 (0 : Int32) u2.toInt64).bind fun M4 => some ((0 : Int32), M4)) (fun x3 => if x3 = 2 then (some ((1 : Int32), v1.2)) else none)
set_option maxRecDepth 20000 in
theorem tL_fresh {X : gX} {V : gEnv} {x1 : Int32} {M0 : gMem} (hs9 : X.2.1.stackTraces = false) (hT9 : (gXc X).exceptionTable.toList = tableOf [(0, 9, 12, 35)])  {o : (Int32 × gMem)} (h : fL_fresh x1 M0 = some o) (O : gO X V mL_fresh gShC (some .int) (some (.int o.1)) o.2) : gG X V mL_fresh gShC M0 0 0 0 [(0, .ref (gAd V 0)), (1, .int x1), (2, .ref (gAd V 137))] [] := by
  unfold fL_fresh at h
  refine g_aload_n 2 rfl rfl dL_fresh_0 ?_
  refine g_iconst (v := 0) rfl dL_fresh_1 ?_
  refine g_aload_n 0 rfl rfl dL_fresh_2 ?_
  refine g_iload_n 1 rfl rfl dL_fresh_3 ?_
  obtain ⟨v1, ev1, h⟩ := g_bnd h
  have hk9 := (kX10_fresh (V := V) hs9 ev1)
  cases hq9 : v1.1 with
  | inl u2 =>
    rw [hq9] at h hk9
    have h := g_sl h
    refine g_callVX LL_75 sC_0 rfl hk9 rfl rfl (Nat.le_of_ble_eq_true rfl) ⟨Nat.le_of_ble_eq_true rfl, Nat.le_of_ble_eq_true rfl⟩ ⟨Nat.le_of_ble_eq_true rfl, Nat.le_of_ble_eq_true rfl⟩ dL_fresh_4 rfl ?_
    refine g_i2l dL_fresh_7 ?_
    obtain ⟨M4, eM4, h⟩ := g_bnd h
    refine g_last' eM4 sC_137 dL_fresh_8 ?_
    refine g_goto (tgt := 15) rfl dL_fresh_9 ?_
    refine g_iconst (v := 0) rfl dL_fresh_15 ?_
    cases h
    exact g_iret O ⟨Nat.le_of_ble_eq_true rfl, Nat.le_of_ble_eq_true rfl⟩ rfl dL_fresh_16
  | inr x3 =>
    rw [hq9] at h hk9
    have h := g_sr h
    rcases g_ite h with ⟨c5, h⟩ | ⟨c5, h⟩
    · subst c5
      refine g_callVC hT9 LL_75 sC_0 rfl hk9 rfl rfl (Nat.le_of_ble_eq_true rfl) ⟨Nat.le_of_ble_eq_true rfl, Nat.le_of_ble_eq_true rfl⟩ ⟨Nat.le_of_ble_eq_true rfl, Nat.le_of_ble_eq_true rfl⟩ dL_fresh_4 [] ⟨0, 9, 12, 35⟩ [] rfl (Or.inl rfl) rfl (by decide) YL_35 (by decide) (fun q9 => ?_)
      refine g_astore_n (ls' := [(3, .ref q9), (0, .ref (gAd V 0)), (1, .int x1), (2, .ref (gAd V 137))]) rfl (Nat.le_of_ble_eq_true rfl) rfl dL_fresh_12 ?_
      refine g_iconst (v := 1) rfl dL_fresh_13 ?_
      cases h
      exact g_iret O ⟨Nat.le_of_ble_eq_true rfl, Nat.le_of_ble_eq_true rfl⟩ rfl dL_fresh_14
    ·
      cases h
theorem kL_fresh {l : Launch} {V : gEnv} {M0 : gMem} {x1 : Int32} (hst : l.stackTraces = false)  {o : (Int32 × gMem)} (h : fL_fresh x1 M0 = some o) : gMT l yL_fresh cL_fresh 4 (some .int) [(0, 9, 12, 35)] rL_fresh V gShC [.ref (gAd V 0), .int x1, .ref (gAd V 137)] M0 (some (.int o.1)) o.2 :=
  gMT.of (by decide) (Nat.le_of_ble_eq_true rfl) rfl (fun X hl9 hT O => tL_fresh (by rw [hl9]; exact hst) hT  h O)
theorem dL_account_0 : decode cL_account 0 = .ok (.aload_n 2, 1) := by decide +kernel
theorem dL_account_1 : decode cL_account 1 = .ok (.iconst 0, 1) := by decide +kernel
theorem dL_account_2 : decode cL_account 2 = .ok (.aload_n 0, 1) := by decide +kernel
theorem dL_account_3 : decode cL_account 3 = .ok (.iload_n 1, 1) := by decide +kernel
theorem dL_account_4 : decode cL_account 4 = .ok (.invokevirtual 78, 3) := by decide +kernel
theorem dL_account_7 : decode cL_account 7 = .ok (.lastore, 1) := by decide +kernel
theorem dL_account_8 : decode cL_account 8 = .ok (.goto 6, 3) := by decide +kernel
theorem dL_account_11 : decode cL_account 11 = .ok (.astore_n 3, 1) := by decide +kernel
theorem dL_account_12 : decode cL_account 12 = .ok (.iconst 1, 1) := by decide +kernel
theorem dL_account_13 : decode cL_account 13 = .ok (.ireturn, 1) := by decide +kernel
theorem dL_account_14 : decode cL_account 14 = .ok (.iconst 0, 1) := by decide +kernel
theorem dL_account_15 : decode cL_account 15 = .ok (.ireturn, 1) := by decide +kernel
abbrev rL_account : Room := { frames := 7, cells := 1, slots := 6, locals := 111 }
abbrev mL_account : gY := (cL_account, RL, 4, rL_account)
def fL_account (x1 : Int32) (M0 : gMem) : Option (Int32 × gMem) :=
  (fX10_account x1 M0).bind fun v1 => gSE v1 (fun u2 => (wL M0 137 1 (0 : Int32) u2).bind fun M4 => some ((0 : Int32), M4)) (fun x3 => if x3 = 1 then (some ((1 : Int32), M0)) else none)
set_option maxRecDepth 20000 in
theorem tL_account {X : gX} {V : gEnv} {x1 : Int32} {M0 : gMem} (hs9 : X.2.1.stackTraces = false) (hT9 : (gXc X).exceptionTable.toList = tableOf [(0, 8, 11, 19)])  {o : (Int32 × gMem)} (h : fL_account x1 M0 = some o) (O : gO X V mL_account gShC (some .int) (some (.int o.1)) o.2) : gG X V mL_account gShC M0 0 0 0 [(0, .ref (gAd V 0)), (1, .int x1), (2, .ref (gAd V 137))] [] := by
  unfold fL_account at h
  refine g_aload_n 2 rfl rfl dL_account_0 ?_
  refine g_iconst (v := 0) rfl dL_account_1 ?_
  refine g_aload_n 0 rfl rfl dL_account_2 ?_
  refine g_iload_n 1 rfl rfl dL_account_3 ?_
  obtain ⟨v1, ev1, h⟩ := g_bnd h
  have hk9 := (kX10_account (V := V) hs9 ev1)
  cases hq9 : v1 with
  | inl u2 =>
    rw [hq9] at h hk9
    have h := g_sl h
    refine g_callVX LL_78 sC_0 rfl hk9 rfl rfl (Nat.le_of_ble_eq_true rfl) ⟨Nat.le_of_ble_eq_true rfl, Nat.le_of_ble_eq_true rfl⟩ ⟨Nat.le_of_ble_eq_true rfl, Nat.le_of_ble_eq_true rfl⟩ dL_account_4 rfl ?_
    obtain ⟨M4, eM4, h⟩ := g_bnd h
    refine g_last' eM4 sC_137 dL_account_7 ?_
    refine g_goto (tgt := 14) rfl dL_account_8 ?_
    refine g_iconst (v := 0) rfl dL_account_14 ?_
    cases h
    exact g_iret O ⟨Nat.le_of_ble_eq_true rfl, Nat.le_of_ble_eq_true rfl⟩ rfl dL_account_15
  | inr x3 =>
    rw [hq9] at h hk9
    have h := g_sr h
    rcases g_ite h with ⟨c5, h⟩ | ⟨c5, h⟩
    · subst c5
      refine g_callVC hT9 LL_78 sC_0 rfl hk9 rfl rfl (Nat.le_of_ble_eq_true rfl) ⟨Nat.le_of_ble_eq_true rfl, Nat.le_of_ble_eq_true rfl⟩ ⟨Nat.le_of_ble_eq_true rfl, Nat.le_of_ble_eq_true rfl⟩ dL_account_4 [] ⟨0, 8, 11, 19⟩ [] rfl (Or.inl rfl) rfl (by decide) YL_19 (by decide) (fun q9 => ?_)
      refine g_astore_n (ls' := [(3, .ref q9), (0, .ref (gAd V 0)), (1, .int x1), (2, .ref (gAd V 137))]) rfl (Nat.le_of_ble_eq_true rfl) rfl dL_account_11 ?_
      refine g_iconst (v := 1) rfl dL_account_12 ?_
      cases h
      exact g_iret O ⟨Nat.le_of_ble_eq_true rfl, Nat.le_of_ble_eq_true rfl⟩ rfl dL_account_13
    ·
      cases h
theorem kL_account {l : Launch} {V : gEnv} {M0 : gMem} {x1 : Int32} (hst : l.stackTraces = false)  {o : (Int32 × gMem)} (h : fL_account x1 M0 = some o) : gMT l yL_account cL_account 4 (some .int) [(0, 8, 11, 19)] rL_account V gShC [.ref (gAd V 0), .int x1, .ref (gAd V 137)] M0 (some (.int o.1)) o.2 :=
  gMT.of (by decide) (Nat.le_of_ble_eq_true rfl) rfl (fun X hl9 hT O => tL_account (by rw [hl9]; exact hst) hT  h O)
theorem dL_make_0 : decode cL_make 0 = .ok (.aload_n 2, 1) := by decide +kernel
theorem dL_make_1 : decode cL_make 1 = .ok (.iconst 0, 1) := by decide +kernel
theorem dL_make_2 : decode cL_make 2 = .ok (.aload_n 0, 1) := by decide +kernel
theorem dL_make_3 : decode cL_make 3 = .ok (.iload_n 1, 1) := by decide +kernel
theorem dL_make_4 : decode cL_make 4 = .ok (.invokevirtual 82, 3) := by decide +kernel
theorem dL_make_7 : decode cL_make 7 = .ok (.i2l, 1) := by decide +kernel
theorem dL_make_8 : decode cL_make 8 = .ok (.lastore, 1) := by decide +kernel
theorem dL_make_9 : decode cL_make 9 = .ok (.goto 6, 3) := by decide +kernel
theorem dL_make_12 : decode cL_make 12 = .ok (.astore_n 3, 1) := by decide +kernel
theorem dL_make_13 : decode cL_make 13 = .ok (.iconst 1, 1) := by decide +kernel
theorem dL_make_14 : decode cL_make 14 = .ok (.ireturn, 1) := by decide +kernel
theorem dL_make_15 : decode cL_make 15 = .ok (.iconst 0, 1) := by decide +kernel
theorem dL_make_16 : decode cL_make 16 = .ok (.ireturn, 1) := by decide +kernel
abbrev rL_make : Room := { frames := 8, cells := 1, slots := 6, locals := 133 }
abbrev mL_make : gY := (cL_make, RL, 4, rL_make)
def fL_make (x1 : Int32) (M0 : gMem) : Option (Int32 × gMem) :=
  (fX10_make x1 M0).bind fun v1 => gSE v1.1 (fun u2 => (wL v1.2 137 1 (0 : Int32) u2.toInt64).bind fun M4 => some ((0 : Int32), M4)) (fun x3 => if x3 = 1 then (some ((1 : Int32), v1.2)) else none)
set_option maxRecDepth 20000 in
theorem tL_make {X : gX} {V : gEnv} {x1 : Int32} {M0 : gMem} (hs9 : X.2.1.stackTraces = false) (hT9 : (gXc X).exceptionTable.toList = tableOf [(0, 9, 12, 19)])  {o : (Int32 × gMem)} (h : fL_make x1 M0 = some o) (O : gO X V mL_make gShC (some .int) (some (.int o.1)) o.2) : gG X V mL_make gShC M0 0 0 0 [(0, .ref (gAd V 0)), (1, .int x1), (2, .ref (gAd V 137))] [] := by
  unfold fL_make at h
  refine g_aload_n 2 rfl rfl dL_make_0 ?_
  refine g_iconst (v := 0) rfl dL_make_1 ?_
  refine g_aload_n 0 rfl rfl dL_make_2 ?_
  refine g_iload_n 1 rfl rfl dL_make_3 ?_
  obtain ⟨v1, ev1, h⟩ := g_bnd h
  have hk9 := (kX10_make (V := V) hs9 ev1)
  cases hq9 : v1.1 with
  | inl u2 =>
    rw [hq9] at h hk9
    have h := g_sl h
    refine g_callVX LL_82 sC_0 rfl hk9 rfl rfl (Nat.le_of_ble_eq_true rfl) ⟨Nat.le_of_ble_eq_true rfl, Nat.le_of_ble_eq_true rfl⟩ ⟨Nat.le_of_ble_eq_true rfl, Nat.le_of_ble_eq_true rfl⟩ dL_make_4 rfl ?_
    refine g_i2l dL_make_7 ?_
    obtain ⟨M4, eM4, h⟩ := g_bnd h
    refine g_last' eM4 sC_137 dL_make_8 ?_
    refine g_goto (tgt := 15) rfl dL_make_9 ?_
    refine g_iconst (v := 0) rfl dL_make_15 ?_
    cases h
    exact g_iret O ⟨Nat.le_of_ble_eq_true rfl, Nat.le_of_ble_eq_true rfl⟩ rfl dL_make_16
  | inr x3 =>
    rw [hq9] at h hk9
    have h := g_sr h
    rcases g_ite h with ⟨c5, h⟩ | ⟨c5, h⟩
    · subst c5
      refine g_callVC hT9 LL_82 sC_0 rfl hk9 rfl rfl (Nat.le_of_ble_eq_true rfl) ⟨Nat.le_of_ble_eq_true rfl, Nat.le_of_ble_eq_true rfl⟩ ⟨Nat.le_of_ble_eq_true rfl, Nat.le_of_ble_eq_true rfl⟩ dL_make_4 [] ⟨0, 9, 12, 19⟩ [] rfl (Or.inl rfl) rfl (by decide) YL_19 (by decide) (fun q9 => ?_)
      refine g_astore_n (ls' := [(3, .ref q9), (0, .ref (gAd V 0)), (1, .int x1), (2, .ref (gAd V 137))]) rfl (Nat.le_of_ble_eq_true rfl) rfl dL_make_12 ?_
      refine g_iconst (v := 1) rfl dL_make_13 ?_
      cases h
      exact g_iret O ⟨Nat.le_of_ble_eq_true rfl, Nat.le_of_ble_eq_true rfl⟩ rfl dL_make_14
    ·
      cases h
theorem kL_make {l : Launch} {V : gEnv} {M0 : gMem} {x1 : Int32} (hst : l.stackTraces = false)  {o : (Int32 × gMem)} (h : fL_make x1 M0 = some o) : gMT l yL_make cL_make 4 (some .int) [(0, 9, 12, 19)] rL_make V gShC [.ref (gAd V 0), .int x1, .ref (gAd V 137)] M0 (some (.int o.1)) o.2 :=
  gMT.of (by decide) (Nat.le_of_ble_eq_true rfl) rfl (fun X hl9 hT O => tL_make (by rw [hl9]; exact hst) hT  h O)
theorem dL_add_0 : decode cL_add 0 = .ok (.aload_n 3, 1) := by decide +kernel
theorem dL_add_1 : decode cL_add 1 = .ok (.iconst 0, 1) := by decide +kernel
theorem dL_add_2 : decode cL_add 2 = .ok (.aload_n 0, 1) := by decide +kernel
theorem dL_add_3 : decode cL_add 3 = .ok (.iload_n 1, 1) := by decide +kernel
theorem dL_add_4 : decode cL_add 4 = .ok (.iload_n 2, 1) := by decide +kernel
theorem dL_add_5 : decode cL_add 5 = .ok (.invokevirtual 85, 3) := by decide +kernel
theorem dL_add_8 : decode cL_add 8 = .ok (.i2l, 1) := by decide +kernel
theorem dL_add_9 : decode cL_add 9 = .ok (.lastore, 1) := by decide +kernel
theorem dL_add_10 : decode cL_add 10 = .ok (.goto 7, 3) := by decide +kernel
theorem dL_add_13 : decode cL_add 13 = .ok (.astore 4, 2) := by decide +kernel
theorem dL_add_15 : decode cL_add 15 = .ok (.iconst 1, 1) := by decide +kernel
theorem dL_add_16 : decode cL_add 16 = .ok (.ireturn, 1) := by decide +kernel
theorem dL_add_17 : decode cL_add 17 = .ok (.iconst 0, 1) := by decide +kernel
theorem dL_add_18 : decode cL_add 18 = .ok (.ireturn, 1) := by decide +kernel
abbrev rL_add : Room := { frames := 8, cells := 2, slots := 12, locals := 134 }
abbrev mL_add : gY := (cL_add, RL, 5, rL_add)
def fL_add (x1 : Int32) (x2 : Int32) (M0 : gMem) : Option (Int32 × gMem) :=
  (fX10_add x1 x2 M0).bind fun v1 => gSE v1.1 (fun u2 => (wL v1.2 137 1 (0 : Int32) u2.toInt64).bind fun M4 => some ((0 : Int32), M4)) (fun x3 => if x3 = 2 then (some ((1 : Int32), v1.2)) else none)
set_option maxRecDepth 20000 in
theorem tL_add {X : gX} {V : gEnv} {x1 : Int32} {x2 : Int32} {M0 : gMem} (hs9 : X.2.1.stackTraces = false) (hT9 : (gXc X).exceptionTable.toList = tableOf [(0, 10, 13, 35)])  {o : (Int32 × gMem)} (h : fL_add x1 x2 M0 = some o) (O : gO X V mL_add gShC (some .int) (some (.int o.1)) o.2) : gG X V mL_add gShC M0 0 0 0 [(0, .ref (gAd V 0)), (1, .int x1), (2, .int x2), (3, .ref (gAd V 137))] [] := by
  unfold fL_add at h
  refine g_aload_n 3 rfl rfl dL_add_0 ?_
  refine g_iconst (v := 0) rfl dL_add_1 ?_
  refine g_aload_n 0 rfl rfl dL_add_2 ?_
  refine g_iload_n 1 rfl rfl dL_add_3 ?_
  refine g_iload_n 2 rfl rfl dL_add_4 ?_
  obtain ⟨v1, ev1, h⟩ := g_bnd h
  have hk9 := (kX10_add (V := V) hs9 ev1)
  cases hq9 : v1.1 with
  | inl u2 =>
    rw [hq9] at h hk9
    have h := g_sl h
    refine g_callVX LL_85 sC_0 rfl hk9 rfl rfl (Nat.le_of_ble_eq_true rfl) ⟨Nat.le_of_ble_eq_true rfl, Nat.le_of_ble_eq_true rfl⟩ ⟨Nat.le_of_ble_eq_true rfl, Nat.le_of_ble_eq_true rfl⟩ dL_add_5 rfl ?_
    refine g_i2l dL_add_8 ?_
    obtain ⟨M4, eM4, h⟩ := g_bnd h
    refine g_last' eM4 sC_137 dL_add_9 ?_
    refine g_goto (tgt := 17) rfl dL_add_10 ?_
    refine g_iconst (v := 0) rfl dL_add_17 ?_
    cases h
    exact g_iret O ⟨Nat.le_of_ble_eq_true rfl, Nat.le_of_ble_eq_true rfl⟩ rfl dL_add_18
  | inr x3 =>
    rw [hq9] at h hk9
    have h := g_sr h
    rcases g_ite h with ⟨c5, h⟩ | ⟨c5, h⟩
    · subst c5
      refine g_callVC hT9 LL_85 sC_0 rfl hk9 rfl rfl (Nat.le_of_ble_eq_true rfl) ⟨Nat.le_of_ble_eq_true rfl, Nat.le_of_ble_eq_true rfl⟩ ⟨Nat.le_of_ble_eq_true rfl, Nat.le_of_ble_eq_true rfl⟩ dL_add_5 [] ⟨0, 10, 13, 35⟩ [] rfl (Or.inl rfl) rfl (by decide) YL_35 (by decide) (fun q9 => ?_)
      refine g_astore (ls' := [(4, .ref q9), (0, .ref (gAd V 0)), (1, .int x1), (2, .int x2), (3, .ref (gAd V 137))]) (Nat.le_of_ble_eq_true rfl) rfl dL_add_13 ?_
      refine g_iconst (v := 1) rfl dL_add_15 ?_
      cases h
      exact g_iret O ⟨Nat.le_of_ble_eq_true rfl, Nat.le_of_ble_eq_true rfl⟩ rfl dL_add_16
    ·
      cases h
theorem kL_add {l : Launch} {V : gEnv} {M0 : gMem} {x1 : Int32} {x2 : Int32} (hst : l.stackTraces = false)  {o : (Int32 × gMem)} (h : fL_add x1 x2 M0 = some o) : gMT l yL_add cL_add 5 (some .int) [(0, 10, 13, 35)] rL_add V gShC [.ref (gAd V 0), .int x1, .int x2, .ref (gAd V 137)] M0 (some (.int o.1)) o.2 :=
  gMT.of (by decide) (Nat.le_of_ble_eq_true rfl) rfl (fun X hl9 hT O => tL_add (by rw [hl9]; exact hst) hT  h O)
theorem dL_cut_0 : decode cL_cut 0 = .ok (.aload_n 2, 1) := by decide +kernel
theorem dL_cut_1 : decode cL_cut 1 = .ok (.iconst 0, 1) := by decide +kernel
theorem dL_cut_2 : decode cL_cut 2 = .ok (.aload_n 0, 1) := by decide +kernel
theorem dL_cut_3 : decode cL_cut 3 = .ok (.iload_n 1, 1) := by decide +kernel
theorem dL_cut_4 : decode cL_cut 4 = .ok (.invokevirtual 88, 3) := by decide +kernel
theorem dL_cut_7 : decode cL_cut 7 = .ok (.i2l, 1) := by decide +kernel
theorem dL_cut_8 : decode cL_cut 8 = .ok (.lastore, 1) := by decide +kernel
theorem dL_cut_9 : decode cL_cut 9 = .ok (.goto 6, 3) := by decide +kernel
theorem dL_cut_12 : decode cL_cut 12 = .ok (.astore_n 3, 1) := by decide +kernel
theorem dL_cut_13 : decode cL_cut 13 = .ok (.iconst 1, 1) := by decide +kernel
theorem dL_cut_14 : decode cL_cut 14 = .ok (.ireturn, 1) := by decide +kernel
theorem dL_cut_15 : decode cL_cut 15 = .ok (.iconst 0, 1) := by decide +kernel
theorem dL_cut_16 : decode cL_cut 16 = .ok (.ireturn, 1) := by decide +kernel
abbrev rL_cut : Room := { frames := 8, cells := 1, slots := 6, locals := 132 }
abbrev mL_cut : gY := (cL_cut, RL, 4, rL_cut)
def fL_cut (x1 : Int32) (M0 : gMem) : Option (Int32 × gMem) :=
  (fX10_cut x1 M0).bind fun v1 => gSE v1.1 (fun u2 => (wL v1.2 137 1 (0 : Int32) u2.toInt64).bind fun M4 => some ((0 : Int32), M4)) (fun x3 => if x3 = 2 then (some ((1 : Int32), v1.2)) else none)
set_option maxRecDepth 20000 in
theorem tL_cut {X : gX} {V : gEnv} {x1 : Int32} {M0 : gMem} (hs9 : X.2.1.stackTraces = false) (hT9 : (gXc X).exceptionTable.toList = tableOf [(0, 9, 12, 35)])  {o : (Int32 × gMem)} (h : fL_cut x1 M0 = some o) (O : gO X V mL_cut gShC (some .int) (some (.int o.1)) o.2) : gG X V mL_cut gShC M0 0 0 0 [(0, .ref (gAd V 0)), (1, .int x1), (2, .ref (gAd V 137))] [] := by
  unfold fL_cut at h
  refine g_aload_n 2 rfl rfl dL_cut_0 ?_
  refine g_iconst (v := 0) rfl dL_cut_1 ?_
  refine g_aload_n 0 rfl rfl dL_cut_2 ?_
  refine g_iload_n 1 rfl rfl dL_cut_3 ?_
  obtain ⟨v1, ev1, h⟩ := g_bnd h
  have hk9 := (kX10_cut (V := V) hs9 ev1)
  cases hq9 : v1.1 with
  | inl u2 =>
    rw [hq9] at h hk9
    have h := g_sl h
    refine g_callVX LL_88 sC_0 rfl hk9 rfl rfl (Nat.le_of_ble_eq_true rfl) ⟨Nat.le_of_ble_eq_true rfl, Nat.le_of_ble_eq_true rfl⟩ ⟨Nat.le_of_ble_eq_true rfl, Nat.le_of_ble_eq_true rfl⟩ dL_cut_4 rfl ?_
    refine g_i2l dL_cut_7 ?_
    obtain ⟨M4, eM4, h⟩ := g_bnd h
    refine g_last' eM4 sC_137 dL_cut_8 ?_
    refine g_goto (tgt := 15) rfl dL_cut_9 ?_
    refine g_iconst (v := 0) rfl dL_cut_15 ?_
    cases h
    exact g_iret O ⟨Nat.le_of_ble_eq_true rfl, Nat.le_of_ble_eq_true rfl⟩ rfl dL_cut_16
  | inr x3 =>
    rw [hq9] at h hk9
    have h := g_sr h
    rcases g_ite h with ⟨c5, h⟩ | ⟨c5, h⟩
    · subst c5
      refine g_callVC hT9 LL_88 sC_0 rfl hk9 rfl rfl (Nat.le_of_ble_eq_true rfl) ⟨Nat.le_of_ble_eq_true rfl, Nat.le_of_ble_eq_true rfl⟩ ⟨Nat.le_of_ble_eq_true rfl, Nat.le_of_ble_eq_true rfl⟩ dL_cut_4 [] ⟨0, 9, 12, 35⟩ [] rfl (Or.inl rfl) rfl (by decide) YL_35 (by decide) (fun q9 => ?_)
      refine g_astore_n (ls' := [(3, .ref q9), (0, .ref (gAd V 0)), (1, .int x1), (2, .ref (gAd V 137))]) rfl (Nat.le_of_ble_eq_true rfl) rfl dL_cut_12 ?_
      refine g_iconst (v := 1) rfl dL_cut_13 ?_
      cases h
      exact g_iret O ⟨Nat.le_of_ble_eq_true rfl, Nat.le_of_ble_eq_true rfl⟩ rfl dL_cut_14
    ·
      cases h
theorem kL_cut {l : Launch} {V : gEnv} {M0 : gMem} {x1 : Int32} (hst : l.stackTraces = false)  {o : (Int32 × gMem)} (h : fL_cut x1 M0 = some o) : gMT l yL_cut cL_cut 4 (some .int) [(0, 9, 12, 35)] rL_cut V gShC [.ref (gAd V 0), .int x1, .ref (gAd V 137)] M0 (some (.int o.1)) o.2 :=
  gMT.of (by decide) (Nat.le_of_ble_eq_true rfl) rfl (fun X hl9 hT O => tL_cut (by rw [hl9]; exact hst) hT  h O)
theorem dL_swap_0 : decode cL_swap 0 = .ok (.aload_n 2, 1) := by decide +kernel
theorem dL_swap_1 : decode cL_swap 1 = .ok (.iconst 0, 1) := by decide +kernel
theorem dL_swap_2 : decode cL_swap 2 = .ok (.aload_n 0, 1) := by decide +kernel
theorem dL_swap_3 : decode cL_swap 3 = .ok (.iload_n 1, 1) := by decide +kernel
theorem dL_swap_4 : decode cL_swap 4 = .ok (.invokevirtual 91, 3) := by decide +kernel
theorem dL_swap_7 : decode cL_swap 7 = .ok (.i2l, 1) := by decide +kernel
theorem dL_swap_8 : decode cL_swap 8 = .ok (.lastore, 1) := by decide +kernel
theorem dL_swap_9 : decode cL_swap 9 = .ok (.goto 6, 3) := by decide +kernel
theorem dL_swap_12 : decode cL_swap 12 = .ok (.astore_n 3, 1) := by decide +kernel
theorem dL_swap_13 : decode cL_swap 13 = .ok (.iconst 1, 1) := by decide +kernel
theorem dL_swap_14 : decode cL_swap 14 = .ok (.ireturn, 1) := by decide +kernel
theorem dL_swap_15 : decode cL_swap 15 = .ok (.iconst 0, 1) := by decide +kernel
theorem dL_swap_16 : decode cL_swap 16 = .ok (.ireturn, 1) := by decide +kernel
abbrev rL_swap : Room := { frames := 8, cells := 1, slots := 6, locals := 132 }
abbrev mL_swap : gY := (cL_swap, RL, 4, rL_swap)
def fL_swap (x1 : Int32) (M0 : gMem) : Option (Int32 × gMem) :=
  (fX10_swap x1 M0).bind fun v1 => gSE v1.1 (fun u2 => (wL v1.2 137 1 (0 : Int32) u2.toInt64).bind fun M4 => some ((0 : Int32), M4)) (fun x3 => if x3 = 2 then (some ((1 : Int32), v1.2)) else none)
set_option maxRecDepth 20000 in
theorem tL_swap {X : gX} {V : gEnv} {x1 : Int32} {M0 : gMem} (hs9 : X.2.1.stackTraces = false) (hT9 : (gXc X).exceptionTable.toList = tableOf [(0, 9, 12, 35)])  {o : (Int32 × gMem)} (h : fL_swap x1 M0 = some o) (O : gO X V mL_swap gShC (some .int) (some (.int o.1)) o.2) : gG X V mL_swap gShC M0 0 0 0 [(0, .ref (gAd V 0)), (1, .int x1), (2, .ref (gAd V 137))] [] := by
  unfold fL_swap at h
  refine g_aload_n 2 rfl rfl dL_swap_0 ?_
  refine g_iconst (v := 0) rfl dL_swap_1 ?_
  refine g_aload_n 0 rfl rfl dL_swap_2 ?_
  refine g_iload_n 1 rfl rfl dL_swap_3 ?_
  obtain ⟨v1, ev1, h⟩ := g_bnd h
  have hk9 := (kX10_swap (V := V) hs9 ev1)
  cases hq9 : v1.1 with
  | inl u2 =>
    rw [hq9] at h hk9
    have h := g_sl h
    refine g_callVX LL_91 sC_0 rfl hk9 rfl rfl (Nat.le_of_ble_eq_true rfl) ⟨Nat.le_of_ble_eq_true rfl, Nat.le_of_ble_eq_true rfl⟩ ⟨Nat.le_of_ble_eq_true rfl, Nat.le_of_ble_eq_true rfl⟩ dL_swap_4 rfl ?_
    refine g_i2l dL_swap_7 ?_
    obtain ⟨M4, eM4, h⟩ := g_bnd h
    refine g_last' eM4 sC_137 dL_swap_8 ?_
    refine g_goto (tgt := 15) rfl dL_swap_9 ?_
    refine g_iconst (v := 0) rfl dL_swap_15 ?_
    cases h
    exact g_iret O ⟨Nat.le_of_ble_eq_true rfl, Nat.le_of_ble_eq_true rfl⟩ rfl dL_swap_16
  | inr x3 =>
    rw [hq9] at h hk9
    have h := g_sr h
    rcases g_ite h with ⟨c5, h⟩ | ⟨c5, h⟩
    · subst c5
      refine g_callVC hT9 LL_91 sC_0 rfl hk9 rfl rfl (Nat.le_of_ble_eq_true rfl) ⟨Nat.le_of_ble_eq_true rfl, Nat.le_of_ble_eq_true rfl⟩ ⟨Nat.le_of_ble_eq_true rfl, Nat.le_of_ble_eq_true rfl⟩ dL_swap_4 [] ⟨0, 9, 12, 35⟩ [] rfl (Or.inl rfl) rfl (by decide) YL_35 (by decide) (fun q9 => ?_)
      refine g_astore_n (ls' := [(3, .ref q9), (0, .ref (gAd V 0)), (1, .int x1), (2, .ref (gAd V 137))]) rfl (Nat.le_of_ble_eq_true rfl) rfl dL_swap_12 ?_
      refine g_iconst (v := 1) rfl dL_swap_13 ?_
      cases h
      exact g_iret O ⟨Nat.le_of_ble_eq_true rfl, Nat.le_of_ble_eq_true rfl⟩ rfl dL_swap_14
    ·
      cases h
theorem kL_swap {l : Launch} {V : gEnv} {M0 : gMem} {x1 : Int32} (hst : l.stackTraces = false)  {o : (Int32 × gMem)} (h : fL_swap x1 M0 = some o) : gMT l yL_swap cL_swap 4 (some .int) [(0, 9, 12, 35)] rL_swap V gShC [.ref (gAd V 0), .int x1, .ref (gAd V 137)] M0 (some (.int o.1)) o.2 :=
  gMT.of (by decide) (Nat.le_of_ble_eq_true rfl) rfl (fun X hl9 hT O => tL_swap (by rw [hl9]; exact hst) hT  h O)
theorem dL_setHours_0 : decode cL_setHours 0 = .ok (.aload_n 3, 1) := by decide +kernel
theorem dL_setHours_1 : decode cL_setHours 1 = .ok (.iconst 0, 1) := by decide +kernel
theorem dL_setHours_2 : decode cL_setHours 2 = .ok (.aload_n 0, 1) := by decide +kernel
theorem dL_setHours_3 : decode cL_setHours 3 = .ok (.iload_n 1, 1) := by decide +kernel
theorem dL_setHours_4 : decode cL_setHours 4 = .ok (.iload_n 2, 1) := by decide +kernel
theorem dL_setHours_5 : decode cL_setHours 5 = .ok (.invokevirtual 94, 3) := by decide +kernel
theorem dL_setHours_8 : decode cL_setHours 8 = .ok (.i2l, 1) := by decide +kernel
theorem dL_setHours_9 : decode cL_setHours 9 = .ok (.lastore, 1) := by decide +kernel
theorem dL_setHours_10 : decode cL_setHours 10 = .ok (.goto 11, 3) := by decide +kernel
theorem dL_setHours_13 : decode cL_setHours 13 = .ok (.astore 4, 2) := by decide +kernel
theorem dL_setHours_15 : decode cL_setHours 15 = .ok (.iconst 1, 1) := by decide +kernel
theorem dL_setHours_16 : decode cL_setHours 16 = .ok (.ireturn, 1) := by decide +kernel
theorem dL_setHours_17 : decode cL_setHours 17 = .ok (.astore 4, 2) := by decide +kernel
theorem dL_setHours_19 : decode cL_setHours 19 = .ok (.iconst 2, 1) := by decide +kernel
theorem dL_setHours_20 : decode cL_setHours 20 = .ok (.ireturn, 1) := by decide +kernel
theorem dL_setHours_21 : decode cL_setHours 21 = .ok (.iconst 0, 1) := by decide +kernel
theorem dL_setHours_22 : decode cL_setHours 22 = .ok (.ireturn, 1) := by decide +kernel
abbrev rL_setHours : Room := { frames := 8, cells := 2, slots := 12, locals := 134 }
abbrev mL_setHours : gY := (cL_setHours, RL, 5, rL_setHours)
def fL_setHours (x1 : Int32) (x2 : Int32) (M0 : gMem) : Option (Int32 × gMem) :=
  (fX10_setHours x1 x2 M0).bind fun v1 => gSE v1.1 (fun u2 => (wL v1.2 137 1 (0 : Int32) u2.toInt64).bind fun M4 => some ((0 : Int32), M4)) (fun x3 => if x3 = 2 then (some ((1 : Int32), v1.2)) else if x3 = 1 then (some ((2 : Int32), v1.2)) else none)
set_option maxRecDepth 20000 in
theorem tL_setHours {X : gX} {V : gEnv} {x1 : Int32} {x2 : Int32} {M0 : gMem} (hs9 : X.2.1.stackTraces = false) (hT9 : (gXc X).exceptionTable.toList = tableOf [(0, 10, 13, 35), (0, 10, 17, 19)])  {o : (Int32 × gMem)} (h : fL_setHours x1 x2 M0 = some o) (O : gO X V mL_setHours gShC (some .int) (some (.int o.1)) o.2) : gG X V mL_setHours gShC M0 0 0 0 [(0, .ref (gAd V 0)), (1, .int x1), (2, .int x2), (3, .ref (gAd V 137))] [] := by
  unfold fL_setHours at h
  refine g_aload_n 3 rfl rfl dL_setHours_0 ?_
  refine g_iconst (v := 0) rfl dL_setHours_1 ?_
  refine g_aload_n 0 rfl rfl dL_setHours_2 ?_
  refine g_iload_n 1 rfl rfl dL_setHours_3 ?_
  refine g_iload_n 2 rfl rfl dL_setHours_4 ?_
  obtain ⟨v1, ev1, h⟩ := g_bnd h
  have hk9 := (kX10_setHours (V := V) hs9 ev1)
  cases hq9 : v1.1 with
  | inl u2 =>
    rw [hq9] at h hk9
    have h := g_sl h
    refine g_callVX LL_94 sC_0 rfl hk9 rfl rfl (Nat.le_of_ble_eq_true rfl) ⟨Nat.le_of_ble_eq_true rfl, Nat.le_of_ble_eq_true rfl⟩ ⟨Nat.le_of_ble_eq_true rfl, Nat.le_of_ble_eq_true rfl⟩ dL_setHours_5 rfl ?_
    refine g_i2l dL_setHours_8 ?_
    obtain ⟨M4, eM4, h⟩ := g_bnd h
    refine g_last' eM4 sC_137 dL_setHours_9 ?_
    refine g_goto (tgt := 21) rfl dL_setHours_10 ?_
    refine g_iconst (v := 0) rfl dL_setHours_21 ?_
    cases h
    exact g_iret O ⟨Nat.le_of_ble_eq_true rfl, Nat.le_of_ble_eq_true rfl⟩ rfl dL_setHours_22
  | inr x3 =>
    rw [hq9] at h hk9
    have h := g_sr h
    rcases g_ite h with ⟨c5, h⟩ | ⟨c5, h⟩
    · subst c5
      refine g_callVC hT9 LL_94 sC_0 rfl hk9 rfl rfl (Nat.le_of_ble_eq_true rfl) ⟨Nat.le_of_ble_eq_true rfl, Nat.le_of_ble_eq_true rfl⟩ ⟨Nat.le_of_ble_eq_true rfl, Nat.le_of_ble_eq_true rfl⟩ dL_setHours_5 [] ⟨0, 10, 13, 35⟩ [⟨0, 10, 17, 19⟩] rfl (Or.inl rfl) rfl (by decide) YL_35 (by decide) (fun q9 => ?_)
      refine g_astore (ls' := [(4, .ref q9), (0, .ref (gAd V 0)), (1, .int x1), (2, .int x2), (3, .ref (gAd V 137))]) (Nat.le_of_ble_eq_true rfl) rfl dL_setHours_13 ?_
      refine g_iconst (v := 1) rfl dL_setHours_15 ?_
      cases h
      exact g_iret O ⟨Nat.le_of_ble_eq_true rfl, Nat.le_of_ble_eq_true rfl⟩ rfl dL_setHours_16
    ·
      rcases g_ite h with ⟨c6, h⟩ | ⟨c6, h⟩
      · subst c6
        refine g_callVC hT9 LL_94 sC_0 rfl hk9 rfl rfl (Nat.le_of_ble_eq_true rfl) ⟨Nat.le_of_ble_eq_true rfl, Nat.le_of_ble_eq_true rfl⟩ ⟨Nat.le_of_ble_eq_true rfl, Nat.le_of_ble_eq_true rfl⟩ dL_setHours_5 [⟨0, 10, 13, 35⟩] ⟨0, 10, 17, 19⟩ [] rfl (Or.inr ⟨⟨0, 10, 13, 35⟩, rfl, by decide, YL_35, rfl⟩) rfl (by decide) YL_19 (by decide) (fun q9 => ?_)
        refine g_astore (ls' := [(4, .ref q9), (0, .ref (gAd V 0)), (1, .int x1), (2, .int x2), (3, .ref (gAd V 137))]) (Nat.le_of_ble_eq_true rfl) rfl dL_setHours_17 ?_
        refine g_iconst (v := 2) rfl dL_setHours_19 ?_
        cases h
        exact g_iret O ⟨Nat.le_of_ble_eq_true rfl, Nat.le_of_ble_eq_true rfl⟩ rfl dL_setHours_20
      ·
        cases h
theorem kL_setHours {l : Launch} {V : gEnv} {M0 : gMem} {x1 : Int32} {x2 : Int32} (hst : l.stackTraces = false)  {o : (Int32 × gMem)} (h : fL_setHours x1 x2 M0 = some o) : gMT l yL_setHours cL_setHours 5 (some .int) [(0, 10, 13, 35), (0, 10, 17, 19)] rL_setHours V gShC [.ref (gAd V 0), .int x1, .int x2, .ref (gAd V 137)] M0 (some (.int o.1)) o.2 :=
  gMT.of (by decide) (Nat.le_of_ble_eq_true rfl) rfl (fun X hl9 hT O => tL_setHours (by rw [hl9]; exact hst) hT  h O)
theorem dL_set_0 : decode cL_set 0 = .ok (.aload_n 3, 1) := by decide +kernel
theorem dL_set_1 : decode cL_set 1 = .ok (.iconst 0, 1) := by decide +kernel
theorem dL_set_2 : decode cL_set 2 = .ok (.aload_n 0, 1) := by decide +kernel
theorem dL_set_3 : decode cL_set 3 = .ok (.iload_n 1, 1) := by decide +kernel
theorem dL_set_4 : decode cL_set 4 = .ok (.iload_n 2, 1) := by decide +kernel
theorem dL_set_5 : decode cL_set 5 = .ok (.invokevirtual 97, 3) := by decide +kernel
theorem dL_set_8 : decode cL_set 8 = .ok (.i2l, 1) := by decide +kernel
theorem dL_set_9 : decode cL_set 9 = .ok (.lastore, 1) := by decide +kernel
theorem dL_set_10 : decode cL_set 10 = .ok (.goto 7, 3) := by decide +kernel
theorem dL_set_13 : decode cL_set 13 = .ok (.astore 4, 2) := by decide +kernel
theorem dL_set_15 : decode cL_set 15 = .ok (.iconst 1, 1) := by decide +kernel
theorem dL_set_16 : decode cL_set 16 = .ok (.ireturn, 1) := by decide +kernel
theorem dL_set_17 : decode cL_set 17 = .ok (.iconst 0, 1) := by decide +kernel
theorem dL_set_18 : decode cL_set 18 = .ok (.ireturn, 1) := by decide +kernel
abbrev rL_set : Room := { frames := 7, cells := 1, slots := 6, locals := 126 }
abbrev mL_set : gY := (cL_set, RL, 5, rL_set)
def fL_set (x1 : Int32) (x2 : Int32) (M0 : gMem) : Option (Int32 × gMem) :=
  (fX10_set x1 x2 M0).bind fun v1 => gSE v1.1 (fun u2 => (wL v1.2 137 1 (0 : Int32) u2.toInt64).bind fun M4 => some ((0 : Int32), M4)) (fun x3 => if x3 = 1 then (some ((1 : Int32), v1.2)) else none)
set_option maxRecDepth 20000 in
theorem tL_set {X : gX} {V : gEnv} {x1 : Int32} {x2 : Int32} {M0 : gMem} (hs9 : X.2.1.stackTraces = false) (hT9 : (gXc X).exceptionTable.toList = tableOf [(0, 10, 13, 19)])  {o : (Int32 × gMem)} (h : fL_set x1 x2 M0 = some o) (O : gO X V mL_set gShC (some .int) (some (.int o.1)) o.2) : gG X V mL_set gShC M0 0 0 0 [(0, .ref (gAd V 0)), (1, .int x1), (2, .int x2), (3, .ref (gAd V 137))] [] := by
  unfold fL_set at h
  refine g_aload_n 3 rfl rfl dL_set_0 ?_
  refine g_iconst (v := 0) rfl dL_set_1 ?_
  refine g_aload_n 0 rfl rfl dL_set_2 ?_
  refine g_iload_n 1 rfl rfl dL_set_3 ?_
  refine g_iload_n 2 rfl rfl dL_set_4 ?_
  obtain ⟨v1, ev1, h⟩ := g_bnd h
  have hk9 := (kX10_set (V := V) hs9 ev1)
  cases hq9 : v1.1 with
  | inl u2 =>
    rw [hq9] at h hk9
    have h := g_sl h
    refine g_callVX LL_97 sC_0 rfl hk9 rfl rfl (Nat.le_of_ble_eq_true rfl) ⟨Nat.le_of_ble_eq_true rfl, Nat.le_of_ble_eq_true rfl⟩ ⟨Nat.le_of_ble_eq_true rfl, Nat.le_of_ble_eq_true rfl⟩ dL_set_5 rfl ?_
    refine g_i2l dL_set_8 ?_
    obtain ⟨M4, eM4, h⟩ := g_bnd h
    refine g_last' eM4 sC_137 dL_set_9 ?_
    refine g_goto (tgt := 17) rfl dL_set_10 ?_
    refine g_iconst (v := 0) rfl dL_set_17 ?_
    cases h
    exact g_iret O ⟨Nat.le_of_ble_eq_true rfl, Nat.le_of_ble_eq_true rfl⟩ rfl dL_set_18
  | inr x3 =>
    rw [hq9] at h hk9
    have h := g_sr h
    rcases g_ite h with ⟨c5, h⟩ | ⟨c5, h⟩
    · subst c5
      refine g_callVC hT9 LL_97 sC_0 rfl hk9 rfl rfl (Nat.le_of_ble_eq_true rfl) ⟨Nat.le_of_ble_eq_true rfl, Nat.le_of_ble_eq_true rfl⟩ ⟨Nat.le_of_ble_eq_true rfl, Nat.le_of_ble_eq_true rfl⟩ dL_set_5 [] ⟨0, 10, 13, 19⟩ [] rfl (Or.inl rfl) rfl (by decide) YL_19 (by decide) (fun q9 => ?_)
      refine g_astore (ls' := [(4, .ref q9), (0, .ref (gAd V 0)), (1, .int x1), (2, .int x2), (3, .ref (gAd V 137))]) (Nat.le_of_ble_eq_true rfl) rfl dL_set_13 ?_
      refine g_iconst (v := 1) rfl dL_set_15 ?_
      cases h
      exact g_iret O ⟨Nat.le_of_ble_eq_true rfl, Nat.le_of_ble_eq_true rfl⟩ rfl dL_set_16
    ·
      cases h
theorem kL_set {l : Launch} {V : gEnv} {M0 : gMem} {x1 : Int32} {x2 : Int32} (hst : l.stackTraces = false)  {o : (Int32 × gMem)} (h : fL_set x1 x2 M0 = some o) : gMT l yL_set cL_set 5 (some .int) [(0, 10, 13, 19)] rL_set V gShC [.ref (gAd V 0), .int x1, .int x2, .ref (gAd V 137)] M0 (some (.int o.1)) o.2 :=
  gMT.of (by decide) (Nat.le_of_ble_eq_true rfl) rfl (fun X hl9 hT O => tL_set (by rw [hl9]; exact hst) hT  h O)
theorem dL_writeArrows_0 : decode cL_writeArrows 0 = .ok (.aload_n 2, 1) := by decide +kernel
theorem dL_writeArrows_1 : decode cL_writeArrows 1 = .ok (.iconst 0, 1) := by decide +kernel
theorem dL_writeArrows_2 : decode cL_writeArrows 2 = .ok (.aload_n 0, 1) := by decide +kernel
theorem dL_writeArrows_3 : decode cL_writeArrows 3 = .ok (.iload_n 1, 1) := by decide +kernel
theorem dL_writeArrows_4 : decode cL_writeArrows 4 = .ok (.invokevirtual 100, 3) := by decide +kernel
theorem dL_writeArrows_7 : decode cL_writeArrows 7 = .ok (.i2l, 1) := by decide +kernel
theorem dL_writeArrows_8 : decode cL_writeArrows 8 = .ok (.lastore, 1) := by decide +kernel
theorem dL_writeArrows_9 : decode cL_writeArrows 9 = .ok (.goto 6, 3) := by decide +kernel
theorem dL_writeArrows_12 : decode cL_writeArrows 12 = .ok (.astore_n 3, 1) := by decide +kernel
theorem dL_writeArrows_13 : decode cL_writeArrows 13 = .ok (.iconst 1, 1) := by decide +kernel
theorem dL_writeArrows_14 : decode cL_writeArrows 14 = .ok (.ireturn, 1) := by decide +kernel
theorem dL_writeArrows_15 : decode cL_writeArrows 15 = .ok (.iconst 0, 1) := by decide +kernel
theorem dL_writeArrows_16 : decode cL_writeArrows 16 = .ok (.ireturn, 1) := by decide +kernel
abbrev rL_writeArrows : Room := { frames := 8, cells := 1, slots := 6, locals := 133 }
abbrev mL_writeArrows : gY := (cL_writeArrows, RL, 4, rL_writeArrows)
def fL_writeArrows (x1 : Int32) (M0 : gMem) : Option (Int32 × gMem) :=
  (fX10_writeArrows x1 M0).bind fun v1 => gSE v1.1 (fun u2 => (wL v1.2 137 1 (0 : Int32) u2.toInt64).bind fun M4 => some ((0 : Int32), M4)) (fun x3 => if x3 = 2 then (some ((1 : Int32), v1.2)) else none)
set_option maxRecDepth 20000 in
theorem tL_writeArrows {X : gX} {V : gEnv} {x1 : Int32} {M0 : gMem} (hs9 : X.2.1.stackTraces = false) (hT9 : (gXc X).exceptionTable.toList = tableOf [(0, 9, 12, 35)])  {o : (Int32 × gMem)} (h : fL_writeArrows x1 M0 = some o) (O : gO X V mL_writeArrows gShC (some .int) (some (.int o.1)) o.2) : gG X V mL_writeArrows gShC M0 0 0 0 [(0, .ref (gAd V 0)), (1, .int x1), (2, .ref (gAd V 137))] [] := by
  unfold fL_writeArrows at h
  refine g_aload_n 2 rfl rfl dL_writeArrows_0 ?_
  refine g_iconst (v := 0) rfl dL_writeArrows_1 ?_
  refine g_aload_n 0 rfl rfl dL_writeArrows_2 ?_
  refine g_iload_n 1 rfl rfl dL_writeArrows_3 ?_
  obtain ⟨v1, ev1, h⟩ := g_bnd h
  have hk9 := (kX10_writeArrows (V := V) hs9 ev1)
  cases hq9 : v1.1 with
  | inl u2 =>
    rw [hq9] at h hk9
    have h := g_sl h
    refine g_callVX LL_100 sC_0 rfl hk9 rfl rfl (Nat.le_of_ble_eq_true rfl) ⟨Nat.le_of_ble_eq_true rfl, Nat.le_of_ble_eq_true rfl⟩ ⟨Nat.le_of_ble_eq_true rfl, Nat.le_of_ble_eq_true rfl⟩ dL_writeArrows_4 rfl ?_
    refine g_i2l dL_writeArrows_7 ?_
    obtain ⟨M4, eM4, h⟩ := g_bnd h
    refine g_last' eM4 sC_137 dL_writeArrows_8 ?_
    refine g_goto (tgt := 15) rfl dL_writeArrows_9 ?_
    refine g_iconst (v := 0) rfl dL_writeArrows_15 ?_
    cases h
    exact g_iret O ⟨Nat.le_of_ble_eq_true rfl, Nat.le_of_ble_eq_true rfl⟩ rfl dL_writeArrows_16
  | inr x3 =>
    rw [hq9] at h hk9
    have h := g_sr h
    rcases g_ite h with ⟨c5, h⟩ | ⟨c5, h⟩
    · subst c5
      refine g_callVC hT9 LL_100 sC_0 rfl hk9 rfl rfl (Nat.le_of_ble_eq_true rfl) ⟨Nat.le_of_ble_eq_true rfl, Nat.le_of_ble_eq_true rfl⟩ ⟨Nat.le_of_ble_eq_true rfl, Nat.le_of_ble_eq_true rfl⟩ dL_writeArrows_4 [] ⟨0, 9, 12, 35⟩ [] rfl (Or.inl rfl) rfl (by decide) YL_35 (by decide) (fun q9 => ?_)
      refine g_astore_n (ls' := [(3, .ref q9), (0, .ref (gAd V 0)), (1, .int x1), (2, .ref (gAd V 137))]) rfl (Nat.le_of_ble_eq_true rfl) rfl dL_writeArrows_12 ?_
      refine g_iconst (v := 1) rfl dL_writeArrows_13 ?_
      cases h
      exact g_iret O ⟨Nat.le_of_ble_eq_true rfl, Nat.le_of_ble_eq_true rfl⟩ rfl dL_writeArrows_14
    ·
      cases h
theorem kL_writeArrows {l : Launch} {V : gEnv} {M0 : gMem} {x1 : Int32} (hst : l.stackTraces = false)  {o : (Int32 × gMem)} (h : fL_writeArrows x1 M0 = some o) : gMT l yL_writeArrows cL_writeArrows 4 (some .int) [(0, 9, 12, 35)] rL_writeArrows V gShC [.ref (gAd V 0), .int x1, .ref (gAd V 137)] M0 (some (.int o.1)) o.2 :=
  gMT.of (by decide) (Nat.le_of_ble_eq_true rfl) rfl (fun X hl9 hT O => tL_writeArrows (by rw [hl9]; exact hst) hT  h O)
theorem dL_restore_0 : decode cL_restore 0 = .ok (.aload_n 1, 1) := by decide +kernel
theorem dL_restore_1 : decode cL_restore 1 = .ok (.iconst 0, 1) := by decide +kernel
theorem dL_restore_2 : decode cL_restore 2 = .ok (.aload_n 0, 1) := by decide +kernel
theorem dL_restore_3 : decode cL_restore 3 = .ok (.invokevirtual 103, 3) := by decide +kernel
theorem dL_restore_6 : decode cL_restore 6 = .ok (.i2l, 1) := by decide +kernel
theorem dL_restore_7 : decode cL_restore 7 = .ok (.lastore, 1) := by decide +kernel
theorem dL_restore_8 : decode cL_restore 8 = .ok (.goto 6, 3) := by decide +kernel
theorem dL_restore_11 : decode cL_restore 11 = .ok (.astore_n 2, 1) := by decide +kernel
theorem dL_restore_12 : decode cL_restore 12 = .ok (.iconst 1, 1) := by decide +kernel
theorem dL_restore_13 : decode cL_restore 13 = .ok (.ireturn, 1) := by decide +kernel
theorem dL_restore_14 : decode cL_restore 14 = .ok (.iconst 0, 1) := by decide +kernel
theorem dL_restore_15 : decode cL_restore 15 = .ok (.ireturn, 1) := by decide +kernel
abbrev rL_restore : Room := { frames := 7, cells := 1, slots := 6, locals := 110 }
abbrev mL_restore : gY := (cL_restore, RL, 3, rL_restore)
def fL_restore (M0 : gMem) : Option (Int32 × gMem) :=
  (fX10_restore M0).bind fun v1 => gSE v1.1 (fun u2 => (wL v1.2 137 1 (0 : Int32) u2.toInt64).bind fun M4 => some ((0 : Int32), M4)) (fun x3 => if x3 = 0 then (some ((1 : Int32), v1.2)) else none)
set_option maxRecDepth 20000 in
theorem tL_restore {X : gX} {V : gEnv} {M0 : gMem} (hs9 : X.2.1.stackTraces = false) (hT9 : (gXc X).exceptionTable.toList = tableOf [(0, 8, 11, 13)])  {o : (Int32 × gMem)} (h : fL_restore M0 = some o) (O : gO X V mL_restore gShC (some .int) (some (.int o.1)) o.2) : gG X V mL_restore gShC M0 0 0 0 [(0, .ref (gAd V 0)), (1, .ref (gAd V 137))] [] := by
  unfold fL_restore at h
  refine g_aload_n 1 rfl rfl dL_restore_0 ?_
  refine g_iconst (v := 0) rfl dL_restore_1 ?_
  refine g_aload_n 0 rfl rfl dL_restore_2 ?_
  obtain ⟨v1, ev1, h⟩ := g_bnd h
  have hk9 := (kX10_restore (V := V) hs9 ev1)
  cases hq9 : v1.1 with
  | inl u2 =>
    rw [hq9] at h hk9
    have h := g_sl h
    refine g_callVX LL_103 sC_0 rfl hk9 rfl rfl (Nat.le_of_ble_eq_true rfl) ⟨Nat.le_of_ble_eq_true rfl, Nat.le_of_ble_eq_true rfl⟩ ⟨Nat.le_of_ble_eq_true rfl, Nat.le_of_ble_eq_true rfl⟩ dL_restore_3 rfl ?_
    refine g_i2l dL_restore_6 ?_
    obtain ⟨M4, eM4, h⟩ := g_bnd h
    refine g_last' eM4 sC_137 dL_restore_7 ?_
    refine g_goto (tgt := 14) rfl dL_restore_8 ?_
    refine g_iconst (v := 0) rfl dL_restore_14 ?_
    cases h
    exact g_iret O ⟨Nat.le_of_ble_eq_true rfl, Nat.le_of_ble_eq_true rfl⟩ rfl dL_restore_15
  | inr x3 =>
    rw [hq9] at h hk9
    have h := g_sr h
    rcases g_ite h with ⟨c5, h⟩ | ⟨c5, h⟩
    · subst c5
      refine g_callVC hT9 LL_103 sC_0 rfl hk9 rfl rfl (Nat.le_of_ble_eq_true rfl) ⟨Nat.le_of_ble_eq_true rfl, Nat.le_of_ble_eq_true rfl⟩ ⟨Nat.le_of_ble_eq_true rfl, Nat.le_of_ble_eq_true rfl⟩ dL_restore_3 [] ⟨0, 8, 11, 13⟩ [] rfl (Or.inl rfl) rfl (by decide) YL_13 (by decide) (fun q9 => ?_)
      refine g_astore_n (ls' := [(2, .ref q9), (0, .ref (gAd V 0)), (1, .ref (gAd V 137))]) rfl (Nat.le_of_ble_eq_true rfl) rfl dL_restore_11 ?_
      refine g_iconst (v := 1) rfl dL_restore_12 ?_
      cases h
      exact g_iret O ⟨Nat.le_of_ble_eq_true rfl, Nat.le_of_ble_eq_true rfl⟩ rfl dL_restore_13
    ·
      cases h
theorem kL_restore {l : Launch} {V : gEnv} {M0 : gMem}  (hst : l.stackTraces = false)  {o : (Int32 × gMem)} (h : fL_restore M0 = some o) : gMT l yL_restore cL_restore 3 (some .int) [(0, 8, 11, 13)] rL_restore V gShC [.ref (gAd V 0), .ref (gAd V 137)] M0 (some (.int o.1)) o.2 :=
  gMT.of (by decide) (Nat.le_of_ble_eq_true rfl) rfl (fun X hl9 hT O => tL_restore (by rw [hl9]; exact hst) hT  h O)
