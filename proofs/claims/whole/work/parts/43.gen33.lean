/-! METHODS, by program: pure functions and contracts -/
theorem dX10_checkHours_0 : decode cX10_checkHours 0 = .ok (.iload_n 0, 1) := by decide +kernel
theorem dX10_checkHours_1 : decode cX10_checkHours 1 = .ok (.iconst 1, 1) := by decide +kernel
theorem dX10_checkHours_2 : decode cX10_checkHours 2 = .ok (.if_icmp .lt 9, 3) := by decide +kernel
theorem dX10_checkHours_5 : decode cX10_checkHours 5 = .ok (.iload_n 0, 1) := by decide +kernel
theorem dX10_checkHours_6 : decode cX10_checkHours 6 = .ok (.bipush 9, 2) := by decide +kernel
theorem dX10_checkHours_8 : decode cX10_checkHours 8 = .ok (.if_icmp .le 14, 3) := by decide +kernel
theorem dX10_checkHours_11 : decode cX10_checkHours 11 = .ok (.new 110, 3) := by decide +kernel
theorem dX10_checkHours_14 : decode cX10_checkHours 14 = .ok (.dup, 1) := by decide +kernel
theorem dX10_checkHours_15 : decode cX10_checkHours 15 = .ok (.ldc_w 396, 3) := by decide +kernel
theorem dX10_checkHours_18 : decode cX10_checkHours 18 = .ok (.invokespecial 114, 3) := by decide +kernel
theorem dX10_checkHours_21 : decode cX10_checkHours 21 = .ok (.athrow, 1) := by decide +kernel
theorem dX10_checkHours_22 : decode cX10_checkHours 22 = .ok (.return_, 1) := by decide +kernel
abbrev rX10_checkHours : Room := { frames := 6, cells := 1, slots := 6, locals := 90 }
abbrev mX10_checkHours : gY := (cX10_checkHours, RX10, 1, rX10_checkHours)
def fX10_checkHours_b11  : Option (Unit ⊕ Nat) :=
  some (.inr 1)
set_option maxRecDepth 20000 in
theorem tX10_checkHours_b11 {X : gX} {V : gEnv} {M0 : gMem}   {o : (Unit ⊕ Nat)} (h : fX10_checkHours_b11  = some o) (O : gOX X V mX10_checkHours gShC none (gOV o) M0) : gG X V mX10_checkHours gShC M0 0 0 11 [] [] := by
  unfold fX10_checkHours_b11 at h
  cases h
  exact g_throwW O U_1 SX10_396 ⟨Nat.le_of_ble_eq_true rfl, Nat.le_of_ble_eq_true rfl⟩ ⟨Nat.le_of_ble_eq_true rfl, Nat.le_of_ble_eq_true rfl⟩ dX10_checkHours_11 dX10_checkHours_14 dX10_checkHours_15 dX10_checkHours_18 dX10_checkHours_21
def fX10_checkHours (x0 : Int32) : Option (Unit ⊕ Nat) :=
  if x0 < (1 : Int32) then (fX10_checkHours_b11 ) else if x0 ≤ (9 : Int32) then (some (.inl ())) else fX10_checkHours_b11 
set_option maxRecDepth 20000 in
theorem tX10_checkHours {X : gX} {V : gEnv} {M0 : gMem} {x0 : Int32}  {o : (Unit ⊕ Nat)} (h : fX10_checkHours x0 = some o) (O : gOX X V mX10_checkHours gShC none (gOV o) M0) : gG X V mX10_checkHours gShC M0 0 0 0 [(0, .int x0)] [] := by
  unfold fX10_checkHours at h
  refine g_iload_n 0 rfl rfl dX10_checkHours_0 ?_
  refine g_iconst (v := 1) rfl dX10_checkHours_1 ?_
  rcases g_ite h with ⟨c1, h⟩ | ⟨c1, h⟩
  · refine g_icmp_lt_t c1 (tgt := 11) rfl dX10_checkHours_2 ?_
    refine g_sub [] rfl ?_
    exact tX10_checkHours_b11  h O
  · refine g_icmp_lt_f c1 (tgt := 11) rfl dX10_checkHours_2 ?_
    refine g_iload_n 0 rfl rfl dX10_checkHours_5 ?_
    refine g_bipush (v := 9) rfl dX10_checkHours_6 ?_
    rcases g_ite h with ⟨c2, h⟩ | ⟨c2, h⟩
    · refine g_icmp_le_t c2 (tgt := 22) rfl dX10_checkHours_8 ?_
      cases h
      exact g_vretX O ⟨Nat.le_of_ble_eq_true rfl, Nat.le_of_ble_eq_true rfl⟩ dX10_checkHours_22
    · refine g_icmp_le_f c2 (tgt := 22) rfl dX10_checkHours_8 ?_
      refine g_sub [] rfl ?_
      exact tX10_checkHours_b11  h O
theorem kX10_checkHours {l : Launch} {V : gEnv} {M0 : gMem} {x0 : Int32} (hst : l.stackTraces = false)  {o : (Unit ⊕ Nat)} (h : fX10_checkHours x0 = some o) : gMX l yX10_checkHours cX10_checkHours 1 none rX10_checkHours V gShC [.int x0] M0 (gOV o) M0 :=
  gMX.of hst (by decide) (Nat.le_of_ble_eq_true rfl) rfl (fun X _ O => tX10_checkHours  h O)
theorem dX10_make_0 : decode cX10_make 0 = .ok (.iload_n 1, 1) := by decide +kernel
theorem dX10_make_1 : decode cX10_make 1 = .ok (.invokestatic 342, 3) := by decide +kernel
theorem dX10_make_4 : decode cX10_make 4 = .ok (.aload_n 0, 1) := by decide +kernel
theorem dX10_make_5 : decode cX10_make 5 = .ok (.getfield 37, 3) := by decide +kernel
theorem dX10_make_8 : decode cX10_make 8 = .ok (.invokevirtual 345, 3) := by decide +kernel
theorem dX10_make_11 : decode cX10_make 11 = .ok (.lstore_n 2, 1) := by decide +kernel
theorem dX10_make_12 : decode cX10_make 12 = .ok (.lload_n 2, 1) := by decide +kernel
theorem dX10_make_13 : decode cX10_make 13 = .ok (.lconst 0, 1) := by decide +kernel
theorem dX10_make_14 : decode cX10_make 14 = .ok (.lcmp, 1) := by decide +kernel
theorem dX10_make_15 : decode cX10_make 15 = .ok (.ifCond .ne 6, 3) := by decide +kernel
theorem dX10_make_18 : decode cX10_make 18 = .ok (.bipush (-8), 2) := by decide +kernel
theorem dX10_make_20 : decode cX10_make 20 = .ok (.ireturn, 1) := by decide +kernel
theorem dX10_make_21 : decode cX10_make 21 = .ok (.aload_n 0, 1) := by decide +kernel
theorem dX10_make_22 : decode cX10_make 22 = .ok (.getfield 12, 3) := by decide +kernel
theorem dX10_make_25 : decode cX10_make 25 = .ok (.getfield 125, 3) := by decide +kernel
theorem dX10_make_28 : decode cX10_make 28 = .ok (.bipush 24, 2) := by decide +kernel
theorem dX10_make_30 : decode cX10_make 30 = .ok (.if_icmp .lt 6, 3) := by decide +kernel
theorem dX10_make_33 : decode cX10_make 33 = .ok (.bipush (-6), 2) := by decide +kernel
theorem dX10_make_35 : decode cX10_make 35 = .ok (.ireturn, 1) := by decide +kernel
theorem dX10_make_36 : decode cX10_make 36 = .ok (.aload_n 0, 1) := by decide +kernel
theorem dX10_make_37 : decode cX10_make 37 = .ok (.getfield 12, 3) := by decide +kernel
theorem dX10_make_40 : decode cX10_make 40 = .ok (.lload_n 2, 1) := by decide +kernel
theorem dX10_make_41 : decode cX10_make 41 = .ok (.invokevirtual 349, 3) := by decide +kernel
theorem dX10_make_44 : decode cX10_make 44 = .ok (.iconst (-1), 1) := by decide +kernel
theorem dX10_make_45 : decode cX10_make 45 = .ok (.if_icmp .eq 6, 3) := by decide +kernel
theorem dX10_make_48 : decode cX10_make 48 = .ok (.bipush (-7), 2) := by decide +kernel
theorem dX10_make_50 : decode cX10_make 50 = .ok (.ireturn, 1) := by decide +kernel
theorem dX10_make_51 : decode cX10_make 51 = .ok (.aload_n 0, 1) := by decide +kernel
theorem dX10_make_52 : decode cX10_make 52 = .ok (.invokevirtual 133, 3) := by decide +kernel
theorem dX10_make_55 : decode cX10_make 55 = .ok (.aload_n 0, 1) := by decide +kernel
theorem dX10_make_56 : decode cX10_make 56 = .ok (.getfield 37, 3) := by decide +kernel
theorem dX10_make_59 : decode cX10_make 59 = .ok (.iconst 0, 1) := by decide +kernel
theorem dX10_make_60 : decode cX10_make 60 = .ok (.putfield 96, 3) := by decide +kernel
theorem dX10_make_63 : decode cX10_make 63 = .ok (.aload_n 0, 1) := by decide +kernel
theorem dX10_make_64 : decode cX10_make 64 = .ok (.getfield 12, 3) := by decide +kernel
theorem dX10_make_67 : decode cX10_make 67 = .ok (.lload_n 2, 1) := by decide +kernel
theorem dX10_make_68 : decode cX10_make 68 = .ok (.iload_n 1, 1) := by decide +kernel
theorem dX10_make_69 : decode cX10_make 69 = .ok (.invokevirtual 92, 3) := by decide +kernel
theorem dX10_make_72 : decode cX10_make 72 = .ok (.aload_n 0, 1) := by decide +kernel
theorem dX10_make_73 : decode cX10_make 73 = .ok (.getfield 12, 3) := by decide +kernel
theorem dX10_make_76 : decode cX10_make 76 = .ok (.getfield 125, 3) := by decide +kernel
theorem dX10_make_79 : decode cX10_make 79 = .ok (.iconst 1, 1) := by decide +kernel
theorem dX10_make_80 : decode cX10_make 80 = .ok (.isub, 1) := by decide +kernel
theorem dX10_make_81 : decode cX10_make 81 = .ok (.ireturn, 1) := by decide +kernel
abbrev rX10_make : Room := { frames := 7, cells := 1, slots := 6, locals := 110 }
abbrev mX10_make : gY := (cX10_make, RX10, 4, rX10_make)
def fX10_make (x1 : Int32) (M0 : gMem) : Option ((Int32 ⊕ Nat) × gMem) :=
  (fX10_checkHours x1).bind fun v1 => gSE v1 (fun u2 => (fX5_wholeName M0).bind fun v4 => if (lg_cmp v4 (0 : Int64)) = 0 then (some (.inl (-8 : Int32), M0)) else if (M0.1 1 9) < (24 : Int32) then ((fX2_taskNamed 1 v4 M0).bind fun v7 => if v7 = (-1 : Int32) then ((fX10_remember M0).bind fun v9 => (wF v9 32 1 (0 : Int32)).bind fun M10 => (fX2_addTask 1 v4 x1 M10).bind fun v11 => some (.inl ((v11.1 1 9) - (1 : Int32)), v11)) else some (.inl (-7 : Int32), M0)) else some (.inl (-6 : Int32), M0)) (fun x3 => some (.inr x3, M0))
set_option maxRecDepth 20000 in
theorem tX10_make {X : gX} {V : gEnv} {x1 : Int32} {M0 : gMem}  {o : ((Int32 ⊕ Nat) × gMem)} (h : fX10_make x1 M0 = some o) (O : gOX X V mX10_make gShC (some .int) (gOI o.1) o.2) : gG X V mX10_make gShC M0 0 0 0 [(0, .ref (gAd V 0)), (1, .int x1)] [] := by
  unfold fX10_make at h
  refine g_iload_n 1 rfl rfl dX10_make_0 ?_
  obtain ⟨v1, ev1, h⟩ := g_bnd h
  rcases v1 with u2 | x3
  · have h := g_sl h
    refine g_callSX LX10_342 (kX10_checkHours O.2.2.1 ev1) rfl rfl (Nat.le_of_ble_eq_true rfl) ⟨Nat.le_of_ble_eq_true rfl, Nat.le_of_ble_eq_true rfl⟩ ⟨Nat.le_of_ble_eq_true rfl, Nat.le_of_ble_eq_true rfl⟩ dX10_make_1 rfl ?_
    refine g_aload_n 0 rfl rfl dX10_make_4 ?_
    refine g_getR FX10_37 sC_0 rfl dX10_make_5 ?_
    obtain ⟨v4, ev4, h⟩ := g_bnd h
    refine g_callV LX10_345 sC_32 rfl (kX5_wholeName ev4) rfl rfl (Nat.le_of_ble_eq_true rfl) ⟨Nat.le_of_ble_eq_true rfl, Nat.le_of_ble_eq_true rfl⟩ ⟨Nat.le_of_ble_eq_true rfl, Nat.le_of_ble_eq_true rfl⟩ dX10_make_8 rfl ?_
    refine g_lstore_n (ls' := [(2, .long v4), (0, .ref (gAd V 0)), (1, .int x1)]) rfl (Nat.le_of_ble_eq_true rfl) rfl dX10_make_11 ?_
    refine g_lload_n 0 rfl rfl dX10_make_12 ?_
    refine g_lconst (v := 0) rfl dX10_make_13 ?_
    refine g_lcmp dX10_make_14 ?_
    rcases g_ite h with ⟨c5, h⟩ | ⟨c5, h⟩
    · refine g_if_ne_f c5 (tgt := 21) rfl dX10_make_15 ?_
      refine g_bipush (v := -8) rfl dX10_make_18 ?_
      cases h
      exact g_iretX O ⟨Nat.le_of_ble_eq_true rfl, Nat.le_of_ble_eq_true rfl⟩ rfl dX10_make_20
    · refine g_if_ne_t c5 (tgt := 21) rfl dX10_make_15 ?_
      refine g_aload_n 1 rfl rfl dX10_make_21 ?_
      refine g_getR FX10_12 sC_0 rfl dX10_make_22 ?_
      refine g_getI FX10_125 sC_1 rfl dX10_make_25 ?_
      refine g_bipush (v := 24) rfl dX10_make_28 ?_
      rcases g_ite h with ⟨c6, h⟩ | ⟨c6, h⟩
      · refine g_icmp_lt_t c6 (tgt := 36) rfl dX10_make_30 ?_
        refine g_aload_n 1 rfl rfl dX10_make_36 ?_
        refine g_getR FX10_12 sC_0 rfl dX10_make_37 ?_
        refine g_lload_n 0 rfl rfl dX10_make_40 ?_
        obtain ⟨v7, ev7, h⟩ := g_bnd h
        refine g_callV LX10_349 sC_1 rfl (kX2_taskNamed nC_1 ev7) rfl rfl (Nat.le_of_ble_eq_true rfl) ⟨Nat.le_of_ble_eq_true rfl, Nat.le_of_ble_eq_true rfl⟩ ⟨Nat.le_of_ble_eq_true rfl, Nat.le_of_ble_eq_true rfl⟩ dX10_make_41 rfl ?_
        refine g_iconst (v := -1) rfl dX10_make_44 ?_
        rcases g_ite h with ⟨c8, h⟩ | ⟨c8, h⟩
        · refine g_icmp_eq_t c8 (tgt := 51) rfl dX10_make_45 ?_
          refine g_aload_n 1 rfl rfl dX10_make_51 ?_
          obtain ⟨v9, ev9, h⟩ := g_bnd h
          refine g_callV LX10_133 sC_0 rfl (kX10_remember ev9) rfl rfl (Nat.le_of_ble_eq_true rfl) ⟨Nat.le_of_ble_eq_true rfl, Nat.le_of_ble_eq_true rfl⟩ ⟨Nat.le_of_ble_eq_true rfl, Nat.le_of_ble_eq_true rfl⟩ dX10_make_52 rfl ?_
          refine g_aload_n 1 rfl rfl dX10_make_55 ?_
          refine g_getR FX10_37 sC_0 rfl dX10_make_56 ?_
          refine g_iconst (v := 0) rfl dX10_make_59 ?_
          obtain ⟨M10, eM10, h⟩ := g_bnd h
          refine g_putI' eM10 FX10_96 jX5 sC_32 rfl rfl rfl dX10_make_60 ?_
          refine g_aload_n 1 rfl rfl dX10_make_63 ?_
          refine g_getR FX10_12 sC_0 rfl dX10_make_64 ?_
          refine g_lload_n 0 rfl rfl dX10_make_67 ?_
          refine g_iload_n 2 rfl rfl dX10_make_68 ?_
          obtain ⟨v11, ev11, h⟩ := g_bnd h
          refine g_callV LX10_92 sC_1 rfl (kX2_addTask nC_1 ev11) rfl rfl (Nat.le_of_ble_eq_true rfl) ⟨Nat.le_of_ble_eq_true rfl, Nat.le_of_ble_eq_true rfl⟩ ⟨Nat.le_of_ble_eq_true rfl, Nat.le_of_ble_eq_true rfl⟩ dX10_make_69 rfl ?_
          refine g_aload_n 1 rfl rfl dX10_make_72 ?_
          refine g_getR FX10_12 sC_0 rfl dX10_make_73 ?_
          refine g_getI FX10_125 sC_1 rfl dX10_make_76 ?_
          refine g_iconst (v := 1) rfl dX10_make_79 ?_
          refine g_isub dX10_make_80 ?_
          cases h
          exact g_iretX O ⟨Nat.le_of_ble_eq_true rfl, Nat.le_of_ble_eq_true rfl⟩ rfl dX10_make_81
        · refine g_icmp_eq_f c8 (tgt := 51) rfl dX10_make_45 ?_
          refine g_bipush (v := -7) rfl dX10_make_48 ?_
          cases h
          exact g_iretX O ⟨Nat.le_of_ble_eq_true rfl, Nat.le_of_ble_eq_true rfl⟩ rfl dX10_make_50
      · refine g_icmp_lt_f c6 (tgt := 36) rfl dX10_make_30 ?_
        refine g_bipush (v := -6) rfl dX10_make_33 ?_
        cases h
        exact g_iretX O ⟨Nat.le_of_ble_eq_true rfl, Nat.le_of_ble_eq_true rfl⟩ rfl dX10_make_35
  · have h := g_sr h
    cases h
    exact g_callST LX10_342 O (kX10_checkHours O.2.2.1 ev1) rfl rfl (Nat.le_of_ble_eq_true rfl) ⟨Nat.le_of_ble_eq_true rfl, Nat.le_of_ble_eq_true rfl⟩ ⟨Nat.le_of_ble_eq_true rfl, Nat.le_of_ble_eq_true rfl⟩ dX10_make_1
theorem kX10_make {l : Launch} {V : gEnv} {M0 : gMem} {x1 : Int32} (hst : l.stackTraces = false)  {o : ((Int32 ⊕ Nat) × gMem)} (h : fX10_make x1 M0 = some o) : gMX l yX10_make cX10_make 4 (some .int) rX10_make V gShC [.ref (gAd V 0), .int x1] M0 (gOI o.1) o.2 :=
  gMX.of hst (by decide) (Nat.le_of_ble_eq_true rfl) rfl (fun X _ O => tX10_make  h O)
theorem dX10_add_0 : decode cX10_add 0 = .ok (.aload_n 0, 1) := by decide +kernel
theorem dX10_add_1 : decode cX10_add 1 = .ok (.iload_n 1, 1) := by decide +kernel
theorem dX10_add_2 : decode cX10_add 2 = .ok (.invokevirtual 170, 3) := by decide +kernel
theorem dX10_add_5 : decode cX10_add 5 = .ok (.aload_n 0, 1) := by decide +kernel
theorem dX10_add_6 : decode cX10_add 6 = .ok (.iload_n 2, 1) := by decide +kernel
theorem dX10_add_7 : decode cX10_add 7 = .ok (.invokevirtual 170, 3) := by decide +kernel
theorem dX10_add_10 : decode cX10_add 10 = .ok (.aload_n 0, 1) := by decide +kernel
theorem dX10_add_11 : decode cX10_add 11 = .ok (.getfield 12, 3) := by decide +kernel
theorem dX10_add_14 : decode cX10_add 14 = .ok (.iload_n 1, 1) := by decide +kernel
theorem dX10_add_15 : decode cX10_add 15 = .ok (.iload_n 2, 1) := by decide +kernel
theorem dX10_add_16 : decode cX10_add 16 = .ok (.invokevirtual 275, 3) := by decide +kernel
theorem dX10_add_19 : decode cX10_add 19 = .ok (.istore_n 3, 1) := by decide +kernel
theorem dX10_add_20 : decode cX10_add 20 = .ok (.iload_n 3, 1) := by decide +kernel
theorem dX10_add_21 : decode cX10_add 21 = .ok (.ifCond .eq 6, 3) := by decide +kernel
theorem dX10_add_24 : decode cX10_add 24 = .ok (.iload_n 3, 1) := by decide +kernel
theorem dX10_add_25 : decode cX10_add 25 = .ok (.ineg, 1) := by decide +kernel
theorem dX10_add_26 : decode cX10_add 26 = .ok (.ireturn, 1) := by decide +kernel
theorem dX10_add_27 : decode cX10_add 27 = .ok (.aload_n 0, 1) := by decide +kernel
theorem dX10_add_28 : decode cX10_add 28 = .ok (.invokevirtual 133, 3) := by decide +kernel
theorem dX10_add_31 : decode cX10_add 31 = .ok (.aload_n 0, 1) := by decide +kernel
theorem dX10_add_32 : decode cX10_add 32 = .ok (.getfield 65, 3) := by decide +kernel
theorem dX10_add_35 : decode cX10_add 35 = .ok (.aload_n 0, 1) := by decide +kernel
theorem dX10_add_36 : decode cX10_add 36 = .ok (.getfield 12, 3) := by decide +kernel
theorem dX10_add_39 : decode cX10_add 39 = .ok (.iload_n 1, 1) := by decide +kernel
theorem dX10_add_40 : decode cX10_add 40 = .ok (.iload_n 2, 1) := by decide +kernel
theorem dX10_add_41 : decode cX10_add 41 = .ok (.invokevirtual 352, 3) := by decide +kernel
theorem dX10_add_44 : decode cX10_add 44 = .ok (.ireturn, 1) := by decide +kernel
abbrev rX10_add : Room := { frames := 7, cells := 2, slots := 12, locals := 111 }
abbrev mX10_add : gY := (cX10_add, RX10, 4, rX10_add)
def fX10_add (x1 : Int32) (x2 : Int32) (M0 : gMem) : Option ((Int32 ⊕ Nat) × gMem) :=
  (fX10_checkTask x1 M0).bind fun v1 => gSE v1 (fun u2 => (fX10_checkTask x2 M0).bind fun v4 => gSE v4 (fun u5 => (fX2_refusal 1 x1 x2 M0).bind fun v7 => if v7 = 0 then ((fX10_remember M0).bind fun v9 => (fX6_bring 1 x1 x2 v9).bind fun v10 => some (.inl v10.1, v10.2)) else some (.inl (-v7), M0)) (fun x6 => some (.inr x6, M0))) (fun x3 => some (.inr x3, M0))
set_option maxRecDepth 20000 in
theorem tX10_add {X : gX} {V : gEnv} {x1 : Int32} {x2 : Int32} {M0 : gMem}  {o : ((Int32 ⊕ Nat) × gMem)} (h : fX10_add x1 x2 M0 = some o) (O : gOX X V mX10_add gShC (some .int) (gOI o.1) o.2) : gG X V mX10_add gShC M0 0 0 0 [(0, .ref (gAd V 0)), (1, .int x1), (2, .int x2)] [] := by
  unfold fX10_add at h
  refine g_aload_n 0 rfl rfl dX10_add_0 ?_
  refine g_iload_n 1 rfl rfl dX10_add_1 ?_
  obtain ⟨v1, ev1, h⟩ := g_bnd h
  rcases v1 with u2 | x3
  · have h := g_sl h
    refine g_callVX LX10_170 sC_0 rfl (kX10_checkTask O.2.2.1 ev1) rfl rfl (Nat.le_of_ble_eq_true rfl) ⟨Nat.le_of_ble_eq_true rfl, Nat.le_of_ble_eq_true rfl⟩ ⟨Nat.le_of_ble_eq_true rfl, Nat.le_of_ble_eq_true rfl⟩ dX10_add_2 rfl ?_
    refine g_aload_n 0 rfl rfl dX10_add_5 ?_
    refine g_iload_n 2 rfl rfl dX10_add_6 ?_
    obtain ⟨v4, ev4, h⟩ := g_bnd h
    rcases v4 with u5 | x6
    · have h := g_sl h
      refine g_callVX LX10_170 sC_0 rfl (kX10_checkTask O.2.2.1 ev4) rfl rfl (Nat.le_of_ble_eq_true rfl) ⟨Nat.le_of_ble_eq_true rfl, Nat.le_of_ble_eq_true rfl⟩ ⟨Nat.le_of_ble_eq_true rfl, Nat.le_of_ble_eq_true rfl⟩ dX10_add_7 rfl ?_
      refine g_aload_n 0 rfl rfl dX10_add_10 ?_
      refine g_getR FX10_12 sC_0 rfl dX10_add_11 ?_
      refine g_iload_n 1 rfl rfl dX10_add_14 ?_
      refine g_iload_n 2 rfl rfl dX10_add_15 ?_
      obtain ⟨v7, ev7, h⟩ := g_bnd h
      refine g_callV LX10_275 sC_1 rfl (kX2_refusal nC_1 ev7) rfl rfl (Nat.le_of_ble_eq_true rfl) ⟨Nat.le_of_ble_eq_true rfl, Nat.le_of_ble_eq_true rfl⟩ ⟨Nat.le_of_ble_eq_true rfl, Nat.le_of_ble_eq_true rfl⟩ dX10_add_16 rfl ?_
      refine g_istore_n (ls' := [(3, .int v7), (0, .ref (gAd V 0)), (1, .int x1), (2, .int x2)]) rfl (Nat.le_of_ble_eq_true rfl) rfl dX10_add_19 ?_
      refine g_iload_n 0 rfl rfl dX10_add_20 ?_
      rcases g_ite h with ⟨c8, h⟩ | ⟨c8, h⟩
      · refine g_if_eq_t c8 (tgt := 27) rfl dX10_add_21 ?_
        refine g_aload_n 1 rfl rfl dX10_add_27 ?_
        obtain ⟨v9, ev9, h⟩ := g_bnd h
        refine g_callV LX10_133 sC_0 rfl (kX10_remember ev9) rfl rfl (Nat.le_of_ble_eq_true rfl) ⟨Nat.le_of_ble_eq_true rfl, Nat.le_of_ble_eq_true rfl⟩ ⟨Nat.le_of_ble_eq_true rfl, Nat.le_of_ble_eq_true rfl⟩ dX10_add_28 rfl ?_
        refine g_aload_n 1 rfl rfl dX10_add_31 ?_
        refine g_getR FX10_65 sC_0 rfl dX10_add_32 ?_
        refine g_aload_n 1 rfl rfl dX10_add_35 ?_
        refine g_getR FX10_12 sC_0 rfl dX10_add_36 ?_
        refine g_iload_n 2 rfl rfl dX10_add_39 ?_
        refine g_iload_n 3 rfl rfl dX10_add_40 ?_
        obtain ⟨v10, ev10, h⟩ := g_bnd h
        refine g_callV LX10_352 sC_41 rfl (kX6_bring nC_1 ev10) rfl rfl (Nat.le_of_ble_eq_true rfl) ⟨Nat.le_of_ble_eq_true rfl, Nat.le_of_ble_eq_true rfl⟩ ⟨Nat.le_of_ble_eq_true rfl, Nat.le_of_ble_eq_true rfl⟩ dX10_add_41 rfl ?_
        cases h
        exact g_iretX O ⟨Nat.le_of_ble_eq_true rfl, Nat.le_of_ble_eq_true rfl⟩ rfl dX10_add_44
      · refine g_if_eq_f c8 (tgt := 27) rfl dX10_add_21 ?_
        refine g_iload_n 0 rfl rfl dX10_add_24 ?_
        refine g_ineg dX10_add_25 ?_
        cases h
        exact g_iretX O ⟨Nat.le_of_ble_eq_true rfl, Nat.le_of_ble_eq_true rfl⟩ rfl dX10_add_26
    · have h := g_sr h
      cases h
      exact g_callVT LX10_170 sC_0 rfl O (kX10_checkTask O.2.2.1 ev4) rfl rfl (Nat.le_of_ble_eq_true rfl) ⟨Nat.le_of_ble_eq_true rfl, Nat.le_of_ble_eq_true rfl⟩ ⟨Nat.le_of_ble_eq_true rfl, Nat.le_of_ble_eq_true rfl⟩ dX10_add_7
  · have h := g_sr h
    cases h
    exact g_callVT LX10_170 sC_0 rfl O (kX10_checkTask O.2.2.1 ev1) rfl rfl (Nat.le_of_ble_eq_true rfl) ⟨Nat.le_of_ble_eq_true rfl, Nat.le_of_ble_eq_true rfl⟩ ⟨Nat.le_of_ble_eq_true rfl, Nat.le_of_ble_eq_true rfl⟩ dX10_add_2
theorem kX10_add {l : Launch} {V : gEnv} {M0 : gMem} {x1 : Int32} {x2 : Int32} (hst : l.stackTraces = false)  {o : ((Int32 ⊕ Nat) × gMem)} (h : fX10_add x1 x2 M0 = some o) : gMX l yX10_add cX10_add 4 (some .int) rX10_add V gShC [.ref (gAd V 0), .int x1, .int x2] M0 (gOI o.1) o.2 :=
  gMX.of hst (by decide) (Nat.le_of_ble_eq_true rfl) rfl (fun X _ O => tX10_add  h O)
theorem dX10_cut_0 : decode cX10_cut 0 = .ok (.aload_n 0, 1) := by decide +kernel
theorem dX10_cut_1 : decode cX10_cut 1 = .ok (.iload_n 1, 1) := by decide +kernel
theorem dX10_cut_2 : decode cX10_cut 2 = .ok (.invokevirtual 240, 3) := by decide +kernel
theorem dX10_cut_5 : decode cX10_cut 5 = .ok (.aload_n 0, 1) := by decide +kernel
theorem dX10_cut_6 : decode cX10_cut 6 = .ok (.invokevirtual 133, 3) := by decide +kernel
theorem dX10_cut_9 : decode cX10_cut 9 = .ok (.aload_n 0, 1) := by decide +kernel
theorem dX10_cut_10 : decode cX10_cut 10 = .ok (.getfield 72, 3) := by decide +kernel
theorem dX10_cut_13 : decode cX10_cut 13 = .ok (.aload_n 0, 1) := by decide +kernel
theorem dX10_cut_14 : decode cX10_cut 14 = .ok (.getfield 12, 3) := by decide +kernel
theorem dX10_cut_17 : decode cX10_cut 17 = .ok (.iload_n 1, 1) := by decide +kernel
theorem dX10_cut_18 : decode cX10_cut 18 = .ok (.invokevirtual 356, 3) := by decide +kernel
theorem dX10_cut_21 : decode cX10_cut 21 = .ok (.ireturn, 1) := by decide +kernel
abbrev rX10_cut : Room := { frames := 7, cells := 1, slots := 6, locals := 111 }
abbrev mX10_cut : gY := (cX10_cut, RX10, 2, rX10_cut)
def fX10_cut (x1 : Int32) (M0 : gMem) : Option ((Int32 ⊕ Nat) × gMem) :=
  (fX10_checkArrow x1 M0).bind fun v1 => gSE v1 (fun u2 => (fX10_remember M0).bind fun v4 => (fX8_cutOff 1 x1 v4).bind fun v5 => some (.inl v5.1, v5.2)) (fun x3 => some (.inr x3, M0))
set_option maxRecDepth 20000 in
theorem tX10_cut {X : gX} {V : gEnv} {x1 : Int32} {M0 : gMem}  {o : ((Int32 ⊕ Nat) × gMem)} (h : fX10_cut x1 M0 = some o) (O : gOX X V mX10_cut gShC (some .int) (gOI o.1) o.2) : gG X V mX10_cut gShC M0 0 0 0 [(0, .ref (gAd V 0)), (1, .int x1)] [] := by
  unfold fX10_cut at h
  refine g_aload_n 0 rfl rfl dX10_cut_0 ?_
  refine g_iload_n 1 rfl rfl dX10_cut_1 ?_
  obtain ⟨v1, ev1, h⟩ := g_bnd h
  rcases v1 with u2 | x3
  · have h := g_sl h
    refine g_callVX LX10_240 sC_0 rfl (kX10_checkArrow O.2.2.1 ev1) rfl rfl (Nat.le_of_ble_eq_true rfl) ⟨Nat.le_of_ble_eq_true rfl, Nat.le_of_ble_eq_true rfl⟩ ⟨Nat.le_of_ble_eq_true rfl, Nat.le_of_ble_eq_true rfl⟩ dX10_cut_2 rfl ?_
    refine g_aload_n 0 rfl rfl dX10_cut_5 ?_
    obtain ⟨v4, ev4, h⟩ := g_bnd h
    refine g_callV LX10_133 sC_0 rfl (kX10_remember ev4) rfl rfl (Nat.le_of_ble_eq_true rfl) ⟨Nat.le_of_ble_eq_true rfl, Nat.le_of_ble_eq_true rfl⟩ ⟨Nat.le_of_ble_eq_true rfl, Nat.le_of_ble_eq_true rfl⟩ dX10_cut_6 rfl ?_
    refine g_aload_n 0 rfl rfl dX10_cut_9 ?_
    refine g_getR FX10_72 sC_0 rfl dX10_cut_10 ?_
    refine g_aload_n 0 rfl rfl dX10_cut_13 ?_
    refine g_getR FX10_12 sC_0 rfl dX10_cut_14 ?_
    refine g_iload_n 1 rfl rfl dX10_cut_17 ?_
    obtain ⟨v5, ev5, h⟩ := g_bnd h
    refine g_callV LX10_356 sC_44 rfl (kX8_cutOff nC_1 ev5) rfl rfl (Nat.le_of_ble_eq_true rfl) ⟨Nat.le_of_ble_eq_true rfl, Nat.le_of_ble_eq_true rfl⟩ ⟨Nat.le_of_ble_eq_true rfl, Nat.le_of_ble_eq_true rfl⟩ dX10_cut_18 rfl ?_
    cases h
    exact g_iretX O ⟨Nat.le_of_ble_eq_true rfl, Nat.le_of_ble_eq_true rfl⟩ rfl dX10_cut_21
  · have h := g_sr h
    cases h
    exact g_callVT LX10_240 sC_0 rfl O (kX10_checkArrow O.2.2.1 ev1) rfl rfl (Nat.le_of_ble_eq_true rfl) ⟨Nat.le_of_ble_eq_true rfl, Nat.le_of_ble_eq_true rfl⟩ ⟨Nat.le_of_ble_eq_true rfl, Nat.le_of_ble_eq_true rfl⟩ dX10_cut_2
theorem kX10_cut {l : Launch} {V : gEnv} {M0 : gMem} {x1 : Int32} (hst : l.stackTraces = false)  {o : ((Int32 ⊕ Nat) × gMem)} (h : fX10_cut x1 M0 = some o) : gMX l yX10_cut cX10_cut 2 (some .int) rX10_cut V gShC [.ref (gAd V 0), .int x1] M0 (gOI o.1) o.2 :=
  gMX.of hst (by decide) (Nat.le_of_ble_eq_true rfl) rfl (fun X _ O => tX10_cut  h O)
theorem dX10_swap_0 : decode cX10_swap 0 = .ok (.iload_n 1, 1) := by decide +kernel
theorem dX10_swap_1 : decode cX10_swap 1 = .ok (.aload_n 0, 1) := by decide +kernel
theorem dX10_swap_2 : decode cX10_swap 2 = .ok (.getfield 12, 3) := by decide +kernel
theorem dX10_swap_5 : decode cX10_swap 5 = .ok (.getfield 149, 3) := by decide +kernel
theorem dX10_swap_8 : decode cX10_swap 8 = .ok (.iconst 1, 1) := by decide +kernel
theorem dX10_swap_9 : decode cX10_swap 9 = .ok (.isub, 1) := by decide +kernel
theorem dX10_swap_10 : decode cX10_swap 10 = .ok (.invokestatic 218, 3) := by decide +kernel
theorem dX10_swap_13 : decode cX10_swap 13 = .ok (.aload_n 0, 1) := by decide +kernel
theorem dX10_swap_14 : decode cX10_swap 14 = .ok (.getfield 12, 3) := by decide +kernel
theorem dX10_swap_17 : decode cX10_swap 17 = .ok (.iload_n 1, 1) := by decide +kernel
theorem dX10_swap_18 : decode cX10_swap 18 = .ok (.invokevirtual 359, 3) := by decide +kernel
theorem dX10_swap_21 : decode cX10_swap 21 = .ok (.ifCond .eq 6, 3) := by decide +kernel
theorem dX10_swap_24 : decode cX10_swap 24 = .ok (.bipush (-5), 2) := by decide +kernel
theorem dX10_swap_26 : decode cX10_swap 26 = .ok (.ireturn, 1) := by decide +kernel
theorem dX10_swap_27 : decode cX10_swap 27 = .ok (.aload_n 0, 1) := by decide +kernel
theorem dX10_swap_28 : decode cX10_swap 28 = .ok (.invokevirtual 133, 3) := by decide +kernel
theorem dX10_swap_31 : decode cX10_swap 31 = .ok (.aload_n 0, 1) := by decide +kernel
theorem dX10_swap_32 : decode cX10_swap 32 = .ok (.getfield 12, 3) := by decide +kernel
theorem dX10_swap_35 : decode cX10_swap 35 = .ok (.iload_n 1, 1) := by decide +kernel
theorem dX10_swap_36 : decode cX10_swap 36 = .ok (.invokevirtual 362, 3) := by decide +kernel
theorem dX10_swap_39 : decode cX10_swap 39 = .ok (.aload_n 0, 1) := by decide +kernel
theorem dX10_swap_40 : decode cX10_swap 40 = .ok (.getfield 12, 3) := by decide +kernel
theorem dX10_swap_43 : decode cX10_swap 43 = .ok (.getfield 177, 3) := by decide +kernel
theorem dX10_swap_46 : decode cX10_swap 46 = .ok (.iload_n 1, 1) := by decide +kernel
theorem dX10_swap_47 : decode cX10_swap 47 = .ok (.iaload, 1) := by decide +kernel
theorem dX10_swap_48 : decode cX10_swap 48 = .ok (.invokestatic 183, 3) := by decide +kernel
theorem dX10_swap_51 : decode cX10_swap 51 = .ok (.ireturn, 1) := by decide +kernel
abbrev rX10_swap : Room := { frames := 7, cells := 1, slots := 6, locals := 111 }
abbrev mX10_swap : gY := (cX10_swap, RX10, 2, rX10_swap)
def fX10_swap (x1 : Int32) (M0 : gMem) : Option ((Int32 ⊕ Nat) × gMem) :=
  (fX10_checkPlace x1 ((M0.1 1 11) - (1 : Int32))).bind fun v1 => gSE v1 (fun u2 => (fX2_leadsOn 1 x1 M0).bind fun v4 => if v4 = 0 then ((fX10_remember M0).bind fun v6 => (fX2_swapAt 1 x1 v6).bind fun v7 => (rI v7 8 24 x1).bind fun v8 => (fX10_headOf v8).bind fun v9 => some (.inl v9, v7)) else some (.inl (-5 : Int32), M0)) (fun x3 => some (.inr x3, M0))
set_option maxRecDepth 20000 in
theorem tX10_swap {X : gX} {V : gEnv} {x1 : Int32} {M0 : gMem}  {o : ((Int32 ⊕ Nat) × gMem)} (h : fX10_swap x1 M0 = some o) (O : gOX X V mX10_swap gShC (some .int) (gOI o.1) o.2) : gG X V mX10_swap gShC M0 0 0 0 [(0, .ref (gAd V 0)), (1, .int x1)] [] := by
  unfold fX10_swap at h
  refine g_iload_n 1 rfl rfl dX10_swap_0 ?_
  refine g_aload_n 0 rfl rfl dX10_swap_1 ?_
  refine g_getR FX10_12 sC_0 rfl dX10_swap_2 ?_
  refine g_getI FX10_149 sC_1 rfl dX10_swap_5 ?_
  refine g_iconst (v := 1) rfl dX10_swap_8 ?_
  refine g_isub dX10_swap_9 ?_
  obtain ⟨v1, ev1, h⟩ := g_bnd h
  rcases v1 with u2 | x3
  · have h := g_sl h
    refine g_callSX LX10_218 (kX10_checkPlace O.2.2.1 ev1) rfl rfl (Nat.le_of_ble_eq_true rfl) ⟨Nat.le_of_ble_eq_true rfl, Nat.le_of_ble_eq_true rfl⟩ ⟨Nat.le_of_ble_eq_true rfl, Nat.le_of_ble_eq_true rfl⟩ dX10_swap_10 rfl ?_
    refine g_aload_n 0 rfl rfl dX10_swap_13 ?_
    refine g_getR FX10_12 sC_0 rfl dX10_swap_14 ?_
    refine g_iload_n 1 rfl rfl dX10_swap_17 ?_
    obtain ⟨v4, ev4, h⟩ := g_bnd h
    refine g_callV LX10_359 sC_1 rfl (kX2_leadsOn nC_1 ev4) rfl rfl (Nat.le_of_ble_eq_true rfl) ⟨Nat.le_of_ble_eq_true rfl, Nat.le_of_ble_eq_true rfl⟩ ⟨Nat.le_of_ble_eq_true rfl, Nat.le_of_ble_eq_true rfl⟩ dX10_swap_18 rfl ?_
    rcases g_ite h with ⟨c5, h⟩ | ⟨c5, h⟩
    · refine g_if_eq_t c5 (tgt := 27) rfl dX10_swap_21 ?_
      refine g_aload_n 0 rfl rfl dX10_swap_27 ?_
      obtain ⟨v6, ev6, h⟩ := g_bnd h
      refine g_callV LX10_133 sC_0 rfl (kX10_remember ev6) rfl rfl (Nat.le_of_ble_eq_true rfl) ⟨Nat.le_of_ble_eq_true rfl, Nat.le_of_ble_eq_true rfl⟩ ⟨Nat.le_of_ble_eq_true rfl, Nat.le_of_ble_eq_true rfl⟩ dX10_swap_28 rfl ?_
      refine g_aload_n 0 rfl rfl dX10_swap_31 ?_
      refine g_getR FX10_12 sC_0 rfl dX10_swap_32 ?_
      refine g_iload_n 1 rfl rfl dX10_swap_35 ?_
      obtain ⟨v7, ev7, h⟩ := g_bnd h
      refine g_callV LX10_362 sC_1 rfl (kX2_swapAt nC_1 ev7) rfl rfl (Nat.le_of_ble_eq_true rfl) ⟨Nat.le_of_ble_eq_true rfl, Nat.le_of_ble_eq_true rfl⟩ ⟨Nat.le_of_ble_eq_true rfl, Nat.le_of_ble_eq_true rfl⟩ dX10_swap_36 rfl ?_
      refine g_aload_n 0 rfl rfl dX10_swap_39 ?_
      refine g_getR FX10_12 sC_0 rfl dX10_swap_40 ?_
      refine g_getR FX10_177 sC_1 rfl dX10_swap_43 ?_
      refine g_iload_n 1 rfl rfl dX10_swap_46 ?_
      obtain ⟨v8, ev8, h⟩ := g_bnd h
      refine g_iald' ev8 sC_8 dX10_swap_47 ?_
      obtain ⟨v9, ev9, h⟩ := g_bnd h
      refine g_callS LX10_183 (kX10_headOf ev9) rfl rfl (Nat.le_of_ble_eq_true rfl) ⟨Nat.le_of_ble_eq_true rfl, Nat.le_of_ble_eq_true rfl⟩ ⟨Nat.le_of_ble_eq_true rfl, Nat.le_of_ble_eq_true rfl⟩ dX10_swap_48 rfl ?_
      cases h
      exact g_iretX O ⟨Nat.le_of_ble_eq_true rfl, Nat.le_of_ble_eq_true rfl⟩ rfl dX10_swap_51
    · refine g_if_eq_f c5 (tgt := 27) rfl dX10_swap_21 ?_
      refine g_bipush (v := -5) rfl dX10_swap_24 ?_
      cases h
      exact g_iretX O ⟨Nat.le_of_ble_eq_true rfl, Nat.le_of_ble_eq_true rfl⟩ rfl dX10_swap_26
  · have h := g_sr h
    cases h
    exact g_callST LX10_218 O (kX10_checkPlace O.2.2.1 ev1) rfl rfl (Nat.le_of_ble_eq_true rfl) ⟨Nat.le_of_ble_eq_true rfl, Nat.le_of_ble_eq_true rfl⟩ ⟨Nat.le_of_ble_eq_true rfl, Nat.le_of_ble_eq_true rfl⟩ dX10_swap_10
theorem kX10_swap {l : Launch} {V : gEnv} {M0 : gMem} {x1 : Int32} (hst : l.stackTraces = false)  {o : ((Int32 ⊕ Nat) × gMem)} (h : fX10_swap x1 M0 = some o) : gMX l yX10_swap cX10_swap 2 (some .int) rX10_swap V gShC [.ref (gAd V 0), .int x1] M0 (gOI o.1) o.2 :=
  gMX.of hst (by decide) (Nat.le_of_ble_eq_true rfl) rfl (fun X _ O => tX10_swap  h O)
theorem dX10_setHours_0 : decode cX10_setHours 0 = .ok (.aload_n 0, 1) := by decide +kernel
theorem dX10_setHours_1 : decode cX10_setHours 1 = .ok (.iload_n 1, 1) := by decide +kernel
theorem dX10_setHours_2 : decode cX10_setHours 2 = .ok (.invokevirtual 170, 3) := by decide +kernel
theorem dX10_setHours_5 : decode cX10_setHours 5 = .ok (.iload_n 2, 1) := by decide +kernel
theorem dX10_setHours_6 : decode cX10_setHours 6 = .ok (.invokestatic 342, 3) := by decide +kernel
theorem dX10_setHours_9 : decode cX10_setHours 9 = .ok (.aload_n 0, 1) := by decide +kernel
theorem dX10_setHours_10 : decode cX10_setHours 10 = .ok (.invokevirtual 133, 3) := by decide +kernel
theorem dX10_setHours_13 : decode cX10_setHours 13 = .ok (.aload_n 0, 1) := by decide +kernel
theorem dX10_setHours_14 : decode cX10_setHours 14 = .ok (.getfield 12, 3) := by decide +kernel
theorem dX10_setHours_17 : decode cX10_setHours 17 = .ok (.getfield 173, 3) := by decide +kernel
theorem dX10_setHours_20 : decode cX10_setHours 20 = .ok (.iload_n 1, 1) := by decide +kernel
theorem dX10_setHours_21 : decode cX10_setHours 21 = .ok (.iaload, 1) := by decide +kernel
theorem dX10_setHours_22 : decode cX10_setHours 22 = .ok (.istore_n 3, 1) := by decide +kernel
theorem dX10_setHours_23 : decode cX10_setHours 23 = .ok (.aload_n 0, 1) := by decide +kernel
theorem dX10_setHours_24 : decode cX10_setHours 24 = .ok (.getfield 12, 3) := by decide +kernel
theorem dX10_setHours_27 : decode cX10_setHours 27 = .ok (.getfield 173, 3) := by decide +kernel
theorem dX10_setHours_30 : decode cX10_setHours 30 = .ok (.iload_n 1, 1) := by decide +kernel
theorem dX10_setHours_31 : decode cX10_setHours 31 = .ok (.iload_n 2, 1) := by decide +kernel
theorem dX10_setHours_32 : decode cX10_setHours 32 = .ok (.iastore, 1) := by decide +kernel
theorem dX10_setHours_33 : decode cX10_setHours 33 = .ok (.iload_n 3, 1) := by decide +kernel
theorem dX10_setHours_34 : decode cX10_setHours 34 = .ok (.ireturn, 1) := by decide +kernel
abbrev rX10_setHours : Room := { frames := 7, cells := 2, slots := 12, locals := 111 }
abbrev mX10_setHours : gY := (cX10_setHours, RX10, 4, rX10_setHours)
def fX10_setHours (x1 : Int32) (x2 : Int32) (M0 : gMem) : Option ((Int32 ⊕ Nat) × gMem) :=
  (fX10_checkTask x1 M0).bind fun v1 => gSE v1 (fun u2 => (fX10_checkHours x2).bind fun v4 => gSE v4 (fun u5 => (fX10_remember M0).bind fun v7 => (rI v7 3 24 x1).bind fun v8 => (wI v7 3 24 x1 x2).bind fun M9 => some (.inl v8, M9)) (fun x6 => some (.inr x6, M0))) (fun x3 => some (.inr x3, M0))
set_option maxRecDepth 20000 in
theorem tX10_setHours {X : gX} {V : gEnv} {x1 : Int32} {x2 : Int32} {M0 : gMem}  {o : ((Int32 ⊕ Nat) × gMem)} (h : fX10_setHours x1 x2 M0 = some o) (O : gOX X V mX10_setHours gShC (some .int) (gOI o.1) o.2) : gG X V mX10_setHours gShC M0 0 0 0 [(0, .ref (gAd V 0)), (1, .int x1), (2, .int x2)] [] := by
  unfold fX10_setHours at h
  refine g_aload_n 0 rfl rfl dX10_setHours_0 ?_
  refine g_iload_n 1 rfl rfl dX10_setHours_1 ?_
  obtain ⟨v1, ev1, h⟩ := g_bnd h
  rcases v1 with u2 | x3
  · have h := g_sl h
    refine g_callVX LX10_170 sC_0 rfl (kX10_checkTask O.2.2.1 ev1) rfl rfl (Nat.le_of_ble_eq_true rfl) ⟨Nat.le_of_ble_eq_true rfl, Nat.le_of_ble_eq_true rfl⟩ ⟨Nat.le_of_ble_eq_true rfl, Nat.le_of_ble_eq_true rfl⟩ dX10_setHours_2 rfl ?_
    refine g_iload_n 2 rfl rfl dX10_setHours_5 ?_
    obtain ⟨v4, ev4, h⟩ := g_bnd h
    rcases v4 with u5 | x6
    · have h := g_sl h
      refine g_callSX LX10_342 (kX10_checkHours O.2.2.1 ev4) rfl rfl (Nat.le_of_ble_eq_true rfl) ⟨Nat.le_of_ble_eq_true rfl, Nat.le_of_ble_eq_true rfl⟩ ⟨Nat.le_of_ble_eq_true rfl, Nat.le_of_ble_eq_true rfl⟩ dX10_setHours_6 rfl ?_
      refine g_aload_n 0 rfl rfl dX10_setHours_9 ?_
      obtain ⟨v7, ev7, h⟩ := g_bnd h
      refine g_callV LX10_133 sC_0 rfl (kX10_remember ev7) rfl rfl (Nat.le_of_ble_eq_true rfl) ⟨Nat.le_of_ble_eq_true rfl, Nat.le_of_ble_eq_true rfl⟩ ⟨Nat.le_of_ble_eq_true rfl, Nat.le_of_ble_eq_true rfl⟩ dX10_setHours_10 rfl ?_
      refine g_aload_n 0 rfl rfl dX10_setHours_13 ?_
      refine g_getR FX10_12 sC_0 rfl dX10_setHours_14 ?_
      refine g_getR FX10_173 sC_1 rfl dX10_setHours_17 ?_
      refine g_iload_n 1 rfl rfl dX10_setHours_20 ?_
      obtain ⟨v8, ev8, h⟩ := g_bnd h
      refine g_iald' ev8 sC_3 dX10_setHours_21 ?_
      refine g_istore_n (ls' := [(3, .int v8), (0, .ref (gAd V 0)), (1, .int x1), (2, .int x2)]) rfl (Nat.le_of_ble_eq_true rfl) rfl dX10_setHours_22 ?_
      refine g_aload_n 1 rfl rfl dX10_setHours_23 ?_
      refine g_getR FX10_12 sC_0 rfl dX10_setHours_24 ?_
      refine g_getR FX10_173 sC_1 rfl dX10_setHours_27 ?_
      refine g_iload_n 2 rfl rfl dX10_setHours_30 ?_
      refine g_iload_n 3 rfl rfl dX10_setHours_31 ?_
      obtain ⟨M9, eM9, h⟩ := g_bnd h
      refine g_iast' eM9 sC_3 dX10_setHours_32 ?_
      refine g_iload_n 0 rfl rfl dX10_setHours_33 ?_
      cases h
      exact g_iretX O ⟨Nat.le_of_ble_eq_true rfl, Nat.le_of_ble_eq_true rfl⟩ rfl dX10_setHours_34
    · have h := g_sr h
      cases h
      exact g_callST LX10_342 O (kX10_checkHours O.2.2.1 ev4) rfl rfl (Nat.le_of_ble_eq_true rfl) ⟨Nat.le_of_ble_eq_true rfl, Nat.le_of_ble_eq_true rfl⟩ ⟨Nat.le_of_ble_eq_true rfl, Nat.le_of_ble_eq_true rfl⟩ dX10_setHours_6
  · have h := g_sr h
    cases h
    exact g_callVT LX10_170 sC_0 rfl O (kX10_checkTask O.2.2.1 ev1) rfl rfl (Nat.le_of_ble_eq_true rfl) ⟨Nat.le_of_ble_eq_true rfl, Nat.le_of_ble_eq_true rfl⟩ ⟨Nat.le_of_ble_eq_true rfl, Nat.le_of_ble_eq_true rfl⟩ dX10_setHours_2
theorem kX10_setHours {l : Launch} {V : gEnv} {M0 : gMem} {x1 : Int32} {x2 : Int32} (hst : l.stackTraces = false)  {o : ((Int32 ⊕ Nat) × gMem)} (h : fX10_setHours x1 x2 M0 = some o) : gMX l yX10_setHours cX10_setHours 4 (some .int) rX10_setHours V gShC [.ref (gAd V 0), .int x1, .int x2] M0 (gOI o.1) o.2 :=
  gMX.of hst (by decide) (Nat.le_of_ble_eq_true rfl) rfl (fun X _ O => tX10_setHours  h O)
theorem dX10_set_0 : decode cX10_set 0 = .ok (.iload_n 1, 1) := by decide +kernel
theorem dX10_set_1 : decode cX10_set 1 = .ok (.ifCond .lt 25, 3) := by decide +kernel
theorem dX10_set_4 : decode cX10_set 4 = .ok (.iload_n 1, 1) := by decide +kernel
theorem dX10_set_5 : decode cX10_set 5 = .ok (.iconst 1, 1) := by decide +kernel
theorem dX10_set_6 : decode cX10_set 6 = .ok (.if_icmp .gt 20, 3) := by decide +kernel
theorem dX10_set_9 : decode cX10_set 9 = .ok (.iload_n 2, 1) := by decide +kernel
theorem dX10_set_10 : decode cX10_set 10 = .ok (.ifCond .lt 16, 3) := by decide +kernel
theorem dX10_set_13 : decode cX10_set 13 = .ok (.iload_n 2, 1) := by decide +kernel
theorem dX10_set_14 : decode cX10_set 14 = .ok (.iload_n 1, 1) := by decide +kernel
theorem dX10_set_15 : decode cX10_set 15 = .ok (.ifCond .ne 7, 3) := by decide +kernel
theorem dX10_set_18 : decode cX10_set 18 = .ok (.iconst 2, 1) := by decide +kernel
theorem dX10_set_19 : decode cX10_set 19 = .ok (.goto 4, 3) := by decide +kernel
theorem dX10_set_22 : decode cX10_set 22 = .ok (.iconst 1, 1) := by decide +kernel
theorem dX10_set_23 : decode cX10_set 23 = .ok (.if_icmp .le 14, 3) := by decide +kernel
theorem dX10_set_26 : decode cX10_set 26 = .ok (.new 110, 3) := by decide +kernel
theorem dX10_set_29 : decode cX10_set 29 = .ok (.dup, 1) := by decide +kernel
theorem dX10_set_30 : decode cX10_set 30 = .ok (.ldc_w 365, 3) := by decide +kernel
theorem dX10_set_33 : decode cX10_set 33 = .ok (.invokespecial 114, 3) := by decide +kernel
theorem dX10_set_36 : decode cX10_set 36 = .ok (.athrow, 1) := by decide +kernel
theorem dX10_set_37 : decode cX10_set 37 = .ok (.aload_n 0, 1) := by decide +kernel
theorem dX10_set_38 : decode cX10_set 38 = .ok (.invokevirtual 133, 3) := by decide +kernel
theorem dX10_set_41 : decode cX10_set 41 = .ok (.iload_n 1, 1) := by decide +kernel
theorem dX10_set_42 : decode cX10_set 42 = .ok (.ifCond .ne 22, 3) := by decide +kernel
theorem dX10_set_45 : decode cX10_set 45 = .ok (.aload_n 0, 1) := by decide +kernel
theorem dX10_set_46 : decode cX10_set 46 = .ok (.getfield 12, 3) := by decide +kernel
theorem dX10_set_49 : decode cX10_set 49 = .ok (.getfield 152, 3) := by decide +kernel
theorem dX10_set_52 : decode cX10_set 52 = .ok (.istore_n 3, 1) := by decide +kernel
theorem dX10_set_53 : decode cX10_set 53 = .ok (.aload_n 0, 1) := by decide +kernel
theorem dX10_set_54 : decode cX10_set 54 = .ok (.getfield 12, 3) := by decide +kernel
theorem dX10_set_57 : decode cX10_set 57 = .ok (.iload_n 2, 1) := by decide +kernel
theorem dX10_set_58 : decode cX10_set 58 = .ok (.putfield 152, 3) := by decide +kernel
theorem dX10_set_61 : decode cX10_set 61 = .ok (.goto 19, 3) := by decide +kernel
theorem dX10_set_64 : decode cX10_set 64 = .ok (.aload_n 0, 1) := by decide +kernel
theorem dX10_set_65 : decode cX10_set 65 = .ok (.getfield 12, 3) := by decide +kernel
theorem dX10_set_68 : decode cX10_set 68 = .ok (.getfield 155, 3) := by decide +kernel
theorem dX10_set_71 : decode cX10_set 71 = .ok (.istore_n 3, 1) := by decide +kernel
theorem dX10_set_72 : decode cX10_set 72 = .ok (.aload_n 0, 1) := by decide +kernel
theorem dX10_set_73 : decode cX10_set 73 = .ok (.getfield 12, 3) := by decide +kernel
theorem dX10_set_76 : decode cX10_set 76 = .ok (.iload_n 2, 1) := by decide +kernel
theorem dX10_set_77 : decode cX10_set 77 = .ok (.putfield 155, 3) := by decide +kernel
theorem dX10_set_80 : decode cX10_set 80 = .ok (.iload_n 3, 1) := by decide +kernel
theorem dX10_set_81 : decode cX10_set 81 = .ok (.ireturn, 1) := by decide +kernel
abbrev rX10_set : Room := { frames := 6, cells := 1, slots := 6, locals := 103 }
abbrev mX10_set : gY := (cX10_set, RX10, 4, rX10_set)
def fX10_set_b26 (M0 : gMem) : Option ((Int32 ⊕ Nat) × gMem) :=
  some (.inr 1, M0)
set_option maxRecDepth 20000 in
theorem tX10_set_b26 {X : gX} {V : gEnv} {M0 : gMem}  {o : ((Int32 ⊕ Nat) × gMem)} (h : fX10_set_b26 M0 = some o) (O : gOX X V mX10_set gShC (some .int) (gOI o.1) o.2) : gG X V mX10_set gShC M0 0 0 26 [] [] := by
  unfold fX10_set_b26 at h
  cases h
  exact g_throwW O U_1 SX10_365 ⟨Nat.le_of_ble_eq_true rfl, Nat.le_of_ble_eq_true rfl⟩ ⟨Nat.le_of_ble_eq_true rfl, Nat.le_of_ble_eq_true rfl⟩ dX10_set_26 dX10_set_29 dX10_set_30 dX10_set_33 dX10_set_36
def fX10_set (x1 : Int32) (x2 : Int32) (M0 : gMem) : Option ((Int32 ⊕ Nat) × gMem) :=
  if x1 < 0 then (fX10_set_b26 M0) else if (1 : Int32) < x1 then (fX10_set_b26 M0) else if x2 < 0 then (fX10_set_b26 M0) else if x2 ≤ (if x1 = 0 then (2 : Int32) else (1 : Int32)) then ((fX10_remember M0).bind fun v6 => if x1 = 0 then ((nm (v6.1 1 12)).bind fun v8 => (wF v6 1 12 x2).bind fun M9 => some (.inl v8, M9)) else (nm (v6.1 1 13)).bind fun v10 => (wF v6 1 13 x2).bind fun M11 => some (.inl v10, M11)) else fX10_set_b26 M0
set_option maxRecDepth 20000 in
theorem tX10_set {X : gX} {V : gEnv} {x1 : Int32} {x2 : Int32} {M0 : gMem}  {o : ((Int32 ⊕ Nat) × gMem)} (h : fX10_set x1 x2 M0 = some o) (O : gOX X V mX10_set gShC (some .int) (gOI o.1) o.2) : gG X V mX10_set gShC M0 0 0 0 [(0, .ref (gAd V 0)), (1, .int x1), (2, .int x2)] [] := by
  unfold fX10_set at h
  refine g_iload_n 1 rfl rfl dX10_set_0 ?_
  rcases g_ite h with ⟨c1, h⟩ | ⟨c1, h⟩
  · refine g_if_lt_t c1 (tgt := 26) rfl dX10_set_1 ?_
    refine g_sub [] rfl ?_
    exact tX10_set_b26  h O
  · refine g_if_lt_f c1 (tgt := 26) rfl dX10_set_1 ?_
    refine g_iload_n 1 rfl rfl dX10_set_4 ?_
    refine g_iconst (v := 1) rfl dX10_set_5 ?_
    rcases g_ite h with ⟨c2, h⟩ | ⟨c2, h⟩
    · refine g_icmp_gt_t c2 (tgt := 26) rfl dX10_set_6 ?_
      refine g_sub [] rfl ?_
      exact tX10_set_b26  h O
    · refine g_icmp_gt_f c2 (tgt := 26) rfl dX10_set_6 ?_
      refine g_iload_n 2 rfl rfl dX10_set_9 ?_
      rcases g_ite h with ⟨c3, h⟩ | ⟨c3, h⟩
      · refine g_if_lt_t c3 (tgt := 26) rfl dX10_set_10 ?_
        refine g_sub [] rfl ?_
        exact tX10_set_b26  h O
      · refine g_if_lt_f c3 (tgt := 26) rfl dX10_set_10 ?_
        refine g_iload_n 2 rfl rfl dX10_set_13 ?_
        refine g_iload_n 1 rfl rfl dX10_set_14 ?_
        have KJ : gG X V mX10_set gShC M0 0 0 23 [(0, .ref (gAd V 0)), (1, .int x1), (2, .int x2)] [.int (if x1 = 0 then (2 : Int32) else (1 : Int32)), .int x2] := by
          rcases g_ite h with ⟨c5, h⟩ | ⟨c5, h⟩
          · refine g_icmp_le_t c5 (tgt := 37) rfl dX10_set_23 ?_
            refine g_aload_n 0 rfl rfl dX10_set_37 ?_
            obtain ⟨v6, ev6, h⟩ := g_bnd h
            refine g_callV LX10_133 sC_0 rfl (kX10_remember ev6) rfl rfl (Nat.le_of_ble_eq_true rfl) ⟨Nat.le_of_ble_eq_true rfl, Nat.le_of_ble_eq_true rfl⟩ ⟨Nat.le_of_ble_eq_true rfl, Nat.le_of_ble_eq_true rfl⟩ dX10_set_38 rfl ?_
            refine g_iload_n 1 rfl rfl dX10_set_41 ?_
            rcases g_ite h with ⟨c7, h⟩ | ⟨c7, h⟩
            · refine g_if_ne_f c7 (tgt := 64) rfl dX10_set_42 ?_
              refine g_aload_n 0 rfl rfl dX10_set_45 ?_
              refine g_getR FX10_12 sC_0 rfl dX10_set_46 ?_
              refine g_getI FX10_152 sC_1 rfl dX10_set_49 ?_
              obtain ⟨v8, ev8, h⟩ := g_bnd h
              refine g_nmI ev8 ?_
              refine g_istore_n (ls' := [(3, .int v8), (0, .ref (gAd V 0)), (1, .int x1), (2, .int x2)]) rfl (Nat.le_of_ble_eq_true rfl) rfl dX10_set_52 ?_
              refine g_aload_n 1 rfl rfl dX10_set_53 ?_
              refine g_getR FX10_12 sC_0 rfl dX10_set_54 ?_
              refine g_iload_n 3 rfl rfl dX10_set_57 ?_
              obtain ⟨M9, eM9, h⟩ := g_bnd h
              refine g_putI' eM9 FX10_152 jX2 sC_1 rfl rfl rfl dX10_set_58 ?_
              refine g_goto (tgt := 80) rfl dX10_set_61 ?_
              refine g_iload_n 0 rfl rfl dX10_set_80 ?_
              cases h
              exact g_iretX O ⟨Nat.le_of_ble_eq_true rfl, Nat.le_of_ble_eq_true rfl⟩ rfl dX10_set_81
            · refine g_if_ne_t c7 (tgt := 64) rfl dX10_set_42 ?_
              refine g_aload_n 0 rfl rfl dX10_set_64 ?_
              refine g_getR FX10_12 sC_0 rfl dX10_set_65 ?_
              refine g_getI FX10_155 sC_1 rfl dX10_set_68 ?_
              obtain ⟨v10, ev10, h⟩ := g_bnd h
              refine g_nmI ev10 ?_
              refine g_istore_n (ls' := [(3, .int v10), (0, .ref (gAd V 0)), (1, .int x1), (2, .int x2)]) rfl (Nat.le_of_ble_eq_true rfl) rfl dX10_set_71 ?_
              refine g_aload_n 1 rfl rfl dX10_set_72 ?_
              refine g_getR FX10_12 sC_0 rfl dX10_set_73 ?_
              refine g_iload_n 3 rfl rfl dX10_set_76 ?_
              obtain ⟨M11, eM11, h⟩ := g_bnd h
              refine g_putI' eM11 FX10_155 jX2 sC_1 rfl rfl rfl dX10_set_77 ?_
              refine g_iload_n 0 rfl rfl dX10_set_80 ?_
              cases h
              exact g_iretX O ⟨Nat.le_of_ble_eq_true rfl, Nat.le_of_ble_eq_true rfl⟩ rfl dX10_set_81
          · refine g_icmp_le_f c5 (tgt := 37) rfl dX10_set_23 ?_
            refine g_sub [] rfl ?_
            exact tX10_set_b26  h O
        by_cases c4 : x1 = 0
        · rw [if_pos c4] at KJ
          refine g_if_ne_f c4 (tgt := 22) rfl dX10_set_15 ?_
          refine g_iconst (v := 2) rfl dX10_set_18 ?_
          refine g_goto (tgt := 23) rfl dX10_set_19 ?_
          exact KJ
        · rw [if_neg c4] at KJ
          refine g_if_ne_t c4 (tgt := 22) rfl dX10_set_15 ?_
          refine g_iconst (v := 1) rfl dX10_set_22 ?_
          exact KJ
theorem kX10_set {l : Launch} {V : gEnv} {M0 : gMem} {x1 : Int32} {x2 : Int32} (hst : l.stackTraces = false)  {o : ((Int32 ⊕ Nat) × gMem)} (h : fX10_set x1 x2 M0 = some o) : gMX l yX10_set cX10_set 4 (some .int) rX10_set V gShC [.ref (gAd V 0), .int x1, .int x2] M0 (gOI o.1) o.2 :=
  gMX.of hst (by decide) (Nat.le_of_ble_eq_true rfl) rfl (fun X _ O => tX10_set  h O)
theorem dX10_refresh_0 : decode cX10_refresh 0 = .ok (.aload_n 0, 1) := by decide +kernel
theorem dX10_refresh_1 : decode cX10_refresh 1 = .ok (.invokevirtual 133, 3) := by decide +kernel
theorem dX10_refresh_4 : decode cX10_refresh 4 = .ok (.aload_n 0, 1) := by decide +kernel
theorem dX10_refresh_5 : decode cX10_refresh 5 = .ok (.getfield 72, 3) := by decide +kernel
theorem dX10_refresh_8 : decode cX10_refresh 8 = .ok (.aload_n 0, 1) := by decide +kernel
theorem dX10_refresh_9 : decode cX10_refresh 9 = .ok (.getfield 12, 3) := by decide +kernel
theorem dX10_refresh_12 : decode cX10_refresh 12 = .ok (.invokevirtual 367, 3) := by decide +kernel
theorem dX10_refresh_15 : decode cX10_refresh 15 = .ok (.ireturn, 1) := by decide +kernel
abbrev rX10_refresh : Room := { frames := 5, cells := 0, slots := 0, locals := 119 }
abbrev mX10_refresh : gY := (cX10_refresh, RX10, 1, rX10_refresh)
def fX10_refresh (M0 : gMem) : Option (Int32 × gMem) :=
  (fX10_remember M0).bind fun v1 => (fX8_renew 1 v1).bind fun v2 => some (v2.1, v2.2)
set_option maxRecDepth 20000 in
theorem tX10_refresh {X : gX} {V : gEnv} {M0 : gMem}  {o : (Int32 × gMem)} (h : fX10_refresh M0 = some o) (O : gO X V mX10_refresh gShC (some .int) (some (.int o.1)) o.2) : gG X V mX10_refresh gShC M0 0 0 0 [(0, .ref (gAd V 0))] [] := by
  unfold fX10_refresh at h
  refine g_aload_n 0 rfl rfl dX10_refresh_0 ?_
  obtain ⟨v1, ev1, h⟩ := g_bnd h
  refine g_callV LX10_133 sC_0 rfl (kX10_remember ev1) rfl rfl (Nat.le_of_ble_eq_true rfl) ⟨Nat.le_of_ble_eq_true rfl, Nat.le_of_ble_eq_true rfl⟩ ⟨Nat.le_of_ble_eq_true rfl, Nat.le_of_ble_eq_true rfl⟩ dX10_refresh_1 rfl ?_
  refine g_aload_n 0 rfl rfl dX10_refresh_4 ?_
  refine g_getR FX10_72 sC_0 rfl dX10_refresh_5 ?_
  refine g_aload_n 0 rfl rfl dX10_refresh_8 ?_
  refine g_getR FX10_12 sC_0 rfl dX10_refresh_9 ?_
  obtain ⟨v2, ev2, h⟩ := g_bnd h
  refine g_callV LX10_367 sC_44 rfl (kX8_renew nC_1 ev2) rfl rfl (Nat.le_of_ble_eq_true rfl) ⟨Nat.le_of_ble_eq_true rfl, Nat.le_of_ble_eq_true rfl⟩ ⟨Nat.le_of_ble_eq_true rfl, Nat.le_of_ble_eq_true rfl⟩ dX10_refresh_12 rfl ?_
  cases h
  exact g_iret O ⟨Nat.le_of_ble_eq_true rfl, Nat.le_of_ble_eq_true rfl⟩ rfl dX10_refresh_15
theorem kX10_refresh {l : Launch} {V : gEnv} {M0 : gMem}   {o : (Int32 × gMem)} (h : fX10_refresh M0 = some o) : gM l yX10_refresh cX10_refresh 1 (some .int) rX10_refresh V gShC [.ref (gAd V 0)] M0 (some (.int o.1)) o.2 :=
  gM.of (by decide) (Nat.le_of_ble_eq_true rfl) rfl (fun X _ O => tX10_refresh  h O)
theorem dX10_writeOrder_0 : decode cX10_writeOrder 0 = .ok (.aload_n 0, 1) := by decide +kernel
theorem dX10_writeOrder_1 : decode cX10_writeOrder 1 = .ok (.getfield 44, 3) := by decide +kernel
theorem dX10_writeOrder_4 : decode cX10_writeOrder 4 = .ok (.iconst 0, 1) := by decide +kernel
theorem dX10_writeOrder_5 : decode cX10_writeOrder 5 = .ok (.putfield 370, 3) := by decide +kernel
theorem dX10_writeOrder_8 : decode cX10_writeOrder 8 = .ok (.iconst 0, 1) := by decide +kernel
theorem dX10_writeOrder_9 : decode cX10_writeOrder 9 = .ok (.istore_n 1, 1) := by decide +kernel
theorem dX10_writeOrder_10 : decode cX10_writeOrder 10 = .ok (.iload_n 1, 1) := by decide +kernel
theorem dX10_writeOrder_11 : decode cX10_writeOrder 11 = .ok (.aload_n 0, 1) := by decide +kernel
theorem dX10_writeOrder_12 : decode cX10_writeOrder 12 = .ok (.getfield 12, 3) := by decide +kernel
theorem dX10_writeOrder_15 : decode cX10_writeOrder 15 = .ok (.getfield 149, 3) := by decide +kernel
theorem dX10_writeOrder_18 : decode cX10_writeOrder 18 = .ok (.if_icmp .ge 42, 3) := by decide +kernel
theorem dX10_writeOrder_21 : decode cX10_writeOrder 21 = .ok (.iload_n 1, 1) := by decide +kernel
theorem dX10_writeOrder_22 : decode cX10_writeOrder 22 = .ok (.ifCond .le 12, 3) := by decide +kernel
theorem dX10_writeOrder_25 : decode cX10_writeOrder 25 = .ok (.aload_n 0, 1) := by decide +kernel
theorem dX10_writeOrder_26 : decode cX10_writeOrder 26 = .ok (.getfield 44, 3) := by decide +kernel
theorem dX10_writeOrder_29 : decode cX10_writeOrder 29 = .ok (.bipush 32, 2) := by decide +kernel
theorem dX10_writeOrder_31 : decode cX10_writeOrder 31 = .ok (.invokevirtual 371, 3) := by decide +kernel
theorem dX10_writeOrder_34 : decode cX10_writeOrder 34 = .ok (.aload_n 0, 1) := by decide +kernel
theorem dX10_writeOrder_35 : decode cX10_writeOrder 35 = .ok (.getfield 44, 3) := by decide +kernel
theorem dX10_writeOrder_38 : decode cX10_writeOrder 38 = .ok (.aload_n 0, 1) := by decide +kernel
theorem dX10_writeOrder_39 : decode cX10_writeOrder 39 = .ok (.getfield 12, 3) := by decide +kernel
theorem dX10_writeOrder_42 : decode cX10_writeOrder 42 = .ok (.aload_n 0, 1) := by decide +kernel
theorem dX10_writeOrder_43 : decode cX10_writeOrder 43 = .ok (.getfield 12, 3) := by decide +kernel
theorem dX10_writeOrder_46 : decode cX10_writeOrder 46 = .ok (.getfield 177, 3) := by decide +kernel
theorem dX10_writeOrder_49 : decode cX10_writeOrder 49 = .ok (.iload_n 1, 1) := by decide +kernel
theorem dX10_writeOrder_50 : decode cX10_writeOrder 50 = .ok (.iaload, 1) := by decide +kernel
theorem dX10_writeOrder_51 : decode cX10_writeOrder 51 = .ok (.invokevirtual 374, 3) := by decide +kernel
theorem dX10_writeOrder_54 : decode cX10_writeOrder 54 = .ok (.iinc 1 1, 3) := by decide +kernel
theorem dX10_writeOrder_57 : decode cX10_writeOrder 57 = .ok (.goto (-47), 3) := by decide +kernel
theorem dX10_writeOrder_60 : decode cX10_writeOrder 60 = .ok (.aload_n 0, 1) := by decide +kernel
theorem dX10_writeOrder_61 : decode cX10_writeOrder 61 = .ok (.getfield 44, 3) := by decide +kernel
theorem dX10_writeOrder_64 : decode cX10_writeOrder 64 = .ok (.getfield 370, 3) := by decide +kernel
theorem dX10_writeOrder_67 : decode cX10_writeOrder 67 = .ok (.ireturn, 1) := by decide +kernel
abbrev rX10_writeOrder : Room := { frames := 3, cells := 0, slots := 0, locals := 70 }
abbrev mX10_writeOrder : gY := (cX10_writeOrder, RX10, 2, rX10_writeOrder)
def fX10_writeOrder_b34 (x1 : Int32) (M0 : gMem) : Option ((Int32 × gMem) ⊕ gMem) :=
  (rI M0 8 24 x1).bind fun v4 => (fX4_putGroup 1 v4 M0).bind fun v5 => some (.inl (x1 + (1 : Int32), v5))
set_option maxRecDepth 20000 in
theorem tX10_writeOrder_b34 {X : gX} {V : gEnv} {x1 : Int32} {M0 : gMem}  {o : ((Int32 × gMem) ⊕ gMem)} (h : fX10_writeOrder_b34 x1 M0 = some o) (Kc : ∀ s9, o = .inl s9 → gG X V mX10_writeOrder gShC s9.2 0 0 10 [(0, .ref (gAd V 0)), (1, .int s9.1)] []) (Kx : ∀ e9, o = .inr e9 → gG X V mX10_writeOrder gShC e9 0 0 60 [(0, .ref (gAd V 0))] []) : gG X V mX10_writeOrder gShC M0 0 0 34 [(0, .ref (gAd V 0)), (1, .int x1)] [] := by
  unfold fX10_writeOrder_b34 at h
  refine g_aload_n 0 rfl rfl dX10_writeOrder_34 ?_
  refine g_getR FX10_44 sC_0 rfl dX10_writeOrder_35 ?_
  refine g_aload_n 0 rfl rfl dX10_writeOrder_38 ?_
  refine g_getR FX10_12 sC_0 rfl dX10_writeOrder_39 ?_
  refine g_aload_n 0 rfl rfl dX10_writeOrder_42 ?_
  refine g_getR FX10_12 sC_0 rfl dX10_writeOrder_43 ?_
  refine g_getR FX10_177 sC_1 rfl dX10_writeOrder_46 ?_
  refine g_iload_n 1 rfl rfl dX10_writeOrder_49 ?_
  obtain ⟨v4, ev4, h⟩ := g_bnd h
  refine g_iald' ev4 sC_8 dX10_writeOrder_50 ?_
  obtain ⟨v5, ev5, h⟩ := g_bnd h
  refine g_callV LX10_374 sC_34 rfl (kX4_putGroup nC_1 ev5) rfl rfl (Nat.le_of_ble_eq_true rfl) ⟨Nat.le_of_ble_eq_true rfl, Nat.le_of_ble_eq_true rfl⟩ ⟨Nat.le_of_ble_eq_true rfl, Nat.le_of_ble_eq_true rfl⟩ dX10_writeOrder_51 rfl ?_
  refine g_iinc (j := 1) (v := x1 + (1 : Int32)) (ls' := [(1, .int (x1 + (1 : Int32))), (0, .ref (gAd V 0))]) rfl rfl (Nat.le_of_ble_eq_true rfl) rfl dX10_writeOrder_54 ?_
  refine g_goto (tgt := 10) rfl dX10_writeOrder_57 ?_
  cases h
  refine g_sub [1, 0] rfl ?_
  exact Kc (x1 + (1 : Int32), v5) rfl
def fX10_writeOrder_l10 (x1 : Int32) (M0 : gMem) : Option ((Int32 × gMem) ⊕ gMem) :=
  if (M0.1 1 11) ≤ x1 then (some (.inr M0)) else if x1 ≤ 0 then (fX10_writeOrder_b34 x1 M0) else (fX4_put (32 : Int32) M0).bind fun v6 => fX10_writeOrder_b34 x1 v6
set_option maxRecDepth 20000 in
theorem tX10_writeOrder_l10 {X : gX} {V : gEnv} {x1 : Int32} {M0 : gMem}  {o : ((Int32 × gMem) ⊕ gMem)} (h : fX10_writeOrder_l10 x1 M0 = some o) (Kc : ∀ s9, o = .inl s9 → gG X V mX10_writeOrder gShC s9.2 0 0 10 [(0, .ref (gAd V 0)), (1, .int s9.1)] []) (Kx : ∀ e9, o = .inr e9 → gG X V mX10_writeOrder gShC e9 0 0 60 [(0, .ref (gAd V 0))] []) : gG X V mX10_writeOrder gShC M0 0 0 10 [(0, .ref (gAd V 0)), (1, .int x1)] [] := by
  unfold fX10_writeOrder_l10 at h
  refine g_iload_n 1 rfl rfl dX10_writeOrder_10 ?_
  refine g_aload_n 0 rfl rfl dX10_writeOrder_11 ?_
  refine g_getR FX10_12 sC_0 rfl dX10_writeOrder_12 ?_
  refine g_getI FX10_149 sC_1 rfl dX10_writeOrder_15 ?_
  rcases g_ite h with ⟨c2, h⟩ | ⟨c2, h⟩
  · refine g_icmp_ge_t c2 (tgt := 60) rfl dX10_writeOrder_18 ?_
    cases h
    refine g_sub [0] rfl ?_
    exact Kx M0 rfl
  · refine g_icmp_ge_f c2 (tgt := 60) rfl dX10_writeOrder_18 ?_
    refine g_iload_n 1 rfl rfl dX10_writeOrder_21 ?_
    rcases g_ite h with ⟨c3, h⟩ | ⟨c3, h⟩
    · refine g_if_le_t c3 (tgt := 34) rfl dX10_writeOrder_22 ?_
      exact tX10_writeOrder_b34  h Kc Kx
    · refine g_if_le_f c3 (tgt := 34) rfl dX10_writeOrder_22 ?_
      refine g_aload_n 0 rfl rfl dX10_writeOrder_25 ?_
      refine g_getR FX10_44 sC_0 rfl dX10_writeOrder_26 ?_
      refine g_bipush (v := 32) rfl dX10_writeOrder_29 ?_
      obtain ⟨v6, ev6, h⟩ := g_bnd h
      refine g_callV LX10_371 sC_34 rfl (kX4_put ev6) rfl rfl (Nat.le_of_ble_eq_true rfl) ⟨Nat.le_of_ble_eq_true rfl, Nat.le_of_ble_eq_true rfl⟩ ⟨Nat.le_of_ble_eq_true rfl, Nat.le_of_ble_eq_true rfl⟩ dX10_writeOrder_31 rfl ?_
      exact tX10_writeOrder_b34  h Kc Kx
def fX10_writeOrder (M0 : gMem) : Option (Int32 × gMem) :=
  (wF M0 34 1 (0 : Int32)).bind fun M1 => (gLoop (fun z9 => fX10_writeOrder_l10 z9.1 z9.2) gFu ((0 : Int32), M1)).bind fun w7 => some (w7.1 34 1, w7)
set_option maxRecDepth 20000 in
theorem tX10_writeOrder {X : gX} {V : gEnv} {M0 : gMem}  {o : (Int32 × gMem)} (h : fX10_writeOrder M0 = some o) (O : gO X V mX10_writeOrder gShC (some .int) (some (.int o.1)) o.2) : gG X V mX10_writeOrder gShC M0 0 0 0 [(0, .ref (gAd V 0))] [] := by
  unfold fX10_writeOrder at h
  refine g_aload_n 0 rfl rfl dX10_writeOrder_0 ?_
  refine g_getR FX10_44 sC_0 rfl dX10_writeOrder_1 ?_
  refine g_iconst (v := 0) rfl dX10_writeOrder_4 ?_
  obtain ⟨M1, eM1, h⟩ := g_bnd h
  refine g_putI' eM1 FX10_370 jX4 sC_34 rfl rfl rfl dX10_writeOrder_5 ?_
  refine g_iconst (v := 0) rfl dX10_writeOrder_8 ?_
  refine g_istore_n (ls' := [(1, .int (0 : Int32)), (0, .ref (gAd V 0))]) rfl (Nat.le_of_ble_eq_true rfl) rfl dX10_writeOrder_9 ?_
  obtain ⟨w7, ew7, h⟩ := g_bnd h
  refine g_sub [1, 0] rfl ?_
  have KX : gG X V mX10_writeOrder gShC w7 0 0 60 [(0, .ref (gAd V 0))] [] := by
    refine g_aload_n 0 rfl rfl dX10_writeOrder_60 ?_
    refine g_getR FX10_44 sC_0 rfl dX10_writeOrder_61 ?_
    refine g_getI FX10_370 sC_34 rfl dX10_writeOrder_64 ?_
    cases h
    exact g_iret O ⟨Nat.le_of_ble_eq_true rfl, Nat.le_of_ble_eq_true rfl⟩ rfl dX10_writeOrder_67
  exact gLoop_Q ew7 (fun z9 => gG X V mX10_writeOrder gShC z9.2 0 0 10 [(0, .ref (gAd V 0)), (1, .int z9.1)] []) (fun s9 o9 hb9 hc9 hx9 => tX10_writeOrder_l10  hb9 hc9 (fun e9 he9 => by cases hx9 _ he9; exact KX))
theorem kX10_writeOrder {l : Launch} {V : gEnv} {M0 : gMem}   {o : (Int32 × gMem)} (h : fX10_writeOrder M0 = some o) : gM l yX10_writeOrder cX10_writeOrder 2 (some .int) rX10_writeOrder V gShC [.ref (gAd V 0)] M0 (some (.int o.1)) o.2 :=
  gM.of (by decide) (Nat.le_of_ble_eq_true rfl) rfl (fun X _ O => tX10_writeOrder  h O)
theorem dX10_writeArrows_0 : decode cX10_writeArrows 0 = .ok (.aload_n 0, 1) := by decide +kernel
theorem dX10_writeArrows_1 : decode cX10_writeArrows 1 = .ok (.iload_n 1, 1) := by decide +kernel
theorem dX10_writeArrows_2 : decode cX10_writeArrows 2 = .ok (.invokevirtual 170, 3) := by decide +kernel
theorem dX10_writeArrows_5 : decode cX10_writeArrows 5 = .ok (.aload_n 0, 1) := by decide +kernel
theorem dX10_writeArrows_6 : decode cX10_writeArrows 6 = .ok (.getfield 44, 3) := by decide +kernel
theorem dX10_writeArrows_9 : decode cX10_writeArrows 9 = .ok (.iconst 0, 1) := by decide +kernel
theorem dX10_writeArrows_10 : decode cX10_writeArrows 10 = .ok (.putfield 370, 3) := by decide +kernel
theorem dX10_writeArrows_13 : decode cX10_writeArrows 13 = .ok (.iconst 0, 1) := by decide +kernel
theorem dX10_writeArrows_14 : decode cX10_writeArrows 14 = .ok (.istore_n 2, 1) := by decide +kernel
theorem dX10_writeArrows_15 : decode cX10_writeArrows 15 = .ok (.iload_n 2, 1) := by decide +kernel
theorem dX10_writeArrows_16 : decode cX10_writeArrows 16 = .ok (.aload_n 0, 1) := by decide +kernel
theorem dX10_writeArrows_17 : decode cX10_writeArrows 17 = .ok (.getfield 12, 3) := by decide +kernel
theorem dX10_writeArrows_20 : decode cX10_writeArrows 20 = .ok (.getfield 146, 3) := by decide +kernel
theorem dX10_writeArrows_23 : decode cX10_writeArrows 23 = .ok (.if_icmp .ge 90, 3) := by decide +kernel
theorem dX10_writeArrows_26 : decode cX10_writeArrows 26 = .ok (.aload_n 0, 1) := by decide +kernel
theorem dX10_writeArrows_27 : decode cX10_writeArrows 27 = .ok (.getfield 12, 3) := by decide +kernel
theorem dX10_writeArrows_30 : decode cX10_writeArrows 30 = .ok (.getfield 243, 3) := by decide +kernel
theorem dX10_writeArrows_33 : decode cX10_writeArrows 33 = .ok (.iload_n 2, 1) := by decide +kernel
theorem dX10_writeArrows_34 : decode cX10_writeArrows 34 = .ok (.iaload, 1) := by decide +kernel
theorem dX10_writeArrows_35 : decode cX10_writeArrows 35 = .ok (.iload_n 1, 1) := by decide +kernel
theorem dX10_writeArrows_36 : decode cX10_writeArrows 36 = .ok (.if_icmp .ne 71, 3) := by decide +kernel
theorem dX10_writeArrows_39 : decode cX10_writeArrows 39 = .ok (.aload_n 0, 1) := by decide +kernel
theorem dX10_writeArrows_40 : decode cX10_writeArrows 40 = .ok (.getfield 44, 3) := by decide +kernel
theorem dX10_writeArrows_43 : decode cX10_writeArrows 43 = .ok (.getfield 370, 3) := by decide +kernel
theorem dX10_writeArrows_46 : decode cX10_writeArrows 46 = .ok (.ifCond .le 12, 3) := by decide +kernel
theorem dX10_writeArrows_49 : decode cX10_writeArrows 49 = .ok (.aload_n 0, 1) := by decide +kernel
theorem dX10_writeArrows_50 : decode cX10_writeArrows 50 = .ok (.getfield 44, 3) := by decide +kernel
theorem dX10_writeArrows_53 : decode cX10_writeArrows 53 = .ok (.bipush 32, 2) := by decide +kernel
theorem dX10_writeArrows_55 : decode cX10_writeArrows 55 = .ok (.invokevirtual 371, 3) := by decide +kernel
theorem dX10_writeArrows_58 : decode cX10_writeArrows 58 = .ok (.aload_n 0, 1) := by decide +kernel
theorem dX10_writeArrows_59 : decode cX10_writeArrows 59 = .ok (.getfield 44, 3) := by decide +kernel
theorem dX10_writeArrows_62 : decode cX10_writeArrows 62 = .ok (.aload_n 0, 1) := by decide +kernel
theorem dX10_writeArrows_63 : decode cX10_writeArrows 63 = .ok (.getfield 12, 3) := by decide +kernel
theorem dX10_writeArrows_66 : decode cX10_writeArrows 66 = .ok (.iload_n 2, 1) := by decide +kernel
theorem dX10_writeArrows_67 : decode cX10_writeArrows 67 = .ok (.invokevirtual 249, 3) := by decide +kernel
theorem dX10_writeArrows_70 : decode cX10_writeArrows 70 = .ok (.ifCond .eq 8, 3) := by decide +kernel
theorem dX10_writeArrows_73 : decode cX10_writeArrows 73 = .ok (.bipush 61, 2) := by decide +kernel
theorem dX10_writeArrows_75 : decode cX10_writeArrows 75 = .ok (.goto 5, 3) := by decide +kernel
theorem dX10_writeArrows_78 : decode cX10_writeArrows 78 = .ok (.bipush 62, 2) := by decide +kernel
theorem dX10_writeArrows_80 : decode cX10_writeArrows 80 = .ok (.invokevirtual 371, 3) := by decide +kernel
theorem dX10_writeArrows_83 : decode cX10_writeArrows 83 = .ok (.aload_n 0, 1) := by decide +kernel
theorem dX10_writeArrows_84 : decode cX10_writeArrows 84 = .ok (.getfield 44, 3) := by decide +kernel
theorem dX10_writeArrows_87 : decode cX10_writeArrows 87 = .ok (.aload_n 0, 1) := by decide +kernel
theorem dX10_writeArrows_88 : decode cX10_writeArrows 88 = .ok (.getfield 12, 3) := by decide +kernel
theorem dX10_writeArrows_91 : decode cX10_writeArrows 91 = .ok (.getfield 204, 3) := by decide +kernel
theorem dX10_writeArrows_94 : decode cX10_writeArrows 94 = .ok (.aload_n 0, 1) := by decide +kernel
theorem dX10_writeArrows_95 : decode cX10_writeArrows 95 = .ok (.getfield 12, 3) := by decide +kernel
theorem dX10_writeArrows_98 : decode cX10_writeArrows 98 = .ok (.getfield 246, 3) := by decide +kernel
theorem dX10_writeArrows_101 : decode cX10_writeArrows 101 = .ok (.iload_n 2, 1) := by decide +kernel
theorem dX10_writeArrows_102 : decode cX10_writeArrows 102 = .ok (.iaload, 1) := by decide +kernel
theorem dX10_writeArrows_103 : decode cX10_writeArrows 103 = .ok (.laload, 1) := by decide +kernel
theorem dX10_writeArrows_104 : decode cX10_writeArrows 104 = .ok (.invokevirtual 377, 3) := by decide +kernel
theorem dX10_writeArrows_107 : decode cX10_writeArrows 107 = .ok (.iinc 2 1, 3) := by decide +kernel
theorem dX10_writeArrows_110 : decode cX10_writeArrows 110 = .ok (.goto (-95), 3) := by decide +kernel
theorem dX10_writeArrows_113 : decode cX10_writeArrows 113 = .ok (.aload_n 0, 1) := by decide +kernel
theorem dX10_writeArrows_114 : decode cX10_writeArrows 114 = .ok (.getfield 44, 3) := by decide +kernel
theorem dX10_writeArrows_117 : decode cX10_writeArrows 117 = .ok (.getfield 370, 3) := by decide +kernel
theorem dX10_writeArrows_120 : decode cX10_writeArrows 120 = .ok (.ireturn, 1) := by decide +kernel
abbrev rX10_writeArrows : Room := { frames := 7, cells := 1, slots := 6, locals := 111 }
abbrev mX10_writeArrows : gY := (cX10_writeArrows, RX10, 3, rX10_writeArrows)
def fX10_writeArrows_b107 (x1 : Int32) (x2 : Int32) (M0 : gMem) : Option ((Int32 × gMem) ⊕ gMem) :=
  some (.inl (x2 + (1 : Int32), M0))
set_option maxRecDepth 20000 in
theorem tX10_writeArrows_b107 {X : gX} {V : gEnv} {x1 : Int32} {x2 : Int32} {M0 : gMem}  {o : ((Int32 × gMem) ⊕ gMem)} (h : fX10_writeArrows_b107 x1 x2 M0 = some o) (Kc : ∀ s9, o = .inl s9 → gG X V mX10_writeArrows gShC s9.2 1 6 15 [(0, .ref (gAd V 0)), (1, .int x1), (2, .int s9.1)] []) (Kx : ∀ e9, o = .inr e9 → gG X V mX10_writeArrows gShC e9 1 6 113 [(0, .ref (gAd V 0))] []) : gG X V mX10_writeArrows gShC M0 1 6 107 [(0, .ref (gAd V 0)), (1, .int x1), (2, .int x2)] [] := by
  unfold fX10_writeArrows_b107 at h
  refine g_iinc (j := 2) (v := x2 + (1 : Int32)) (ls' := [(2, .int (x2 + (1 : Int32))), (0, .ref (gAd V 0)), (1, .int x1)]) rfl rfl (Nat.le_of_ble_eq_true rfl) rfl dX10_writeArrows_107 ?_
  refine g_goto (tgt := 15) rfl dX10_writeArrows_110 ?_
  cases h
  refine g_sub [1, 2, 0] rfl ?_
  exact Kc (x2 + (1 : Int32), M0) rfl
def fX10_writeArrows_b58 (x1 : Int32) (x2 : Int32) (M0 : gMem) : Option ((Int32 × gMem) ⊕ gMem) :=
  (fX2_isInner 1 x2 M0).bind fun v9 => (fX4_put (if v9 = 0 then (62 : Int32) else (61 : Int32)) M0).bind fun v11 => (rI v11 5 60 x2).bind fun v12 => (rL v11 2 24 v12).bind fun v13 => (fX4_putName v13 v11).bind fun v14 => fX10_writeArrows_b107 x1 x2 v14
set_option maxRecDepth 20000 in
theorem tX10_writeArrows_b58 {X : gX} {V : gEnv} {x1 : Int32} {x2 : Int32} {M0 : gMem}  {o : ((Int32 × gMem) ⊕ gMem)} (h : fX10_writeArrows_b58 x1 x2 M0 = some o) (Kc : ∀ s9, o = .inl s9 → gG X V mX10_writeArrows gShC s9.2 1 6 15 [(0, .ref (gAd V 0)), (1, .int x1), (2, .int s9.1)] []) (Kx : ∀ e9, o = .inr e9 → gG X V mX10_writeArrows gShC e9 1 6 113 [(0, .ref (gAd V 0))] []) : gG X V mX10_writeArrows gShC M0 1 6 58 [(0, .ref (gAd V 0)), (1, .int x1), (2, .int x2)] [] := by
  unfold fX10_writeArrows_b58 at h
  refine g_aload_n 0 rfl rfl dX10_writeArrows_58 ?_
  refine g_getR FX10_44 sC_0 rfl dX10_writeArrows_59 ?_
  refine g_aload_n 0 rfl rfl dX10_writeArrows_62 ?_
  refine g_getR FX10_12 sC_0 rfl dX10_writeArrows_63 ?_
  refine g_iload_n 2 rfl rfl dX10_writeArrows_66 ?_
  obtain ⟨v9, ev9, h⟩ := g_bnd h
  refine g_callV LX10_249 sC_1 rfl (kX2_isInner nC_1 ev9) rfl rfl (Nat.le_of_ble_eq_true rfl) ⟨Nat.le_of_ble_eq_true rfl, Nat.le_of_ble_eq_true rfl⟩ ⟨Nat.le_of_ble_eq_true rfl, Nat.le_of_ble_eq_true rfl⟩ dX10_writeArrows_67 rfl ?_
  have KJ : gG X V mX10_writeArrows gShC M0 1 6 80 [(0, .ref (gAd V 0)), (1, .int x1), (2, .int x2)] [.int (if v9 = 0 then (62 : Int32) else (61 : Int32)), .ref (gAd V 34)] := by
    obtain ⟨v11, ev11, h⟩ := g_bnd h
    refine g_callV LX10_371 sC_34 rfl (kX4_put ev11) rfl rfl (Nat.le_of_ble_eq_true rfl) ⟨Nat.le_of_ble_eq_true rfl, Nat.le_of_ble_eq_true rfl⟩ ⟨Nat.le_of_ble_eq_true rfl, Nat.le_of_ble_eq_true rfl⟩ dX10_writeArrows_80 rfl ?_
    refine g_aload_n 0 rfl rfl dX10_writeArrows_83 ?_
    refine g_getR FX10_44 sC_0 rfl dX10_writeArrows_84 ?_
    refine g_aload_n 0 rfl rfl dX10_writeArrows_87 ?_
    refine g_getR FX10_12 sC_0 rfl dX10_writeArrows_88 ?_
    refine g_getR FX10_204 sC_1 rfl dX10_writeArrows_91 ?_
    refine g_aload_n 0 rfl rfl dX10_writeArrows_94 ?_
    refine g_getR FX10_12 sC_0 rfl dX10_writeArrows_95 ?_
    refine g_getR FX10_246 sC_1 rfl dX10_writeArrows_98 ?_
    refine g_iload_n 2 rfl rfl dX10_writeArrows_101 ?_
    obtain ⟨v12, ev12, h⟩ := g_bnd h
    refine g_iald' ev12 sC_5 dX10_writeArrows_102 ?_
    obtain ⟨v13, ev13, h⟩ := g_bnd h
    refine g_lald' ev13 sC_2 dX10_writeArrows_103 ?_
    obtain ⟨v14, ev14, h⟩ := g_bnd h
    refine g_callV LX10_377 sC_34 rfl (kX4_putName ev14) rfl rfl (Nat.le_of_ble_eq_true rfl) ⟨Nat.le_of_ble_eq_true rfl, Nat.le_of_ble_eq_true rfl⟩ ⟨Nat.le_of_ble_eq_true rfl, Nat.le_of_ble_eq_true rfl⟩ dX10_writeArrows_104 rfl ?_
    exact tX10_writeArrows_b107  h Kc Kx
  by_cases c10 : v9 = 0
  · rw [if_pos c10] at KJ
    refine g_if_eq_t c10 (tgt := 78) rfl dX10_writeArrows_70 ?_
    refine g_bipush (v := 62) rfl dX10_writeArrows_78 ?_
    exact KJ
  · rw [if_neg c10] at KJ
    refine g_if_eq_f c10 (tgt := 78) rfl dX10_writeArrows_70 ?_
    refine g_bipush (v := 61) rfl dX10_writeArrows_73 ?_
    refine g_goto (tgt := 80) rfl dX10_writeArrows_75 ?_
    exact KJ
def fX10_writeArrows_l15 (x1 : Int32) (x2 : Int32) (M0 : gMem) : Option ((Int32 × gMem) ⊕ gMem) :=
  if (M0.1 1 10) ≤ x2 then (some (.inr M0)) else (rI M0 4 60 x2).bind fun v6 => if v6 = x1 then (if (M0.1 34 1) ≤ 0 then (fX10_writeArrows_b58 x1 x2 M0) else (fX4_put (32 : Int32) M0).bind fun v15 => fX10_writeArrows_b58 x1 x2 v15) else fX10_writeArrows_b107 x1 x2 M0
set_option maxRecDepth 20000 in
theorem tX10_writeArrows_l15 {X : gX} {V : gEnv} {x1 : Int32} {x2 : Int32} {M0 : gMem}  {o : ((Int32 × gMem) ⊕ gMem)} (h : fX10_writeArrows_l15 x1 x2 M0 = some o) (Kc : ∀ s9, o = .inl s9 → gG X V mX10_writeArrows gShC s9.2 1 6 15 [(0, .ref (gAd V 0)), (1, .int x1), (2, .int s9.1)] []) (Kx : ∀ e9, o = .inr e9 → gG X V mX10_writeArrows gShC e9 1 6 113 [(0, .ref (gAd V 0))] []) : gG X V mX10_writeArrows gShC M0 1 6 15 [(0, .ref (gAd V 0)), (1, .int x1), (2, .int x2)] [] := by
  unfold fX10_writeArrows_l15 at h
  refine g_iload_n 2 rfl rfl dX10_writeArrows_15 ?_
  refine g_aload_n 0 rfl rfl dX10_writeArrows_16 ?_
  refine g_getR FX10_12 sC_0 rfl dX10_writeArrows_17 ?_
  refine g_getI FX10_146 sC_1 rfl dX10_writeArrows_20 ?_
  rcases g_ite h with ⟨c5, h⟩ | ⟨c5, h⟩
  · refine g_icmp_ge_t c5 (tgt := 113) rfl dX10_writeArrows_23 ?_
    cases h
    refine g_sub [0] rfl ?_
    exact Kx M0 rfl
  · refine g_icmp_ge_f c5 (tgt := 113) rfl dX10_writeArrows_23 ?_
    refine g_aload_n 0 rfl rfl dX10_writeArrows_26 ?_
    refine g_getR FX10_12 sC_0 rfl dX10_writeArrows_27 ?_
    refine g_getR FX10_243 sC_1 rfl dX10_writeArrows_30 ?_
    refine g_iload_n 2 rfl rfl dX10_writeArrows_33 ?_
    obtain ⟨v6, ev6, h⟩ := g_bnd h
    refine g_iald' ev6 sC_4 dX10_writeArrows_34 ?_
    refine g_iload_n 1 rfl rfl dX10_writeArrows_35 ?_
    rcases g_ite h with ⟨c7, h⟩ | ⟨c7, h⟩
    · refine g_icmp_ne_f c7 (tgt := 107) rfl dX10_writeArrows_36 ?_
      refine g_aload_n 0 rfl rfl dX10_writeArrows_39 ?_
      refine g_getR FX10_44 sC_0 rfl dX10_writeArrows_40 ?_
      refine g_getI FX10_370 sC_34 rfl dX10_writeArrows_43 ?_
      rcases g_ite h with ⟨c8, h⟩ | ⟨c8, h⟩
      · refine g_if_le_t c8 (tgt := 58) rfl dX10_writeArrows_46 ?_
        exact tX10_writeArrows_b58  h Kc Kx
      · refine g_if_le_f c8 (tgt := 58) rfl dX10_writeArrows_46 ?_
        refine g_aload_n 0 rfl rfl dX10_writeArrows_49 ?_
        refine g_getR FX10_44 sC_0 rfl dX10_writeArrows_50 ?_
        refine g_bipush (v := 32) rfl dX10_writeArrows_53 ?_
        obtain ⟨v15, ev15, h⟩ := g_bnd h
        refine g_callV LX10_371 sC_34 rfl (kX4_put ev15) rfl rfl (Nat.le_of_ble_eq_true rfl) ⟨Nat.le_of_ble_eq_true rfl, Nat.le_of_ble_eq_true rfl⟩ ⟨Nat.le_of_ble_eq_true rfl, Nat.le_of_ble_eq_true rfl⟩ dX10_writeArrows_55 rfl ?_
        exact tX10_writeArrows_b58  h Kc Kx
    · refine g_icmp_ne_t c7 (tgt := 107) rfl dX10_writeArrows_36 ?_
      exact tX10_writeArrows_b107  h Kc Kx
def fX10_writeArrows (x1 : Int32) (M0 : gMem) : Option ((Int32 ⊕ Nat) × gMem) :=
  (fX10_checkTask x1 M0).bind fun v1 => gSE v1 (fun u2 => (wF M0 34 1 (0 : Int32)).bind fun M4 => (gLoop (fun z9 => fX10_writeArrows_l15 x1 z9.1 z9.2) gFu ((0 : Int32), M4)).bind fun w16 => some (.inl (w16.1 34 1), w16)) (fun x3 => some (.inr x3, M0))
set_option maxRecDepth 20000 in
theorem tX10_writeArrows {X : gX} {V : gEnv} {x1 : Int32} {M0 : gMem}  {o : ((Int32 ⊕ Nat) × gMem)} (h : fX10_writeArrows x1 M0 = some o) (O : gOX X V mX10_writeArrows gShC (some .int) (gOI o.1) o.2) : gG X V mX10_writeArrows gShC M0 0 0 0 [(0, .ref (gAd V 0)), (1, .int x1)] [] := by
  unfold fX10_writeArrows at h
  refine g_aload_n 0 rfl rfl dX10_writeArrows_0 ?_
  refine g_iload_n 1 rfl rfl dX10_writeArrows_1 ?_
  obtain ⟨v1, ev1, h⟩ := g_bnd h
  rcases v1 with u2 | x3
  · have h := g_sl h
    refine g_callVX LX10_170 sC_0 rfl (kX10_checkTask O.2.2.1 ev1) rfl rfl (Nat.le_of_ble_eq_true rfl) ⟨Nat.le_of_ble_eq_true rfl, Nat.le_of_ble_eq_true rfl⟩ ⟨Nat.le_of_ble_eq_true rfl, Nat.le_of_ble_eq_true rfl⟩ dX10_writeArrows_2 rfl ?_
    refine g_aload_n 0 rfl rfl dX10_writeArrows_5 ?_
    refine g_getR FX10_44 sC_0 rfl dX10_writeArrows_6 ?_
    refine g_iconst (v := 0) rfl dX10_writeArrows_9 ?_
    obtain ⟨M4, eM4, h⟩ := g_bnd h
    refine g_putI' eM4 FX10_370 jX4 sC_34 rfl rfl rfl dX10_writeArrows_10 ?_
    refine g_iconst (v := 0) rfl dX10_writeArrows_13 ?_
    refine g_istore_n (ls' := [(2, .int (0 : Int32)), (0, .ref (gAd V 0)), (1, .int x1)]) rfl (Nat.le_of_ble_eq_true rfl) rfl dX10_writeArrows_14 ?_
    obtain ⟨w16, ew16, h⟩ := g_bnd h
    refine g_sub [1, 2, 0] rfl ?_
    have KX : gG X V mX10_writeArrows gShC w16 1 6 113 [(0, .ref (gAd V 0))] [] := by
      refine g_aload_n 0 rfl rfl dX10_writeArrows_113 ?_
      refine g_getR FX10_44 sC_0 rfl dX10_writeArrows_114 ?_
      refine g_getI FX10_370 sC_34 rfl dX10_writeArrows_117 ?_
      cases h
      exact g_iretX O ⟨Nat.le_of_ble_eq_true rfl, Nat.le_of_ble_eq_true rfl⟩ rfl dX10_writeArrows_120
    exact gLoop_Q ew16 (fun z9 => gG X V mX10_writeArrows gShC z9.2 1 6 15 [(0, .ref (gAd V 0)), (1, .int x1), (2, .int z9.1)] []) (fun s9 o9 hb9 hc9 hx9 => tX10_writeArrows_l15  hb9 hc9 (fun e9 he9 => by cases hx9 _ he9; exact KX))
  · have h := g_sr h
    cases h
    exact g_callVT LX10_170 sC_0 rfl O (kX10_checkTask O.2.2.1 ev1) rfl rfl (Nat.le_of_ble_eq_true rfl) ⟨Nat.le_of_ble_eq_true rfl, Nat.le_of_ble_eq_true rfl⟩ ⟨Nat.le_of_ble_eq_true rfl, Nat.le_of_ble_eq_true rfl⟩ dX10_writeArrows_2
theorem kX10_writeArrows {l : Launch} {V : gEnv} {M0 : gMem} {x1 : Int32} (hst : l.stackTraces = false)  {o : ((Int32 ⊕ Nat) × gMem)} (h : fX10_writeArrows x1 M0 = some o) : gMX l yX10_writeArrows cX10_writeArrows 3 (some .int) rX10_writeArrows V gShC [.ref (gAd V 0), .int x1] M0 (gOI o.1) o.2 :=
  gMX.of hst (by decide) (Nat.le_of_ble_eq_true rfl) rfl (fun X _ O => tX10_writeArrows  h O)
theorem dX10_outputByte_0 : decode cX10_outputByte 0 = .ok (.iload_n 1, 1) := by decide +kernel
theorem dX10_outputByte_1 : decode cX10_outputByte 1 = .ok (.ifCond .lt 14, 3) := by decide +kernel
theorem dX10_outputByte_4 : decode cX10_outputByte 4 = .ok (.iload_n 1, 1) := by decide +kernel
theorem dX10_outputByte_5 : decode cX10_outputByte 5 = .ok (.aload_n 0, 1) := by decide +kernel
theorem dX10_outputByte_6 : decode cX10_outputByte 6 = .ok (.getfield 44, 3) := by decide +kernel
theorem dX10_outputByte_9 : decode cX10_outputByte 9 = .ok (.getfield 370, 3) := by decide +kernel
theorem dX10_outputByte_12 : decode cX10_outputByte 12 = .ok (.if_icmp .lt 7, 3) := by decide +kernel
theorem dX10_outputByte_15 : decode cX10_outputByte 15 = .ok (.iconst (-1), 1) := by decide +kernel
theorem dX10_outputByte_16 : decode cX10_outputByte 16 = .ok (.goto 12, 3) := by decide +kernel
theorem dX10_outputByte_19 : decode cX10_outputByte 19 = .ok (.aload_n 0, 1) := by decide +kernel
theorem dX10_outputByte_20 : decode cX10_outputByte 20 = .ok (.getfield 44, 3) := by decide +kernel
theorem dX10_outputByte_23 : decode cX10_outputByte 23 = .ok (.getfield 381, 3) := by decide +kernel
theorem dX10_outputByte_26 : decode cX10_outputByte 26 = .ok (.iload_n 1, 1) := by decide +kernel
theorem dX10_outputByte_27 : decode cX10_outputByte 27 = .ok (.baload, 1) := by decide +kernel
theorem dX10_outputByte_28 : decode cX10_outputByte 28 = .ok (.ireturn, 1) := by decide +kernel
abbrev rX10_outputByte : Room := { frames := 0, cells := 0, slots := 0, locals := 0 }
abbrev mX10_outputByte : gY := (cX10_outputByte, RX10, 2, rX10_outputByte)
def fX10_outputByte_b15 (M0 : gMem) : Option Int32 :=
  some (-1 : Int32)
set_option maxRecDepth 20000 in
theorem tX10_outputByte_b15 {X : gX} {V : gEnv} {M0 : gMem}  {o : Int32} (h : fX10_outputByte_b15 M0 = some o) (O : gO X V mX10_outputByte gShC (some .int) (some (.int o)) M0) : gG X V mX10_outputByte gShC M0 0 0 15 [] [] := by
  unfold fX10_outputByte_b15 at h
  refine g_iconst (v := -1) rfl dX10_outputByte_15 ?_
  refine g_goto (tgt := 28) rfl dX10_outputByte_16 ?_
  cases h
  exact g_iret O ⟨Nat.le_of_ble_eq_true rfl, Nat.le_of_ble_eq_true rfl⟩ rfl dX10_outputByte_28
def fX10_outputByte (x1 : Int32) (M0 : gMem) : Option Int32 :=
  if x1 < 0 then (fX10_outputByte_b15 M0) else if x1 < (M0.1 34 1) then ((rI M0 35 256 x1).bind fun v3 => some v3) else fX10_outputByte_b15 M0
set_option maxRecDepth 20000 in
theorem tX10_outputByte {X : gX} {V : gEnv} {x1 : Int32} {M0 : gMem}  {o : Int32} (h : fX10_outputByte x1 M0 = some o) (O : gO X V mX10_outputByte gShC (some .int) (some (.int o)) M0) : gG X V mX10_outputByte gShC M0 0 0 0 [(0, .ref (gAd V 0)), (1, .int x1)] [] := by
  unfold fX10_outputByte at h
  refine g_iload_n 1 rfl rfl dX10_outputByte_0 ?_
  rcases g_ite h with ⟨c1, h⟩ | ⟨c1, h⟩
  · refine g_if_lt_t c1 (tgt := 15) rfl dX10_outputByte_1 ?_
    refine g_sub [] rfl ?_
    exact tX10_outputByte_b15  h O
  · refine g_if_lt_f c1 (tgt := 15) rfl dX10_outputByte_1 ?_
    refine g_iload_n 1 rfl rfl dX10_outputByte_4 ?_
    refine g_aload_n 0 rfl rfl dX10_outputByte_5 ?_
    refine g_getR FX10_44 sC_0 rfl dX10_outputByte_6 ?_
    refine g_getI FX10_370 sC_34 rfl dX10_outputByte_9 ?_
    rcases g_ite h with ⟨c2, h⟩ | ⟨c2, h⟩
    · refine g_icmp_lt_t c2 (tgt := 19) rfl dX10_outputByte_12 ?_
      refine g_aload_n 0 rfl rfl dX10_outputByte_19 ?_
      refine g_getR FX10_44 sC_0 rfl dX10_outputByte_20 ?_
      refine g_getR FX10_381 sC_34 rfl dX10_outputByte_23 ?_
      refine g_iload_n 1 rfl rfl dX10_outputByte_26 ?_
      obtain ⟨v3, ev3, h⟩ := g_bnd h
      refine g_bald' ev3 sC_35 dX10_outputByte_27 ?_
      cases h
      exact g_iret O ⟨Nat.le_of_ble_eq_true rfl, Nat.le_of_ble_eq_true rfl⟩ rfl dX10_outputByte_28
    · refine g_icmp_lt_f c2 (tgt := 19) rfl dX10_outputByte_12 ?_
      refine g_sub [] rfl ?_
      exact tX10_outputByte_b15  h O
theorem kX10_outputByte {l : Launch} {V : gEnv} {M0 : gMem} {x1 : Int32}  {o : Int32} (h : fX10_outputByte x1 M0 = some o) : gM l yX10_outputByte cX10_outputByte 2 (some .int) rX10_outputByte V gShC [.ref (gAd V 0), .int x1] M0 (some (.int o)) M0 :=
  gM.of (by decide) (Nat.le_of_ble_eq_true rfl) rfl (fun X _ O => tX10_outputByte  h O)
