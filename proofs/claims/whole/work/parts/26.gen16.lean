/-! METHODS, by program: pure functions and contracts -/
theorem dX11_makes_0 : decode cX11_makes 0 = .ok (.aload_n 0, 1) := by decide +kernel
theorem dX11_makes_1 : decode cX11_makes 1 = .ok (.invokevirtual 442, 3) := by decide +kernel
theorem dX11_makes_4 : decode cX11_makes 4 = .ok (.ifCond .ne 6, 3) := by decide +kernel
theorem dX11_makes_7 : decode cX11_makes 7 = .ok (.bipush (-8), 2) := by decide +kernel
theorem dX11_makes_9 : decode cX11_makes 9 = .ok (.ireturn, 1) := by decide +kernel
theorem dX11_makes_10 : decode cX11_makes 10 = .ok (.aload_n 0, 1) := by decide +kernel
theorem dX11_makes_11 : decode cX11_makes 11 = .ok (.getfield 9, 3) := by decide +kernel
theorem dX11_makes_14 : decode cX11_makes 14 = .ok (.iconst 0, 1) := by decide +kernel
theorem dX11_makes_15 : decode cX11_makes 15 = .ok (.iaload, 1) := by decide +kernel
theorem dX11_makes_16 : decode cX11_makes 16 = .ok (.bipush 24, 2) := by decide +kernel
theorem dX11_makes_18 : decode cX11_makes 18 = .ok (.if_icmp .ne 6, 3) := by decide +kernel
theorem dX11_makes_21 : decode cX11_makes 21 = .ok (.bipush (-6), 2) := by decide +kernel
theorem dX11_makes_23 : decode cX11_makes 23 = .ok (.ireturn, 1) := by decide +kernel
theorem dX11_makes_24 : decode cX11_makes 24 = .ok (.aload_n 0, 1) := by decide +kernel
theorem dX11_makes_25 : decode cX11_makes 25 = .ok (.iconst 0, 1) := by decide +kernel
theorem dX11_makes_26 : decode cX11_makes 26 = .ok (.aload_n 0, 1) := by decide +kernel
theorem dX11_makes_27 : decode cX11_makes 27 = .ok (.getfield 209, 3) := by decide +kernel
theorem dX11_makes_30 : decode cX11_makes 30 = .ok (.invokevirtual 267, 3) := by decide +kernel
theorem dX11_makes_33 : decode cX11_makes 33 = .ok (.iconst (-1), 1) := by decide +kernel
theorem dX11_makes_34 : decode cX11_makes 34 = .ok (.if_icmp .eq 6, 3) := by decide +kernel
theorem dX11_makes_37 : decode cX11_makes 37 = .ok (.bipush (-7), 2) := by decide +kernel
theorem dX11_makes_39 : decode cX11_makes 39 = .ok (.ireturn, 1) := by decide +kernel
theorem dX11_makes_40 : decode cX11_makes 40 = .ok (.aload_n 0, 1) := by decide +kernel
theorem dX11_makes_41 : decode cX11_makes 41 = .ok (.iconst 0, 1) := by decide +kernel
theorem dX11_makes_42 : decode cX11_makes 42 = .ok (.aload_n 0, 1) := by decide +kernel
theorem dX11_makes_43 : decode cX11_makes 43 = .ok (.getfield 209, 3) := by decide +kernel
theorem dX11_makes_46 : decode cX11_makes 46 = .ok (.iload_n 1, 1) := by decide +kernel
theorem dX11_makes_47 : decode cX11_makes 47 = .ok (.invokevirtual 68, 3) := by decide +kernel
theorem dX11_makes_50 : decode cX11_makes 50 = .ok (.istore_n 2, 1) := by decide +kernel
theorem dX11_makes_51 : decode cX11_makes 51 = .ok (.aload_n 0, 1) := by decide +kernel
theorem dX11_makes_52 : decode cX11_makes 52 = .ok (.iconst 0, 1) := by decide +kernel
theorem dX11_makes_53 : decode cX11_makes 53 = .ok (.putfield 209, 3) := by decide +kernel
theorem dX11_makes_56 : decode cX11_makes 56 = .ok (.iload_n 2, 1) := by decide +kernel
theorem dX11_makes_57 : decode cX11_makes 57 = .ok (.ireturn, 1) := by decide +kernel
abbrev rX11_makes : Room := { frames := 3, cells := 0, slots := 0, locals := 64 }
abbrev mX11_makes : gY := (cX11_makes, RX11, 3, rX11_makes)
def fX11_makes (x1 : Int32) (M0 : gMem) : Option (Int32 × gMem) :=
  (fX11_isName M0).bind fun v1 => if v1 = 0 then (some ((-8 : Int32), M0)) else (rI M0 1 374 (0 : Int32)).bind fun v3 => if v3 = (24 : Int32) then (some ((-6 : Int32), M0)) else (fX11_named (0 : Int32) (M0.1 0 21) M0).bind fun v5 => if v5 = (-1 : Int32) then ((fX11_joins (0 : Int32) (M0.1 0 21) x1 M0).bind fun v7 => (wF v7.2 0 21 (0 : Int32)).bind fun M8 => some (v7.1, M8)) else some ((-7 : Int32), M0)
set_option maxRecDepth 20000 in
theorem tX11_makes {X : gX} {V : gEnv} {x1 : Int32} {M0 : gMem}  {o : (Int32 × gMem)} (h : fX11_makes x1 M0 = some o) (O : gO X V mX11_makes gShM (some .int) (some (.int o.1)) o.2) : gG X V mX11_makes gShM M0 0 0 0 [(0, .ref (gAd V 0)), (1, .int x1)] [] := by
  unfold fX11_makes at h
  refine g_aload_n 0 rfl rfl dX11_makes_0 ?_
  obtain ⟨v1, ev1, h⟩ := g_bnd h
  refine g_callV LX11_442 sM_0 rfl (kX11_isName ev1) rfl rfl (Nat.le_of_ble_eq_true rfl) ⟨Nat.le_of_ble_eq_true rfl, Nat.le_of_ble_eq_true rfl⟩ ⟨Nat.le_of_ble_eq_true rfl, Nat.le_of_ble_eq_true rfl⟩ dX11_makes_1 rfl ?_
  rcases g_ite h with ⟨c2, h⟩ | ⟨c2, h⟩
  · refine g_if_ne_f c2 (tgt := 10) rfl dX11_makes_4 ?_
    refine g_bipush (v := -8) rfl dX11_makes_7 ?_
    cases h
    exact g_iret O ⟨Nat.le_of_ble_eq_true rfl, Nat.le_of_ble_eq_true rfl⟩ rfl dX11_makes_9
  · refine g_if_ne_t c2 (tgt := 10) rfl dX11_makes_4 ?_
    refine g_aload_n 0 rfl rfl dX11_makes_10 ?_
    refine g_getR FX11_9 sM_0 rfl dX11_makes_11 ?_
    refine g_iconst (v := 0) rfl dX11_makes_14 ?_
    obtain ⟨v3, ev3, h⟩ := g_bnd h
    refine g_iald' ev3 sM_1 dX11_makes_15 ?_
    refine g_bipush (v := 24) rfl dX11_makes_16 ?_
    rcases g_ite h with ⟨c4, h⟩ | ⟨c4, h⟩
    · refine g_icmp_ne_f c4 (tgt := 24) rfl dX11_makes_18 ?_
      refine g_bipush (v := -6) rfl dX11_makes_21 ?_
      cases h
      exact g_iret O ⟨Nat.le_of_ble_eq_true rfl, Nat.le_of_ble_eq_true rfl⟩ rfl dX11_makes_23
    · refine g_icmp_ne_t c4 (tgt := 24) rfl dX11_makes_18 ?_
      refine g_aload_n 0 rfl rfl dX11_makes_24 ?_
      refine g_iconst (v := 0) rfl dX11_makes_25 ?_
      refine g_aload_n 0 rfl rfl dX11_makes_26 ?_
      refine g_getI FX11_209 sM_0 rfl dX11_makes_27 ?_
      obtain ⟨v5, ev5, h⟩ := g_bnd h
      refine g_callV LX11_267 sM_0 rfl (kX11_named ev5) rfl rfl (Nat.le_of_ble_eq_true rfl) ⟨Nat.le_of_ble_eq_true rfl, Nat.le_of_ble_eq_true rfl⟩ ⟨Nat.le_of_ble_eq_true rfl, Nat.le_of_ble_eq_true rfl⟩ dX11_makes_30 rfl ?_
      refine g_iconst (v := -1) rfl dX11_makes_33 ?_
      rcases g_ite h with ⟨c6, h⟩ | ⟨c6, h⟩
      · refine g_icmp_eq_t c6 (tgt := 40) rfl dX11_makes_34 ?_
        refine g_aload_n 0 rfl rfl dX11_makes_40 ?_
        refine g_iconst (v := 0) rfl dX11_makes_41 ?_
        refine g_aload_n 0 rfl rfl dX11_makes_42 ?_
        refine g_getI FX11_209 sM_0 rfl dX11_makes_43 ?_
        refine g_iload_n 1 rfl rfl dX11_makes_46 ?_
        obtain ⟨v7, ev7, h⟩ := g_bnd h
        refine g_callV LX11_68 sM_0 rfl (kX11_joins ev7) rfl rfl (Nat.le_of_ble_eq_true rfl) ⟨Nat.le_of_ble_eq_true rfl, Nat.le_of_ble_eq_true rfl⟩ ⟨Nat.le_of_ble_eq_true rfl, Nat.le_of_ble_eq_true rfl⟩ dX11_makes_47 rfl ?_
        refine g_istore_n (ls' := [(2, .int v7.1), (0, .ref (gAd V 0)), (1, .int x1)]) rfl (Nat.le_of_ble_eq_true rfl) rfl dX11_makes_50 ?_
        refine g_aload_n 1 rfl rfl dX11_makes_51 ?_
        refine g_iconst (v := 0) rfl dX11_makes_52 ?_
        obtain ⟨M8, eM8, h⟩ := g_bnd h
        refine g_putI' eM8 FX11_209 jX11 sM_0 rfl rfl rfl dX11_makes_53 ?_
        refine g_iload_n 0 rfl rfl dX11_makes_56 ?_
        cases h
        exact g_iret O ⟨Nat.le_of_ble_eq_true rfl, Nat.le_of_ble_eq_true rfl⟩ rfl dX11_makes_57
      · refine g_icmp_eq_f c6 (tgt := 40) rfl dX11_makes_34 ?_
        refine g_bipush (v := -7) rfl dX11_makes_37 ?_
        cases h
        exact g_iret O ⟨Nat.le_of_ble_eq_true rfl, Nat.le_of_ble_eq_true rfl⟩ rfl dX11_makes_39
theorem kX11_makes {l : Launch} {V : gEnv} {M0 : gMem} {x1 : Int32}  {o : (Int32 × gMem)} (h : fX11_makes x1 M0 = some o) : gM l yX11_makes cX11_makes 3 (some .int) rX11_makes V gShM [.ref (gAd V 0), .int x1] M0 (some (.int o.1)) o.2 :=
  gM.of (by decide) (Nat.le_of_ble_eq_true rfl) rfl (fun X _ O => tX11_makes  h O)
theorem dX11_make_0 : decode cX11_make 0 = .ok (.aload_n 0, 1) := by decide +kernel
theorem dX11_make_1 : decode cX11_make 1 = .ok (.iload_n 1, 1) := by decide +kernel
theorem dX11_make_2 : decode cX11_make 2 = .ok (.iconst 1, 1) := by decide +kernel
theorem dX11_make_3 : decode cX11_make 3 = .ok (.bipush 9, 2) := by decide +kernel
theorem dX11_make_5 : decode cX11_make 5 = .ok (.invokestatic 172, 3) := by decide +kernel
theorem dX11_make_8 : decode cX11_make 8 = .ok (.ifCond .ne 7, 3) := by decide +kernel
theorem dX11_make_11 : decode cX11_make 11 = .ok (.iconst 1, 1) := by decide +kernel
theorem dX11_make_12 : decode cX11_make 12 = .ok (.goto 4, 3) := by decide +kernel
theorem dX11_make_15 : decode cX11_make 15 = .ok (.iconst 0, 1) := by decide +kernel
theorem dX11_make_16 : decode cX11_make 16 = .ok (.invokevirtual 212, 3) := by decide +kernel
theorem dX11_make_19 : decode cX11_make 19 = .ok (.ifCond .eq 5, 3) := by decide +kernel
theorem dX11_make_22 : decode cX11_make 22 = .ok (.iconst 0, 1) := by decide +kernel
theorem dX11_make_23 : decode cX11_make 23 = .ok (.ireturn, 1) := by decide +kernel
theorem dX11_make_24 : decode cX11_make 24 = .ok (.aload_n 0, 1) := by decide +kernel
theorem dX11_make_25 : decode cX11_make 25 = .ok (.invokevirtual 368, 3) := by decide +kernel
theorem dX11_make_28 : decode cX11_make 28 = .ok (.aload_n 0, 1) := by decide +kernel
theorem dX11_make_29 : decode cX11_make 29 = .ok (.aload_n 0, 1) := by decide +kernel
theorem dX11_make_30 : decode cX11_make 30 = .ok (.iload_n 1, 1) := by decide +kernel
theorem dX11_make_31 : decode cX11_make 31 = .ok (.invokevirtual 445, 3) := by decide +kernel
theorem dX11_make_34 : decode cX11_make 34 = .ok (.invokevirtual 448, 3) := by decide +kernel
theorem dX11_make_37 : decode cX11_make 37 = .ok (.ireturn, 1) := by decide +kernel
abbrev rX11_make : Room := { frames := 4, cells := 0, slots := 0, locals := 86 }
abbrev mX11_make : gY := (cX11_make, RX11, 2, rX11_make)
def fX11_make (x1 : Int32) (M0 : gMem) : Option (Int32 × gMem) :=
  (fX11_in x1 (1 : Int32) (9 : Int32)).bind fun v1 => (fX11_wrong (if v1 = 0 then (1 : Int32) else (0 : Int32)) M0).bind fun v3 => if v3.1 = 0 then ((fX11_goesAside v3.2).bind fun v5 => (fX11_makes x1 v5).bind fun v6 => (fX11_done v6.1 v6.2).bind fun v7 => some (v7.1, v7.2)) else some ((0 : Int32), v3.2)
set_option maxRecDepth 20000 in
theorem tX11_make {X : gX} {V : gEnv} {x1 : Int32} {M0 : gMem}  {o : (Int32 × gMem)} (h : fX11_make x1 M0 = some o) (O : gO X V mX11_make gShM (some .int) (some (.int o.1)) o.2) : gG X V mX11_make gShM M0 0 0 0 [(0, .ref (gAd V 0)), (1, .int x1)] [] := by
  unfold fX11_make at h
  refine g_aload_n 0 rfl rfl dX11_make_0 ?_
  refine g_iload_n 1 rfl rfl dX11_make_1 ?_
  refine g_iconst (v := 1) rfl dX11_make_2 ?_
  refine g_bipush (v := 9) rfl dX11_make_3 ?_
  obtain ⟨v1, ev1, h⟩ := g_bnd h
  refine g_callS LX11_172 (kX11_in ev1) rfl rfl (Nat.le_of_ble_eq_true rfl) ⟨Nat.le_of_ble_eq_true rfl, Nat.le_of_ble_eq_true rfl⟩ ⟨Nat.le_of_ble_eq_true rfl, Nat.le_of_ble_eq_true rfl⟩ dX11_make_5 rfl ?_
  have KJ : gG X V mX11_make gShM M0 0 0 16 [(0, .ref (gAd V 0)), (1, .int x1)] [.int (if v1 = 0 then (1 : Int32) else (0 : Int32)), .ref (gAd V 0)] := by
    obtain ⟨v3, ev3, h⟩ := g_bnd h
    refine g_callV LX11_212 sM_0 rfl (kX11_wrong ev3) rfl rfl (Nat.le_of_ble_eq_true rfl) ⟨Nat.le_of_ble_eq_true rfl, Nat.le_of_ble_eq_true rfl⟩ ⟨Nat.le_of_ble_eq_true rfl, Nat.le_of_ble_eq_true rfl⟩ dX11_make_16 rfl ?_
    rcases g_ite h with ⟨c4, h⟩ | ⟨c4, h⟩
    · refine g_if_eq_t c4 (tgt := 24) rfl dX11_make_19 ?_
      refine g_aload_n 0 rfl rfl dX11_make_24 ?_
      obtain ⟨v5, ev5, h⟩ := g_bnd h
      refine g_callV LX11_368 sM_0 rfl (kX11_goesAside ev5) rfl rfl (Nat.le_of_ble_eq_true rfl) ⟨Nat.le_of_ble_eq_true rfl, Nat.le_of_ble_eq_true rfl⟩ ⟨Nat.le_of_ble_eq_true rfl, Nat.le_of_ble_eq_true rfl⟩ dX11_make_25 rfl ?_
      refine g_aload_n 0 rfl rfl dX11_make_28 ?_
      refine g_aload_n 0 rfl rfl dX11_make_29 ?_
      refine g_iload_n 1 rfl rfl dX11_make_30 ?_
      obtain ⟨v6, ev6, h⟩ := g_bnd h
      refine g_callV LX11_445 sM_0 rfl (kX11_makes ev6) rfl rfl (Nat.le_of_ble_eq_true rfl) ⟨Nat.le_of_ble_eq_true rfl, Nat.le_of_ble_eq_true rfl⟩ ⟨Nat.le_of_ble_eq_true rfl, Nat.le_of_ble_eq_true rfl⟩ dX11_make_31 rfl ?_
      obtain ⟨v7, ev7, h⟩ := g_bnd h
      refine g_callV LX11_448 sM_0 rfl (kX11_done ev7) rfl rfl (Nat.le_of_ble_eq_true rfl) ⟨Nat.le_of_ble_eq_true rfl, Nat.le_of_ble_eq_true rfl⟩ ⟨Nat.le_of_ble_eq_true rfl, Nat.le_of_ble_eq_true rfl⟩ dX11_make_34 rfl ?_
      cases h
      exact g_iret O ⟨Nat.le_of_ble_eq_true rfl, Nat.le_of_ble_eq_true rfl⟩ rfl dX11_make_37
    · refine g_if_eq_f c4 (tgt := 24) rfl dX11_make_19 ?_
      refine g_iconst (v := 0) rfl dX11_make_22 ?_
      cases h
      exact g_iret O ⟨Nat.le_of_ble_eq_true rfl, Nat.le_of_ble_eq_true rfl⟩ rfl dX11_make_23
  by_cases c2 : v1 = 0
  · rw [if_pos c2] at KJ
    refine g_if_ne_f c2 (tgt := 15) rfl dX11_make_8 ?_
    refine g_iconst (v := 1) rfl dX11_make_11 ?_
    refine g_goto (tgt := 16) rfl dX11_make_12 ?_
    exact KJ
  · rw [if_neg c2] at KJ
    refine g_if_ne_t c2 (tgt := 15) rfl dX11_make_8 ?_
    refine g_iconst (v := 0) rfl dX11_make_15 ?_
    exact KJ
theorem kX11_make {l : Launch} {V : gEnv} {M0 : gMem} {x1 : Int32}  {o : (Int32 × gMem)} (h : fX11_make x1 M0 = some o) : gM l yX11_make cX11_make 2 (some .int) rX11_make V gShM [.ref (gAd V 0), .int x1] M0 (some (.int o.1)) o.2 :=
  gM.of (by decide) (Nat.le_of_ble_eq_true rfl) rfl (fun X _ O => tX11_make  h O)
theorem dX11_add_0 : decode cX11_add 0 = .ok (.aload_n 0, 1) := by decide +kernel
theorem dX11_add_1 : decode cX11_add 1 = .ok (.iload_n 1, 1) := by decide +kernel
theorem dX11_add_2 : decode cX11_add 2 = .ok (.iload_n 2, 1) := by decide +kernel
theorem dX11_add_3 : decode cX11_add 3 = .ok (.invokevirtual 424, 3) := by decide +kernel
theorem dX11_add_6 : decode cX11_add 6 = .ok (.ifCond .eq 5, 3) := by decide +kernel
theorem dX11_add_9 : decode cX11_add 9 = .ok (.iconst 0, 1) := by decide +kernel
theorem dX11_add_10 : decode cX11_add 10 = .ok (.ireturn, 1) := by decide +kernel
theorem dX11_add_11 : decode cX11_add 11 = .ok (.aload_n 0, 1) := by decide +kernel
theorem dX11_add_12 : decode cX11_add 12 = .ok (.invokevirtual 368, 3) := by decide +kernel
theorem dX11_add_15 : decode cX11_add 15 = .ok (.aload_n 0, 1) := by decide +kernel
theorem dX11_add_16 : decode cX11_add 16 = .ok (.aload_n 0, 1) := by decide +kernel
theorem dX11_add_17 : decode cX11_add 17 = .ok (.iload_n 1, 1) := by decide +kernel
theorem dX11_add_18 : decode cX11_add 18 = .ok (.iload_n 2, 1) := by decide +kernel
theorem dX11_add_19 : decode cX11_add 19 = .ok (.invokevirtual 282, 3) := by decide +kernel
theorem dX11_add_22 : decode cX11_add 22 = .ok (.invokevirtual 448, 3) := by decide +kernel
theorem dX11_add_25 : decode cX11_add 25 = .ok (.ireturn, 1) := by decide +kernel
abbrev rX11_add : Room := { frames := 7, cells := 0, slots := 0, locals := 162 }
abbrev mX11_add : gY := (cX11_add, RX11, 3, rX11_add)
def fX11_add (x1 : Int32) (x2 : Int32) (M0 : gMem) : Option (Int32 × gMem) :=
  (fX11_noTasks x1 x2 M0).bind fun v1 => if v1.1 = 0 then ((fX11_goesAside v1.2).bind fun v3 => (fX11_comes x1 x2 v3).bind fun v4 => (fX11_done v4.1 v4.2).bind fun v5 => some (v5.1, v5.2)) else some ((0 : Int32), v1.2)
set_option maxRecDepth 20000 in
theorem tX11_add {X : gX} {V : gEnv} {x1 : Int32} {x2 : Int32} {M0 : gMem}  {o : (Int32 × gMem)} (h : fX11_add x1 x2 M0 = some o) (O : gO X V mX11_add gShM (some .int) (some (.int o.1)) o.2) : gG X V mX11_add gShM M0 0 0 0 [(0, .ref (gAd V 0)), (1, .int x1), (2, .int x2)] [] := by
  unfold fX11_add at h
  refine g_aload_n 0 rfl rfl dX11_add_0 ?_
  refine g_iload_n 1 rfl rfl dX11_add_1 ?_
  refine g_iload_n 2 rfl rfl dX11_add_2 ?_
  obtain ⟨v1, ev1, h⟩ := g_bnd h
  refine g_callV LX11_424 sM_0 rfl (kX11_noTasks ev1) rfl rfl (Nat.le_of_ble_eq_true rfl) ⟨Nat.le_of_ble_eq_true rfl, Nat.le_of_ble_eq_true rfl⟩ ⟨Nat.le_of_ble_eq_true rfl, Nat.le_of_ble_eq_true rfl⟩ dX11_add_3 rfl ?_
  rcases g_ite h with ⟨c2, h⟩ | ⟨c2, h⟩
  · refine g_if_eq_t c2 (tgt := 11) rfl dX11_add_6 ?_
    refine g_aload_n 0 rfl rfl dX11_add_11 ?_
    obtain ⟨v3, ev3, h⟩ := g_bnd h
    refine g_callV LX11_368 sM_0 rfl (kX11_goesAside ev3) rfl rfl (Nat.le_of_ble_eq_true rfl) ⟨Nat.le_of_ble_eq_true rfl, Nat.le_of_ble_eq_true rfl⟩ ⟨Nat.le_of_ble_eq_true rfl, Nat.le_of_ble_eq_true rfl⟩ dX11_add_12 rfl ?_
    refine g_aload_n 0 rfl rfl dX11_add_15 ?_
    refine g_aload_n 0 rfl rfl dX11_add_16 ?_
    refine g_iload_n 1 rfl rfl dX11_add_17 ?_
    refine g_iload_n 2 rfl rfl dX11_add_18 ?_
    obtain ⟨v4, ev4, h⟩ := g_bnd h
    refine g_callV LX11_282 sM_0 rfl (kX11_comes ev4) rfl rfl (Nat.le_of_ble_eq_true rfl) ⟨Nat.le_of_ble_eq_true rfl, Nat.le_of_ble_eq_true rfl⟩ ⟨Nat.le_of_ble_eq_true rfl, Nat.le_of_ble_eq_true rfl⟩ dX11_add_19 rfl ?_
    obtain ⟨v5, ev5, h⟩ := g_bnd h
    refine g_callV LX11_448 sM_0 rfl (kX11_done ev5) rfl rfl (Nat.le_of_ble_eq_true rfl) ⟨Nat.le_of_ble_eq_true rfl, Nat.le_of_ble_eq_true rfl⟩ ⟨Nat.le_of_ble_eq_true rfl, Nat.le_of_ble_eq_true rfl⟩ dX11_add_22 rfl ?_
    cases h
    exact g_iret O ⟨Nat.le_of_ble_eq_true rfl, Nat.le_of_ble_eq_true rfl⟩ rfl dX11_add_25
  · refine g_if_eq_f c2 (tgt := 11) rfl dX11_add_6 ?_
    refine g_iconst (v := 0) rfl dX11_add_9 ?_
    cases h
    exact g_iret O ⟨Nat.le_of_ble_eq_true rfl, Nat.le_of_ble_eq_true rfl⟩ rfl dX11_add_10
theorem kX11_add {l : Launch} {V : gEnv} {M0 : gMem} {x1 : Int32} {x2 : Int32}  {o : (Int32 × gMem)} (h : fX11_add x1 x2 M0 = some o) : gM l yX11_add cX11_add 3 (some .int) rX11_add V gShM [.ref (gAd V 0), .int x1, .int x2] M0 (some (.int o.1)) o.2 :=
  gM.of (by decide) (Nat.le_of_ble_eq_true rfl) rfl (fun X _ O => tX11_add  h O)
theorem dX11_cut_0 : decode cX11_cut 0 = .ok (.aload_n 0, 1) := by decide +kernel
theorem dX11_cut_1 : decode cX11_cut 1 = .ok (.iload_n 1, 1) := by decide +kernel
theorem dX11_cut_2 : decode cX11_cut 2 = .ok (.invokevirtual 421, 3) := by decide +kernel
theorem dX11_cut_5 : decode cX11_cut 5 = .ok (.ifCond .eq 5, 3) := by decide +kernel
theorem dX11_cut_8 : decode cX11_cut 8 = .ok (.iconst 0, 1) := by decide +kernel
theorem dX11_cut_9 : decode cX11_cut 9 = .ok (.ireturn, 1) := by decide +kernel
theorem dX11_cut_10 : decode cX11_cut 10 = .ok (.aload_n 0, 1) := by decide +kernel
theorem dX11_cut_11 : decode cX11_cut 11 = .ok (.invokevirtual 368, 3) := by decide +kernel
theorem dX11_cut_14 : decode cX11_cut 14 = .ok (.aload_n 0, 1) := by decide +kernel
theorem dX11_cut_15 : decode cX11_cut 15 = .ok (.aload_n 0, 1) := by decide +kernel
theorem dX11_cut_16 : decode cX11_cut 16 = .ok (.iload_n 1, 1) := by decide +kernel
theorem dX11_cut_17 : decode cX11_cut 17 = .ok (.invokevirtual 350, 3) := by decide +kernel
theorem dX11_cut_20 : decode cX11_cut 20 = .ok (.invokevirtual 448, 3) := by decide +kernel
theorem dX11_cut_23 : decode cX11_cut 23 = .ok (.ireturn, 1) := by decide +kernel
abbrev rX11_cut : Room := { frames := 5, cells := 0, slots := 0, locals := 120 }
abbrev mX11_cut : gY := (cX11_cut, RX11, 2, rX11_cut)
def fX11_cut (x1 : Int32) (M0 : gMem) : Option (Int32 × gMem) :=
  (fX11_noArrow x1 M0).bind fun v1 => if v1.1 = 0 then ((fX11_goesAside v1.2).bind fun v3 => (fX11_cuts x1 v3).bind fun v4 => (fX11_done v4.1 v4.2).bind fun v5 => some (v5.1, v5.2)) else some ((0 : Int32), v1.2)
set_option maxRecDepth 20000 in
theorem tX11_cut {X : gX} {V : gEnv} {x1 : Int32} {M0 : gMem}  {o : (Int32 × gMem)} (h : fX11_cut x1 M0 = some o) (O : gO X V mX11_cut gShM (some .int) (some (.int o.1)) o.2) : gG X V mX11_cut gShM M0 0 0 0 [(0, .ref (gAd V 0)), (1, .int x1)] [] := by
  unfold fX11_cut at h
  refine g_aload_n 0 rfl rfl dX11_cut_0 ?_
  refine g_iload_n 1 rfl rfl dX11_cut_1 ?_
  obtain ⟨v1, ev1, h⟩ := g_bnd h
  refine g_callV LX11_421 sM_0 rfl (kX11_noArrow ev1) rfl rfl (Nat.le_of_ble_eq_true rfl) ⟨Nat.le_of_ble_eq_true rfl, Nat.le_of_ble_eq_true rfl⟩ ⟨Nat.le_of_ble_eq_true rfl, Nat.le_of_ble_eq_true rfl⟩ dX11_cut_2 rfl ?_
  rcases g_ite h with ⟨c2, h⟩ | ⟨c2, h⟩
  · refine g_if_eq_t c2 (tgt := 10) rfl dX11_cut_5 ?_
    refine g_aload_n 0 rfl rfl dX11_cut_10 ?_
    obtain ⟨v3, ev3, h⟩ := g_bnd h
    refine g_callV LX11_368 sM_0 rfl (kX11_goesAside ev3) rfl rfl (Nat.le_of_ble_eq_true rfl) ⟨Nat.le_of_ble_eq_true rfl, Nat.le_of_ble_eq_true rfl⟩ ⟨Nat.le_of_ble_eq_true rfl, Nat.le_of_ble_eq_true rfl⟩ dX11_cut_11 rfl ?_
    refine g_aload_n 0 rfl rfl dX11_cut_14 ?_
    refine g_aload_n 0 rfl rfl dX11_cut_15 ?_
    refine g_iload_n 1 rfl rfl dX11_cut_16 ?_
    obtain ⟨v4, ev4, h⟩ := g_bnd h
    refine g_callV LX11_350 sM_0 rfl (kX11_cuts ev4) rfl rfl (Nat.le_of_ble_eq_true rfl) ⟨Nat.le_of_ble_eq_true rfl, Nat.le_of_ble_eq_true rfl⟩ ⟨Nat.le_of_ble_eq_true rfl, Nat.le_of_ble_eq_true rfl⟩ dX11_cut_17 rfl ?_
    obtain ⟨v5, ev5, h⟩ := g_bnd h
    refine g_callV LX11_448 sM_0 rfl (kX11_done ev5) rfl rfl (Nat.le_of_ble_eq_true rfl) ⟨Nat.le_of_ble_eq_true rfl, Nat.le_of_ble_eq_true rfl⟩ ⟨Nat.le_of_ble_eq_true rfl, Nat.le_of_ble_eq_true rfl⟩ dX11_cut_20 rfl ?_
    cases h
    exact g_iret O ⟨Nat.le_of_ble_eq_true rfl, Nat.le_of_ble_eq_true rfl⟩ rfl dX11_cut_23
  · refine g_if_eq_f c2 (tgt := 10) rfl dX11_cut_5 ?_
    refine g_iconst (v := 0) rfl dX11_cut_8 ?_
    cases h
    exact g_iret O ⟨Nat.le_of_ble_eq_true rfl, Nat.le_of_ble_eq_true rfl⟩ rfl dX11_cut_9
theorem kX11_cut {l : Launch} {V : gEnv} {M0 : gMem} {x1 : Int32}  {o : (Int32 × gMem)} (h : fX11_cut x1 M0 = some o) : gM l yX11_cut cX11_cut 2 (some .int) rX11_cut V gShM [.ref (gAd V 0), .int x1] M0 (some (.int o.1)) o.2 :=
  gM.of (by decide) (Nat.le_of_ble_eq_true rfl) rfl (fun X _ O => tX11_cut  h O)
theorem dX11_swap_0 : decode cX11_swap 0 = .ok (.aload_n 0, 1) := by decide +kernel
theorem dX11_swap_1 : decode cX11_swap 1 = .ok (.iload_n 1, 1) := by decide +kernel
theorem dX11_swap_2 : decode cX11_swap 2 = .ok (.iconst 0, 1) := by decide +kernel
theorem dX11_swap_3 : decode cX11_swap 3 = .ok (.aload_n 0, 1) := by decide +kernel
theorem dX11_swap_4 : decode cX11_swap 4 = .ok (.getfield 9, 3) := by decide +kernel
theorem dX11_swap_7 : decode cX11_swap 7 = .ok (.iconst 2, 1) := by decide +kernel
theorem dX11_swap_8 : decode cX11_swap 8 = .ok (.iaload, 1) := by decide +kernel
theorem dX11_swap_9 : decode cX11_swap 9 = .ok (.iconst 2, 1) := by decide +kernel
theorem dX11_swap_10 : decode cX11_swap 10 = .ok (.isub, 1) := by decide +kernel
theorem dX11_swap_11 : decode cX11_swap 11 = .ok (.invokestatic 172, 3) := by decide +kernel
theorem dX11_swap_14 : decode cX11_swap 14 = .ok (.ifCond .ne 7, 3) := by decide +kernel
theorem dX11_swap_17 : decode cX11_swap 17 = .ok (.iconst 1, 1) := by decide +kernel
theorem dX11_swap_18 : decode cX11_swap 18 = .ok (.goto 4, 3) := by decide +kernel
theorem dX11_swap_21 : decode cX11_swap 21 = .ok (.iconst 0, 1) := by decide +kernel
theorem dX11_swap_22 : decode cX11_swap 22 = .ok (.invokevirtual 212, 3) := by decide +kernel
theorem dX11_swap_25 : decode cX11_swap 25 = .ok (.ifCond .eq 5, 3) := by decide +kernel
theorem dX11_swap_28 : decode cX11_swap 28 = .ok (.iconst 0, 1) := by decide +kernel
theorem dX11_swap_29 : decode cX11_swap 29 = .ok (.ireturn, 1) := by decide +kernel
theorem dX11_swap_30 : decode cX11_swap 30 = .ok (.aload_n 0, 1) := by decide +kernel
theorem dX11_swap_31 : decode cX11_swap 31 = .ok (.invokevirtual 368, 3) := by decide +kernel
theorem dX11_swap_34 : decode cX11_swap 34 = .ok (.aload_n 0, 1) := by decide +kernel
theorem dX11_swap_35 : decode cX11_swap 35 = .ok (.aload_n 0, 1) := by decide +kernel
theorem dX11_swap_36 : decode cX11_swap 36 = .ok (.iload_n 1, 1) := by decide +kernel
theorem dX11_swap_37 : decode cX11_swap 37 = .ok (.invokevirtual 359, 3) := by decide +kernel
theorem dX11_swap_40 : decode cX11_swap 40 = .ok (.invokevirtual 448, 3) := by decide +kernel
theorem dX11_swap_43 : decode cX11_swap 43 = .ok (.ireturn, 1) := by decide +kernel
abbrev rX11_swap : Room := { frames := 3, cells := 0, slots := 0, locals := 68 }
abbrev mX11_swap : gY := (cX11_swap, RX11, 2, rX11_swap)
def fX11_swap (x1 : Int32) (M0 : gMem) : Option (Int32 × gMem) :=
  (rI M0 1 374 (2 : Int32)).bind fun v1 => (fX11_in x1 (0 : Int32) (v1 - (2 : Int32))).bind fun v2 => (fX11_wrong (if v2 = 0 then (1 : Int32) else (0 : Int32)) M0).bind fun v4 => if v4.1 = 0 then ((fX11_goesAside v4.2).bind fun v6 => (fX11_swaps x1 v6).bind fun v7 => (fX11_done v7.1 v7.2).bind fun v8 => some (v8.1, v8.2)) else some ((0 : Int32), v4.2)
set_option maxRecDepth 20000 in
theorem tX11_swap {X : gX} {V : gEnv} {x1 : Int32} {M0 : gMem}  {o : (Int32 × gMem)} (h : fX11_swap x1 M0 = some o) (O : gO X V mX11_swap gShM (some .int) (some (.int o.1)) o.2) : gG X V mX11_swap gShM M0 0 0 0 [(0, .ref (gAd V 0)), (1, .int x1)] [] := by
  unfold fX11_swap at h
  refine g_aload_n 0 rfl rfl dX11_swap_0 ?_
  refine g_iload_n 1 rfl rfl dX11_swap_1 ?_
  refine g_iconst (v := 0) rfl dX11_swap_2 ?_
  refine g_aload_n 0 rfl rfl dX11_swap_3 ?_
  refine g_getR FX11_9 sM_0 rfl dX11_swap_4 ?_
  refine g_iconst (v := 2) rfl dX11_swap_7 ?_
  obtain ⟨v1, ev1, h⟩ := g_bnd h
  refine g_iald' ev1 sM_1 dX11_swap_8 ?_
  refine g_iconst (v := 2) rfl dX11_swap_9 ?_
  refine g_isub dX11_swap_10 ?_
  obtain ⟨v2, ev2, h⟩ := g_bnd h
  refine g_callS LX11_172 (kX11_in ev2) rfl rfl (Nat.le_of_ble_eq_true rfl) ⟨Nat.le_of_ble_eq_true rfl, Nat.le_of_ble_eq_true rfl⟩ ⟨Nat.le_of_ble_eq_true rfl, Nat.le_of_ble_eq_true rfl⟩ dX11_swap_11 rfl ?_
  have KJ : gG X V mX11_swap gShM M0 0 0 22 [(0, .ref (gAd V 0)), (1, .int x1)] [.int (if v2 = 0 then (1 : Int32) else (0 : Int32)), .ref (gAd V 0)] := by
    obtain ⟨v4, ev4, h⟩ := g_bnd h
    refine g_callV LX11_212 sM_0 rfl (kX11_wrong ev4) rfl rfl (Nat.le_of_ble_eq_true rfl) ⟨Nat.le_of_ble_eq_true rfl, Nat.le_of_ble_eq_true rfl⟩ ⟨Nat.le_of_ble_eq_true rfl, Nat.le_of_ble_eq_true rfl⟩ dX11_swap_22 rfl ?_
    rcases g_ite h with ⟨c5, h⟩ | ⟨c5, h⟩
    · refine g_if_eq_t c5 (tgt := 30) rfl dX11_swap_25 ?_
      refine g_aload_n 0 rfl rfl dX11_swap_30 ?_
      obtain ⟨v6, ev6, h⟩ := g_bnd h
      refine g_callV LX11_368 sM_0 rfl (kX11_goesAside ev6) rfl rfl (Nat.le_of_ble_eq_true rfl) ⟨Nat.le_of_ble_eq_true rfl, Nat.le_of_ble_eq_true rfl⟩ ⟨Nat.le_of_ble_eq_true rfl, Nat.le_of_ble_eq_true rfl⟩ dX11_swap_31 rfl ?_
      refine g_aload_n 0 rfl rfl dX11_swap_34 ?_
      refine g_aload_n 0 rfl rfl dX11_swap_35 ?_
      refine g_iload_n 1 rfl rfl dX11_swap_36 ?_
      obtain ⟨v7, ev7, h⟩ := g_bnd h
      refine g_callV LX11_359 sM_0 rfl (kX11_swaps ev7) rfl rfl (Nat.le_of_ble_eq_true rfl) ⟨Nat.le_of_ble_eq_true rfl, Nat.le_of_ble_eq_true rfl⟩ ⟨Nat.le_of_ble_eq_true rfl, Nat.le_of_ble_eq_true rfl⟩ dX11_swap_37 rfl ?_
      obtain ⟨v8, ev8, h⟩ := g_bnd h
      refine g_callV LX11_448 sM_0 rfl (kX11_done ev8) rfl rfl (Nat.le_of_ble_eq_true rfl) ⟨Nat.le_of_ble_eq_true rfl, Nat.le_of_ble_eq_true rfl⟩ ⟨Nat.le_of_ble_eq_true rfl, Nat.le_of_ble_eq_true rfl⟩ dX11_swap_40 rfl ?_
      cases h
      exact g_iret O ⟨Nat.le_of_ble_eq_true rfl, Nat.le_of_ble_eq_true rfl⟩ rfl dX11_swap_43
    · refine g_if_eq_f c5 (tgt := 30) rfl dX11_swap_25 ?_
      refine g_iconst (v := 0) rfl dX11_swap_28 ?_
      cases h
      exact g_iret O ⟨Nat.le_of_ble_eq_true rfl, Nat.le_of_ble_eq_true rfl⟩ rfl dX11_swap_29
  by_cases c3 : v2 = 0
  · rw [if_pos c3] at KJ
    refine g_if_ne_f c3 (tgt := 21) rfl dX11_swap_14 ?_
    refine g_iconst (v := 1) rfl dX11_swap_17 ?_
    refine g_goto (tgt := 22) rfl dX11_swap_18 ?_
    exact KJ
  · rw [if_neg c3] at KJ
    refine g_if_ne_t c3 (tgt := 21) rfl dX11_swap_14 ?_
    refine g_iconst (v := 0) rfl dX11_swap_21 ?_
    exact KJ
theorem kX11_swap {l : Launch} {V : gEnv} {M0 : gMem} {x1 : Int32}  {o : (Int32 × gMem)} (h : fX11_swap x1 M0 = some o) : gM l yX11_swap cX11_swap 2 (some .int) rX11_swap V gShM [.ref (gAd V 0), .int x1] M0 (some (.int o.1)) o.2 :=
  gM.of (by decide) (Nat.le_of_ble_eq_true rfl) rfl (fun X _ O => tX11_swap  h O)
theorem dX11_setHours_0 : decode cX11_setHours 0 = .ok (.aload_n 0, 1) := by decide +kernel
theorem dX11_setHours_1 : decode cX11_setHours 1 = .ok (.iload_n 1, 1) := by decide +kernel
theorem dX11_setHours_2 : decode cX11_setHours 2 = .ok (.invokevirtual 389, 3) := by decide +kernel
theorem dX11_setHours_5 : decode cX11_setHours 5 = .ok (.ifCond .ne 26, 3) := by decide +kernel
theorem dX11_setHours_8 : decode cX11_setHours 8 = .ok (.aload_n 0, 1) := by decide +kernel
theorem dX11_setHours_9 : decode cX11_setHours 9 = .ok (.iload_n 2, 1) := by decide +kernel
theorem dX11_setHours_10 : decode cX11_setHours 10 = .ok (.iconst 1, 1) := by decide +kernel
theorem dX11_setHours_11 : decode cX11_setHours 11 = .ok (.bipush 9, 2) := by decide +kernel
theorem dX11_setHours_13 : decode cX11_setHours 13 = .ok (.invokestatic 172, 3) := by decide +kernel
theorem dX11_setHours_16 : decode cX11_setHours 16 = .ok (.ifCond .ne 7, 3) := by decide +kernel
theorem dX11_setHours_19 : decode cX11_setHours 19 = .ok (.iconst 1, 1) := by decide +kernel
theorem dX11_setHours_20 : decode cX11_setHours 20 = .ok (.goto 4, 3) := by decide +kernel
theorem dX11_setHours_23 : decode cX11_setHours 23 = .ok (.iconst 0, 1) := by decide +kernel
theorem dX11_setHours_24 : decode cX11_setHours 24 = .ok (.iconst 2, 1) := by decide +kernel
theorem dX11_setHours_25 : decode cX11_setHours 25 = .ok (.invokevirtual 392, 3) := by decide +kernel
theorem dX11_setHours_28 : decode cX11_setHours 28 = .ok (.ifCond .eq 5, 3) := by decide +kernel
theorem dX11_setHours_31 : decode cX11_setHours 31 = .ok (.iconst 0, 1) := by decide +kernel
theorem dX11_setHours_32 : decode cX11_setHours 32 = .ok (.ireturn, 1) := by decide +kernel
theorem dX11_setHours_33 : decode cX11_setHours 33 = .ok (.aload_n 0, 1) := by decide +kernel
theorem dX11_setHours_34 : decode cX11_setHours 34 = .ok (.invokevirtual 368, 3) := by decide +kernel
theorem dX11_setHours_37 : decode cX11_setHours 37 = .ok (.aload_n 0, 1) := by decide +kernel
theorem dX11_setHours_38 : decode cX11_setHours 38 = .ok (.aload_n 0, 1) := by decide +kernel
theorem dX11_setHours_39 : decode cX11_setHours 39 = .ok (.sipush 158, 3) := by decide +kernel
theorem dX11_setHours_42 : decode cX11_setHours 42 = .ok (.bipush 9, 2) := by decide +kernel
theorem dX11_setHours_44 : decode cX11_setHours 44 = .ok (.iload_n 1, 1) := by decide +kernel
theorem dX11_setHours_45 : decode cX11_setHours 45 = .ok (.imul, 1) := by decide +kernel
theorem dX11_setHours_46 : decode cX11_setHours 46 = .ok (.iadd, 1) := by decide +kernel
theorem dX11_setHours_47 : decode cX11_setHours 47 = .ok (.iconst 0, 1) := by decide +kernel
theorem dX11_setHours_48 : decode cX11_setHours 48 = .ok (.iadd, 1) := by decide +kernel
theorem dX11_setHours_49 : decode cX11_setHours 49 = .ok (.iload_n 2, 1) := by decide +kernel
theorem dX11_setHours_50 : decode cX11_setHours 50 = .ok (.invokevirtual 356, 3) := by decide +kernel
theorem dX11_setHours_53 : decode cX11_setHours 53 = .ok (.invokevirtual 448, 3) := by decide +kernel
theorem dX11_setHours_56 : decode cX11_setHours 56 = .ok (.ireturn, 1) := by decide +kernel
abbrev rX11_setHours : Room := { frames := 2, cells := 0, slots := 0, locals := 43 }
abbrev mX11_setHours : gY := (cX11_setHours, RX11, 3, rX11_setHours)
def fX11_setHours (x1 : Int32) (x2 : Int32) (M0 : gMem) : Option (Int32 × gMem) :=
  (fX11_noTask x1 M0).bind fun v1 => if v1.1 = 0 then ((fX11_in x2 (1 : Int32) (9 : Int32)).bind fun v3 => (fX11_throwsIf (if v3 = 0 then (1 : Int32) else (0 : Int32)) (2 : Int32) v1.2).bind fun v5 => if v5.1 = 0 then ((fX11_goesAside v5.2).bind fun v7 => (fX11_becomes (((158 : Int32) + ((9 : Int32) * x1)) + (0 : Int32)) x2 v7).bind fun v8 => (fX11_done v8.1 v8.2).bind fun v9 => some (v9.1, v9.2)) else some ((0 : Int32), v5.2)) else some ((0 : Int32), v1.2)
set_option maxRecDepth 20000 in
theorem tX11_setHours {X : gX} {V : gEnv} {x1 : Int32} {x2 : Int32} {M0 : gMem}  {o : (Int32 × gMem)} (h : fX11_setHours x1 x2 M0 = some o) (O : gO X V mX11_setHours gShM (some .int) (some (.int o.1)) o.2) : gG X V mX11_setHours gShM M0 0 0 0 [(0, .ref (gAd V 0)), (1, .int x1), (2, .int x2)] [] := by
  unfold fX11_setHours at h
  refine g_aload_n 0 rfl rfl dX11_setHours_0 ?_
  refine g_iload_n 1 rfl rfl dX11_setHours_1 ?_
  obtain ⟨v1, ev1, h⟩ := g_bnd h
  refine g_callV LX11_389 sM_0 rfl (kX11_noTask ev1) rfl rfl (Nat.le_of_ble_eq_true rfl) ⟨Nat.le_of_ble_eq_true rfl, Nat.le_of_ble_eq_true rfl⟩ ⟨Nat.le_of_ble_eq_true rfl, Nat.le_of_ble_eq_true rfl⟩ dX11_setHours_2 rfl ?_
  rcases g_ite h with ⟨c2, h⟩ | ⟨c2, h⟩
  · refine g_if_ne_f c2 (tgt := 31) rfl dX11_setHours_5 ?_
    refine g_aload_n 0 rfl rfl dX11_setHours_8 ?_
    refine g_iload_n 2 rfl rfl dX11_setHours_9 ?_
    refine g_iconst (v := 1) rfl dX11_setHours_10 ?_
    refine g_bipush (v := 9) rfl dX11_setHours_11 ?_
    obtain ⟨v3, ev3, h⟩ := g_bnd h
    refine g_callS LX11_172 (kX11_in ev3) rfl rfl (Nat.le_of_ble_eq_true rfl) ⟨Nat.le_of_ble_eq_true rfl, Nat.le_of_ble_eq_true rfl⟩ ⟨Nat.le_of_ble_eq_true rfl, Nat.le_of_ble_eq_true rfl⟩ dX11_setHours_13 rfl ?_
    have KJ : gG X V mX11_setHours gShM v1.2 0 0 24 [(0, .ref (gAd V 0)), (1, .int x1), (2, .int x2)] [.int (if v3 = 0 then (1 : Int32) else (0 : Int32)), .ref (gAd V 0)] := by
      refine g_iconst (v := 2) rfl dX11_setHours_24 ?_
      obtain ⟨v5, ev5, h⟩ := g_bnd h
      refine g_callV LX11_392 sM_0 rfl (kX11_throwsIf ev5) rfl rfl (Nat.le_of_ble_eq_true rfl) ⟨Nat.le_of_ble_eq_true rfl, Nat.le_of_ble_eq_true rfl⟩ ⟨Nat.le_of_ble_eq_true rfl, Nat.le_of_ble_eq_true rfl⟩ dX11_setHours_25 rfl ?_
      rcases g_ite h with ⟨c6, h⟩ | ⟨c6, h⟩
      · refine g_if_eq_t c6 (tgt := 33) rfl dX11_setHours_28 ?_
        refine g_aload_n 0 rfl rfl dX11_setHours_33 ?_
        obtain ⟨v7, ev7, h⟩ := g_bnd h
        refine g_callV LX11_368 sM_0 rfl (kX11_goesAside ev7) rfl rfl (Nat.le_of_ble_eq_true rfl) ⟨Nat.le_of_ble_eq_true rfl, Nat.le_of_ble_eq_true rfl⟩ ⟨Nat.le_of_ble_eq_true rfl, Nat.le_of_ble_eq_true rfl⟩ dX11_setHours_34 rfl ?_
        refine g_aload_n 0 rfl rfl dX11_setHours_37 ?_
        refine g_aload_n 0 rfl rfl dX11_setHours_38 ?_
        refine g_sipush (v := 158) rfl dX11_setHours_39 ?_
        refine g_bipush (v := 9) rfl dX11_setHours_42 ?_
        refine g_iload_n 1 rfl rfl dX11_setHours_44 ?_
        refine g_imul dX11_setHours_45 ?_
        refine g_iadd dX11_setHours_46 ?_
        refine g_iconst (v := 0) rfl dX11_setHours_47 ?_
        refine g_iadd dX11_setHours_48 ?_
        refine g_iload_n 2 rfl rfl dX11_setHours_49 ?_
        obtain ⟨v8, ev8, h⟩ := g_bnd h
        refine g_callV LX11_356 sM_0 rfl (kX11_becomes ev8) rfl rfl (Nat.le_of_ble_eq_true rfl) ⟨Nat.le_of_ble_eq_true rfl, Nat.le_of_ble_eq_true rfl⟩ ⟨Nat.le_of_ble_eq_true rfl, Nat.le_of_ble_eq_true rfl⟩ dX11_setHours_50 rfl ?_
        obtain ⟨v9, ev9, h⟩ := g_bnd h
        refine g_callV LX11_448 sM_0 rfl (kX11_done ev9) rfl rfl (Nat.le_of_ble_eq_true rfl) ⟨Nat.le_of_ble_eq_true rfl, Nat.le_of_ble_eq_true rfl⟩ ⟨Nat.le_of_ble_eq_true rfl, Nat.le_of_ble_eq_true rfl⟩ dX11_setHours_53 rfl ?_
        cases h
        exact g_iret O ⟨Nat.le_of_ble_eq_true rfl, Nat.le_of_ble_eq_true rfl⟩ rfl dX11_setHours_56
      · refine g_if_eq_f c6 (tgt := 33) rfl dX11_setHours_28 ?_
        refine g_iconst (v := 0) rfl dX11_setHours_31 ?_
        cases h
        exact g_iret O ⟨Nat.le_of_ble_eq_true rfl, Nat.le_of_ble_eq_true rfl⟩ rfl dX11_setHours_32
    by_cases c4 : v3 = 0
    · rw [if_pos c4] at KJ
      refine g_if_ne_f c4 (tgt := 23) rfl dX11_setHours_16 ?_
      refine g_iconst (v := 1) rfl dX11_setHours_19 ?_
      refine g_goto (tgt := 24) rfl dX11_setHours_20 ?_
      exact KJ
    · rw [if_neg c4] at KJ
      refine g_if_ne_t c4 (tgt := 23) rfl dX11_setHours_16 ?_
      refine g_iconst (v := 0) rfl dX11_setHours_23 ?_
      exact KJ
  · refine g_if_ne_t c2 (tgt := 31) rfl dX11_setHours_5 ?_
    refine g_iconst (v := 0) rfl dX11_setHours_31 ?_
    cases h
    exact g_iret O ⟨Nat.le_of_ble_eq_true rfl, Nat.le_of_ble_eq_true rfl⟩ rfl dX11_setHours_32
theorem kX11_setHours {l : Launch} {V : gEnv} {M0 : gMem} {x1 : Int32} {x2 : Int32}  {o : (Int32 × gMem)} (h : fX11_setHours x1 x2 M0 = some o) : gM l yX11_setHours cX11_setHours 3 (some .int) rX11_setHours V gShM [.ref (gAd V 0), .int x1, .int x2] M0 (some (.int o.1)) o.2 :=
  gM.of (by decide) (Nat.le_of_ble_eq_true rfl) rfl (fun X _ O => tX11_setHours  h O)
theorem dX11_set_0 : decode cX11_set 0 = .ok (.iload_n 1, 1) := by decide +kernel
theorem dX11_set_1 : decode cX11_set 1 = .ok (.ifCond .ne 12, 3) := by decide +kernel
theorem dX11_set_4 : decode cX11_set 4 = .ok (.iload_n 2, 1) := by decide +kernel
theorem dX11_set_5 : decode cX11_set 5 = .ok (.iconst 0, 1) := by decide +kernel
theorem dX11_set_6 : decode cX11_set 6 = .ok (.iconst 2, 1) := by decide +kernel
theorem dX11_set_7 : decode cX11_set 7 = .ok (.invokestatic 172, 3) := by decide +kernel
theorem dX11_set_10 : decode cX11_set 10 = .ok (.goto 22, 3) := by decide +kernel
theorem dX11_set_13 : decode cX11_set 13 = .ok (.iload_n 1, 1) := by decide +kernel
theorem dX11_set_14 : decode cX11_set 14 = .ok (.iconst 1, 1) := by decide +kernel
theorem dX11_set_15 : decode cX11_set 15 = .ok (.if_icmp .ne 16, 3) := by decide +kernel
theorem dX11_set_18 : decode cX11_set 18 = .ok (.iload_n 2, 1) := by decide +kernel
theorem dX11_set_19 : decode cX11_set 19 = .ok (.iconst 0, 1) := by decide +kernel
theorem dX11_set_20 : decode cX11_set 20 = .ok (.iconst 1, 1) := by decide +kernel
theorem dX11_set_21 : decode cX11_set 21 = .ok (.invokestatic 172, 3) := by decide +kernel
theorem dX11_set_24 : decode cX11_set 24 = .ok (.ifCond .eq 7, 3) := by decide +kernel
theorem dX11_set_27 : decode cX11_set 27 = .ok (.iconst 1, 1) := by decide +kernel
theorem dX11_set_28 : decode cX11_set 28 = .ok (.goto 4, 3) := by decide +kernel
theorem dX11_set_31 : decode cX11_set 31 = .ok (.iconst 0, 1) := by decide +kernel
theorem dX11_set_32 : decode cX11_set 32 = .ok (.istore_n 3, 1) := by decide +kernel
theorem dX11_set_33 : decode cX11_set 33 = .ok (.aload_n 0, 1) := by decide +kernel
theorem dX11_set_34 : decode cX11_set 34 = .ok (.iload_n 3, 1) := by decide +kernel
theorem dX11_set_35 : decode cX11_set 35 = .ok (.ifCond .ne 7, 3) := by decide +kernel
theorem dX11_set_38 : decode cX11_set 38 = .ok (.iconst 1, 1) := by decide +kernel
theorem dX11_set_39 : decode cX11_set 39 = .ok (.goto 4, 3) := by decide +kernel
theorem dX11_set_42 : decode cX11_set 42 = .ok (.iconst 0, 1) := by decide +kernel
theorem dX11_set_43 : decode cX11_set 43 = .ok (.invokevirtual 212, 3) := by decide +kernel
theorem dX11_set_46 : decode cX11_set 46 = .ok (.ifCond .eq 5, 3) := by decide +kernel
theorem dX11_set_49 : decode cX11_set 49 = .ok (.iconst 0, 1) := by decide +kernel
theorem dX11_set_50 : decode cX11_set 50 = .ok (.ireturn, 1) := by decide +kernel
theorem dX11_set_51 : decode cX11_set 51 = .ok (.aload_n 0, 1) := by decide +kernel
theorem dX11_set_52 : decode cX11_set 52 = .ok (.invokevirtual 368, 3) := by decide +kernel
theorem dX11_set_55 : decode cX11_set 55 = .ok (.aload_n 0, 1) := by decide +kernel
theorem dX11_set_56 : decode cX11_set 56 = .ok (.aload_n 0, 1) := by decide +kernel
theorem dX11_set_57 : decode cX11_set 57 = .ok (.iload_n 1, 1) := by decide +kernel
theorem dX11_set_58 : decode cX11_set 58 = .ok (.ifCond .ne 7, 3) := by decide +kernel
theorem dX11_set_61 : decode cX11_set 61 = .ok (.iconst 3, 1) := by decide +kernel
theorem dX11_set_62 : decode cX11_set 62 = .ok (.goto 4, 3) := by decide +kernel
theorem dX11_set_65 : decode cX11_set 65 = .ok (.iconst 4, 1) := by decide +kernel
theorem dX11_set_66 : decode cX11_set 66 = .ok (.iload_n 2, 1) := by decide +kernel
theorem dX11_set_67 : decode cX11_set 67 = .ok (.invokevirtual 356, 3) := by decide +kernel
theorem dX11_set_70 : decode cX11_set 70 = .ok (.invokevirtual 448, 3) := by decide +kernel
theorem dX11_set_73 : decode cX11_set 73 = .ok (.ireturn, 1) := by decide +kernel
abbrev rX11_set : Room := { frames := 2, cells := 0, slots := 0, locals := 42 }
abbrev mX11_set : gY := (cX11_set, RX11, 4, rX11_set)
def fX11_set_b32 (x1 : Int32) (x2 : Int32) (s0 : Int32) (M0 : gMem) : Option (Int32 × gMem) :=
  (fX11_wrong (if s0 = 0 then (1 : Int32) else (0 : Int32)) M0).bind fun v4 => if v4.1 = 0 then ((fX11_goesAside v4.2).bind fun v6 => (fX11_becomes (if x1 = 0 then (3 : Int32) else (4 : Int32)) x2 v6).bind fun v8 => (fX11_done v8.1 v8.2).bind fun v9 => some (v9.1, v9.2)) else some ((0 : Int32), v4.2)
set_option maxRecDepth 20000 in
theorem tX11_set_b32 {X : gX} {V : gEnv} {x1 : Int32} {x2 : Int32} {s0 : Int32} {M0 : gMem}  {o : (Int32 × gMem)} (h : fX11_set_b32 x1 x2 s0 M0 = some o) (O : gO X V mX11_set gShM (some .int) (some (.int o.1)) o.2) : gG X V mX11_set gShM M0 0 0 32 [(0, .ref (gAd V 0)), (1, .int x1), (2, .int x2)] [.int s0] := by
  unfold fX11_set_b32 at h
  refine g_istore_n (ls' := [(3, .int s0), (0, .ref (gAd V 0)), (1, .int x1), (2, .int x2)]) rfl (Nat.le_of_ble_eq_true rfl) rfl dX11_set_32 ?_
  refine g_aload_n 1 rfl rfl dX11_set_33 ?_
  refine g_iload_n 0 rfl rfl dX11_set_34 ?_
  have KJ : gG X V mX11_set gShM M0 0 0 43 [(3, .int s0), (0, .ref (gAd V 0)), (1, .int x1), (2, .int x2)] [.int (if s0 = 0 then (1 : Int32) else (0 : Int32)), .ref (gAd V 0)] := by
    obtain ⟨v4, ev4, h⟩ := g_bnd h
    refine g_callV LX11_212 sM_0 rfl (kX11_wrong ev4) rfl rfl (Nat.le_of_ble_eq_true rfl) ⟨Nat.le_of_ble_eq_true rfl, Nat.le_of_ble_eq_true rfl⟩ ⟨Nat.le_of_ble_eq_true rfl, Nat.le_of_ble_eq_true rfl⟩ dX11_set_43 rfl ?_
    rcases g_ite h with ⟨c5, h⟩ | ⟨c5, h⟩
    · refine g_if_eq_t c5 (tgt := 51) rfl dX11_set_46 ?_
      refine g_aload_n 1 rfl rfl dX11_set_51 ?_
      obtain ⟨v6, ev6, h⟩ := g_bnd h
      refine g_callV LX11_368 sM_0 rfl (kX11_goesAside ev6) rfl rfl (Nat.le_of_ble_eq_true rfl) ⟨Nat.le_of_ble_eq_true rfl, Nat.le_of_ble_eq_true rfl⟩ ⟨Nat.le_of_ble_eq_true rfl, Nat.le_of_ble_eq_true rfl⟩ dX11_set_52 rfl ?_
      refine g_aload_n 1 rfl rfl dX11_set_55 ?_
      refine g_aload_n 1 rfl rfl dX11_set_56 ?_
      refine g_iload_n 2 rfl rfl dX11_set_57 ?_
      have KJ : gG X V mX11_set gShM v6 0 0 66 [(3, .int s0), (0, .ref (gAd V 0)), (1, .int x1), (2, .int x2)] [.int (if x1 = 0 then (3 : Int32) else (4 : Int32)), .ref (gAd V 0), .ref (gAd V 0)] := by
        refine g_iload_n 3 rfl rfl dX11_set_66 ?_
        obtain ⟨v8, ev8, h⟩ := g_bnd h
        refine g_callV LX11_356 sM_0 rfl (kX11_becomes ev8) rfl rfl (Nat.le_of_ble_eq_true rfl) ⟨Nat.le_of_ble_eq_true rfl, Nat.le_of_ble_eq_true rfl⟩ ⟨Nat.le_of_ble_eq_true rfl, Nat.le_of_ble_eq_true rfl⟩ dX11_set_67 rfl ?_
        obtain ⟨v9, ev9, h⟩ := g_bnd h
        refine g_callV LX11_448 sM_0 rfl (kX11_done ev9) rfl rfl (Nat.le_of_ble_eq_true rfl) ⟨Nat.le_of_ble_eq_true rfl, Nat.le_of_ble_eq_true rfl⟩ ⟨Nat.le_of_ble_eq_true rfl, Nat.le_of_ble_eq_true rfl⟩ dX11_set_70 rfl ?_
        cases h
        exact g_iret O ⟨Nat.le_of_ble_eq_true rfl, Nat.le_of_ble_eq_true rfl⟩ rfl dX11_set_73
      by_cases c7 : x1 = 0
      · rw [if_pos c7] at KJ
        refine g_if_ne_f c7 (tgt := 65) rfl dX11_set_58 ?_
        refine g_iconst (v := 3) rfl dX11_set_61 ?_
        refine g_goto (tgt := 66) rfl dX11_set_62 ?_
        exact KJ
      · rw [if_neg c7] at KJ
        refine g_if_ne_t c7 (tgt := 65) rfl dX11_set_58 ?_
        refine g_iconst (v := 4) rfl dX11_set_65 ?_
        exact KJ
    · refine g_if_eq_f c5 (tgt := 51) rfl dX11_set_46 ?_
      refine g_iconst (v := 0) rfl dX11_set_49 ?_
      cases h
      exact g_iret O ⟨Nat.le_of_ble_eq_true rfl, Nat.le_of_ble_eq_true rfl⟩ rfl dX11_set_50
  by_cases c3 : s0 = 0
  · rw [if_pos c3] at KJ
    refine g_if_ne_f c3 (tgt := 42) rfl dX11_set_35 ?_
    refine g_iconst (v := 1) rfl dX11_set_38 ?_
    refine g_goto (tgt := 43) rfl dX11_set_39 ?_
    exact KJ
  · rw [if_neg c3] at KJ
    refine g_if_ne_t c3 (tgt := 42) rfl dX11_set_35 ?_
    refine g_iconst (v := 0) rfl dX11_set_42 ?_
    exact KJ
def fX11_set_b31 (x1 : Int32) (x2 : Int32) (M0 : gMem) : Option (Int32 × gMem) :=
  fX11_set_b32 x1 x2 (0 : Int32) M0
set_option maxRecDepth 20000 in
theorem tX11_set_b31 {X : gX} {V : gEnv} {x1 : Int32} {x2 : Int32} {M0 : gMem}  {o : (Int32 × gMem)} (h : fX11_set_b31 x1 x2 M0 = some o) (O : gO X V mX11_set gShM (some .int) (some (.int o.1)) o.2) : gG X V mX11_set gShM M0 0 0 31 [(0, .ref (gAd V 0)), (1, .int x1), (2, .int x2)] [] := by
  unfold fX11_set_b31 at h
  refine g_iconst (v := 0) rfl dX11_set_31 ?_
  exact tX11_set_b32  h O
def fX11_set (x1 : Int32) (x2 : Int32) (M0 : gMem) : Option (Int32 × gMem) :=
  if x1 = 0 then ((fX11_in x2 (0 : Int32) (2 : Int32)).bind fun v2 => fX11_set_b32 x1 x2 v2 M0) else if x1 = (1 : Int32) then ((fX11_in x2 (0 : Int32) (1 : Int32)).bind fun v11 => if v11 = 0 then (fX11_set_b31 x1 x2 M0) else fX11_set_b32 x1 x2 (1 : Int32) M0) else fX11_set_b31 x1 x2 M0
set_option maxRecDepth 20000 in
theorem tX11_set {X : gX} {V : gEnv} {x1 : Int32} {x2 : Int32} {M0 : gMem}  {o : (Int32 × gMem)} (h : fX11_set x1 x2 M0 = some o) (O : gO X V mX11_set gShM (some .int) (some (.int o.1)) o.2) : gG X V mX11_set gShM M0 0 0 0 [(0, .ref (gAd V 0)), (1, .int x1), (2, .int x2)] [] := by
  unfold fX11_set at h
  refine g_iload_n 1 rfl rfl dX11_set_0 ?_
  rcases g_ite h with ⟨c1, h⟩ | ⟨c1, h⟩
  · refine g_if_ne_f c1 (tgt := 13) rfl dX11_set_1 ?_
    refine g_iload_n 2 rfl rfl dX11_set_4 ?_
    refine g_iconst (v := 0) rfl dX11_set_5 ?_
    refine g_iconst (v := 2) rfl dX11_set_6 ?_
    obtain ⟨v2, ev2, h⟩ := g_bnd h
    refine g_callS LX11_172 (kX11_in ev2) rfl rfl (Nat.le_of_ble_eq_true rfl) ⟨Nat.le_of_ble_eq_true rfl, Nat.le_of_ble_eq_true rfl⟩ ⟨Nat.le_of_ble_eq_true rfl, Nat.le_of_ble_eq_true rfl⟩ dX11_set_7 rfl ?_
    refine g_goto (tgt := 32) rfl dX11_set_10 ?_
    exact tX11_set_b32  h O
  · refine g_if_ne_t c1 (tgt := 13) rfl dX11_set_1 ?_
    refine g_iload_n 1 rfl rfl dX11_set_13 ?_
    refine g_iconst (v := 1) rfl dX11_set_14 ?_
    rcases g_ite h with ⟨c10, h⟩ | ⟨c10, h⟩
    · refine g_icmp_ne_f c10 (tgt := 31) rfl dX11_set_15 ?_
      refine g_iload_n 2 rfl rfl dX11_set_18 ?_
      refine g_iconst (v := 0) rfl dX11_set_19 ?_
      refine g_iconst (v := 1) rfl dX11_set_20 ?_
      obtain ⟨v11, ev11, h⟩ := g_bnd h
      refine g_callS LX11_172 (kX11_in ev11) rfl rfl (Nat.le_of_ble_eq_true rfl) ⟨Nat.le_of_ble_eq_true rfl, Nat.le_of_ble_eq_true rfl⟩ ⟨Nat.le_of_ble_eq_true rfl, Nat.le_of_ble_eq_true rfl⟩ dX11_set_21 rfl ?_
      rcases g_ite h with ⟨c12, h⟩ | ⟨c12, h⟩
      · refine g_if_eq_t c12 (tgt := 31) rfl dX11_set_24 ?_
        exact tX11_set_b31  h O
      · refine g_if_eq_f c12 (tgt := 31) rfl dX11_set_24 ?_
        refine g_iconst (v := 1) rfl dX11_set_27 ?_
        refine g_goto (tgt := 32) rfl dX11_set_28 ?_
        exact tX11_set_b32  h O
    · refine g_icmp_ne_t c10 (tgt := 31) rfl dX11_set_15 ?_
      exact tX11_set_b31  h O
theorem kX11_set {l : Launch} {V : gEnv} {M0 : gMem} {x1 : Int32} {x2 : Int32}  {o : (Int32 × gMem)} (h : fX11_set x1 x2 M0 = some o) : gM l yX11_set cX11_set 4 (some .int) rX11_set V gShM [.ref (gAd V 0), .int x1, .int x2] M0 (some (.int o.1)) o.2 :=
  gM.of (by decide) (Nat.le_of_ble_eq_true rfl) rfl (fun X _ O => tX11_set  h O)
theorem dX11_refresh_0 : decode cX11_refresh 0 = .ok (.aload_n 0, 1) := by decide +kernel
theorem dX11_refresh_1 : decode cX11_refresh 1 = .ok (.iconst 0, 1) := by decide +kernel
theorem dX11_refresh_2 : decode cX11_refresh 2 = .ok (.putfield 72, 3) := by decide +kernel
theorem dX11_refresh_5 : decode cX11_refresh 5 = .ok (.aload_n 0, 1) := by decide +kernel
theorem dX11_refresh_6 : decode cX11_refresh 6 = .ok (.invokevirtual 368, 3) := by decide +kernel
theorem dX11_refresh_9 : decode cX11_refresh 9 = .ok (.aload_n 0, 1) := by decide +kernel
theorem dX11_refresh_10 : decode cX11_refresh 10 = .ok (.aload_n 0, 1) := by decide +kernel
theorem dX11_refresh_11 : decode cX11_refresh 11 = .ok (.invokevirtual 362, 3) := by decide +kernel
theorem dX11_refresh_14 : decode cX11_refresh 14 = .ok (.invokevirtual 448, 3) := by decide +kernel
theorem dX11_refresh_17 : decode cX11_refresh 17 = .ok (.ireturn, 1) := by decide +kernel
abbrev rX11_refresh : Room := { frames := 6, cells := 0, slots := 0, locals := 138 }
abbrev mX11_refresh : gY := (cX11_refresh, RX11, 1, rX11_refresh)
def fX11_refresh (M0 : gMem) : Option (Int32 × gMem) :=
  (wF M0 0 0 (0 : Int32)).bind fun M1 => (fX11_goesAside M1).bind fun v2 => (fX11_refreshes v2).bind fun v3 => (fX11_done v3.1 v3.2).bind fun v4 => some (v4.1, v4.2)
set_option maxRecDepth 20000 in
theorem tX11_refresh {X : gX} {V : gEnv} {M0 : gMem}  {o : (Int32 × gMem)} (h : fX11_refresh M0 = some o) (O : gO X V mX11_refresh gShM (some .int) (some (.int o.1)) o.2) : gG X V mX11_refresh gShM M0 0 0 0 [(0, .ref (gAd V 0))] [] := by
  unfold fX11_refresh at h
  refine g_aload_n 0 rfl rfl dX11_refresh_0 ?_
  refine g_iconst (v := 0) rfl dX11_refresh_1 ?_
  obtain ⟨M1, eM1, h⟩ := g_bnd h
  refine g_putI' eM1 FX11_72 jX11 sM_0 rfl rfl rfl dX11_refresh_2 ?_
  refine g_aload_n 0 rfl rfl dX11_refresh_5 ?_
  obtain ⟨v2, ev2, h⟩ := g_bnd h
  refine g_callV LX11_368 sM_0 rfl (kX11_goesAside ev2) rfl rfl (Nat.le_of_ble_eq_true rfl) ⟨Nat.le_of_ble_eq_true rfl, Nat.le_of_ble_eq_true rfl⟩ ⟨Nat.le_of_ble_eq_true rfl, Nat.le_of_ble_eq_true rfl⟩ dX11_refresh_6 rfl ?_
  refine g_aload_n 0 rfl rfl dX11_refresh_9 ?_
  refine g_aload_n 0 rfl rfl dX11_refresh_10 ?_
  obtain ⟨v3, ev3, h⟩ := g_bnd h
  refine g_callV LX11_362 sM_0 rfl (kX11_refreshes ev3) rfl rfl (Nat.le_of_ble_eq_true rfl) ⟨Nat.le_of_ble_eq_true rfl, Nat.le_of_ble_eq_true rfl⟩ ⟨Nat.le_of_ble_eq_true rfl, Nat.le_of_ble_eq_true rfl⟩ dX11_refresh_11 rfl ?_
  obtain ⟨v4, ev4, h⟩ := g_bnd h
  refine g_callV LX11_448 sM_0 rfl (kX11_done ev4) rfl rfl (Nat.le_of_ble_eq_true rfl) ⟨Nat.le_of_ble_eq_true rfl, Nat.le_of_ble_eq_true rfl⟩ ⟨Nat.le_of_ble_eq_true rfl, Nat.le_of_ble_eq_true rfl⟩ dX11_refresh_14 rfl ?_
  cases h
  exact g_iret O ⟨Nat.le_of_ble_eq_true rfl, Nat.le_of_ble_eq_true rfl⟩ rfl dX11_refresh_17
theorem kX11_refresh {l : Launch} {V : gEnv} {M0 : gMem}   {o : (Int32 × gMem)} (h : fX11_refresh M0 = some o) : gM l yX11_refresh cX11_refresh 1 (some .int) rX11_refresh V gShM [.ref (gAd V 0)] M0 (some (.int o.1)) o.2 :=
  gM.of (by decide) (Nat.le_of_ble_eq_true rfl) rfl (fun X _ O => tX11_refresh  h O)
theorem dX11_tells_0 : decode cX11_tells 0 = .ok (.aload_n 0, 1) := by decide +kernel
theorem dX11_tells_1 : decode cX11_tells 1 = .ok (.getfield 65, 3) := by decide +kernel
theorem dX11_tells_4 : decode cX11_tells 4 = .ok (.aload_n 0, 1) := by decide +kernel
theorem dX11_tells_5 : decode cX11_tells 5 = .ok (.getfield 451, 3) := by decide +kernel
theorem dX11_tells_8 : decode cX11_tells 8 = .ok (.iload_n 1, 1) := by decide +kernel
theorem dX11_tells_9 : decode cX11_tells 9 = .ok (.iastore, 1) := by decide +kernel
theorem dX11_tells_10 : decode cX11_tells 10 = .ok (.aload_n 0, 1) := by decide +kernel
theorem dX11_tells_11 : decode cX11_tells 11 = .ok (.dup, 1) := by decide +kernel
theorem dX11_tells_12 : decode cX11_tells 12 = .ok (.getfield 451, 3) := by decide +kernel
theorem dX11_tells_15 : decode cX11_tells 15 = .ok (.iconst 1, 1) := by decide +kernel
theorem dX11_tells_16 : decode cX11_tells 16 = .ok (.iadd, 1) := by decide +kernel
theorem dX11_tells_17 : decode cX11_tells 17 = .ok (.putfield 451, 3) := by decide +kernel
theorem dX11_tells_20 : decode cX11_tells 20 = .ok (.return_, 1) := by decide +kernel
abbrev rX11_tells : Room := { frames := 0, cells := 0, slots := 0, locals := 0 }
abbrev mX11_tells : gY := (cX11_tells, RX11, 2, rX11_tells)
def fX11_tells (x1 : Int32) (M0 : gMem) : Option gMem :=
  (wI M0 18 600 (M0.1 0 40) x1).bind fun M1 => (wF M1 0 40 ((M1.1 0 40) + (1 : Int32))).bind fun M2 => some M2
set_option maxRecDepth 20000 in
theorem tX11_tells {X : gX} {V : gEnv} {x1 : Int32} {M0 : gMem}  {o : gMem} (h : fX11_tells x1 M0 = some o) (O : gO X V mX11_tells gShM none none o) : gG X V mX11_tells gShM M0 0 0 0 [(0, .ref (gAd V 0)), (1, .int x1)] [] := by
  unfold fX11_tells at h
  refine g_aload_n 0 rfl rfl dX11_tells_0 ?_
  refine g_getR FX11_65 sM_0 rfl dX11_tells_1 ?_
  refine g_aload_n 0 rfl rfl dX11_tells_4 ?_
  refine g_getI FX11_451 sM_0 rfl dX11_tells_5 ?_
  refine g_iload_n 1 rfl rfl dX11_tells_8 ?_
  obtain ⟨M1, eM1, h⟩ := g_bnd h
  refine g_iast' eM1 sM_18 dX11_tells_9 ?_
  refine g_aload_n 0 rfl rfl dX11_tells_10 ?_
  refine g_dup rfl dX11_tells_11 ?_
  refine g_getI FX11_451 sM_0 rfl dX11_tells_12 ?_
  refine g_iconst (v := 1) rfl dX11_tells_15 ?_
  refine g_iadd dX11_tells_16 ?_
  obtain ⟨M2, eM2, h⟩ := g_bnd h
  refine g_putI' eM2 FX11_451 jX11 sM_0 rfl rfl rfl dX11_tells_17 ?_
  cases h
  exact g_vret O ⟨Nat.le_of_ble_eq_true rfl, Nat.le_of_ble_eq_true rfl⟩ dX11_tells_20
theorem kX11_tells {l : Launch} {V : gEnv} {M0 : gMem} {x1 : Int32}  {o : gMem} (h : fX11_tells x1 M0 = some o) : gM l yX11_tells cX11_tells 2 none rX11_tells V gShM [.ref (gAd V 0), .int x1] M0 none o :=
  gM.of (by decide) (Nat.le_of_ble_eq_true rfl) rfl (fun X _ O => tX11_tells  h O)
theorem dX11_tellsName_0 : decode cX11_tellsName 0 = .ok (.iconst 0, 1) := by decide +kernel
theorem dX11_tellsName_1 : decode cX11_tellsName 1 = .ok (.istore_n 2, 1) := by decide +kernel
theorem dX11_tellsName_2 : decode cX11_tellsName 2 = .ok (.iload_n 2, 1) := by decide +kernel
theorem dX11_tellsName_3 : decode cX11_tellsName 3 = .ok (.aload_n 0, 1) := by decide +kernel
theorem dX11_tellsName_4 : decode cX11_tellsName 4 = .ok (.iload_n 1, 1) := by decide +kernel
theorem dX11_tellsName_5 : decode cX11_tellsName 5 = .ok (.iconst 2, 1) := by decide +kernel
theorem dX11_tellsName_6 : decode cX11_tellsName 6 = .ok (.invokevirtual 82, 3) := by decide +kernel
theorem dX11_tellsName_9 : decode cX11_tellsName 9 = .ok (.if_icmp .ge 21, 3) := by decide +kernel
theorem dX11_tellsName_12 : decode cX11_tellsName 12 = .ok (.aload_n 0, 1) := by decide +kernel
theorem dX11_tellsName_13 : decode cX11_tellsName 13 = .ok (.aload_n 0, 1) := by decide +kernel
theorem dX11_tellsName_14 : decode cX11_tellsName 14 = .ok (.iload_n 1, 1) := by decide +kernel
theorem dX11_tellsName_15 : decode cX11_tellsName 15 = .ok (.iconst 3, 1) := by decide +kernel
theorem dX11_tellsName_16 : decode cX11_tellsName 16 = .ok (.iload_n 2, 1) := by decide +kernel
theorem dX11_tellsName_17 : decode cX11_tellsName 17 = .ok (.iadd, 1) := by decide +kernel
theorem dX11_tellsName_18 : decode cX11_tellsName 18 = .ok (.invokevirtual 82, 3) := by decide +kernel
theorem dX11_tellsName_21 : decode cX11_tellsName 21 = .ok (.invokevirtual 454, 3) := by decide +kernel
theorem dX11_tellsName_24 : decode cX11_tellsName 24 = .ok (.iinc 2 1, 3) := by decide +kernel
theorem dX11_tellsName_27 : decode cX11_tellsName 27 = .ok (.goto (-25), 3) := by decide +kernel
theorem dX11_tellsName_30 : decode cX11_tellsName 30 = .ok (.return_, 1) := by decide +kernel
abbrev rX11_tellsName : Room := { frames := 1, cells := 0, slots := 0, locals := 22 }
abbrev mX11_tellsName : gY := (cX11_tellsName, RX11, 3, rX11_tellsName)
def fX11_tellsName_l2 (x1 : Int32) (x2 : Int32) (M0 : gMem) : Option ((Int32 × gMem) ⊕ gMem) :=
  (fX11_of x1 (2 : Int32) M0).bind fun v1 => if v1 ≤ x2 then (some (.inr M0)) else (fX11_of x1 ((3 : Int32) + x2) M0).bind fun v3 => (fX11_tells v3 M0).bind fun v4 => some (.inl (x2 + (1 : Int32), v4))
set_option maxRecDepth 20000 in
theorem tX11_tellsName_l2 {X : gX} {V : gEnv} {x1 : Int32} {x2 : Int32} {M0 : gMem}  {o : ((Int32 × gMem) ⊕ gMem)} (h : fX11_tellsName_l2 x1 x2 M0 = some o) (Kc : ∀ s9, o = .inl s9 → gG X V mX11_tellsName gShM s9.2 0 0 2 [(0, .ref (gAd V 0)), (1, .int x1), (2, .int s9.1)] []) (Kx : ∀ e9, o = .inr e9 → gG X V mX11_tellsName gShM e9 0 0 30 [] []) : gG X V mX11_tellsName gShM M0 0 0 2 [(0, .ref (gAd V 0)), (1, .int x1), (2, .int x2)] [] := by
  unfold fX11_tellsName_l2 at h
  refine g_iload_n 2 rfl rfl dX11_tellsName_2 ?_
  refine g_aload_n 0 rfl rfl dX11_tellsName_3 ?_
  refine g_iload_n 1 rfl rfl dX11_tellsName_4 ?_
  refine g_iconst (v := 2) rfl dX11_tellsName_5 ?_
  obtain ⟨v1, ev1, h⟩ := g_bnd h
  refine g_callV LX11_82 sM_0 rfl (kX11_of ev1) rfl rfl (Nat.le_of_ble_eq_true rfl) ⟨Nat.le_of_ble_eq_true rfl, Nat.le_of_ble_eq_true rfl⟩ ⟨Nat.le_of_ble_eq_true rfl, Nat.le_of_ble_eq_true rfl⟩ dX11_tellsName_6 rfl ?_
  rcases g_ite h with ⟨c2, h⟩ | ⟨c2, h⟩
  · refine g_icmp_ge_t c2 (tgt := 30) rfl dX11_tellsName_9 ?_
    cases h
    refine g_sub [] rfl ?_
    exact Kx M0 rfl
  · refine g_icmp_ge_f c2 (tgt := 30) rfl dX11_tellsName_9 ?_
    refine g_aload_n 0 rfl rfl dX11_tellsName_12 ?_
    refine g_aload_n 0 rfl rfl dX11_tellsName_13 ?_
    refine g_iload_n 1 rfl rfl dX11_tellsName_14 ?_
    refine g_iconst (v := 3) rfl dX11_tellsName_15 ?_
    refine g_iload_n 2 rfl rfl dX11_tellsName_16 ?_
    refine g_iadd dX11_tellsName_17 ?_
    obtain ⟨v3, ev3, h⟩ := g_bnd h
    refine g_callV LX11_82 sM_0 rfl (kX11_of ev3) rfl rfl (Nat.le_of_ble_eq_true rfl) ⟨Nat.le_of_ble_eq_true rfl, Nat.le_of_ble_eq_true rfl⟩ ⟨Nat.le_of_ble_eq_true rfl, Nat.le_of_ble_eq_true rfl⟩ dX11_tellsName_18 rfl ?_
    obtain ⟨v4, ev4, h⟩ := g_bnd h
    refine g_callV LX11_454 sM_0 rfl (kX11_tells ev4) rfl rfl (Nat.le_of_ble_eq_true rfl) ⟨Nat.le_of_ble_eq_true rfl, Nat.le_of_ble_eq_true rfl⟩ ⟨Nat.le_of_ble_eq_true rfl, Nat.le_of_ble_eq_true rfl⟩ dX11_tellsName_21 rfl ?_
    refine g_iinc (j := 2) (v := x2 + (1 : Int32)) (ls' := [(2, .int (x2 + (1 : Int32))), (0, .ref (gAd V 0)), (1, .int x1)]) rfl rfl (Nat.le_of_ble_eq_true rfl) rfl dX11_tellsName_24 ?_
    refine g_goto (tgt := 2) rfl dX11_tellsName_27 ?_
    cases h
    refine g_sub [1, 2, 0] rfl ?_
    exact Kc (x2 + (1 : Int32), v4) rfl
def fX11_tellsName (x1 : Int32) (M0 : gMem) : Option gMem :=
  (gLoop (fun z9 => fX11_tellsName_l2 x1 z9.1 z9.2) gFu ((0 : Int32), M0)).bind fun w5 => some w5
set_option maxRecDepth 20000 in
theorem tX11_tellsName {X : gX} {V : gEnv} {x1 : Int32} {M0 : gMem}  {o : gMem} (h : fX11_tellsName x1 M0 = some o) (O : gO X V mX11_tellsName gShM none none o) : gG X V mX11_tellsName gShM M0 0 0 0 [(0, .ref (gAd V 0)), (1, .int x1)] [] := by
  unfold fX11_tellsName at h
  refine g_iconst (v := 0) rfl dX11_tellsName_0 ?_
  refine g_istore_n (ls' := [(2, .int (0 : Int32)), (0, .ref (gAd V 0)), (1, .int x1)]) rfl (Nat.le_of_ble_eq_true rfl) rfl dX11_tellsName_1 ?_
  obtain ⟨w5, ew5, h⟩ := g_bnd h
  refine g_sub [1, 2, 0] rfl ?_
  have KX : gG X V mX11_tellsName gShM w5 0 0 30 [] [] := by
    cases h
    exact g_vret O ⟨Nat.le_of_ble_eq_true rfl, Nat.le_of_ble_eq_true rfl⟩ dX11_tellsName_30
  exact gLoop_Q ew5 (fun z9 => gG X V mX11_tellsName gShM z9.2 0 0 2 [(0, .ref (gAd V 0)), (1, .int x1), (2, .int z9.1)] []) (fun s9 o9 hb9 hc9 hx9 => tX11_tellsName_l2  hb9 hc9 (fun e9 he9 => by cases hx9 _ he9; exact KX))
theorem kX11_tellsName {l : Launch} {V : gEnv} {M0 : gMem} {x1 : Int32}  {o : gMem} (h : fX11_tellsName x1 M0 = some o) : gM l yX11_tellsName cX11_tellsName 3 none rX11_tellsName V gShM [.ref (gAd V 0), .int x1] M0 none o :=
  gM.of (by decide) (Nat.le_of_ble_eq_true rfl) rfl (fun X _ O => tX11_tellsName  h O)
theorem dX11_tellsGroup_0 : decode cX11_tellsGroup 0 = .ok (.aload_n 0, 1) := by decide +kernel
theorem dX11_tellsGroup_1 : decode cX11_tellsGroup 1 = .ok (.iload_n 1, 1) := by decide +kernel
theorem dX11_tellsGroup_2 : decode cX11_tellsGroup 2 = .ok (.invokevirtual 179, 3) := by decide +kernel
theorem dX11_tellsGroup_5 : decode cX11_tellsGroup 5 = .ok (.istore_n 2, 1) := by decide +kernel
theorem dX11_tellsGroup_6 : decode cX11_tellsGroup 6 = .ok (.iload_n 2, 1) := by decide +kernel
theorem dX11_tellsGroup_7 : decode cX11_tellsGroup 7 = .ok (.invokestatic 139, 3) := by decide +kernel
theorem dX11_tellsGroup_10 : decode cX11_tellsGroup 10 = .ok (.iconst 1, 1) := by decide +kernel
theorem dX11_tellsGroup_11 : decode cX11_tellsGroup 11 = .ok (.if_icmp .ne 7, 3) := by decide +kernel
theorem dX11_tellsGroup_14 : decode cX11_tellsGroup 14 = .ok (.iconst 1, 1) := by decide +kernel
theorem dX11_tellsGroup_15 : decode cX11_tellsGroup 15 = .ok (.goto 4, 3) := by decide +kernel
theorem dX11_tellsGroup_18 : decode cX11_tellsGroup 18 = .ok (.iconst 0, 1) := by decide +kernel
theorem dX11_tellsGroup_19 : decode cX11_tellsGroup 19 = .ok (.istore_n 3, 1) := by decide +kernel
theorem dX11_tellsGroup_20 : decode cX11_tellsGroup 20 = .ok (.iload_n 3, 1) := by decide +kernel
theorem dX11_tellsGroup_21 : decode cX11_tellsGroup 21 = .ok (.ifCond .ne 9, 3) := by decide +kernel
theorem dX11_tellsGroup_24 : decode cX11_tellsGroup 24 = .ok (.aload_n 0, 1) := by decide +kernel
theorem dX11_tellsGroup_25 : decode cX11_tellsGroup 25 = .ok (.bipush 40, 2) := by decide +kernel
theorem dX11_tellsGroup_27 : decode cX11_tellsGroup 27 = .ok (.invokevirtual 454, 3) := by decide +kernel
theorem dX11_tellsGroup_30 : decode cX11_tellsGroup 30 = .ok (.iconst 0, 1) := by decide +kernel
theorem dX11_tellsGroup_31 : decode cX11_tellsGroup 31 = .ok (.istore 4, 2) := by decide +kernel
theorem dX11_tellsGroup_33 : decode cX11_tellsGroup 33 = .ok (.iload 4, 2) := by decide +kernel
theorem dX11_tellsGroup_35 : decode cX11_tellsGroup 35 = .ok (.aload_n 0, 1) := by decide +kernel
theorem dX11_tellsGroup_36 : decode cX11_tellsGroup 36 = .ok (.getfield 9, 3) := by decide +kernel
theorem dX11_tellsGroup_39 : decode cX11_tellsGroup 39 = .ok (.iconst 0, 1) := by decide +kernel
theorem dX11_tellsGroup_40 : decode cX11_tellsGroup 40 = .ok (.iaload, 1) := by decide +kernel
theorem dX11_tellsGroup_41 : decode cX11_tellsGroup 41 = .ok (.if_icmp .ge 47, 3) := by decide +kernel
theorem dX11_tellsGroup_44 : decode cX11_tellsGroup 44 = .ok (.iload_n 2, 1) := by decide +kernel
theorem dX11_tellsGroup_45 : decode cX11_tellsGroup 45 = .ok (.iload 4, 2) := by decide +kernel
theorem dX11_tellsGroup_47 : decode cX11_tellsGroup 47 = .ok (.invokestatic 93, 3) := by decide +kernel
theorem dX11_tellsGroup_50 : decode cX11_tellsGroup 50 = .ok (.ifCond .ne 6, 3) := by decide +kernel
theorem dX11_tellsGroup_53 : decode cX11_tellsGroup 53 = .ok (.goto 29, 3) := by decide +kernel
theorem dX11_tellsGroup_56 : decode cX11_tellsGroup 56 = .ok (.iload 4, 2) := by decide +kernel
theorem dX11_tellsGroup_58 : decode cX11_tellsGroup 58 = .ok (.aload_n 0, 1) := by decide +kernel
theorem dX11_tellsGroup_59 : decode cX11_tellsGroup 59 = .ok (.getfield 9, 3) := by decide +kernel
theorem dX11_tellsGroup_62 : decode cX11_tellsGroup 62 = .ok (.bipush 14, 2) := by decide +kernel
theorem dX11_tellsGroup_64 : decode cX11_tellsGroup 64 = .ok (.iload_n 1, 1) := by decide +kernel
theorem dX11_tellsGroup_65 : decode cX11_tellsGroup 65 = .ok (.iadd, 1) := by decide +kernel
theorem dX11_tellsGroup_66 : decode cX11_tellsGroup 66 = .ok (.iaload, 1) := by decide +kernel
theorem dX11_tellsGroup_67 : decode cX11_tellsGroup 67 = .ok (.if_icmp .eq 9, 3) := by decide +kernel
theorem dX11_tellsGroup_70 : decode cX11_tellsGroup 70 = .ok (.aload_n 0, 1) := by decide +kernel
theorem dX11_tellsGroup_71 : decode cX11_tellsGroup 71 = .ok (.bipush 43, 2) := by decide +kernel
theorem dX11_tellsGroup_73 : decode cX11_tellsGroup 73 = .ok (.invokevirtual 454, 3) := by decide +kernel
theorem dX11_tellsGroup_76 : decode cX11_tellsGroup 76 = .ok (.aload_n 0, 1) := by decide +kernel
theorem dX11_tellsGroup_77 : decode cX11_tellsGroup 77 = .ok (.iload 4, 2) := by decide +kernel
theorem dX11_tellsGroup_79 : decode cX11_tellsGroup 79 = .ok (.invokevirtual 457, 3) := by decide +kernel
theorem dX11_tellsGroup_82 : decode cX11_tellsGroup 82 = .ok (.iinc 4 1, 3) := by decide +kernel
theorem dX11_tellsGroup_85 : decode cX11_tellsGroup 85 = .ok (.goto (-52), 3) := by decide +kernel
theorem dX11_tellsGroup_88 : decode cX11_tellsGroup 88 = .ok (.iload_n 3, 1) := by decide +kernel
theorem dX11_tellsGroup_89 : decode cX11_tellsGroup 89 = .ok (.ifCond .ne 9, 3) := by decide +kernel
theorem dX11_tellsGroup_92 : decode cX11_tellsGroup 92 = .ok (.aload_n 0, 1) := by decide +kernel
theorem dX11_tellsGroup_93 : decode cX11_tellsGroup 93 = .ok (.bipush 41, 2) := by decide +kernel
theorem dX11_tellsGroup_95 : decode cX11_tellsGroup 95 = .ok (.invokevirtual 454, 3) := by decide +kernel
theorem dX11_tellsGroup_98 : decode cX11_tellsGroup 98 = .ok (.return_, 1) := by decide +kernel
abbrev rX11_tellsGroup : Room := { frames := 3, cells := 0, slots := 0, locals := 66 }
abbrev mX11_tellsGroup : gY := (cX11_tellsGroup, RX11, 5, rX11_tellsGroup)
def fX11_tellsGroup_b82 (x1 : Int32) (x2 : Int32) (x3 : Int32) (x4 : Int32) (M0 : gMem) : Option ((Int32 × gMem) ⊕ gMem) :=
  some (.inl (x4 + (1 : Int32), M0))
set_option maxRecDepth 20000 in
theorem tX11_tellsGroup_b82 {X : gX} {V : gEnv} {x1 : Int32} {x2 : Int32} {x3 : Int32} {x4 : Int32} {M0 : gMem}  {o : ((Int32 × gMem) ⊕ gMem)} (h : fX11_tellsGroup_b82 x1 x2 x3 x4 M0 = some o) (Kc : ∀ s9, o = .inl s9 → gG X V mX11_tellsGroup gShM s9.2 0 0 33 [(0, .ref (gAd V 0)), (1, .int x1), (2, .int x2), (3, .int x3), (4, .int s9.1)] []) (Kx : ∀ e9, o = .inr e9 → gG X V mX11_tellsGroup gShM e9 0 0 88 [(0, .ref (gAd V 0)), (3, .int x3)] []) : gG X V mX11_tellsGroup gShM M0 0 0 82 [(0, .ref (gAd V 0)), (1, .int x1), (2, .int x2), (3, .int x3), (4, .int x4)] [] := by
  unfold fX11_tellsGroup_b82 at h
  refine g_iinc (j := 4) (v := x4 + (1 : Int32)) (ls' := [(4, .int (x4 + (1 : Int32))), (0, .ref (gAd V 0)), (1, .int x1), (2, .int x2), (3, .int x3)]) rfl rfl (Nat.le_of_ble_eq_true rfl) rfl dX11_tellsGroup_82 ?_
  refine g_goto (tgt := 33) rfl dX11_tellsGroup_85 ?_
  cases h
  refine g_sub [1, 2, 3, 4, 0] rfl ?_
  exact Kc (x4 + (1 : Int32), M0) rfl
def fX11_tellsGroup_b76 (x1 : Int32) (x2 : Int32) (x3 : Int32) (x4 : Int32) (M0 : gMem) : Option ((Int32 × gMem) ⊕ gMem) :=
  (fX11_tellsName x4 M0).bind fun v13 => fX11_tellsGroup_b82 x1 x2 x3 x4 v13
set_option maxRecDepth 20000 in
theorem tX11_tellsGroup_b76 {X : gX} {V : gEnv} {x1 : Int32} {x2 : Int32} {x3 : Int32} {x4 : Int32} {M0 : gMem}  {o : ((Int32 × gMem) ⊕ gMem)} (h : fX11_tellsGroup_b76 x1 x2 x3 x4 M0 = some o) (Kc : ∀ s9, o = .inl s9 → gG X V mX11_tellsGroup gShM s9.2 0 0 33 [(0, .ref (gAd V 0)), (1, .int x1), (2, .int x2), (3, .int x3), (4, .int s9.1)] []) (Kx : ∀ e9, o = .inr e9 → gG X V mX11_tellsGroup gShM e9 0 0 88 [(0, .ref (gAd V 0)), (3, .int x3)] []) : gG X V mX11_tellsGroup gShM M0 0 0 76 [(0, .ref (gAd V 0)), (1, .int x1), (2, .int x2), (3, .int x3), (4, .int x4)] [] := by
  unfold fX11_tellsGroup_b76 at h
  refine g_aload_n 0 rfl rfl dX11_tellsGroup_76 ?_
  refine g_iload 4 rfl dX11_tellsGroup_77 ?_
  obtain ⟨v13, ev13, h⟩ := g_bnd h
  refine g_callV LX11_457 sM_0 rfl (kX11_tellsName ev13) rfl rfl (Nat.le_of_ble_eq_true rfl) ⟨Nat.le_of_ble_eq_true rfl, Nat.le_of_ble_eq_true rfl⟩ ⟨Nat.le_of_ble_eq_true rfl, Nat.le_of_ble_eq_true rfl⟩ dX11_tellsGroup_79 rfl ?_
  exact tX11_tellsGroup_b82  h Kc Kx
def fX11_tellsGroup_l33 (x1 : Int32) (x2 : Int32) (x3 : Int32) (x4 : Int32) (M0 : gMem) : Option ((Int32 × gMem) ⊕ gMem) :=
  (rI M0 1 374 (0 : Int32)).bind fun v7 => if v7 ≤ x4 then (some (.inr M0)) else (fX11_has x2 x4).bind fun v9 => if v9 = 0 then (fX11_tellsGroup_b82 x1 x2 x3 x4 M0) else (rI M0 1 374 ((14 : Int32) + x1)).bind fun v11 => if x4 = v11 then (fX11_tellsGroup_b76 x1 x2 x3 x4 M0) else (fX11_tells (43 : Int32) M0).bind fun v14 => fX11_tellsGroup_b76 x1 x2 x3 x4 v14
set_option maxRecDepth 20000 in
theorem tX11_tellsGroup_l33 {X : gX} {V : gEnv} {x1 : Int32} {x2 : Int32} {x3 : Int32} {x4 : Int32} {M0 : gMem}  {o : ((Int32 × gMem) ⊕ gMem)} (h : fX11_tellsGroup_l33 x1 x2 x3 x4 M0 = some o) (Kc : ∀ s9, o = .inl s9 → gG X V mX11_tellsGroup gShM s9.2 0 0 33 [(0, .ref (gAd V 0)), (1, .int x1), (2, .int x2), (3, .int x3), (4, .int s9.1)] []) (Kx : ∀ e9, o = .inr e9 → gG X V mX11_tellsGroup gShM e9 0 0 88 [(0, .ref (gAd V 0)), (3, .int x3)] []) : gG X V mX11_tellsGroup gShM M0 0 0 33 [(0, .ref (gAd V 0)), (1, .int x1), (2, .int x2), (3, .int x3), (4, .int x4)] [] := by
  unfold fX11_tellsGroup_l33 at h
  refine g_iload 4 rfl dX11_tellsGroup_33 ?_
  refine g_aload_n 0 rfl rfl dX11_tellsGroup_35 ?_
  refine g_getR FX11_9 sM_0 rfl dX11_tellsGroup_36 ?_
  refine g_iconst (v := 0) rfl dX11_tellsGroup_39 ?_
  obtain ⟨v7, ev7, h⟩ := g_bnd h
  refine g_iald' ev7 sM_1 dX11_tellsGroup_40 ?_
  rcases g_ite h with ⟨c8, h⟩ | ⟨c8, h⟩
  · refine g_icmp_ge_t c8 (tgt := 88) rfl dX11_tellsGroup_41 ?_
    cases h
    refine g_sub [0, 3] rfl ?_
    exact Kx M0 rfl
  · refine g_icmp_ge_f c8 (tgt := 88) rfl dX11_tellsGroup_41 ?_
    refine g_iload_n 2 rfl rfl dX11_tellsGroup_44 ?_
    refine g_iload 4 rfl dX11_tellsGroup_45 ?_
    obtain ⟨v9, ev9, h⟩ := g_bnd h
    refine g_callS LX11_93 (kX11_has ev9) rfl rfl (Nat.le_of_ble_eq_true rfl) ⟨Nat.le_of_ble_eq_true rfl, Nat.le_of_ble_eq_true rfl⟩ ⟨Nat.le_of_ble_eq_true rfl, Nat.le_of_ble_eq_true rfl⟩ dX11_tellsGroup_47 rfl ?_
    rcases g_ite h with ⟨c10, h⟩ | ⟨c10, h⟩
    · refine g_if_ne_f c10 (tgt := 56) rfl dX11_tellsGroup_50 ?_
      refine g_goto (tgt := 82) rfl dX11_tellsGroup_53 ?_
      exact tX11_tellsGroup_b82  h Kc Kx
    · refine g_if_ne_t c10 (tgt := 56) rfl dX11_tellsGroup_50 ?_
      refine g_iload 4 rfl dX11_tellsGroup_56 ?_
      refine g_aload_n 0 rfl rfl dX11_tellsGroup_58 ?_
      refine g_getR FX11_9 sM_0 rfl dX11_tellsGroup_59 ?_
      refine g_bipush (v := 14) rfl dX11_tellsGroup_62 ?_
      refine g_iload_n 1 rfl rfl dX11_tellsGroup_64 ?_
      refine g_iadd dX11_tellsGroup_65 ?_
      obtain ⟨v11, ev11, h⟩ := g_bnd h
      refine g_iald' ev11 sM_1 dX11_tellsGroup_66 ?_
      rcases g_ite h with ⟨c12, h⟩ | ⟨c12, h⟩
      · refine g_icmp_eq_t c12 (tgt := 76) rfl dX11_tellsGroup_67 ?_
        exact tX11_tellsGroup_b76  h Kc Kx
      · refine g_icmp_eq_f c12 (tgt := 76) rfl dX11_tellsGroup_67 ?_
        refine g_aload_n 0 rfl rfl dX11_tellsGroup_70 ?_
        refine g_bipush (v := 43) rfl dX11_tellsGroup_71 ?_
        obtain ⟨v14, ev14, h⟩ := g_bnd h
        refine g_callV LX11_454 sM_0 rfl (kX11_tells ev14) rfl rfl (Nat.le_of_ble_eq_true rfl) ⟨Nat.le_of_ble_eq_true rfl, Nat.le_of_ble_eq_true rfl⟩ ⟨Nat.le_of_ble_eq_true rfl, Nat.le_of_ble_eq_true rfl⟩ dX11_tellsGroup_73 rfl ?_
        exact tX11_tellsGroup_b76  h Kc Kx
def fX11_tellsGroup_b30 (x1 : Int32) (x2 : Int32) (x3 : Int32) (M0 : gMem) : Option gMem :=
  (gLoop (fun z9 => fX11_tellsGroup_l33 x1 x2 x3 z9.1 z9.2) gFu ((0 : Int32), M0)).bind fun w15 => if x3 = 0 then ((fX11_tells (41 : Int32) w15).bind fun v17 => some v17) else some w15
set_option maxRecDepth 20000 in
theorem tX11_tellsGroup_b30 {X : gX} {V : gEnv} {x1 : Int32} {x2 : Int32} {x3 : Int32} {M0 : gMem}  {o : gMem} (h : fX11_tellsGroup_b30 x1 x2 x3 M0 = some o) (O : gO X V mX11_tellsGroup gShM none none o) : gG X V mX11_tellsGroup gShM M0 0 0 30 [(0, .ref (gAd V 0)), (1, .int x1), (2, .int x2), (3, .int x3)] [] := by
  unfold fX11_tellsGroup_b30 at h
  refine g_iconst (v := 0) rfl dX11_tellsGroup_30 ?_
  refine g_istore (ls' := [(4, .int (0 : Int32)), (0, .ref (gAd V 0)), (1, .int x1), (2, .int x2), (3, .int x3)]) (Nat.le_of_ble_eq_true rfl) rfl dX11_tellsGroup_31 ?_
  obtain ⟨w15, ew15, h⟩ := g_bnd h
  refine g_sub [1, 2, 3, 4, 0] rfl ?_
  have KX : gG X V mX11_tellsGroup gShM w15 0 0 88 [(0, .ref (gAd V 0)), (3, .int x3)] [] := by
    refine g_iload_n 1 rfl rfl dX11_tellsGroup_88 ?_
    rcases g_ite h with ⟨c16, h⟩ | ⟨c16, h⟩
    · refine g_if_ne_f c16 (tgt := 98) rfl dX11_tellsGroup_89 ?_
      refine g_aload_n 0 rfl rfl dX11_tellsGroup_92 ?_
      refine g_bipush (v := 41) rfl dX11_tellsGroup_93 ?_
      obtain ⟨v17, ev17, h⟩ := g_bnd h
      refine g_callV LX11_454 sM_0 rfl (kX11_tells ev17) rfl rfl (Nat.le_of_ble_eq_true rfl) ⟨Nat.le_of_ble_eq_true rfl, Nat.le_of_ble_eq_true rfl⟩ ⟨Nat.le_of_ble_eq_true rfl, Nat.le_of_ble_eq_true rfl⟩ dX11_tellsGroup_95 rfl ?_
      cases h
      exact g_vret O ⟨Nat.le_of_ble_eq_true rfl, Nat.le_of_ble_eq_true rfl⟩ dX11_tellsGroup_98
    · refine g_if_ne_t c16 (tgt := 98) rfl dX11_tellsGroup_89 ?_
      cases h
      exact g_vret O ⟨Nat.le_of_ble_eq_true rfl, Nat.le_of_ble_eq_true rfl⟩ dX11_tellsGroup_98
  exact gLoop_Q ew15 (fun z9 => gG X V mX11_tellsGroup gShM z9.2 0 0 33 [(0, .ref (gAd V 0)), (1, .int x1), (2, .int x2), (3, .int x3), (4, .int z9.1)] []) (fun s9 o9 hb9 hc9 hx9 => tX11_tellsGroup_l33  hb9 hc9 (fun e9 he9 => by cases hx9 _ he9; exact KX))
def fX11_tellsGroup (x1 : Int32) (M0 : gMem) : Option gMem :=
  (fX11_membersAt x1 M0).bind fun v1 => (fX11_many v1).bind fun v2 => (nm (if v2 = (1 : Int32) then (1 : Int32) else (0 : Int32))).bind fun v4 => if v4 = 0 then ((fX11_tells (40 : Int32) M0).bind fun v6 => fX11_tellsGroup_b30 x1 v1 v4 v6) else fX11_tellsGroup_b30 x1 v1 v4 M0
set_option maxRecDepth 20000 in
theorem tX11_tellsGroup {X : gX} {V : gEnv} {x1 : Int32} {M0 : gMem}  {o : gMem} (h : fX11_tellsGroup x1 M0 = some o) (O : gO X V mX11_tellsGroup gShM none none o) : gG X V mX11_tellsGroup gShM M0 0 0 0 [(0, .ref (gAd V 0)), (1, .int x1)] [] := by
  unfold fX11_tellsGroup at h
  refine g_aload_n 0 rfl rfl dX11_tellsGroup_0 ?_
  refine g_iload_n 1 rfl rfl dX11_tellsGroup_1 ?_
  obtain ⟨v1, ev1, h⟩ := g_bnd h
  refine g_callV LX11_179 sM_0 rfl (kX11_membersAt ev1) rfl rfl (Nat.le_of_ble_eq_true rfl) ⟨Nat.le_of_ble_eq_true rfl, Nat.le_of_ble_eq_true rfl⟩ ⟨Nat.le_of_ble_eq_true rfl, Nat.le_of_ble_eq_true rfl⟩ dX11_tellsGroup_2 rfl ?_
  refine g_istore_n (ls' := [(2, .int v1), (0, .ref (gAd V 0)), (1, .int x1)]) rfl (Nat.le_of_ble_eq_true rfl) rfl dX11_tellsGroup_5 ?_
  refine g_iload_n 0 rfl rfl dX11_tellsGroup_6 ?_
  obtain ⟨v2, ev2, h⟩ := g_bnd h
  refine g_callS LX11_139 (kX11_many ev2) rfl rfl (Nat.le_of_ble_eq_true rfl) ⟨Nat.le_of_ble_eq_true rfl, Nat.le_of_ble_eq_true rfl⟩ ⟨Nat.le_of_ble_eq_true rfl, Nat.le_of_ble_eq_true rfl⟩ dX11_tellsGroup_7 rfl ?_
  refine g_iconst (v := 1) rfl dX11_tellsGroup_10 ?_
  have KJ : gG X V mX11_tellsGroup gShM M0 0 0 19 [(2, .int v1), (0, .ref (gAd V 0)), (1, .int x1)] [.int (if v2 = (1 : Int32) then (1 : Int32) else (0 : Int32))] := by
    obtain ⟨v4, ev4, h⟩ := g_bnd h
    refine g_nmI ev4 ?_
    refine g_istore_n (ls' := [(3, .int v4), (2, .int v1), (0, .ref (gAd V 0)), (1, .int x1)]) rfl (Nat.le_of_ble_eq_true rfl) rfl dX11_tellsGroup_19 ?_
    refine g_iload_n 0 rfl rfl dX11_tellsGroup_20 ?_
    rcases g_ite h with ⟨c5, h⟩ | ⟨c5, h⟩
    · refine g_if_ne_f c5 (tgt := 30) rfl dX11_tellsGroup_21 ?_
      refine g_aload_n 2 rfl rfl dX11_tellsGroup_24 ?_
      refine g_bipush (v := 40) rfl dX11_tellsGroup_25 ?_
      obtain ⟨v6, ev6, h⟩ := g_bnd h
      refine g_callV LX11_454 sM_0 rfl (kX11_tells ev6) rfl rfl (Nat.le_of_ble_eq_true rfl) ⟨Nat.le_of_ble_eq_true rfl, Nat.le_of_ble_eq_true rfl⟩ ⟨Nat.le_of_ble_eq_true rfl, Nat.le_of_ble_eq_true rfl⟩ dX11_tellsGroup_27 rfl ?_
      refine g_sub [2, 3, 1, 0] rfl ?_
      exact tX11_tellsGroup_b30  h O
    · refine g_if_ne_t c5 (tgt := 30) rfl dX11_tellsGroup_21 ?_
      refine g_sub [2, 3, 1, 0] rfl ?_
      exact tX11_tellsGroup_b30  h O
  by_cases c3 : v2 = (1 : Int32)
  · rw [if_pos c3] at KJ
    refine g_icmp_ne_f c3 (tgt := 18) rfl dX11_tellsGroup_11 ?_
    refine g_iconst (v := 1) rfl dX11_tellsGroup_14 ?_
    refine g_goto (tgt := 19) rfl dX11_tellsGroup_15 ?_
    exact KJ
  · rw [if_neg c3] at KJ
    refine g_icmp_ne_t c3 (tgt := 18) rfl dX11_tellsGroup_11 ?_
    refine g_iconst (v := 0) rfl dX11_tellsGroup_18 ?_
    exact KJ
theorem kX11_tellsGroup {l : Launch} {V : gEnv} {M0 : gMem} {x1 : Int32}  {o : gMem} (h : fX11_tellsGroup x1 M0 = some o) : gM l yX11_tellsGroup cX11_tellsGroup 5 none rX11_tellsGroup V gShM [.ref (gAd V 0), .int x1] M0 none o :=
  gM.of (by decide) (Nat.le_of_ble_eq_true rfl) rfl (fun X _ O => tX11_tellsGroup  h O)
