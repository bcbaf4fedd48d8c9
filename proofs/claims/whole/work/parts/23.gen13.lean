/-! METHODS, by program: pure functions and contracts -/
theorem dX11_arrow_0 : decode cX11_arrow 0 = .ok (.aload_n 0, 1) := by decide +kernel
theorem dX11_arrow_1 : decode cX11_arrow 1 = .ok (.iload_n 1, 1) := by decide +kernel
theorem dX11_arrow_2 : decode cX11_arrow 2 = .ok (.invokevirtual 421, 3) := by decide +kernel
theorem dX11_arrow_5 : decode cX11_arrow 5 = .ok (.ifCond .ne 25, 3) := by decide +kernel
theorem dX11_arrow_8 : decode cX11_arrow 8 = .ok (.aload_n 0, 1) := by decide +kernel
theorem dX11_arrow_9 : decode cX11_arrow 9 = .ok (.iload_n 2, 1) := by decide +kernel
theorem dX11_arrow_10 : decode cX11_arrow 10 = .ok (.iconst 0, 1) := by decide +kernel
theorem dX11_arrow_11 : decode cX11_arrow 11 = .ok (.iconst 3, 1) := by decide +kernel
theorem dX11_arrow_12 : decode cX11_arrow 12 = .ok (.invokestatic 172, 3) := by decide +kernel
theorem dX11_arrow_15 : decode cX11_arrow 15 = .ok (.ifCond .ne 7, 3) := by decide +kernel
theorem dX11_arrow_18 : decode cX11_arrow 18 = .ok (.iconst 1, 1) := by decide +kernel
theorem dX11_arrow_19 : decode cX11_arrow 19 = .ok (.goto 4, 3) := by decide +kernel
theorem dX11_arrow_22 : decode cX11_arrow 22 = .ok (.iconst 0, 1) := by decide +kernel
theorem dX11_arrow_23 : decode cX11_arrow 23 = .ok (.iconst 2, 1) := by decide +kernel
theorem dX11_arrow_24 : decode cX11_arrow 24 = .ok (.invokevirtual 392, 3) := by decide +kernel
theorem dX11_arrow_27 : decode cX11_arrow 27 = .ok (.ifCond .eq 5, 3) := by decide +kernel
theorem dX11_arrow_30 : decode cX11_arrow 30 = .ok (.iconst 0, 1) := by decide +kernel
theorem dX11_arrow_31 : decode cX11_arrow 31 = .ok (.ireturn, 1) := by decide +kernel
theorem dX11_arrow_32 : decode cX11_arrow 32 = .ok (.iload_n 2, 1) := by decide +kernel
theorem dX11_arrow_33 : decode cX11_arrow 33 = .ok (.tableswitch 61 0 2 #[27, 37, 47], 27) := by decide +kernel
theorem dX11_arrow_60 : decode cX11_arrow 60 = .ok (.aload_n 0, 1) := by decide +kernel
theorem dX11_arrow_61 : decode cX11_arrow 61 = .ok (.getfield 9, 3) := by decide +kernel
theorem dX11_arrow_64 : decode cX11_arrow 64 = .ok (.bipush 38, 2) := by decide +kernel
theorem dX11_arrow_66 : decode cX11_arrow 66 = .ok (.iload_n 1, 1) := by decide +kernel
theorem dX11_arrow_67 : decode cX11_arrow 67 = .ok (.iadd, 1) := by decide +kernel
theorem dX11_arrow_68 : decode cX11_arrow 68 = .ok (.iaload, 1) := by decide +kernel
theorem dX11_arrow_69 : decode cX11_arrow 69 = .ok (.ireturn, 1) := by decide +kernel
theorem dX11_arrow_70 : decode cX11_arrow 70 = .ok (.aload_n 0, 1) := by decide +kernel
theorem dX11_arrow_71 : decode cX11_arrow 71 = .ok (.getfield 9, 3) := by decide +kernel
theorem dX11_arrow_74 : decode cX11_arrow 74 = .ok (.bipush 98, 2) := by decide +kernel
theorem dX11_arrow_76 : decode cX11_arrow 76 = .ok (.iload_n 1, 1) := by decide +kernel
theorem dX11_arrow_77 : decode cX11_arrow 77 = .ok (.iadd, 1) := by decide +kernel
theorem dX11_arrow_78 : decode cX11_arrow 78 = .ok (.iaload, 1) := by decide +kernel
theorem dX11_arrow_79 : decode cX11_arrow 79 = .ok (.ireturn, 1) := by decide +kernel
theorem dX11_arrow_80 : decode cX11_arrow 80 = .ok (.aload_n 0, 1) := by decide +kernel
theorem dX11_arrow_81 : decode cX11_arrow 81 = .ok (.iload_n 1, 1) := by decide +kernel
theorem dX11_arrow_82 : decode cX11_arrow 82 = .ok (.invokevirtual 97, 3) := by decide +kernel
theorem dX11_arrow_85 : decode cX11_arrow 85 = .ok (.ifCond .eq 7, 3) := by decide +kernel
theorem dX11_arrow_88 : decode cX11_arrow 88 = .ok (.iconst 1, 1) := by decide +kernel
theorem dX11_arrow_89 : decode cX11_arrow 89 = .ok (.goto 4, 3) := by decide +kernel
theorem dX11_arrow_92 : decode cX11_arrow 92 = .ok (.iconst 0, 1) := by decide +kernel
theorem dX11_arrow_93 : decode cX11_arrow 93 = .ok (.ireturn, 1) := by decide +kernel
theorem dX11_arrow_94 : decode cX11_arrow 94 = .ok (.aload_n 0, 1) := by decide +kernel
theorem dX11_arrow_95 : decode cX11_arrow 95 = .ok (.aload_n 0, 1) := by decide +kernel
theorem dX11_arrow_96 : decode cX11_arrow 96 = .ok (.getfield 9, 3) := by decide +kernel
theorem dX11_arrow_99 : decode cX11_arrow 99 = .ok (.bipush 98, 2) := by decide +kernel
theorem dX11_arrow_101 : decode cX11_arrow 101 = .ok (.iload_n 1, 1) := by decide +kernel
theorem dX11_arrow_102 : decode cX11_arrow 102 = .ok (.iadd, 1) := by decide +kernel
theorem dX11_arrow_103 : decode cX11_arrow 103 = .ok (.iaload, 1) := by decide +kernel
theorem dX11_arrow_104 : decode cX11_arrow 104 = .ok (.invokevirtual 101, 3) := by decide +kernel
theorem dX11_arrow_107 : decode cX11_arrow 107 = .ok (.aload_n 0, 1) := by decide +kernel
theorem dX11_arrow_108 : decode cX11_arrow 108 = .ok (.aload_n 0, 1) := by decide +kernel
theorem dX11_arrow_109 : decode cX11_arrow 109 = .ok (.getfield 9, 3) := by decide +kernel
theorem dX11_arrow_112 : decode cX11_arrow 112 = .ok (.bipush 38, 2) := by decide +kernel
theorem dX11_arrow_114 : decode cX11_arrow 114 = .ok (.iload_n 1, 1) := by decide +kernel
theorem dX11_arrow_115 : decode cX11_arrow 115 = .ok (.iadd, 1) := by decide +kernel
theorem dX11_arrow_116 : decode cX11_arrow 116 = .ok (.iaload, 1) := by decide +kernel
theorem dX11_arrow_117 : decode cX11_arrow 117 = .ok (.invokevirtual 101, 3) := by decide +kernel
theorem dX11_arrow_120 : decode cX11_arrow 120 = .ok (.isub, 1) := by decide +kernel
theorem dX11_arrow_121 : decode cX11_arrow 121 = .ok (.ireturn, 1) := by decide +kernel
abbrev rX11_arrow : Room := { frames := 2, cells := 0, slots := 0, locals := 43 }
abbrev mX11_arrow : gY := (cX11_arrow, RX11, 3, rX11_arrow)
def fX11_arrow (x1 : Int32) (x2 : Int32) (M0 : gMem) : Option (Int32 × gMem) :=
  (fX11_noArrow x1 M0).bind fun v1 => if v1.1 = 0 then ((fX11_in x2 (0 : Int32) (3 : Int32)).bind fun v3 => (fX11_throwsIf (if v3 = 0 then (1 : Int32) else (0 : Int32)) (2 : Int32) v1.2).bind fun v5 => if v5.1 = 0 then (if x2 = (0 : Int32) then ((rI v5.2 1 374 ((38 : Int32) + x1)).bind fun v8 => some (v8, v5.2)) else if x2 = (1 : Int32) then ((rI v5.2 1 374 ((98 : Int32) + x1)).bind fun v10 => some (v10, v5.2)) else if x2 = (2 : Int32) then ((fX11_isInner x1 v5.2).bind fun v12 => some (if v12 = 0 then (0 : Int32) else (1 : Int32), v5.2)) else (rI v5.2 1 374 ((98 : Int32) + x1)).bind fun v14 => (fX11_placeOf v14 v5.2).bind fun v15 => (rI v5.2 1 374 ((38 : Int32) + x1)).bind fun v16 => (fX11_placeOf v16 v5.2).bind fun v17 => some (v15 - v17, v5.2)) else some ((0 : Int32), v5.2)) else some ((0 : Int32), v1.2)
set_option maxRecDepth 20000 in
theorem tX11_arrow {X : gX} {V : gEnv} {x1 : Int32} {x2 : Int32} {M0 : gMem}  {o : (Int32 × gMem)} (h : fX11_arrow x1 x2 M0 = some o) (O : gO X V mX11_arrow gShM (some .int) (some (.int o.1)) o.2) : gG X V mX11_arrow gShM M0 0 0 0 [(0, .ref (gAd V 0)), (1, .int x1), (2, .int x2)] [] := by
  unfold fX11_arrow at h
  refine g_aload_n 0 rfl rfl dX11_arrow_0 ?_
  refine g_iload_n 1 rfl rfl dX11_arrow_1 ?_
  obtain ⟨v1, ev1, h⟩ := g_bnd h
  refine g_callV LX11_421 sM_0 rfl (kX11_noArrow ev1) rfl rfl (Nat.le_of_ble_eq_true rfl) ⟨Nat.le_of_ble_eq_true rfl, Nat.le_of_ble_eq_true rfl⟩ ⟨Nat.le_of_ble_eq_true rfl, Nat.le_of_ble_eq_true rfl⟩ dX11_arrow_2 rfl ?_
  rcases g_ite h with ⟨c2, h⟩ | ⟨c2, h⟩
  · refine g_if_ne_f c2 (tgt := 30) rfl dX11_arrow_5 ?_
    refine g_aload_n 0 rfl rfl dX11_arrow_8 ?_
    refine g_iload_n 2 rfl rfl dX11_arrow_9 ?_
    refine g_iconst (v := 0) rfl dX11_arrow_10 ?_
    refine g_iconst (v := 3) rfl dX11_arrow_11 ?_
    obtain ⟨v3, ev3, h⟩ := g_bnd h
    refine g_callS LX11_172 (kX11_in ev3) rfl rfl (Nat.le_of_ble_eq_true rfl) ⟨Nat.le_of_ble_eq_true rfl, Nat.le_of_ble_eq_true rfl⟩ ⟨Nat.le_of_ble_eq_true rfl, Nat.le_of_ble_eq_true rfl⟩ dX11_arrow_12 rfl ?_
    have KJ : gG X V mX11_arrow gShM v1.2 0 0 23 [(0, .ref (gAd V 0)), (1, .int x1), (2, .int x2)] [.int (if v3 = 0 then (1 : Int32) else (0 : Int32)), .ref (gAd V 0)] := by
      refine g_iconst (v := 2) rfl dX11_arrow_23 ?_
      obtain ⟨v5, ev5, h⟩ := g_bnd h
      refine g_callV LX11_392 sM_0 rfl (kX11_throwsIf ev5) rfl rfl (Nat.le_of_ble_eq_true rfl) ⟨Nat.le_of_ble_eq_true rfl, Nat.le_of_ble_eq_true rfl⟩ ⟨Nat.le_of_ble_eq_true rfl, Nat.le_of_ble_eq_true rfl⟩ dX11_arrow_24 rfl ?_
      rcases g_ite h with ⟨c6, h⟩ | ⟨c6, h⟩
      · refine g_if_eq_t c6 (tgt := 32) rfl dX11_arrow_27 ?_
        refine g_iload_n 2 rfl rfl dX11_arrow_32 ?_
        rcases g_ite h with ⟨c7, h⟩ | ⟨c7, h⟩
        · refine g_tabIn (off := 27) (tgt := 60) (by rw [c7]; decide) (by rw [c7]; decide) (by rw [c7]; rfl) rfl dX11_arrow_33 ?_
          refine g_aload_n 0 rfl rfl dX11_arrow_60 ?_
          refine g_getR FX11_9 sM_0 rfl dX11_arrow_61 ?_
          refine g_bipush (v := 38) rfl dX11_arrow_64 ?_
          refine g_iload_n 1 rfl rfl dX11_arrow_66 ?_
          refine g_iadd dX11_arrow_67 ?_
          obtain ⟨v8, ev8, h⟩ := g_bnd h
          refine g_iald' ev8 sM_1 dX11_arrow_68 ?_
          cases h
          exact g_iret O ⟨Nat.le_of_ble_eq_true rfl, Nat.le_of_ble_eq_true rfl⟩ rfl dX11_arrow_69
        ·
          rcases g_ite h with ⟨c9, h⟩ | ⟨c9, h⟩
          · refine g_tabIn (off := 37) (tgt := 70) (by rw [c9]; decide) (by rw [c9]; decide) (by rw [c9]; rfl) rfl dX11_arrow_33 ?_
            refine g_aload_n 0 rfl rfl dX11_arrow_70 ?_
            refine g_getR FX11_9 sM_0 rfl dX11_arrow_71 ?_
            refine g_bipush (v := 98) rfl dX11_arrow_74 ?_
            refine g_iload_n 1 rfl rfl dX11_arrow_76 ?_
            refine g_iadd dX11_arrow_77 ?_
            obtain ⟨v10, ev10, h⟩ := g_bnd h
            refine g_iald' ev10 sM_1 dX11_arrow_78 ?_
            cases h
            exact g_iret O ⟨Nat.le_of_ble_eq_true rfl, Nat.le_of_ble_eq_true rfl⟩ rfl dX11_arrow_79
          ·
            rcases g_ite h with ⟨c11, h⟩ | ⟨c11, h⟩
            · refine g_tabIn (off := 47) (tgt := 80) (by rw [c11]; decide) (by rw [c11]; decide) (by rw [c11]; rfl) rfl dX11_arrow_33 ?_
              refine g_aload_n 0 rfl rfl dX11_arrow_80 ?_
              refine g_iload_n 1 rfl rfl dX11_arrow_81 ?_
              obtain ⟨v12, ev12, h⟩ := g_bnd h
              refine g_callV LX11_97 sM_0 rfl (kX11_isInner ev12) rfl rfl (Nat.le_of_ble_eq_true rfl) ⟨Nat.le_of_ble_eq_true rfl, Nat.le_of_ble_eq_true rfl⟩ ⟨Nat.le_of_ble_eq_true rfl, Nat.le_of_ble_eq_true rfl⟩ dX11_arrow_82 rfl ?_
              have KJ : gG X V mX11_arrow gShM v5.2 0 0 93 [(0, .ref (gAd V 0)), (1, .int x1), (2, .int x2)] [.int (if v12 = 0 then (0 : Int32) else (1 : Int32))] := by
                cases h
                exact g_iret O ⟨Nat.le_of_ble_eq_true rfl, Nat.le_of_ble_eq_true rfl⟩ rfl dX11_arrow_93
              by_cases c13 : v12 = 0
              · rw [if_pos c13] at KJ
                refine g_if_eq_t c13 (tgt := 92) rfl dX11_arrow_85 ?_
                refine g_iconst (v := 0) rfl dX11_arrow_92 ?_
                exact KJ
              · rw [if_neg c13] at KJ
                refine g_if_eq_f c13 (tgt := 92) rfl dX11_arrow_85 ?_
                refine g_iconst (v := 1) rfl dX11_arrow_88 ?_
                refine g_goto (tgt := 93) rfl dX11_arrow_89 ?_
                exact KJ
            ·
              have nc7 := gne (0 : Int32) (j := 0) rfl c7
              have nc9 := gne (1 : Int32) (j := 1) rfl c9
              have nc11 := gne (2 : Int32) (j := 2) rfl c11
              refine g_tabOut (tgt := 94) (by omega) rfl dX11_arrow_33 ?_
              refine g_aload_n 0 rfl rfl dX11_arrow_94 ?_
              refine g_aload_n 0 rfl rfl dX11_arrow_95 ?_
              refine g_getR FX11_9 sM_0 rfl dX11_arrow_96 ?_
              refine g_bipush (v := 98) rfl dX11_arrow_99 ?_
              refine g_iload_n 1 rfl rfl dX11_arrow_101 ?_
              refine g_iadd dX11_arrow_102 ?_
              obtain ⟨v14, ev14, h⟩ := g_bnd h
              refine g_iald' ev14 sM_1 dX11_arrow_103 ?_
              obtain ⟨v15, ev15, h⟩ := g_bnd h
              refine g_callV LX11_101 sM_0 rfl (kX11_placeOf ev15) rfl rfl (Nat.le_of_ble_eq_true rfl) ⟨Nat.le_of_ble_eq_true rfl, Nat.le_of_ble_eq_true rfl⟩ ⟨Nat.le_of_ble_eq_true rfl, Nat.le_of_ble_eq_true rfl⟩ dX11_arrow_104 rfl ?_
              refine g_aload_n 0 rfl rfl dX11_arrow_107 ?_
              refine g_aload_n 0 rfl rfl dX11_arrow_108 ?_
              refine g_getR FX11_9 sM_0 rfl dX11_arrow_109 ?_
              refine g_bipush (v := 38) rfl dX11_arrow_112 ?_
              refine g_iload_n 1 rfl rfl dX11_arrow_114 ?_
              refine g_iadd dX11_arrow_115 ?_
              obtain ⟨v16, ev16, h⟩ := g_bnd h
              refine g_iald' ev16 sM_1 dX11_arrow_116 ?_
              obtain ⟨v17, ev17, h⟩ := g_bnd h
              refine g_callV LX11_101 sM_0 rfl (kX11_placeOf ev17) rfl rfl (Nat.le_of_ble_eq_true rfl) ⟨Nat.le_of_ble_eq_true rfl, Nat.le_of_ble_eq_true rfl⟩ ⟨Nat.le_of_ble_eq_true rfl, Nat.le_of_ble_eq_true rfl⟩ dX11_arrow_117 rfl ?_
              refine g_isub dX11_arrow_120 ?_
              cases h
              exact g_iret O ⟨Nat.le_of_ble_eq_true rfl, Nat.le_of_ble_eq_true rfl⟩ rfl dX11_arrow_121
      · refine g_if_eq_f c6 (tgt := 32) rfl dX11_arrow_27 ?_
        refine g_iconst (v := 0) rfl dX11_arrow_30 ?_
        cases h
        exact g_iret O ⟨Nat.le_of_ble_eq_true rfl, Nat.le_of_ble_eq_true rfl⟩ rfl dX11_arrow_31
    by_cases c4 : v3 = 0
    · rw [if_pos c4] at KJ
      refine g_if_ne_f c4 (tgt := 22) rfl dX11_arrow_15 ?_
      refine g_iconst (v := 1) rfl dX11_arrow_18 ?_
      refine g_goto (tgt := 23) rfl dX11_arrow_19 ?_
      exact KJ
    · rw [if_neg c4] at KJ
      refine g_if_ne_t c4 (tgt := 22) rfl dX11_arrow_15 ?_
      refine g_iconst (v := 0) rfl dX11_arrow_22 ?_
      exact KJ
  · refine g_if_ne_t c2 (tgt := 30) rfl dX11_arrow_5 ?_
    refine g_iconst (v := 0) rfl dX11_arrow_30 ?_
    cases h
    exact g_iret O ⟨Nat.le_of_ble_eq_true rfl, Nat.le_of_ble_eq_true rfl⟩ rfl dX11_arrow_31
theorem kX11_arrow {l : Launch} {V : gEnv} {M0 : gMem} {x1 : Int32} {x2 : Int32}  {o : (Int32 × gMem)} (h : fX11_arrow x1 x2 M0 = some o) : gM l yX11_arrow cX11_arrow 3 (some .int) rX11_arrow V gShM [.ref (gAd V 0), .int x1, .int x2] M0 (some (.int o.1)) o.2 :=
  gM.of (by decide) (Nat.le_of_ble_eq_true rfl) rfl (fun X _ O => tX11_arrow  h O)
theorem dX11_arrowOf_0 : decode cX11_arrowOf 0 = .ok (.aload_n 0, 1) := by decide +kernel
theorem dX11_arrowOf_1 : decode cX11_arrowOf 1 = .ok (.iload_n 1, 1) := by decide +kernel
theorem dX11_arrowOf_2 : decode cX11_arrowOf 2 = .ok (.iload_n 2, 1) := by decide +kernel
theorem dX11_arrowOf_3 : decode cX11_arrowOf 3 = .ok (.invokevirtual 424, 3) := by decide +kernel
theorem dX11_arrowOf_6 : decode cX11_arrowOf 6 = .ok (.ifCond .eq 7, 3) := by decide +kernel
theorem dX11_arrowOf_9 : decode cX11_arrowOf 9 = .ok (.iconst 0, 1) := by decide +kernel
theorem dX11_arrowOf_10 : decode cX11_arrowOf 10 = .ok (.goto 9, 3) := by decide +kernel
theorem dX11_arrowOf_13 : decode cX11_arrowOf 13 = .ok (.aload_n 0, 1) := by decide +kernel
theorem dX11_arrowOf_14 : decode cX11_arrowOf 14 = .ok (.iload_n 1, 1) := by decide +kernel
theorem dX11_arrowOf_15 : decode cX11_arrowOf 15 = .ok (.iload_n 2, 1) := by decide +kernel
theorem dX11_arrowOf_16 : decode cX11_arrowOf 16 = .ok (.invokevirtual 123, 3) := by decide +kernel
theorem dX11_arrowOf_19 : decode cX11_arrowOf 19 = .ok (.ireturn, 1) := by decide +kernel
abbrev rX11_arrowOf : Room := { frames := 3, cells := 0, slots := 0, locals := 65 }
abbrev mX11_arrowOf : gY := (cX11_arrowOf, RX11, 3, rX11_arrowOf)
def fX11_arrowOf (x1 : Int32) (x2 : Int32) (M0 : gMem) : Option (Int32 × gMem) :=
  (fX11_noTasks x1 x2 M0).bind fun v1 => if v1.1 = 0 then ((fX11_arrowFrom x1 x2 v1.2).bind fun v3 => some (v3, v1.2)) else some ((0 : Int32), v1.2)
set_option maxRecDepth 20000 in
theorem tX11_arrowOf {X : gX} {V : gEnv} {x1 : Int32} {x2 : Int32} {M0 : gMem}  {o : (Int32 × gMem)} (h : fX11_arrowOf x1 x2 M0 = some o) (O : gO X V mX11_arrowOf gShM (some .int) (some (.int o.1)) o.2) : gG X V mX11_arrowOf gShM M0 0 0 0 [(0, .ref (gAd V 0)), (1, .int x1), (2, .int x2)] [] := by
  unfold fX11_arrowOf at h
  refine g_aload_n 0 rfl rfl dX11_arrowOf_0 ?_
  refine g_iload_n 1 rfl rfl dX11_arrowOf_1 ?_
  refine g_iload_n 2 rfl rfl dX11_arrowOf_2 ?_
  obtain ⟨v1, ev1, h⟩ := g_bnd h
  refine g_callV LX11_424 sM_0 rfl (kX11_noTasks ev1) rfl rfl (Nat.le_of_ble_eq_true rfl) ⟨Nat.le_of_ble_eq_true rfl, Nat.le_of_ble_eq_true rfl⟩ ⟨Nat.le_of_ble_eq_true rfl, Nat.le_of_ble_eq_true rfl⟩ dX11_arrowOf_3 rfl ?_
  rcases g_ite h with ⟨c2, h⟩ | ⟨c2, h⟩
  · refine g_if_eq_t c2 (tgt := 13) rfl dX11_arrowOf_6 ?_
    refine g_aload_n 0 rfl rfl dX11_arrowOf_13 ?_
    refine g_iload_n 1 rfl rfl dX11_arrowOf_14 ?_
    refine g_iload_n 2 rfl rfl dX11_arrowOf_15 ?_
    obtain ⟨v3, ev3, h⟩ := g_bnd h
    refine g_callV LX11_123 sM_0 rfl (kX11_arrowFrom ev3) rfl rfl (Nat.le_of_ble_eq_true rfl) ⟨Nat.le_of_ble_eq_true rfl, Nat.le_of_ble_eq_true rfl⟩ ⟨Nat.le_of_ble_eq_true rfl, Nat.le_of_ble_eq_true rfl⟩ dX11_arrowOf_16 rfl ?_
    cases h
    exact g_iret O ⟨Nat.le_of_ble_eq_true rfl, Nat.le_of_ble_eq_true rfl⟩ rfl dX11_arrowOf_19
  · refine g_if_eq_f c2 (tgt := 13) rfl dX11_arrowOf_6 ?_
    refine g_iconst (v := 0) rfl dX11_arrowOf_9 ?_
    refine g_goto (tgt := 19) rfl dX11_arrowOf_10 ?_
    cases h
    exact g_iret O ⟨Nat.le_of_ble_eq_true rfl, Nat.le_of_ble_eq_true rfl⟩ rfl dX11_arrowOf_19
theorem kX11_arrowOf {l : Launch} {V : gEnv} {M0 : gMem} {x1 : Int32} {x2 : Int32}  {o : (Int32 × gMem)} (h : fX11_arrowOf x1 x2 M0 = some o) : gM l yX11_arrowOf cX11_arrowOf 3 (some .int) rX11_arrowOf V gShM [.ref (gAd V 0), .int x1, .int x2] M0 (some (.int o.1)) o.2 :=
  gM.of (by decide) (Nat.le_of_ble_eq_true rfl) rfl (fun X _ O => tX11_arrowOf  h O)
theorem dX11_reaches_0 : decode cX11_reaches 0 = .ok (.aload_n 0, 1) := by decide +kernel
theorem dX11_reaches_1 : decode cX11_reaches 1 = .ok (.iload_n 1, 1) := by decide +kernel
theorem dX11_reaches_2 : decode cX11_reaches 2 = .ok (.iload_n 2, 1) := by decide +kernel
theorem dX11_reaches_3 : decode cX11_reaches 3 = .ok (.invokevirtual 424, 3) := by decide +kernel
theorem dX11_reaches_6 : decode cX11_reaches 6 = .ok (.ifCond .eq 5, 3) := by decide +kernel
theorem dX11_reaches_9 : decode cX11_reaches 9 = .ok (.iconst 0, 1) := by decide +kernel
theorem dX11_reaches_10 : decode cX11_reaches 10 = .ok (.ireturn, 1) := by decide +kernel
theorem dX11_reaches_11 : decode cX11_reaches 11 = .ok (.aload_n 0, 1) := by decide +kernel
theorem dX11_reaches_12 : decode cX11_reaches 12 = .ok (.iconst (-1), 1) := by decide +kernel
theorem dX11_reaches_13 : decode cX11_reaches 13 = .ok (.invokevirtual 104, 3) := by decide +kernel
theorem dX11_reaches_16 : decode cX11_reaches 16 = .ok (.aload_n 0, 1) := by decide +kernel
theorem dX11_reaches_17 : decode cX11_reaches 17 = .ok (.getfield 25, 3) := by decide +kernel
theorem dX11_reaches_20 : decode cX11_reaches 20 = .ok (.iload_n 1, 1) := by decide +kernel
theorem dX11_reaches_21 : decode cX11_reaches 21 = .ok (.iaload, 1) := by decide +kernel
theorem dX11_reaches_22 : decode cX11_reaches 22 = .ok (.iload_n 2, 1) := by decide +kernel
theorem dX11_reaches_23 : decode cX11_reaches 23 = .ok (.invokestatic 93, 3) := by decide +kernel
theorem dX11_reaches_26 : decode cX11_reaches 26 = .ok (.ireturn, 1) := by decide +kernel
abbrev rX11_reaches : Room := { frames := 3, cells := 0, slots := 0, locals := 65 }
abbrev mX11_reaches : gY := (cX11_reaches, RX11, 3, rX11_reaches)
def fX11_reaches (x1 : Int32) (x2 : Int32) (M0 : gMem) : Option (Int32 × gMem) :=
  (fX11_noTasks x1 x2 M0).bind fun v1 => if v1.1 = 0 then ((fX11_laysReach (-1 : Int32) v1.2).bind fun v3 => (rI v3 6 24 x1).bind fun v4 => (fX11_has v4 x2).bind fun v5 => (zv v5).bind fun v6 => some (v6, v3)) else some ((0 : Int32), v1.2)
set_option maxRecDepth 20000 in
theorem tX11_reaches {X : gX} {V : gEnv} {x1 : Int32} {x2 : Int32} {M0 : gMem}  {o : (Int32 × gMem)} (h : fX11_reaches x1 x2 M0 = some o) (O : gO X V mX11_reaches gShM (some .boolean) (some (.int o.1)) o.2) : gG X V mX11_reaches gShM M0 0 0 0 [(0, .ref (gAd V 0)), (1, .int x1), (2, .int x2)] [] := by
  unfold fX11_reaches at h
  refine g_aload_n 0 rfl rfl dX11_reaches_0 ?_
  refine g_iload_n 1 rfl rfl dX11_reaches_1 ?_
  refine g_iload_n 2 rfl rfl dX11_reaches_2 ?_
  obtain ⟨v1, ev1, h⟩ := g_bnd h
  refine g_callV LX11_424 sM_0 rfl (kX11_noTasks ev1) rfl rfl (Nat.le_of_ble_eq_true rfl) ⟨Nat.le_of_ble_eq_true rfl, Nat.le_of_ble_eq_true rfl⟩ ⟨Nat.le_of_ble_eq_true rfl, Nat.le_of_ble_eq_true rfl⟩ dX11_reaches_3 rfl ?_
  rcases g_ite h with ⟨c2, h⟩ | ⟨c2, h⟩
  · refine g_if_eq_t c2 (tgt := 11) rfl dX11_reaches_6 ?_
    refine g_aload_n 0 rfl rfl dX11_reaches_11 ?_
    refine g_iconst (v := -1) rfl dX11_reaches_12 ?_
    obtain ⟨v3, ev3, h⟩ := g_bnd h
    refine g_callV LX11_104 sM_0 rfl (kX11_laysReach ev3) rfl rfl (Nat.le_of_ble_eq_true rfl) ⟨Nat.le_of_ble_eq_true rfl, Nat.le_of_ble_eq_true rfl⟩ ⟨Nat.le_of_ble_eq_true rfl, Nat.le_of_ble_eq_true rfl⟩ dX11_reaches_13 rfl ?_
    refine g_aload_n 0 rfl rfl dX11_reaches_16 ?_
    refine g_getR FX11_25 sM_0 rfl dX11_reaches_17 ?_
    refine g_iload_n 1 rfl rfl dX11_reaches_20 ?_
    obtain ⟨v4, ev4, h⟩ := g_bnd h
    refine g_iald' ev4 sM_6 dX11_reaches_21 ?_
    refine g_iload_n 2 rfl rfl dX11_reaches_22 ?_
    obtain ⟨v5, ev5, h⟩ := g_bnd h
    refine g_callS LX11_93 (kX11_has ev5) rfl rfl (Nat.le_of_ble_eq_true rfl) ⟨Nat.le_of_ble_eq_true rfl, Nat.le_of_ble_eq_true rfl⟩ ⟨Nat.le_of_ble_eq_true rfl, Nat.le_of_ble_eq_true rfl⟩ dX11_reaches_23 rfl ?_
    obtain ⟨v6, ev6, h⟩ := g_bnd h
    refine g_zv ev6 ?_
    cases h
    exact g_iret O ⟨Nat.le_of_ble_eq_true rfl, Nat.le_of_ble_eq_true rfl⟩ (g_nz (zv_ok ev6)) dX11_reaches_26
  · refine g_if_eq_f c2 (tgt := 11) rfl dX11_reaches_6 ?_
    refine g_iconst (v := 0) rfl dX11_reaches_9 ?_
    cases h
    exact g_iret O ⟨Nat.le_of_ble_eq_true rfl, Nat.le_of_ble_eq_true rfl⟩ rfl dX11_reaches_10
theorem kX11_reaches {l : Launch} {V : gEnv} {M0 : gMem} {x1 : Int32} {x2 : Int32}  {o : (Int32 × gMem)} (h : fX11_reaches x1 x2 M0 = some o) : gM l yX11_reaches cX11_reaches 3 (some .boolean) rX11_reaches V gShM [.ref (gAd V 0), .int x1, .int x2] M0 (some (.int o.1)) o.2 :=
  gM.of (by decide) (Nat.le_of_ble_eq_true rfl) rfl (fun X _ O => tX11_reaches  h O)
theorem dX11_far_0 : decode cX11_far 0 = .ok (.aload_n 0, 1) := by decide +kernel
theorem dX11_far_1 : decode cX11_far 1 = .ok (.iload_n 1, 1) := by decide +kernel
theorem dX11_far_2 : decode cX11_far 2 = .ok (.iload_n 2, 1) := by decide +kernel
theorem dX11_far_3 : decode cX11_far 3 = .ok (.invokevirtual 424, 3) := by decide +kernel
theorem dX11_far_6 : decode cX11_far 6 = .ok (.ifCond .eq 5, 3) := by decide +kernel
theorem dX11_far_9 : decode cX11_far 9 = .ok (.iconst 0, 1) := by decide +kernel
theorem dX11_far_10 : decode cX11_far 10 = .ok (.ireturn, 1) := by decide +kernel
theorem dX11_far_11 : decode cX11_far 11 = .ok (.aload_n 0, 1) := by decide +kernel
theorem dX11_far_12 : decode cX11_far 12 = .ok (.iload_n 2, 1) := by decide +kernel
theorem dX11_far_13 : decode cX11_far 13 = .ok (.invokevirtual 427, 3) := by decide +kernel
theorem dX11_far_16 : decode cX11_far 16 = .ok (.aload_n 0, 1) := by decide +kernel
theorem dX11_far_17 : decode cX11_far 17 = .ok (.getfield 28, 3) := by decide +kernel
theorem dX11_far_20 : decode cX11_far 20 = .ok (.iload_n 1, 1) := by decide +kernel
theorem dX11_far_21 : decode cX11_far 21 = .ok (.iaload, 1) := by decide +kernel
theorem dX11_far_22 : decode cX11_far 22 = .ok (.sipush 1000, 3) := by decide +kernel
theorem dX11_far_25 : decode cX11_far 25 = .ok (.if_icmp .ne 7, 3) := by decide +kernel
theorem dX11_far_28 : decode cX11_far 28 = .ok (.iconst (-1), 1) := by decide +kernel
theorem dX11_far_29 : decode cX11_far 29 = .ok (.goto 9, 3) := by decide +kernel
theorem dX11_far_32 : decode cX11_far 32 = .ok (.aload_n 0, 1) := by decide +kernel
theorem dX11_far_33 : decode cX11_far 33 = .ok (.getfield 28, 3) := by decide +kernel
theorem dX11_far_36 : decode cX11_far 36 = .ok (.iload_n 1, 1) := by decide +kernel
theorem dX11_far_37 : decode cX11_far 37 = .ok (.iaload, 1) := by decide +kernel
theorem dX11_far_38 : decode cX11_far 38 = .ok (.ireturn, 1) := by decide +kernel
abbrev rX11_far : Room := { frames := 3, cells := 0, slots := 0, locals := 65 }
abbrev mX11_far : gY := (cX11_far, RX11, 3, rX11_far)
def fX11_far (x1 : Int32) (x2 : Int32) (M0 : gMem) : Option (Int32 × gMem) :=
  (fX11_noTasks x1 x2 M0).bind fun v1 => if v1.1 = 0 then ((fX11_laysSteps x2 v1.2).bind fun v3 => (rI v3 7 24 x1).bind fun v4 => if v4 = (1000 : Int32) then (some ((-1 : Int32), v3)) else (rI v3 7 24 x1).bind fun v6 => some (v6, v3)) else some ((0 : Int32), v1.2)
set_option maxRecDepth 20000 in
theorem tX11_far {X : gX} {V : gEnv} {x1 : Int32} {x2 : Int32} {M0 : gMem}  {o : (Int32 × gMem)} (h : fX11_far x1 x2 M0 = some o) (O : gO X V mX11_far gShM (some .int) (some (.int o.1)) o.2) : gG X V mX11_far gShM M0 0 0 0 [(0, .ref (gAd V 0)), (1, .int x1), (2, .int x2)] [] := by
  unfold fX11_far at h
  refine g_aload_n 0 rfl rfl dX11_far_0 ?_
  refine g_iload_n 1 rfl rfl dX11_far_1 ?_
  refine g_iload_n 2 rfl rfl dX11_far_2 ?_
  obtain ⟨v1, ev1, h⟩ := g_bnd h
  refine g_callV LX11_424 sM_0 rfl (kX11_noTasks ev1) rfl rfl (Nat.le_of_ble_eq_true rfl) ⟨Nat.le_of_ble_eq_true rfl, Nat.le_of_ble_eq_true rfl⟩ ⟨Nat.le_of_ble_eq_true rfl, Nat.le_of_ble_eq_true rfl⟩ dX11_far_3 rfl ?_
  rcases g_ite h with ⟨c2, h⟩ | ⟨c2, h⟩
  · refine g_if_eq_t c2 (tgt := 11) rfl dX11_far_6 ?_
    refine g_aload_n 0 rfl rfl dX11_far_11 ?_
    refine g_iload_n 2 rfl rfl dX11_far_12 ?_
    obtain ⟨v3, ev3, h⟩ := g_bnd h
    refine g_callV LX11_427 sM_0 rfl (kX11_laysSteps ev3) rfl rfl (Nat.le_of_ble_eq_true rfl) ⟨Nat.le_of_ble_eq_true rfl, Nat.le_of_ble_eq_true rfl⟩ ⟨Nat.le_of_ble_eq_true rfl, Nat.le_of_ble_eq_true rfl⟩ dX11_far_13 rfl ?_
    refine g_aload_n 0 rfl rfl dX11_far_16 ?_
    refine g_getR FX11_28 sM_0 rfl dX11_far_17 ?_
    refine g_iload_n 1 rfl rfl dX11_far_20 ?_
    obtain ⟨v4, ev4, h⟩ := g_bnd h
    refine g_iald' ev4 sM_7 dX11_far_21 ?_
    refine g_sipush (v := 1000) rfl dX11_far_22 ?_
    rcases g_ite h with ⟨c5, h⟩ | ⟨c5, h⟩
    · refine g_icmp_ne_f c5 (tgt := 32) rfl dX11_far_25 ?_
      refine g_iconst (v := -1) rfl dX11_far_28 ?_
      refine g_goto (tgt := 38) rfl dX11_far_29 ?_
      cases h
      exact g_iret O ⟨Nat.le_of_ble_eq_true rfl, Nat.le_of_ble_eq_true rfl⟩ rfl dX11_far_38
    · refine g_icmp_ne_t c5 (tgt := 32) rfl dX11_far_25 ?_
      refine g_aload_n 0 rfl rfl dX11_far_32 ?_
      refine g_getR FX11_28 sM_0 rfl dX11_far_33 ?_
      refine g_iload_n 1 rfl rfl dX11_far_36 ?_
      obtain ⟨v6, ev6, h⟩ := g_bnd h
      refine g_iald' ev6 sM_7 dX11_far_37 ?_
      cases h
      exact g_iret O ⟨Nat.le_of_ble_eq_true rfl, Nat.le_of_ble_eq_true rfl⟩ rfl dX11_far_38
  · refine g_if_eq_f c2 (tgt := 11) rfl dX11_far_6 ?_
    refine g_iconst (v := 0) rfl dX11_far_9 ?_
    cases h
    exact g_iret O ⟨Nat.le_of_ble_eq_true rfl, Nat.le_of_ble_eq_true rfl⟩ rfl dX11_far_10
theorem kX11_far {l : Launch} {V : gEnv} {M0 : gMem} {x1 : Int32} {x2 : Int32}  {o : (Int32 × gMem)} (h : fX11_far x1 x2 M0 = some o) : gM l yX11_far cX11_far 3 (some .int) rX11_far V gShM [.ref (gAd V 0), .int x1, .int x2] M0 (some (.int o.1)) o.2 :=
  gM.of (by decide) (Nat.le_of_ble_eq_true rfl) rfl (fun X _ O => tX11_far  h O)
theorem dX11_on_0 : decode cX11_on 0 = .ok (.aload_n 0, 1) := by decide +kernel
theorem dX11_on_1 : decode cX11_on 1 = .ok (.iload_n 1, 1) := by decide +kernel
theorem dX11_on_2 : decode cX11_on 2 = .ok (.iload_n 2, 1) := by decide +kernel
theorem dX11_on_3 : decode cX11_on 3 = .ok (.invokevirtual 424, 3) := by decide +kernel
theorem dX11_on_6 : decode cX11_on 6 = .ok (.ifCond .eq 5, 3) := by decide +kernel
theorem dX11_on_9 : decode cX11_on 9 = .ok (.iconst 0, 1) := by decide +kernel
theorem dX11_on_10 : decode cX11_on 10 = .ok (.ireturn, 1) := by decide +kernel
theorem dX11_on_11 : decode cX11_on 11 = .ok (.aload_n 0, 1) := by decide +kernel
theorem dX11_on_12 : decode cX11_on 12 = .ok (.iload_n 2, 1) := by decide +kernel
theorem dX11_on_13 : decode cX11_on 13 = .ok (.invokevirtual 427, 3) := by decide +kernel
theorem dX11_on_16 : decode cX11_on 16 = .ok (.aload_n 0, 1) := by decide +kernel
theorem dX11_on_17 : decode cX11_on 17 = .ok (.getfield 28, 3) := by decide +kernel
theorem dX11_on_20 : decode cX11_on 20 = .ok (.iload_n 1, 1) := by decide +kernel
theorem dX11_on_21 : decode cX11_on 21 = .ok (.iaload, 1) := by decide +kernel
theorem dX11_on_22 : decode cX11_on 22 = .ok (.sipush 1000, 3) := by decide +kernel
theorem dX11_on_25 : decode cX11_on 25 = .ok (.if_icmp .eq 17, 3) := by decide +kernel
theorem dX11_on_28 : decode cX11_on 28 = .ok (.iload_n 3, 1) := by decide +kernel
theorem dX11_on_29 : decode cX11_on 29 = .ok (.iconst 0, 1) := by decide +kernel
theorem dX11_on_30 : decode cX11_on 30 = .ok (.aload_n 0, 1) := by decide +kernel
theorem dX11_on_31 : decode cX11_on 31 = .ok (.getfield 28, 3) := by decide +kernel
theorem dX11_on_34 : decode cX11_on 34 = .ok (.iload_n 1, 1) := by decide +kernel
theorem dX11_on_35 : decode cX11_on 35 = .ok (.iaload, 1) := by decide +kernel
theorem dX11_on_36 : decode cX11_on 36 = .ok (.invokestatic 172, 3) := by decide +kernel
theorem dX11_on_39 : decode cX11_on 39 = .ok (.ifCond .ne 5, 3) := by decide +kernel
theorem dX11_on_42 : decode cX11_on 42 = .ok (.iconst (-1), 1) := by decide +kernel
theorem dX11_on_43 : decode cX11_on 43 = .ok (.ireturn, 1) := by decide +kernel
theorem dX11_on_44 : decode cX11_on 44 = .ok (.iload_n 1, 1) := by decide +kernel
theorem dX11_on_45 : decode cX11_on 45 = .ok (.istore 4, 2) := by decide +kernel
theorem dX11_on_47 : decode cX11_on 47 = .ok (.iconst 0, 1) := by decide +kernel
theorem dX11_on_48 : decode cX11_on 48 = .ok (.istore 5, 2) := by decide +kernel
theorem dX11_on_50 : decode cX11_on 50 = .ok (.iload 5, 2) := by decide +kernel
theorem dX11_on_52 : decode cX11_on 52 = .ok (.iload_n 3, 1) := by decide +kernel
theorem dX11_on_53 : decode cX11_on 53 = .ok (.if_icmp .ge 17, 3) := by decide +kernel
theorem dX11_on_56 : decode cX11_on 56 = .ok (.aload_n 0, 1) := by decide +kernel
theorem dX11_on_57 : decode cX11_on 57 = .ok (.iload 4, 2) := by decide +kernel
theorem dX11_on_59 : decode cX11_on 59 = .ok (.invokevirtual 430, 3) := by decide +kernel
theorem dX11_on_62 : decode cX11_on 62 = .ok (.istore 4, 2) := by decide +kernel
theorem dX11_on_64 : decode cX11_on 64 = .ok (.iinc 5 1, 3) := by decide +kernel
theorem dX11_on_67 : decode cX11_on 67 = .ok (.goto (-17), 3) := by decide +kernel
theorem dX11_on_70 : decode cX11_on 70 = .ok (.iload 4, 2) := by decide +kernel
theorem dX11_on_72 : decode cX11_on 72 = .ok (.ireturn, 1) := by decide +kernel
abbrev rX11_on : Room := { frames := 3, cells := 0, slots := 0, locals := 65 }
abbrev mX11_on : gY := (cX11_on, RX11, 6, rX11_on)
def fX11_on_l50 (x3 : Int32) (M0 : gMem) (x4 : Int32) (x5 : Int32) : Option ((Int32 × Int32) ⊕ Int32) :=
  if x3 ≤ x5 then (some (.inr x4)) else (fX11_nextOn x4 M0).bind fun v10 => some (.inl (v10, x5 + (1 : Int32)))
set_option maxRecDepth 20000 in
theorem tX11_on_l50 {X : gX} {V : gEnv} {x3 : Int32} {M0 : gMem} {x4 : Int32} {x5 : Int32}  {o : ((Int32 × Int32) ⊕ Int32)} (h : fX11_on_l50 x3 M0 x4 x5 = some o) (Kc : ∀ s9, o = .inl s9 → gG X V mX11_on gShM M0 0 0 50 [(0, .ref (gAd V 0)), (3, .int x3), (4, .int s9.1), (5, .int s9.2)] []) (Kx : ∀ e9, o = .inr e9 → gG X V mX11_on gShM M0 0 0 70 [(4, .int e9)] []) : gG X V mX11_on gShM M0 0 0 50 [(0, .ref (gAd V 0)), (3, .int x3), (4, .int x4), (5, .int x5)] [] := by
  unfold fX11_on_l50 at h
  refine g_iload 3 rfl dX11_on_50 ?_
  refine g_iload_n 1 rfl rfl dX11_on_52 ?_
  rcases g_ite h with ⟨c9, h⟩ | ⟨c9, h⟩
  · refine g_icmp_ge_t c9 (tgt := 70) rfl dX11_on_53 ?_
    cases h
    refine g_sub [2] rfl ?_
    exact Kx x4 rfl
  · refine g_icmp_ge_f c9 (tgt := 70) rfl dX11_on_53 ?_
    refine g_aload_n 0 rfl rfl dX11_on_56 ?_
    refine g_iload 2 rfl dX11_on_57 ?_
    obtain ⟨v10, ev10, h⟩ := g_bnd h
    refine g_callV LX11_430 sM_0 rfl (kX11_nextOn ev10) rfl rfl (Nat.le_of_ble_eq_true rfl) ⟨Nat.le_of_ble_eq_true rfl, Nat.le_of_ble_eq_true rfl⟩ ⟨Nat.le_of_ble_eq_true rfl, Nat.le_of_ble_eq_true rfl⟩ dX11_on_59 rfl ?_
    refine g_istore (ls' := [(4, .int v10), (0, .ref (gAd V 0)), (3, .int x3), (5, .int x5)]) (Nat.le_of_ble_eq_true rfl) rfl dX11_on_62 ?_
    refine g_iinc (j := 3) (v := x5 + (1 : Int32)) (ls' := [(5, .int (x5 + (1 : Int32))), (4, .int v10), (0, .ref (gAd V 0)), (3, .int x3)]) rfl rfl (Nat.le_of_ble_eq_true rfl) rfl dX11_on_64 ?_
    refine g_goto (tgt := 50) rfl dX11_on_67 ?_
    cases h
    refine g_sub [2, 3, 1, 0] rfl ?_
    exact Kc (v10, x5 + (1 : Int32)) rfl
def fX11_on (x1 : Int32) (x2 : Int32) (x3 : Int32) (M0 : gMem) : Option (Int32 × gMem) :=
  (fX11_noTasks x1 x2 M0).bind fun v1 => if v1.1 = 0 then ((fX11_laysSteps x2 v1.2).bind fun v3 => (rI v3 7 24 x1).bind fun v4 => if v4 = (1000 : Int32) then (some ((-1 : Int32), v3)) else (rI v3 7 24 x1).bind fun v6 => (fX11_in x3 (0 : Int32) v6).bind fun v7 => if v7 = 0 then (some ((-1 : Int32), v3)) else (gLoop (fun z9 => fX11_on_l50 x3 v3 z9.1 z9.2) gFu (x1, (0 : Int32))).bind fun w11 => some (w11, v3)) else some ((0 : Int32), v1.2)
set_option maxRecDepth 20000 in
theorem tX11_on {X : gX} {V : gEnv} {x1 : Int32} {x2 : Int32} {x3 : Int32} {M0 : gMem}  {o : (Int32 × gMem)} (h : fX11_on x1 x2 x3 M0 = some o) (O : gO X V mX11_on gShM (some .int) (some (.int o.1)) o.2) : gG X V mX11_on gShM M0 0 0 0 [(0, .ref (gAd V 0)), (1, .int x1), (2, .int x2), (3, .int x3)] [] := by
  unfold fX11_on at h
  refine g_aload_n 0 rfl rfl dX11_on_0 ?_
  refine g_iload_n 1 rfl rfl dX11_on_1 ?_
  refine g_iload_n 2 rfl rfl dX11_on_2 ?_
  obtain ⟨v1, ev1, h⟩ := g_bnd h
  refine g_callV LX11_424 sM_0 rfl (kX11_noTasks ev1) rfl rfl (Nat.le_of_ble_eq_true rfl) ⟨Nat.le_of_ble_eq_true rfl, Nat.le_of_ble_eq_true rfl⟩ ⟨Nat.le_of_ble_eq_true rfl, Nat.le_of_ble_eq_true rfl⟩ dX11_on_3 rfl ?_
  rcases g_ite h with ⟨c2, h⟩ | ⟨c2, h⟩
  · refine g_if_eq_t c2 (tgt := 11) rfl dX11_on_6 ?_
    refine g_aload_n 0 rfl rfl dX11_on_11 ?_
    refine g_iload_n 2 rfl rfl dX11_on_12 ?_
    obtain ⟨v3, ev3, h⟩ := g_bnd h
    refine g_callV LX11_427 sM_0 rfl (kX11_laysSteps ev3) rfl rfl (Nat.le_of_ble_eq_true rfl) ⟨Nat.le_of_ble_eq_true rfl, Nat.le_of_ble_eq_true rfl⟩ ⟨Nat.le_of_ble_eq_true rfl, Nat.le_of_ble_eq_true rfl⟩ dX11_on_13 rfl ?_
    refine g_aload_n 0 rfl rfl dX11_on_16 ?_
    refine g_getR FX11_28 sM_0 rfl dX11_on_17 ?_
    refine g_iload_n 1 rfl rfl dX11_on_20 ?_
    obtain ⟨v4, ev4, h⟩ := g_bnd h
    refine g_iald' ev4 sM_7 dX11_on_21 ?_
    refine g_sipush (v := 1000) rfl dX11_on_22 ?_
    rcases g_ite h with ⟨c5, h⟩ | ⟨c5, h⟩
    · refine g_icmp_eq_t c5 (tgt := 42) rfl dX11_on_25 ?_
      refine g_iconst (v := -1) rfl dX11_on_42 ?_
      cases h
      exact g_iret O ⟨Nat.le_of_ble_eq_true rfl, Nat.le_of_ble_eq_true rfl⟩ rfl dX11_on_43
    · refine g_icmp_eq_f c5 (tgt := 42) rfl dX11_on_25 ?_
      refine g_iload_n 3 rfl rfl dX11_on_28 ?_
      refine g_iconst (v := 0) rfl dX11_on_29 ?_
      refine g_aload_n 0 rfl rfl dX11_on_30 ?_
      refine g_getR FX11_28 sM_0 rfl dX11_on_31 ?_
      refine g_iload_n 1 rfl rfl dX11_on_34 ?_
      obtain ⟨v6, ev6, h⟩ := g_bnd h
      refine g_iald' ev6 sM_7 dX11_on_35 ?_
      obtain ⟨v7, ev7, h⟩ := g_bnd h
      refine g_callS LX11_172 (kX11_in ev7) rfl rfl (Nat.le_of_ble_eq_true rfl) ⟨Nat.le_of_ble_eq_true rfl, Nat.le_of_ble_eq_true rfl⟩ ⟨Nat.le_of_ble_eq_true rfl, Nat.le_of_ble_eq_true rfl⟩ dX11_on_36 rfl ?_
      rcases g_ite h with ⟨c8, h⟩ | ⟨c8, h⟩
      · refine g_if_ne_f c8 (tgt := 44) rfl dX11_on_39 ?_
        refine g_iconst (v := -1) rfl dX11_on_42 ?_
        cases h
        exact g_iret O ⟨Nat.le_of_ble_eq_true rfl, Nat.le_of_ble_eq_true rfl⟩ rfl dX11_on_43
      · refine g_if_ne_t c8 (tgt := 44) rfl dX11_on_39 ?_
        refine g_iload_n 1 rfl rfl dX11_on_44 ?_
        refine g_istore (ls' := [(4, .int x1), (0, .ref (gAd V 0)), (1, .int x1), (2, .int x2), (3, .int x3)]) (Nat.le_of_ble_eq_true rfl) rfl dX11_on_45 ?_
        refine g_iconst (v := 0) rfl dX11_on_47 ?_
        refine g_istore (ls' := [(5, .int (0 : Int32)), (4, .int x1), (0, .ref (gAd V 0)), (1, .int x1), (2, .int x2), (3, .int x3)]) (Nat.le_of_ble_eq_true rfl) rfl dX11_on_48 ?_
        obtain ⟨w11, ew11, h⟩ := g_bnd h
        refine g_sub [2, 5, 1, 0] rfl ?_
        have KX : gG X V mX11_on gShM v3 0 0 70 [(4, .int w11)] [] := by
          refine g_iload 0 rfl dX11_on_70 ?_
          cases h
          exact g_iret O ⟨Nat.le_of_ble_eq_true rfl, Nat.le_of_ble_eq_true rfl⟩ rfl dX11_on_72
        exact gLoop_Q ew11 (fun z9 => gG X V mX11_on gShM v3 0 0 50 [(0, .ref (gAd V 0)), (3, .int x3), (4, .int z9.1), (5, .int z9.2)] []) (fun s9 o9 hb9 hc9 hx9 => tX11_on_l50  hb9 hc9 (fun e9 he9 => by cases hx9 _ he9; exact KX))
  · refine g_if_eq_f c2 (tgt := 11) rfl dX11_on_6 ?_
    refine g_iconst (v := 0) rfl dX11_on_9 ?_
    cases h
    exact g_iret O ⟨Nat.le_of_ble_eq_true rfl, Nat.le_of_ble_eq_true rfl⟩ rfl dX11_on_10
theorem kX11_on {l : Launch} {V : gEnv} {M0 : gMem} {x1 : Int32} {x2 : Int32} {x3 : Int32}  {o : (Int32 × gMem)} (h : fX11_on x1 x2 x3 M0 = some o) : gM l yX11_on cX11_on 6 (some .int) rX11_on V gShM [.ref (gAd V 0), .int x1, .int x2, .int x3] M0 (some (.int o.1)) o.2 :=
  gM.of (by decide) (Nat.le_of_ble_eq_true rfl) rfl (fun X _ O => tX11_on  h O)
theorem dX11_wouldMove_0 : decode cX11_wouldMove 0 = .ok (.aload_n 0, 1) := by decide +kernel
theorem dX11_wouldMove_1 : decode cX11_wouldMove 1 = .ok (.invokevirtual 368, 3) := by decide +kernel
theorem dX11_wouldMove_4 : decode cX11_wouldMove 4 = .ok (.aload_n 0, 1) := by decide +kernel
theorem dX11_wouldMove_5 : decode cX11_wouldMove 5 = .ok (.getfield 9, 3) := by decide +kernel
theorem dX11_wouldMove_8 : decode cX11_wouldMove 8 = .ok (.iconst 3, 1) := by decide +kernel
theorem dX11_wouldMove_9 : decode cX11_wouldMove 9 = .ok (.iload_n 3, 1) := by decide +kernel
theorem dX11_wouldMove_10 : decode cX11_wouldMove 10 = .ok (.iastore, 1) := by decide +kernel
theorem dX11_wouldMove_11 : decode cX11_wouldMove 11 = .ok (.aload_n 0, 1) := by decide +kernel
theorem dX11_wouldMove_12 : decode cX11_wouldMove 12 = .ok (.aload_n 0, 1) := by decide +kernel
theorem dX11_wouldMove_13 : decode cX11_wouldMove 13 = .ok (.iload_n 1, 1) := by decide +kernel
theorem dX11_wouldMove_14 : decode cX11_wouldMove 14 = .ok (.iload_n 2, 1) := by decide +kernel
theorem dX11_wouldMove_15 : decode cX11_wouldMove 15 = .ok (.invokevirtual 282, 3) := by decide +kernel
theorem dX11_wouldMove_18 : decode cX11_wouldMove 18 = .ok (.invokevirtual 436, 3) := by decide +kernel
theorem dX11_wouldMove_21 : decode cX11_wouldMove 21 = .ok (.ireturn, 1) := by decide +kernel
abbrev rX11_wouldMove : Room := { frames := 7, cells := 0, slots := 0, locals := 162 }
abbrev mX11_wouldMove : gY := (cX11_wouldMove, RX11, 4, rX11_wouldMove)
def fX11_wouldMove (x1 : Int32) (x2 : Int32) (x3 : Int32) (M0 : gMem) : Option (Int32 × gMem) :=
  (fX11_goesAside M0).bind fun v1 => (wI v1 1 374 (3 : Int32) x3).bind fun M2 => (fX11_comes x1 x2 M2).bind fun v3 => (fX11_comesBack v3.1 v3.2).bind fun v4 => some (v4.1, v4.2)
set_option maxRecDepth 20000 in
theorem tX11_wouldMove {X : gX} {V : gEnv} {x1 : Int32} {x2 : Int32} {x3 : Int32} {M0 : gMem}  {o : (Int32 × gMem)} (h : fX11_wouldMove x1 x2 x3 M0 = some o) (O : gO X V mX11_wouldMove gShM (some .int) (some (.int o.1)) o.2) : gG X V mX11_wouldMove gShM M0 0 0 0 [(0, .ref (gAd V 0)), (1, .int x1), (2, .int x2), (3, .int x3)] [] := by
  unfold fX11_wouldMove at h
  refine g_aload_n 0 rfl rfl dX11_wouldMove_0 ?_
  obtain ⟨v1, ev1, h⟩ := g_bnd h
  refine g_callV LX11_368 sM_0 rfl (kX11_goesAside ev1) rfl rfl (Nat.le_of_ble_eq_true rfl) ⟨Nat.le_of_ble_eq_true rfl, Nat.le_of_ble_eq_true rfl⟩ ⟨Nat.le_of_ble_eq_true rfl, Nat.le_of_ble_eq_true rfl⟩ dX11_wouldMove_1 rfl ?_
  refine g_aload_n 0 rfl rfl dX11_wouldMove_4 ?_
  refine g_getR FX11_9 sM_0 rfl dX11_wouldMove_5 ?_
  refine g_iconst (v := 3) rfl dX11_wouldMove_8 ?_
  refine g_iload_n 3 rfl rfl dX11_wouldMove_9 ?_
  obtain ⟨M2, eM2, h⟩ := g_bnd h
  refine g_iast' eM2 sM_1 dX11_wouldMove_10 ?_
  refine g_aload_n 0 rfl rfl dX11_wouldMove_11 ?_
  refine g_aload_n 0 rfl rfl dX11_wouldMove_12 ?_
  refine g_iload_n 1 rfl rfl dX11_wouldMove_13 ?_
  refine g_iload_n 2 rfl rfl dX11_wouldMove_14 ?_
  obtain ⟨v3, ev3, h⟩ := g_bnd h
  refine g_callV LX11_282 sM_0 rfl (kX11_comes ev3) rfl rfl (Nat.le_of_ble_eq_true rfl) ⟨Nat.le_of_ble_eq_true rfl, Nat.le_of_ble_eq_true rfl⟩ ⟨Nat.le_of_ble_eq_true rfl, Nat.le_of_ble_eq_true rfl⟩ dX11_wouldMove_15 rfl ?_
  obtain ⟨v4, ev4, h⟩ := g_bnd h
  refine g_callV LX11_436 sM_0 rfl (kX11_comesBack ev4) rfl rfl (Nat.le_of_ble_eq_true rfl) ⟨Nat.le_of_ble_eq_true rfl, Nat.le_of_ble_eq_true rfl⟩ ⟨Nat.le_of_ble_eq_true rfl, Nat.le_of_ble_eq_true rfl⟩ dX11_wouldMove_18 rfl ?_
  cases h
  exact g_iret O ⟨Nat.le_of_ble_eq_true rfl, Nat.le_of_ble_eq_true rfl⟩ rfl dX11_wouldMove_21
theorem kX11_wouldMove {l : Launch} {V : gEnv} {M0 : gMem} {x1 : Int32} {x2 : Int32} {x3 : Int32}  {o : (Int32 × gMem)} (h : fX11_wouldMove x1 x2 x3 M0 = some o) : gM l yX11_wouldMove cX11_wouldMove 4 (some .int) rX11_wouldMove V gShM [.ref (gAd V 0), .int x1, .int x2, .int x3] M0 (some (.int o.1)) o.2 :=
  gM.of (by decide) (Nat.le_of_ble_eq_true rfl) rfl (fun X _ O => tX11_wouldMove  h O)
theorem dX11_trial_0 : decode cX11_trial 0 = .ok (.aload_n 0, 1) := by decide +kernel
theorem dX11_trial_1 : decode cX11_trial 1 = .ok (.iload_n 1, 1) := by decide +kernel
theorem dX11_trial_2 : decode cX11_trial 2 = .ok (.iload_n 2, 1) := by decide +kernel
theorem dX11_trial_3 : decode cX11_trial 3 = .ok (.invokevirtual 424, 3) := by decide +kernel
theorem dX11_trial_6 : decode cX11_trial 6 = .ok (.ifCond .ne 25, 3) := by decide +kernel
theorem dX11_trial_9 : decode cX11_trial 9 = .ok (.aload_n 0, 1) := by decide +kernel
theorem dX11_trial_10 : decode cX11_trial 10 = .ok (.iload_n 3, 1) := by decide +kernel
theorem dX11_trial_11 : decode cX11_trial 11 = .ok (.iconst 0, 1) := by decide +kernel
theorem dX11_trial_12 : decode cX11_trial 12 = .ok (.iconst 5, 1) := by decide +kernel
theorem dX11_trial_13 : decode cX11_trial 13 = .ok (.invokestatic 172, 3) := by decide +kernel
theorem dX11_trial_16 : decode cX11_trial 16 = .ok (.ifCond .ne 7, 3) := by decide +kernel
theorem dX11_trial_19 : decode cX11_trial 19 = .ok (.iconst 1, 1) := by decide +kernel
theorem dX11_trial_20 : decode cX11_trial 20 = .ok (.goto 4, 3) := by decide +kernel
theorem dX11_trial_23 : decode cX11_trial 23 = .ok (.iconst 0, 1) := by decide +kernel
theorem dX11_trial_24 : decode cX11_trial 24 = .ok (.iconst 2, 1) := by decide +kernel
theorem dX11_trial_25 : decode cX11_trial 25 = .ok (.invokevirtual 392, 3) := by decide +kernel
theorem dX11_trial_28 : decode cX11_trial 28 = .ok (.ifCond .eq 5, 3) := by decide +kernel
theorem dX11_trial_31 : decode cX11_trial 31 = .ok (.iconst 0, 1) := by decide +kernel
theorem dX11_trial_32 : decode cX11_trial 32 = .ok (.ireturn, 1) := by decide +kernel
theorem dX11_trial_33 : decode cX11_trial 33 = .ok (.aload_n 0, 1) := by decide +kernel
theorem dX11_trial_34 : decode cX11_trial 34 = .ok (.iload_n 1, 1) := by decide +kernel
theorem dX11_trial_35 : decode cX11_trial 35 = .ok (.iload_n 2, 1) := by decide +kernel
theorem dX11_trial_36 : decode cX11_trial 36 = .ok (.invokevirtual 182, 3) := by decide +kernel
theorem dX11_trial_39 : decode cX11_trial 39 = .ok (.istore 4, 2) := by decide +kernel
theorem dX11_trial_41 : decode cX11_trial 41 = .ok (.iload 4, 2) := by decide +kernel
theorem dX11_trial_43 : decode cX11_trial 43 = .ok (.ifCond .eq 9, 3) := by decide +kernel
theorem dX11_trial_46 : decode cX11_trial 46 = .ok (.iload 4, 2) := by decide +kernel
theorem dX11_trial_48 : decode cX11_trial 48 = .ok (.iconst 4, 1) := by decide +kernel
theorem dX11_trial_49 : decode cX11_trial 49 = .ok (.if_icmp .ne 12, 3) := by decide +kernel
theorem dX11_trial_52 : decode cX11_trial 52 = .ok (.aload_n 0, 1) := by decide +kernel
theorem dX11_trial_53 : decode cX11_trial 53 = .ok (.iload_n 1, 1) := by decide +kernel
theorem dX11_trial_54 : decode cX11_trial 54 = .ok (.iload_n 2, 1) := by decide +kernel
theorem dX11_trial_55 : decode cX11_trial 55 = .ok (.invokevirtual 126, 3) := by decide +kernel
theorem dX11_trial_58 : decode cX11_trial 58 = .ok (.ifCond .ne 5, 3) := by decide +kernel
theorem dX11_trial_61 : decode cX11_trial 61 = .ok (.iconst 0, 1) := by decide +kernel
theorem dX11_trial_62 : decode cX11_trial 62 = .ok (.ireturn, 1) := by decide +kernel
theorem dX11_trial_63 : decode cX11_trial 63 = .ok (.aload_n 0, 1) := by decide +kernel
theorem dX11_trial_64 : decode cX11_trial 64 = .ok (.iload_n 1, 1) := by decide +kernel
theorem dX11_trial_65 : decode cX11_trial 65 = .ok (.iload_n 2, 1) := by decide +kernel
theorem dX11_trial_66 : decode cX11_trial 66 = .ok (.invokevirtual 129, 3) := by decide +kernel
theorem dX11_trial_69 : decode cX11_trial 69 = .ok (.iload_n 3, 1) := by decide +kernel
theorem dX11_trial_70 : decode cX11_trial 70 = .ok (.tableswitch 80 0 4 #[34, 46, 54, 62, 75], 34) := by decide +kernel
theorem dX11_trial_104 : decode cX11_trial 104 = .ok (.aload_n 0, 1) := by decide +kernel
theorem dX11_trial_105 : decode cX11_trial 105 = .ok (.getfield 111, 3) := by decide +kernel
theorem dX11_trial_108 : decode cX11_trial 108 = .ok (.aload_n 0, 1) := by decide +kernel
theorem dX11_trial_109 : decode cX11_trial 109 = .ok (.getfield 108, 3) := by decide +kernel
theorem dX11_trial_112 : decode cX11_trial 112 = .ok (.isub, 1) := by decide +kernel
theorem dX11_trial_113 : decode cX11_trial 113 = .ok (.iconst 1, 1) := by decide +kernel
theorem dX11_trial_114 : decode cX11_trial 114 = .ok (.iadd, 1) := by decide +kernel
theorem dX11_trial_115 : decode cX11_trial 115 = .ok (.ireturn, 1) := by decide +kernel
theorem dX11_trial_116 : decode cX11_trial 116 = .ok (.aload_n 0, 1) := by decide +kernel
theorem dX11_trial_117 : decode cX11_trial 117 = .ok (.getfield 114, 3) := by decide +kernel
theorem dX11_trial_120 : decode cX11_trial 120 = .ok (.invokestatic 139, 3) := by decide +kernel
theorem dX11_trial_123 : decode cX11_trial 123 = .ok (.ireturn, 1) := by decide +kernel
theorem dX11_trial_124 : decode cX11_trial 124 = .ok (.aload_n 0, 1) := by decide +kernel
theorem dX11_trial_125 : decode cX11_trial 125 = .ok (.getfield 117, 3) := by decide +kernel
theorem dX11_trial_128 : decode cX11_trial 128 = .ok (.invokestatic 139, 3) := by decide +kernel
theorem dX11_trial_131 : decode cX11_trial 131 = .ok (.ireturn, 1) := by decide +kernel
theorem dX11_trial_132 : decode cX11_trial 132 = .ok (.aload_n 0, 1) := by decide +kernel
theorem dX11_trial_133 : decode cX11_trial 133 = .ok (.getfield 114, 3) := by decide +kernel
theorem dX11_trial_136 : decode cX11_trial 136 = .ok (.aload_n 0, 1) := by decide +kernel
theorem dX11_trial_137 : decode cX11_trial 137 = .ok (.getfield 117, 3) := by decide +kernel
theorem dX11_trial_140 : decode cX11_trial 140 = .ok (.iand, 1) := by decide +kernel
theorem dX11_trial_141 : decode cX11_trial 141 = .ok (.invokestatic 139, 3) := by decide +kernel
theorem dX11_trial_144 : decode cX11_trial 144 = .ok (.ireturn, 1) := by decide +kernel
theorem dX11_trial_145 : decode cX11_trial 145 = .ok (.aload_n 0, 1) := by decide +kernel
theorem dX11_trial_146 : decode cX11_trial 146 = .ok (.getfield 120, 3) := by decide +kernel
theorem dX11_trial_149 : decode cX11_trial 149 = .ok (.ireturn, 1) := by decide +kernel
theorem dX11_trial_150 : decode cX11_trial 150 = .ok (.iload 4, 2) := by decide +kernel
theorem dX11_trial_152 : decode cX11_trial 152 = .ok (.iconst 4, 1) := by decide +kernel
theorem dX11_trial_153 : decode cX11_trial 153 = .ok (.if_icmp .ne 7, 3) := by decide +kernel
theorem dX11_trial_156 : decode cX11_trial 156 = .ok (.iconst 0, 1) := by decide +kernel
theorem dX11_trial_157 : decode cX11_trial 157 = .ok (.goto 15, 3) := by decide +kernel
theorem dX11_trial_160 : decode cX11_trial 160 = .ok (.aload_n 0, 1) := by decide +kernel
theorem dX11_trial_161 : decode cX11_trial 161 = .ok (.iload_n 1, 1) := by decide +kernel
theorem dX11_trial_162 : decode cX11_trial 162 = .ok (.iload_n 2, 1) := by decide +kernel
theorem dX11_trial_163 : decode cX11_trial 163 = .ok (.aload_n 0, 1) := by decide +kernel
theorem dX11_trial_164 : decode cX11_trial 164 = .ok (.getfield 9, 3) := by decide +kernel
theorem dX11_trial_167 : decode cX11_trial 167 = .ok (.iconst 3, 1) := by decide +kernel
theorem dX11_trial_168 : decode cX11_trial 168 = .ok (.iaload, 1) := by decide +kernel
theorem dX11_trial_169 : decode cX11_trial 169 = .ok (.invokevirtual 433, 3) := by decide +kernel
theorem dX11_trial_172 : decode cX11_trial 172 = .ok (.ireturn, 1) := by decide +kernel
abbrev rX11_trial : Room := { frames := 8, cells := 0, slots := 0, locals := 185 }
abbrev mX11_trial : gY := (cX11_trial, RX11, 5, rX11_trial)
def fX11_trial_b52 (x1 : Int32) (x2 : Int32) (x3 : Int32) (x4 : Int32) (M0 : gMem) : Option (Int32 × gMem) :=
  (fX11_needsRepair x1 x2 M0).bind fun v9 => if v9 = 0 then (some ((0 : Int32), M0)) else (fX11_laysPart x1 x2 M0).bind fun v11 => if x3 = (0 : Int32) then (some (((v11.1 0 11) - (v11.1 0 10)) + (1 : Int32), v11)) else if x3 = (1 : Int32) then ((fX11_many (v11.1 0 12)).bind fun v14 => some (v14, v11)) else if x3 = (2 : Int32) then ((fX11_many (v11.1 0 13)).bind fun v16 => some (v16, v11)) else if x3 = (3 : Int32) then ((fX11_many ((v11.1 0 12) &&& (v11.1 0 13))).bind fun v18 => some (v18, v11)) else if x3 = (4 : Int32) then (some (v11.1 0 14, v11)) else if x4 = (4 : Int32) then (some ((0 : Int32), v11)) else (rI v11 1 374 (3 : Int32)).bind fun v21 => (fX11_wouldMove x1 x2 v21 v11).bind fun v22 => some (v22.1, v22.2)
set_option maxRecDepth 20000 in
theorem tX11_trial_b52 {X : gX} {V : gEnv} {x1 : Int32} {x2 : Int32} {x3 : Int32} {x4 : Int32} {M0 : gMem}  {o : (Int32 × gMem)} (h : fX11_trial_b52 x1 x2 x3 x4 M0 = some o) (O : gO X V mX11_trial gShM (some .int) (some (.int o.1)) o.2) : gG X V mX11_trial gShM M0 0 0 52 [(0, .ref (gAd V 0)), (1, .int x1), (2, .int x2), (3, .int x3), (4, .int x4)] [] := by
  unfold fX11_trial_b52 at h
  refine g_aload_n 0 rfl rfl dX11_trial_52 ?_
  refine g_iload_n 1 rfl rfl dX11_trial_53 ?_
  refine g_iload_n 2 rfl rfl dX11_trial_54 ?_
  obtain ⟨v9, ev9, h⟩ := g_bnd h
  refine g_callV LX11_126 sM_0 rfl (kX11_needsRepair ev9) rfl rfl (Nat.le_of_ble_eq_true rfl) ⟨Nat.le_of_ble_eq_true rfl, Nat.le_of_ble_eq_true rfl⟩ ⟨Nat.le_of_ble_eq_true rfl, Nat.le_of_ble_eq_true rfl⟩ dX11_trial_55 rfl ?_
  rcases g_ite h with ⟨c10, h⟩ | ⟨c10, h⟩
  · refine g_if_ne_f c10 (tgt := 63) rfl dX11_trial_58 ?_
    refine g_iconst (v := 0) rfl dX11_trial_61 ?_
    cases h
    exact g_iret O ⟨Nat.le_of_ble_eq_true rfl, Nat.le_of_ble_eq_true rfl⟩ rfl dX11_trial_62
  · refine g_if_ne_t c10 (tgt := 63) rfl dX11_trial_58 ?_
    refine g_aload_n 0 rfl rfl dX11_trial_63 ?_
    refine g_iload_n 1 rfl rfl dX11_trial_64 ?_
    refine g_iload_n 2 rfl rfl dX11_trial_65 ?_
    obtain ⟨v11, ev11, h⟩ := g_bnd h
    refine g_callV LX11_129 sM_0 rfl (kX11_laysPart ev11) rfl rfl (Nat.le_of_ble_eq_true rfl) ⟨Nat.le_of_ble_eq_true rfl, Nat.le_of_ble_eq_true rfl⟩ ⟨Nat.le_of_ble_eq_true rfl, Nat.le_of_ble_eq_true rfl⟩ dX11_trial_66 rfl ?_
    refine g_iload_n 3 rfl rfl dX11_trial_69 ?_
    rcases g_ite h with ⟨c12, h⟩ | ⟨c12, h⟩
    · refine g_tabIn (off := 34) (tgt := 104) (by rw [c12]; decide) (by rw [c12]; decide) (by rw [c12]; rfl) rfl dX11_trial_70 ?_
      refine g_aload_n 0 rfl rfl dX11_trial_104 ?_
      refine g_getI FX11_111 sM_0 rfl dX11_trial_105 ?_
      refine g_aload_n 0 rfl rfl dX11_trial_108 ?_
      refine g_getI FX11_108 sM_0 rfl dX11_trial_109 ?_
      refine g_isub dX11_trial_112 ?_
      refine g_iconst (v := 1) rfl dX11_trial_113 ?_
      refine g_iadd dX11_trial_114 ?_
      cases h
      exact g_iret O ⟨Nat.le_of_ble_eq_true rfl, Nat.le_of_ble_eq_true rfl⟩ rfl dX11_trial_115
    ·
      rcases g_ite h with ⟨c13, h⟩ | ⟨c13, h⟩
      · refine g_tabIn (off := 46) (tgt := 116) (by rw [c13]; decide) (by rw [c13]; decide) (by rw [c13]; rfl) rfl dX11_trial_70 ?_
        refine g_aload_n 0 rfl rfl dX11_trial_116 ?_
        refine g_getI FX11_114 sM_0 rfl dX11_trial_117 ?_
        obtain ⟨v14, ev14, h⟩ := g_bnd h
        refine g_callS LX11_139 (kX11_many ev14) rfl rfl (Nat.le_of_ble_eq_true rfl) ⟨Nat.le_of_ble_eq_true rfl, Nat.le_of_ble_eq_true rfl⟩ ⟨Nat.le_of_ble_eq_true rfl, Nat.le_of_ble_eq_true rfl⟩ dX11_trial_120 rfl ?_
        cases h
        exact g_iret O ⟨Nat.le_of_ble_eq_true rfl, Nat.le_of_ble_eq_true rfl⟩ rfl dX11_trial_123
      ·
        rcases g_ite h with ⟨c15, h⟩ | ⟨c15, h⟩
        · refine g_tabIn (off := 54) (tgt := 124) (by rw [c15]; decide) (by rw [c15]; decide) (by rw [c15]; rfl) rfl dX11_trial_70 ?_
          refine g_aload_n 0 rfl rfl dX11_trial_124 ?_
          refine g_getI FX11_117 sM_0 rfl dX11_trial_125 ?_
          obtain ⟨v16, ev16, h⟩ := g_bnd h
          refine g_callS LX11_139 (kX11_many ev16) rfl rfl (Nat.le_of_ble_eq_true rfl) ⟨Nat.le_of_ble_eq_true rfl, Nat.le_of_ble_eq_true rfl⟩ ⟨Nat.le_of_ble_eq_true rfl, Nat.le_of_ble_eq_true rfl⟩ dX11_trial_128 rfl ?_
          cases h
          exact g_iret O ⟨Nat.le_of_ble_eq_true rfl, Nat.le_of_ble_eq_true rfl⟩ rfl dX11_trial_131
        ·
          rcases g_ite h with ⟨c17, h⟩ | ⟨c17, h⟩
          · refine g_tabIn (off := 62) (tgt := 132) (by rw [c17]; decide) (by rw [c17]; decide) (by rw [c17]; rfl) rfl dX11_trial_70 ?_
            refine g_aload_n 0 rfl rfl dX11_trial_132 ?_
            refine g_getI FX11_114 sM_0 rfl dX11_trial_133 ?_
            refine g_aload_n 0 rfl rfl dX11_trial_136 ?_
            refine g_getI FX11_117 sM_0 rfl dX11_trial_137 ?_
            refine g_iand dX11_trial_140 ?_
            obtain ⟨v18, ev18, h⟩ := g_bnd h
            refine g_callS LX11_139 (kX11_many ev18) rfl rfl (Nat.le_of_ble_eq_true rfl) ⟨Nat.le_of_ble_eq_true rfl, Nat.le_of_ble_eq_true rfl⟩ ⟨Nat.le_of_ble_eq_true rfl, Nat.le_of_ble_eq_true rfl⟩ dX11_trial_141 rfl ?_
            cases h
            exact g_iret O ⟨Nat.le_of_ble_eq_true rfl, Nat.le_of_ble_eq_true rfl⟩ rfl dX11_trial_144
          ·
            rcases g_ite h with ⟨c19, h⟩ | ⟨c19, h⟩
            · refine g_tabIn (off := 75) (tgt := 145) (by rw [c19]; decide) (by rw [c19]; decide) (by rw [c19]; rfl) rfl dX11_trial_70 ?_
              refine g_aload_n 0 rfl rfl dX11_trial_145 ?_
              refine g_getI FX11_120 sM_0 rfl dX11_trial_146 ?_
              cases h
              exact g_iret O ⟨Nat.le_of_ble_eq_true rfl, Nat.le_of_ble_eq_true rfl⟩ rfl dX11_trial_149
            ·
              have nc12 := gne (0 : Int32) (j := 0) rfl c12
              have nc13 := gne (1 : Int32) (j := 1) rfl c13
              have nc15 := gne (2 : Int32) (j := 2) rfl c15
              have nc17 := gne (3 : Int32) (j := 3) rfl c17
              have nc19 := gne (4 : Int32) (j := 4) rfl c19
              refine g_tabOut (tgt := 150) (by omega) rfl dX11_trial_70 ?_
              refine g_iload 4 rfl dX11_trial_150 ?_
              refine g_iconst (v := 4) rfl dX11_trial_152 ?_
              rcases g_ite h with ⟨c20, h⟩ | ⟨c20, h⟩
              · refine g_icmp_ne_f c20 (tgt := 160) rfl dX11_trial_153 ?_
                refine g_iconst (v := 0) rfl dX11_trial_156 ?_
                refine g_goto (tgt := 172) rfl dX11_trial_157 ?_
                cases h
                exact g_iret O ⟨Nat.le_of_ble_eq_true rfl, Nat.le_of_ble_eq_true rfl⟩ rfl dX11_trial_172
              · refine g_icmp_ne_t c20 (tgt := 160) rfl dX11_trial_153 ?_
                refine g_aload_n 0 rfl rfl dX11_trial_160 ?_
                refine g_iload_n 1 rfl rfl dX11_trial_161 ?_
                refine g_iload_n 2 rfl rfl dX11_trial_162 ?_
                refine g_aload_n 0 rfl rfl dX11_trial_163 ?_
                refine g_getR FX11_9 sM_0 rfl dX11_trial_164 ?_
                refine g_iconst (v := 3) rfl dX11_trial_167 ?_
                obtain ⟨v21, ev21, h⟩ := g_bnd h
                refine g_iald' ev21 sM_1 dX11_trial_168 ?_
                obtain ⟨v22, ev22, h⟩ := g_bnd h
                refine g_callV LX11_433 sM_0 rfl (kX11_wouldMove ev22) rfl rfl (Nat.le_of_ble_eq_true rfl) ⟨Nat.le_of_ble_eq_true rfl, Nat.le_of_ble_eq_true rfl⟩ ⟨Nat.le_of_ble_eq_true rfl, Nat.le_of_ble_eq_true rfl⟩ dX11_trial_169 rfl ?_
                cases h
                exact g_iret O ⟨Nat.le_of_ble_eq_true rfl, Nat.le_of_ble_eq_true rfl⟩ rfl dX11_trial_172
def fX11_trial (x1 : Int32) (x2 : Int32) (x3 : Int32) (M0 : gMem) : Option (Int32 × gMem) :=
  (fX11_noTasks x1 x2 M0).bind fun v1 => if v1.1 = 0 then ((fX11_in x3 (0 : Int32) (5 : Int32)).bind fun v3 => (fX11_throwsIf (if v3 = 0 then (1 : Int32) else (0 : Int32)) (2 : Int32) v1.2).bind fun v5 => if v5.1 = 0 then ((fX11_reason x1 x2 v5.2).bind fun v7 => if v7.1 = 0 then (fX11_trial_b52 x1 x2 x3 v7.1 v7.2) else if v7.1 = (4 : Int32) then (fX11_trial_b52 x1 x2 x3 v7.1 v7.2) else some ((0 : Int32), v7.2)) else some ((0 : Int32), v5.2)) else some ((0 : Int32), v1.2)
set_option maxRecDepth 20000 in
theorem tX11_trial {X : gX} {V : gEnv} {x1 : Int32} {x2 : Int32} {x3 : Int32} {M0 : gMem}  {o : (Int32 × gMem)} (h : fX11_trial x1 x2 x3 M0 = some o) (O : gO X V mX11_trial gShM (some .int) (some (.int o.1)) o.2) : gG X V mX11_trial gShM M0 0 0 0 [(0, .ref (gAd V 0)), (1, .int x1), (2, .int x2), (3, .int x3)] [] := by
  unfold fX11_trial at h
  refine g_aload_n 0 rfl rfl dX11_trial_0 ?_
  refine g_iload_n 1 rfl rfl dX11_trial_1 ?_
  refine g_iload_n 2 rfl rfl dX11_trial_2 ?_
  obtain ⟨v1, ev1, h⟩ := g_bnd h
  refine g_callV LX11_424 sM_0 rfl (kX11_noTasks ev1) rfl rfl (Nat.le_of_ble_eq_true rfl) ⟨Nat.le_of_ble_eq_true rfl, Nat.le_of_ble_eq_true rfl⟩ ⟨Nat.le_of_ble_eq_true rfl, Nat.le_of_ble_eq_true rfl⟩ dX11_trial_3 rfl ?_
  rcases g_ite h with ⟨c2, h⟩ | ⟨c2, h⟩
  · refine g_if_ne_f c2 (tgt := 31) rfl dX11_trial_6 ?_
    refine g_aload_n 0 rfl rfl dX11_trial_9 ?_
    refine g_iload_n 3 rfl rfl dX11_trial_10 ?_
    refine g_iconst (v := 0) rfl dX11_trial_11 ?_
    refine g_iconst (v := 5) rfl dX11_trial_12 ?_
    obtain ⟨v3, ev3, h⟩ := g_bnd h
    refine g_callS LX11_172 (kX11_in ev3) rfl rfl (Nat.le_of_ble_eq_true rfl) ⟨Nat.le_of_ble_eq_true rfl, Nat.le_of_ble_eq_true rfl⟩ ⟨Nat.le_of_ble_eq_true rfl, Nat.le_of_ble_eq_true rfl⟩ dX11_trial_13 rfl ?_
    have KJ : gG X V mX11_trial gShM v1.2 0 0 24 [(0, .ref (gAd V 0)), (1, .int x1), (2, .int x2), (3, .int x3)] [.int (if v3 = 0 then (1 : Int32) else (0 : Int32)), .ref (gAd V 0)] := by
      refine g_iconst (v := 2) rfl dX11_trial_24 ?_
      obtain ⟨v5, ev5, h⟩ := g_bnd h
      refine g_callV LX11_392 sM_0 rfl (kX11_throwsIf ev5) rfl rfl (Nat.le_of_ble_eq_true rfl) ⟨Nat.le_of_ble_eq_true rfl, Nat.le_of_ble_eq_true rfl⟩ ⟨Nat.le_of_ble_eq_true rfl, Nat.le_of_ble_eq_true rfl⟩ dX11_trial_25 rfl ?_
      rcases g_ite h with ⟨c6, h⟩ | ⟨c6, h⟩
      · refine g_if_eq_t c6 (tgt := 33) rfl dX11_trial_28 ?_
        refine g_aload_n 0 rfl rfl dX11_trial_33 ?_
        refine g_iload_n 1 rfl rfl dX11_trial_34 ?_
        refine g_iload_n 2 rfl rfl dX11_trial_35 ?_
        obtain ⟨v7, ev7, h⟩ := g_bnd h
        refine g_callV LX11_182 sM_0 rfl (kX11_reason ev7) rfl rfl (Nat.le_of_ble_eq_true rfl) ⟨Nat.le_of_ble_eq_true rfl, Nat.le_of_ble_eq_true rfl⟩ ⟨Nat.le_of_ble_eq_true rfl, Nat.le_of_ble_eq_true rfl⟩ dX11_trial_36 rfl ?_
        refine g_istore (ls' := [(4, .int v7.1), (0, .ref (gAd V 0)), (1, .int x1), (2, .int x2), (3, .int x3)]) (Nat.le_of_ble_eq_true rfl) rfl dX11_trial_39 ?_
        refine g_iload 0 rfl dX11_trial_41 ?_
        rcases g_ite h with ⟨c8, h⟩ | ⟨c8, h⟩
        · refine g_if_eq_t c8 (tgt := 52) rfl dX11_trial_43 ?_
          refine g_sub [1, 2, 3, 4, 0] rfl ?_
          exact tX11_trial_b52  h O
        · refine g_if_eq_f c8 (tgt := 52) rfl dX11_trial_43 ?_
          refine g_iload 0 rfl dX11_trial_46 ?_
          refine g_iconst (v := 4) rfl dX11_trial_48 ?_
          rcases g_ite h with ⟨c23, h⟩ | ⟨c23, h⟩
          · refine g_icmp_ne_f c23 (tgt := 61) rfl dX11_trial_49 ?_
            refine g_sub [1, 2, 3, 4, 0] rfl ?_
            exact tX11_trial_b52  h O
          · refine g_icmp_ne_t c23 (tgt := 61) rfl dX11_trial_49 ?_
            refine g_iconst (v := 0) rfl dX11_trial_61 ?_
            cases h
            exact g_iret O ⟨Nat.le_of_ble_eq_true rfl, Nat.le_of_ble_eq_true rfl⟩ rfl dX11_trial_62
      · refine g_if_eq_f c6 (tgt := 33) rfl dX11_trial_28 ?_
        refine g_iconst (v := 0) rfl dX11_trial_31 ?_
        cases h
        exact g_iret O ⟨Nat.le_of_ble_eq_true rfl, Nat.le_of_ble_eq_true rfl⟩ rfl dX11_trial_32
    by_cases c4 : v3 = 0
    · rw [if_pos c4] at KJ
      refine g_if_ne_f c4 (tgt := 23) rfl dX11_trial_16 ?_
      refine g_iconst (v := 1) rfl dX11_trial_19 ?_
      refine g_goto (tgt := 24) rfl dX11_trial_20 ?_
      exact KJ
    · rw [if_neg c4] at KJ
      refine g_if_ne_t c4 (tgt := 23) rfl dX11_trial_16 ?_
      refine g_iconst (v := 0) rfl dX11_trial_23 ?_
      exact KJ
  · refine g_if_ne_t c2 (tgt := 31) rfl dX11_trial_6 ?_
    refine g_iconst (v := 0) rfl dX11_trial_31 ?_
    cases h
    exact g_iret O ⟨Nat.le_of_ble_eq_true rfl, Nat.le_of_ble_eq_true rfl⟩ rfl dX11_trial_32
theorem kX11_trial {l : Launch} {V : gEnv} {M0 : gMem} {x1 : Int32} {x2 : Int32} {x3 : Int32}  {o : (Int32 × gMem)} (h : fX11_trial x1 x2 x3 M0 = some o) : gM l yX11_trial cX11_trial 5 (some .int) rX11_trial V gShM [.ref (gAd V 0), .int x1, .int x2, .int x3] M0 (some (.int o.1)) o.2 :=
  gM.of (by decide) (Nat.le_of_ble_eq_true rfl) rfl (fun X _ O => tX11_trial  h O)
theorem dX11_why_0 : decode cX11_why 0 = .ok (.aload_n 0, 1) := by decide +kernel
theorem dX11_why_1 : decode cX11_why 1 = .ok (.iload_n 1, 1) := by decide +kernel
theorem dX11_why_2 : decode cX11_why 2 = .ok (.iload_n 2, 1) := by decide +kernel
theorem dX11_why_3 : decode cX11_why 3 = .ok (.invokevirtual 424, 3) := by decide +kernel
theorem dX11_why_6 : decode cX11_why 6 = .ok (.ifCond .ne 20, 3) := by decide +kernel
theorem dX11_why_9 : decode cX11_why 9 = .ok (.aload_n 0, 1) := by decide +kernel
theorem dX11_why_10 : decode cX11_why 10 = .ok (.iload_n 3, 1) := by decide +kernel
theorem dX11_why_11 : decode cX11_why 11 = .ok (.ifCond .ge 7, 3) := by decide +kernel
theorem dX11_why_14 : decode cX11_why 14 = .ok (.iconst 1, 1) := by decide +kernel
theorem dX11_why_15 : decode cX11_why 15 = .ok (.goto 4, 3) := by decide +kernel
theorem dX11_why_18 : decode cX11_why 18 = .ok (.iconst 0, 1) := by decide +kernel
theorem dX11_why_19 : decode cX11_why 19 = .ok (.iconst 2, 1) := by decide +kernel
theorem dX11_why_20 : decode cX11_why 20 = .ok (.invokevirtual 392, 3) := by decide +kernel
theorem dX11_why_23 : decode cX11_why 23 = .ok (.ifCond .eq 5, 3) := by decide +kernel
theorem dX11_why_26 : decode cX11_why 26 = .ok (.iconst 0, 1) := by decide +kernel
theorem dX11_why_27 : decode cX11_why 27 = .ok (.ireturn, 1) := by decide +kernel
theorem dX11_why_28 : decode cX11_why 28 = .ok (.aload_n 0, 1) := by decide +kernel
theorem dX11_why_29 : decode cX11_why 29 = .ok (.iload_n 1, 1) := by decide +kernel
theorem dX11_why_30 : decode cX11_why 30 = .ok (.iload_n 2, 1) := by decide +kernel
theorem dX11_why_31 : decode cX11_why 31 = .ok (.invokevirtual 182, 3) := by decide +kernel
theorem dX11_why_34 : decode cX11_why 34 = .ok (.istore 4, 2) := by decide +kernel
theorem dX11_why_36 : decode cX11_why 36 = .ok (.iload_n 3, 1) := by decide +kernel
theorem dX11_why_37 : decode cX11_why 37 = .ok (.ifCond .eq 14, 3) := by decide +kernel
theorem dX11_why_40 : decode cX11_why 40 = .ok (.iload 4, 2) := by decide +kernel
theorem dX11_why_42 : decode cX11_why 42 = .ok (.iconst 4, 1) := by decide +kernel
theorem dX11_why_43 : decode cX11_why 43 = .ok (.if_icmp .ne 8, 3) := by decide +kernel
theorem dX11_why_46 : decode cX11_why 46 = .ok (.iload_n 3, 1) := by decide +kernel
theorem dX11_why_47 : decode cX11_why 47 = .ok (.iconst 2, 1) := by decide +kernel
theorem dX11_why_48 : decode cX11_why 48 = .ok (.if_icmp .le 14, 3) := by decide +kernel
theorem dX11_why_51 : decode cX11_why 51 = .ok (.iload_n 3, 1) := by decide +kernel
theorem dX11_why_52 : decode cX11_why 52 = .ok (.ifCond .ne 8, 3) := by decide +kernel
theorem dX11_why_55 : decode cX11_why 55 = .ok (.iload 4, 2) := by decide +kernel
theorem dX11_why_57 : decode cX11_why 57 = .ok (.goto 4, 3) := by decide +kernel
theorem dX11_why_60 : decode cX11_why 60 = .ok (.iconst 0, 1) := by decide +kernel
theorem dX11_why_61 : decode cX11_why 61 = .ok (.ireturn, 1) := by decide +kernel
theorem dX11_why_62 : decode cX11_why 62 = .ok (.aload_n 0, 1) := by decide +kernel
theorem dX11_why_63 : decode cX11_why 63 = .ok (.iload_n 1, 1) := by decide +kernel
theorem dX11_why_64 : decode cX11_why 64 = .ok (.invokevirtual 427, 3) := by decide +kernel
theorem dX11_why_67 : decode cX11_why 67 = .ok (.iload_n 3, 1) := by decide +kernel
theorem dX11_why_68 : decode cX11_why 68 = .ok (.iconst 1, 1) := by decide +kernel
theorem dX11_why_69 : decode cX11_why 69 = .ok (.if_icmp .ne 14, 3) := by decide +kernel
theorem dX11_why_72 : decode cX11_why 72 = .ok (.bipush 101, 2) := by decide +kernel
theorem dX11_why_74 : decode cX11_why 74 = .ok (.aload_n 0, 1) := by decide +kernel
theorem dX11_why_75 : decode cX11_why 75 = .ok (.iload_n 2, 1) := by decide +kernel
theorem dX11_why_76 : decode cX11_why 76 = .ok (.invokevirtual 430, 3) := by decide +kernel
theorem dX11_why_79 : decode cX11_why 79 = .ok (.iadd, 1) := by decide +kernel
theorem dX11_why_80 : decode cX11_why 80 = .ok (.goto 13, 3) := by decide +kernel
theorem dX11_why_83 : decode cX11_why 83 = .ok (.sipush 201, 3) := by decide +kernel
theorem dX11_why_86 : decode cX11_why 86 = .ok (.aload_n 0, 1) := by decide +kernel
theorem dX11_why_87 : decode cX11_why 87 = .ok (.getfield 28, 3) := by decide +kernel
theorem dX11_why_90 : decode cX11_why 90 = .ok (.iload_n 2, 1) := by decide +kernel
theorem dX11_why_91 : decode cX11_why 91 = .ok (.iaload, 1) := by decide +kernel
theorem dX11_why_92 : decode cX11_why 92 = .ok (.iadd, 1) := by decide +kernel
theorem dX11_why_93 : decode cX11_why 93 = .ok (.ireturn, 1) := by decide +kernel
abbrev rX11_why : Room := { frames := 4, cells := 0, slots := 0, locals := 90 }
abbrev mX11_why : gY := (cX11_why, RX11, 5, rX11_why)
def fX11_why_b51 (x3 : Int32) (x4 : Int32) (M0 : gMem) : Option (Int32 × gMem) :=
  some (if x3 = 0 then x4 else (0 : Int32), M0)
set_option maxRecDepth 20000 in
theorem tX11_why_b51 {X : gX} {V : gEnv} {x3 : Int32} {x4 : Int32} {M0 : gMem}  {o : (Int32 × gMem)} (h : fX11_why_b51 x3 x4 M0 = some o) (O : gO X V mX11_why gShM (some .int) (some (.int o.1)) o.2) : gG X V mX11_why gShM M0 0 0 51 [(3, .int x3), (4, .int x4)] [] := by
  unfold fX11_why_b51 at h
  refine g_iload_n 0 rfl rfl dX11_why_51 ?_
  have KJ : gG X V mX11_why gShM M0 0 0 61 [(3, .int x3), (4, .int x4)] [.int (if x3 = 0 then x4 else (0 : Int32))] := by
    cases h
    exact g_iret O ⟨Nat.le_of_ble_eq_true rfl, Nat.le_of_ble_eq_true rfl⟩ rfl dX11_why_61
  by_cases c8 : x3 = 0
  · rw [if_pos c8] at KJ
    refine g_if_ne_f c8 (tgt := 60) rfl dX11_why_52 ?_
    refine g_iload 1 rfl dX11_why_55 ?_
    refine g_goto (tgt := 61) rfl dX11_why_57 ?_
    exact KJ
  · rw [if_neg c8] at KJ
    refine g_if_ne_t c8 (tgt := 60) rfl dX11_why_52 ?_
    refine g_iconst (v := 0) rfl dX11_why_60 ?_
    exact KJ
def fX11_why (x1 : Int32) (x2 : Int32) (x3 : Int32) (M0 : gMem) : Option (Int32 × gMem) :=
  (fX11_noTasks x1 x2 M0).bind fun v1 => if v1.1 = 0 then ((fX11_throwsIf (if 0 ≤ x3 then (0 : Int32) else (1 : Int32)) (2 : Int32) v1.2).bind fun v4 => if v4.1 = 0 then ((fX11_reason x1 x2 v4.2).bind fun v6 => if x3 = 0 then (fX11_why_b51 x3 v6.1 v6.2) else if v6.1 = (4 : Int32) then (if x3 ≤ (2 : Int32) then ((fX11_laysSteps x1 v6.2).bind fun v11 => if x3 = (1 : Int32) then ((fX11_nextOn x2 v11).bind fun v13 => some ((101 : Int32) + v13, v11)) else (rI v11 7 24 x2).bind fun v14 => some ((201 : Int32) + v14, v11)) else fX11_why_b51 x3 v6.1 v6.2) else fX11_why_b51 x3 v6.1 v6.2) else some ((0 : Int32), v4.2)) else some ((0 : Int32), v1.2)
set_option maxRecDepth 20000 in
theorem tX11_why {X : gX} {V : gEnv} {x1 : Int32} {x2 : Int32} {x3 : Int32} {M0 : gMem}  {o : (Int32 × gMem)} (h : fX11_why x1 x2 x3 M0 = some o) (O : gO X V mX11_why gShM (some .int) (some (.int o.1)) o.2) : gG X V mX11_why gShM M0 0 0 0 [(0, .ref (gAd V 0)), (1, .int x1), (2, .int x2), (3, .int x3)] [] := by
  unfold fX11_why at h
  refine g_aload_n 0 rfl rfl dX11_why_0 ?_
  refine g_iload_n 1 rfl rfl dX11_why_1 ?_
  refine g_iload_n 2 rfl rfl dX11_why_2 ?_
  obtain ⟨v1, ev1, h⟩ := g_bnd h
  refine g_callV LX11_424 sM_0 rfl (kX11_noTasks ev1) rfl rfl (Nat.le_of_ble_eq_true rfl) ⟨Nat.le_of_ble_eq_true rfl, Nat.le_of_ble_eq_true rfl⟩ ⟨Nat.le_of_ble_eq_true rfl, Nat.le_of_ble_eq_true rfl⟩ dX11_why_3 rfl ?_
  rcases g_ite h with ⟨c2, h⟩ | ⟨c2, h⟩
  · refine g_if_ne_f c2 (tgt := 26) rfl dX11_why_6 ?_
    refine g_aload_n 0 rfl rfl dX11_why_9 ?_
    refine g_iload_n 3 rfl rfl dX11_why_10 ?_
    have KJ : gG X V mX11_why gShM v1.2 0 0 19 [(0, .ref (gAd V 0)), (1, .int x1), (2, .int x2), (3, .int x3)] [.int (if 0 ≤ x3 then (0 : Int32) else (1 : Int32)), .ref (gAd V 0)] := by
      refine g_iconst (v := 2) rfl dX11_why_19 ?_
      obtain ⟨v4, ev4, h⟩ := g_bnd h
      refine g_callV LX11_392 sM_0 rfl (kX11_throwsIf ev4) rfl rfl (Nat.le_of_ble_eq_true rfl) ⟨Nat.le_of_ble_eq_true rfl, Nat.le_of_ble_eq_true rfl⟩ ⟨Nat.le_of_ble_eq_true rfl, Nat.le_of_ble_eq_true rfl⟩ dX11_why_20 rfl ?_
      rcases g_ite h with ⟨c5, h⟩ | ⟨c5, h⟩
      · refine g_if_eq_t c5 (tgt := 28) rfl dX11_why_23 ?_
        refine g_aload_n 0 rfl rfl dX11_why_28 ?_
        refine g_iload_n 1 rfl rfl dX11_why_29 ?_
        refine g_iload_n 2 rfl rfl dX11_why_30 ?_
        obtain ⟨v6, ev6, h⟩ := g_bnd h
        refine g_callV LX11_182 sM_0 rfl (kX11_reason ev6) rfl rfl (Nat.le_of_ble_eq_true rfl) ⟨Nat.le_of_ble_eq_true rfl, Nat.le_of_ble_eq_true rfl⟩ ⟨Nat.le_of_ble_eq_true rfl, Nat.le_of_ble_eq_true rfl⟩ dX11_why_31 rfl ?_
        refine g_istore (ls' := [(4, .int v6.1), (0, .ref (gAd V 0)), (1, .int x1), (2, .int x2), (3, .int x3)]) (Nat.le_of_ble_eq_true rfl) rfl dX11_why_34 ?_
        refine g_iload_n 4 rfl rfl dX11_why_36 ?_
        rcases g_ite h with ⟨c7, h⟩ | ⟨c7, h⟩
        · refine g_if_eq_t c7 (tgt := 51) rfl dX11_why_37 ?_
          refine g_sub [4, 0] rfl ?_
          exact tX11_why_b51  h O
        · refine g_if_eq_f c7 (tgt := 51) rfl dX11_why_37 ?_
          refine g_iload 0 rfl dX11_why_40 ?_
          refine g_iconst (v := 4) rfl dX11_why_42 ?_
          rcases g_ite h with ⟨c9, h⟩ | ⟨c9, h⟩
          · refine g_icmp_ne_f c9 (tgt := 51) rfl dX11_why_43 ?_
            refine g_iload_n 4 rfl rfl dX11_why_46 ?_
            refine g_iconst (v := 2) rfl dX11_why_47 ?_
            rcases g_ite h with ⟨c10, h⟩ | ⟨c10, h⟩
            · refine g_icmp_le_t c10 (tgt := 62) rfl dX11_why_48 ?_
              refine g_aload_n 1 rfl rfl dX11_why_62 ?_
              refine g_iload_n 2 rfl rfl dX11_why_63 ?_
              obtain ⟨v11, ev11, h⟩ := g_bnd h
              refine g_callV LX11_427 sM_0 rfl (kX11_laysSteps ev11) rfl rfl (Nat.le_of_ble_eq_true rfl) ⟨Nat.le_of_ble_eq_true rfl, Nat.le_of_ble_eq_true rfl⟩ ⟨Nat.le_of_ble_eq_true rfl, Nat.le_of_ble_eq_true rfl⟩ dX11_why_64 rfl ?_
              refine g_iload_n 4 rfl rfl dX11_why_67 ?_
              refine g_iconst (v := 1) rfl dX11_why_68 ?_
              rcases g_ite h with ⟨c12, h⟩ | ⟨c12, h⟩
              · refine g_icmp_ne_f c12 (tgt := 83) rfl dX11_why_69 ?_
                refine g_bipush (v := 101) rfl dX11_why_72 ?_
                refine g_aload_n 1 rfl rfl dX11_why_74 ?_
                refine g_iload_n 3 rfl rfl dX11_why_75 ?_
                obtain ⟨v13, ev13, h⟩ := g_bnd h
                refine g_callV LX11_430 sM_0 rfl (kX11_nextOn ev13) rfl rfl (Nat.le_of_ble_eq_true rfl) ⟨Nat.le_of_ble_eq_true rfl, Nat.le_of_ble_eq_true rfl⟩ ⟨Nat.le_of_ble_eq_true rfl, Nat.le_of_ble_eq_true rfl⟩ dX11_why_76 rfl ?_
                refine g_iadd dX11_why_79 ?_
                refine g_goto (tgt := 93) rfl dX11_why_80 ?_
                cases h
                exact g_iret O ⟨Nat.le_of_ble_eq_true rfl, Nat.le_of_ble_eq_true rfl⟩ rfl dX11_why_93
              · refine g_icmp_ne_t c12 (tgt := 83) rfl dX11_why_69 ?_
                refine g_sipush (v := 201) rfl dX11_why_83 ?_
                refine g_aload_n 1 rfl rfl dX11_why_86 ?_
                refine g_getR FX11_28 sM_0 rfl dX11_why_87 ?_
                refine g_iload_n 3 rfl rfl dX11_why_90 ?_
                obtain ⟨v14, ev14, h⟩ := g_bnd h
                refine g_iald' ev14 sM_7 dX11_why_91 ?_
                refine g_iadd dX11_why_92 ?_
                cases h
                exact g_iret O ⟨Nat.le_of_ble_eq_true rfl, Nat.le_of_ble_eq_true rfl⟩ rfl dX11_why_93
            · refine g_icmp_le_f c10 (tgt := 62) rfl dX11_why_48 ?_
              refine g_sub [4, 0] rfl ?_
              exact tX11_why_b51  h O
          · refine g_icmp_ne_t c9 (tgt := 51) rfl dX11_why_43 ?_
            refine g_sub [4, 0] rfl ?_
            exact tX11_why_b51  h O
      · refine g_if_eq_f c5 (tgt := 28) rfl dX11_why_23 ?_
        refine g_iconst (v := 0) rfl dX11_why_26 ?_
        cases h
        exact g_iret O ⟨Nat.le_of_ble_eq_true rfl, Nat.le_of_ble_eq_true rfl⟩ rfl dX11_why_27
    by_cases c3 : 0 ≤ x3
    · rw [if_pos c3] at KJ
      refine g_if_ge_t c3 (tgt := 18) rfl dX11_why_11 ?_
      refine g_iconst (v := 0) rfl dX11_why_18 ?_
      exact KJ
    · rw [if_neg c3] at KJ
      refine g_if_ge_f c3 (tgt := 18) rfl dX11_why_11 ?_
      refine g_iconst (v := 1) rfl dX11_why_14 ?_
      refine g_goto (tgt := 19) rfl dX11_why_15 ?_
      exact KJ
  · refine g_if_ne_t c2 (tgt := 26) rfl dX11_why_6 ?_
    refine g_iconst (v := 0) rfl dX11_why_26 ?_
    cases h
    exact g_iret O ⟨Nat.le_of_ble_eq_true rfl, Nat.le_of_ble_eq_true rfl⟩ rfl dX11_why_27
theorem kX11_why {l : Launch} {V : gEnv} {M0 : gMem} {x1 : Int32} {x2 : Int32} {x3 : Int32}  {o : (Int32 × gMem)} (h : fX11_why x1 x2 x3 M0 = some o) : gM l yX11_why cX11_why 5 (some .int) rX11_why V gShM [.ref (gAd V 0), .int x1, .int x2, .int x3] M0 (some (.int o.1)) o.2 :=
  gM.of (by decide) (Nat.le_of_ble_eq_true rfl) rfl (fun X _ O => tX11_why  h O)
