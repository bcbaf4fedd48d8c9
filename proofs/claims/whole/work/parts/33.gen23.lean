/-! METHODS, by program: pure functions and contracts -/
theorem dX1_readStatement_0 : decode cX1_readStatement 0 = .ok (.aload_n 1, 1) := by decide +kernel
theorem dX1_readStatement_1 : decode cX1_readStatement 1 = .ok (.invokevirtual 45, 3) := by decide +kernel
theorem dX1_readStatement_4 : decode cX1_readStatement 4 = .ok (.ifCond .ne 5, 3) := by decide +kernel
theorem dX1_readStatement_7 : decode cX1_readStatement 7 = .ok (.iconst 0, 1) := by decide +kernel
theorem dX1_readStatement_8 : decode cX1_readStatement 8 = .ok (.ireturn, 1) := by decide +kernel
theorem dX1_readStatement_9 : decode cX1_readStatement 9 = .ok (.aload_n 1, 1) := by decide +kernel
theorem dX1_readStatement_10 : decode cX1_readStatement 10 = .ok (.ldc 48, 2) := by decide +kernel
theorem dX1_readStatement_12 : decode cX1_readStatement 12 = .ok (.invokevirtual 50, 3) := by decide +kernel
theorem dX1_readStatement_15 : decode cX1_readStatement 15 = .ok (.ifCond .eq 10, 3) := by decide +kernel
theorem dX1_readStatement_18 : decode cX1_readStatement 18 = .ok (.aload_n 0, 1) := by decide +kernel
theorem dX1_readStatement_19 : decode cX1_readStatement 19 = .ok (.aload_n 1, 1) := by decide +kernel
theorem dX1_readStatement_20 : decode cX1_readStatement 20 = .ok (.aload_n 2, 1) := by decide +kernel
theorem dX1_readStatement_21 : decode cX1_readStatement 21 = .ok (.invokevirtual 54, 3) := by decide +kernel
theorem dX1_readStatement_24 : decode cX1_readStatement 24 = .ok (.ireturn, 1) := by decide +kernel
theorem dX1_readStatement_25 : decode cX1_readStatement 25 = .ok (.aload_n 2, 1) := by decide +kernel
theorem dX1_readStatement_26 : decode cX1_readStatement 26 = .ok (.getfield 58, 3) := by decide +kernel
theorem dX1_readStatement_29 : decode cX1_readStatement 29 = .ok (.ifCond .ne 13, 3) := by decide +kernel
theorem dX1_readStatement_32 : decode cX1_readStatement 32 = .ok (.aload_n 1, 1) := by decide +kernel
theorem dX1_readStatement_33 : decode cX1_readStatement 33 = .ok (.iconst 1, 1) := by decide +kernel
theorem dX1_readStatement_34 : decode cX1_readStatement 34 = .ok (.aload_n 1, 1) := by decide +kernel
theorem dX1_readStatement_35 : decode cX1_readStatement 35 = .ok (.getfield 62, 3) := by decide +kernel
theorem dX1_readStatement_38 : decode cX1_readStatement 38 = .ok (.invokevirtual 65, 3) := by decide +kernel
theorem dX1_readStatement_41 : decode cX1_readStatement 41 = .ok (.ireturn, 1) := by decide +kernel
theorem dX1_readStatement_42 : decode cX1_readStatement 42 = .ok (.aload_n 1, 1) := by decide +kernel
theorem dX1_readStatement_43 : decode cX1_readStatement 43 = .ok (.ldc 69, 2) := by decide +kernel
theorem dX1_readStatement_45 : decode cX1_readStatement 45 = .ok (.invokevirtual 50, 3) := by decide +kernel
theorem dX1_readStatement_48 : decode cX1_readStatement 48 = .ok (.ifCond .eq 11, 3) := by decide +kernel
theorem dX1_readStatement_51 : decode cX1_readStatement 51 = .ok (.aload_n 0, 1) := by decide +kernel
theorem dX1_readStatement_52 : decode cX1_readStatement 52 = .ok (.aload_n 1, 1) := by decide +kernel
theorem dX1_readStatement_53 : decode cX1_readStatement 53 = .ok (.aload_n 2, 1) := by decide +kernel
theorem dX1_readStatement_54 : decode cX1_readStatement 54 = .ok (.aload_n 3, 1) := by decide +kernel
theorem dX1_readStatement_55 : decode cX1_readStatement 55 = .ok (.invokevirtual 71, 3) := by decide +kernel
theorem dX1_readStatement_58 : decode cX1_readStatement 58 = .ok (.ireturn, 1) := by decide +kernel
theorem dX1_readStatement_59 : decode cX1_readStatement 59 = .ok (.aload_n 1, 1) := by decide +kernel
theorem dX1_readStatement_60 : decode cX1_readStatement 60 = .ok (.ldc 74, 2) := by decide +kernel
theorem dX1_readStatement_62 : decode cX1_readStatement 62 = .ok (.invokevirtual 50, 3) := by decide +kernel
theorem dX1_readStatement_65 : decode cX1_readStatement 65 = .ok (.ifCond .eq 10, 3) := by decide +kernel
theorem dX1_readStatement_68 : decode cX1_readStatement 68 = .ok (.aload_n 0, 1) := by decide +kernel
theorem dX1_readStatement_69 : decode cX1_readStatement 69 = .ok (.aload_n 1, 1) := by decide +kernel
theorem dX1_readStatement_70 : decode cX1_readStatement 70 = .ok (.aload_n 2, 1) := by decide +kernel
theorem dX1_readStatement_71 : decode cX1_readStatement 71 = .ok (.invokevirtual 76, 3) := by decide +kernel
theorem dX1_readStatement_74 : decode cX1_readStatement 74 = .ok (.ireturn, 1) := by decide +kernel
theorem dX1_readStatement_75 : decode cX1_readStatement 75 = .ok (.aload_n 1, 1) := by decide +kernel
theorem dX1_readStatement_76 : decode cX1_readStatement 76 = .ok (.ldc 79, 2) := by decide +kernel
theorem dX1_readStatement_78 : decode cX1_readStatement 78 = .ok (.invokevirtual 50, 3) := by decide +kernel
theorem dX1_readStatement_81 : decode cX1_readStatement 81 = .ok (.ifCond .eq 10, 3) := by decide +kernel
theorem dX1_readStatement_84 : decode cX1_readStatement 84 = .ok (.aload_n 0, 1) := by decide +kernel
theorem dX1_readStatement_85 : decode cX1_readStatement 85 = .ok (.aload_n 1, 1) := by decide +kernel
theorem dX1_readStatement_86 : decode cX1_readStatement 86 = .ok (.aload_n 2, 1) := by decide +kernel
theorem dX1_readStatement_87 : decode cX1_readStatement 87 = .ok (.invokevirtual 81, 3) := by decide +kernel
theorem dX1_readStatement_90 : decode cX1_readStatement 90 = .ok (.ireturn, 1) := by decide +kernel
theorem dX1_readStatement_91 : decode cX1_readStatement 91 = .ok (.aload_n 1, 1) := by decide +kernel
theorem dX1_readStatement_92 : decode cX1_readStatement 92 = .ok (.iconst 1, 1) := by decide +kernel
theorem dX1_readStatement_93 : decode cX1_readStatement 93 = .ok (.aload_n 1, 1) := by decide +kernel
theorem dX1_readStatement_94 : decode cX1_readStatement 94 = .ok (.getfield 62, 3) := by decide +kernel
theorem dX1_readStatement_97 : decode cX1_readStatement 97 = .ok (.invokevirtual 65, 3) := by decide +kernel
theorem dX1_readStatement_100 : decode cX1_readStatement 100 = .ok (.ireturn, 1) := by decide +kernel
abbrev rX1_readStatement : Room := { frames := 5, cells := 0, slots := 0, locals := 142 }
abbrev mX1_readStatement : gY := (cX1_readStatement, RX1, 4, rX1_readStatement)
def fX1_readStatement (t2 : Nat) (M0 : gMem) : Option (Int32 × gMem) :=
  (fX5_readWord M0).bind fun v1 => if v1.1 = 0 then (some ((0 : Int32), v1.2)) else (fX5_wordIs 0 v1.2).bind fun v3 => if v3 = 0 then (if (v1.2.1 t2 9) = 0 then ((fX5_fail (1 : Int32) (v1.2.1 32 3) v1.2).bind fun v6 => (zv v6.1).bind fun v7 => some (v7, v6.2)) else (fX5_wordIs 1 v1.2).bind fun v8 => if v8 = 0 then ((fX5_wordIs 2 v1.2).bind fun v10 => if v10 = 0 then ((fX5_wordIs 3 v1.2).bind fun v12 => if v12 = 0 then ((fX5_fail (1 : Int32) (v1.2.1 32 3) v1.2).bind fun v14 => (zv v14.1).bind fun v15 => some (v15, v14.2)) else (fX1_readJoin t2 v1.2).bind fun v16 => (zv v16.1).bind fun v17 => some (v17, v16.2)) else (fX1_readMode t2 v1.2).bind fun v18 => (zv v18.1).bind fun v19 => some (v19, v18.2)) else (fX1_readArrow t2 v1.2).bind fun v20 => (zv v20.1).bind fun v21 => some (v21, v20.2)) else (fX1_readNewTask t2 v1.2).bind fun v22 => (zv v22.1).bind fun v23 => some (v23, v22.2)
set_option maxRecDepth 20000 in
theorem tX1_readStatement {X : gX} {V : gEnv} {t2 : Nat} {M0 : gMem} (ht2 : gNet gShC t2) {o : (Int32 × gMem)} (h : fX1_readStatement t2 M0 = some o) (O : gO X V mX1_readStatement gShC (some .boolean) (some (.int o.1)) o.2) : gG X V mX1_readStatement gShC M0 0 0 0 [(0, .ref (gAd V 36)), (1, .ref (gAd V 32)), (2, .ref (gAd V t2)), (3, .ref (gAd V 41))] [] := by
  unfold fX1_readStatement at h
  refine g_aload_n 1 rfl rfl dX1_readStatement_0 ?_
  obtain ⟨v1, ev1, h⟩ := g_bnd h
  refine g_callV LX1_45 sC_32 rfl (kX5_readWord ev1) rfl rfl (Nat.le_of_ble_eq_true rfl) ⟨Nat.le_of_ble_eq_true rfl, Nat.le_of_ble_eq_true rfl⟩ ⟨Nat.le_of_ble_eq_true rfl, Nat.le_of_ble_eq_true rfl⟩ dX1_readStatement_1 rfl ?_
  rcases g_ite h with ⟨c2, h⟩ | ⟨c2, h⟩
  · refine g_if_ne_f c2 (tgt := 9) rfl dX1_readStatement_4 ?_
    refine g_iconst (v := 0) rfl dX1_readStatement_7 ?_
    cases h
    exact g_iret O ⟨Nat.le_of_ble_eq_true rfl, Nat.le_of_ble_eq_true rfl⟩ rfl dX1_readStatement_8
  · refine g_if_ne_t c2 (tgt := 9) rfl dX1_readStatement_4 ?_
    refine g_aload_n 1 rfl rfl dX1_readStatement_9 ?_
    refine g_ldcS SX1_48 dX1_readStatement_10 ?_
    obtain ⟨v3, ev3, h⟩ := g_bnd h
    refine g_callV LX1_50 sC_32 rfl (kX5_wordIs (by decide) ev3) rfl rfl (Nat.le_of_ble_eq_true rfl) ⟨Nat.le_of_ble_eq_true rfl, Nat.le_of_ble_eq_true rfl⟩ ⟨Nat.le_of_ble_eq_true rfl, Nat.le_of_ble_eq_true rfl⟩ dX1_readStatement_12 rfl ?_
    rcases g_ite h with ⟨c4, h⟩ | ⟨c4, h⟩
    · refine g_if_eq_t c4 (tgt := 25) rfl dX1_readStatement_15 ?_
      refine g_aload_n 2 rfl rfl dX1_readStatement_25 ?_
      refine g_getI FX1_58 ht2.1 rfl dX1_readStatement_26 ?_
      rcases g_ite h with ⟨c5, h⟩ | ⟨c5, h⟩
      · refine g_if_ne_f c5 (tgt := 42) rfl dX1_readStatement_29 ?_
        refine g_aload_n 1 rfl rfl dX1_readStatement_32 ?_
        refine g_iconst (v := 1) rfl dX1_readStatement_33 ?_
        refine g_aload_n 1 rfl rfl dX1_readStatement_34 ?_
        refine g_getI FX1_62 sC_32 rfl dX1_readStatement_35 ?_
        obtain ⟨v6, ev6, h⟩ := g_bnd h
        refine g_callV LX1_65 sC_32 rfl (kX5_fail ev6) rfl rfl (Nat.le_of_ble_eq_true rfl) ⟨Nat.le_of_ble_eq_true rfl, Nat.le_of_ble_eq_true rfl⟩ ⟨Nat.le_of_ble_eq_true rfl, Nat.le_of_ble_eq_true rfl⟩ dX1_readStatement_38 rfl ?_
        obtain ⟨v7, ev7, h⟩ := g_bnd h
        refine g_zv ev7 ?_
        cases h
        exact g_iret O ⟨Nat.le_of_ble_eq_true rfl, Nat.le_of_ble_eq_true rfl⟩ (g_nz (zv_ok ev7)) dX1_readStatement_41
      · refine g_if_ne_t c5 (tgt := 42) rfl dX1_readStatement_29 ?_
        refine g_aload_n 1 rfl rfl dX1_readStatement_42 ?_
        refine g_ldcS SX1_69 dX1_readStatement_43 ?_
        obtain ⟨v8, ev8, h⟩ := g_bnd h
        refine g_callV LX1_50 sC_32 rfl (kX5_wordIs (by decide) ev8) rfl rfl (Nat.le_of_ble_eq_true rfl) ⟨Nat.le_of_ble_eq_true rfl, Nat.le_of_ble_eq_true rfl⟩ ⟨Nat.le_of_ble_eq_true rfl, Nat.le_of_ble_eq_true rfl⟩ dX1_readStatement_45 rfl ?_
        rcases g_ite h with ⟨c9, h⟩ | ⟨c9, h⟩
        · refine g_if_eq_t c9 (tgt := 59) rfl dX1_readStatement_48 ?_
          refine g_aload_n 1 rfl rfl dX1_readStatement_59 ?_
          refine g_ldcS SX1_74 dX1_readStatement_60 ?_
          obtain ⟨v10, ev10, h⟩ := g_bnd h
          refine g_callV LX1_50 sC_32 rfl (kX5_wordIs (by decide) ev10) rfl rfl (Nat.le_of_ble_eq_true rfl) ⟨Nat.le_of_ble_eq_true rfl, Nat.le_of_ble_eq_true rfl⟩ ⟨Nat.le_of_ble_eq_true rfl, Nat.le_of_ble_eq_true rfl⟩ dX1_readStatement_62 rfl ?_
          rcases g_ite h with ⟨c11, h⟩ | ⟨c11, h⟩
          · refine g_if_eq_t c11 (tgt := 75) rfl dX1_readStatement_65 ?_
            refine g_aload_n 1 rfl rfl dX1_readStatement_75 ?_
            refine g_ldcS SX1_79 dX1_readStatement_76 ?_
            obtain ⟨v12, ev12, h⟩ := g_bnd h
            refine g_callV LX1_50 sC_32 rfl (kX5_wordIs (by decide) ev12) rfl rfl (Nat.le_of_ble_eq_true rfl) ⟨Nat.le_of_ble_eq_true rfl, Nat.le_of_ble_eq_true rfl⟩ ⟨Nat.le_of_ble_eq_true rfl, Nat.le_of_ble_eq_true rfl⟩ dX1_readStatement_78 rfl ?_
            rcases g_ite h with ⟨c13, h⟩ | ⟨c13, h⟩
            · refine g_if_eq_t c13 (tgt := 91) rfl dX1_readStatement_81 ?_
              refine g_aload_n 1 rfl rfl dX1_readStatement_91 ?_
              refine g_iconst (v := 1) rfl dX1_readStatement_92 ?_
              refine g_aload_n 1 rfl rfl dX1_readStatement_93 ?_
              refine g_getI FX1_62 sC_32 rfl dX1_readStatement_94 ?_
              obtain ⟨v14, ev14, h⟩ := g_bnd h
              refine g_callV LX1_65 sC_32 rfl (kX5_fail ev14) rfl rfl (Nat.le_of_ble_eq_true rfl) ⟨Nat.le_of_ble_eq_true rfl, Nat.le_of_ble_eq_true rfl⟩ ⟨Nat.le_of_ble_eq_true rfl, Nat.le_of_ble_eq_true rfl⟩ dX1_readStatement_97 rfl ?_
              obtain ⟨v15, ev15, h⟩ := g_bnd h
              refine g_zv ev15 ?_
              cases h
              exact g_iret O ⟨Nat.le_of_ble_eq_true rfl, Nat.le_of_ble_eq_true rfl⟩ (g_nz (zv_ok ev15)) dX1_readStatement_100
            · refine g_if_eq_f c13 (tgt := 91) rfl dX1_readStatement_81 ?_
              refine g_aload_n 0 rfl rfl dX1_readStatement_84 ?_
              refine g_aload_n 1 rfl rfl dX1_readStatement_85 ?_
              refine g_aload_n 2 rfl rfl dX1_readStatement_86 ?_
              obtain ⟨v16, ev16, h⟩ := g_bnd h
              refine g_callV LX1_81 sC_36 rfl (kX1_readJoin ht2 ev16) rfl rfl (Nat.le_of_ble_eq_true rfl) ⟨Nat.le_of_ble_eq_true rfl, Nat.le_of_ble_eq_true rfl⟩ ⟨Nat.le_of_ble_eq_true rfl, Nat.le_of_ble_eq_true rfl⟩ dX1_readStatement_87 rfl ?_
              obtain ⟨v17, ev17, h⟩ := g_bnd h
              refine g_zv ev17 ?_
              cases h
              exact g_iret O ⟨Nat.le_of_ble_eq_true rfl, Nat.le_of_ble_eq_true rfl⟩ (g_nz (zv_ok ev17)) dX1_readStatement_90
          · refine g_if_eq_f c11 (tgt := 75) rfl dX1_readStatement_65 ?_
            refine g_aload_n 0 rfl rfl dX1_readStatement_68 ?_
            refine g_aload_n 1 rfl rfl dX1_readStatement_69 ?_
            refine g_aload_n 2 rfl rfl dX1_readStatement_70 ?_
            obtain ⟨v18, ev18, h⟩ := g_bnd h
            refine g_callV LX1_76 sC_36 rfl (kX1_readMode ht2 ev18) rfl rfl (Nat.le_of_ble_eq_true rfl) ⟨Nat.le_of_ble_eq_true rfl, Nat.le_of_ble_eq_true rfl⟩ ⟨Nat.le_of_ble_eq_true rfl, Nat.le_of_ble_eq_true rfl⟩ dX1_readStatement_71 rfl ?_
            obtain ⟨v19, ev19, h⟩ := g_bnd h
            refine g_zv ev19 ?_
            cases h
            exact g_iret O ⟨Nat.le_of_ble_eq_true rfl, Nat.le_of_ble_eq_true rfl⟩ (g_nz (zv_ok ev19)) dX1_readStatement_74
        · refine g_if_eq_f c9 (tgt := 59) rfl dX1_readStatement_48 ?_
          refine g_aload_n 0 rfl rfl dX1_readStatement_51 ?_
          refine g_aload_n 1 rfl rfl dX1_readStatement_52 ?_
          refine g_aload_n 2 rfl rfl dX1_readStatement_53 ?_
          refine g_aload_n 3 rfl rfl dX1_readStatement_54 ?_
          obtain ⟨v20, ev20, h⟩ := g_bnd h
          refine g_callV LX1_71 sC_36 rfl (kX1_readArrow ht2 ev20) rfl rfl (Nat.le_of_ble_eq_true rfl) ⟨Nat.le_of_ble_eq_true rfl, Nat.le_of_ble_eq_true rfl⟩ ⟨Nat.le_of_ble_eq_true rfl, Nat.le_of_ble_eq_true rfl⟩ dX1_readStatement_55 rfl ?_
          obtain ⟨v21, ev21, h⟩ := g_bnd h
          refine g_zv ev21 ?_
          cases h
          exact g_iret O ⟨Nat.le_of_ble_eq_true rfl, Nat.le_of_ble_eq_true rfl⟩ (g_nz (zv_ok ev21)) dX1_readStatement_58
    · refine g_if_eq_f c4 (tgt := 25) rfl dX1_readStatement_15 ?_
      refine g_aload_n 0 rfl rfl dX1_readStatement_18 ?_
      refine g_aload_n 1 rfl rfl dX1_readStatement_19 ?_
      refine g_aload_n 2 rfl rfl dX1_readStatement_20 ?_
      obtain ⟨v22, ev22, h⟩ := g_bnd h
      refine g_callV LX1_54 sC_36 rfl (kX1_readNewTask ht2 ev22) rfl rfl (Nat.le_of_ble_eq_true rfl) ⟨Nat.le_of_ble_eq_true rfl, Nat.le_of_ble_eq_true rfl⟩ ⟨Nat.le_of_ble_eq_true rfl, Nat.le_of_ble_eq_true rfl⟩ dX1_readStatement_21 rfl ?_
      obtain ⟨v23, ev23, h⟩ := g_bnd h
      refine g_zv ev23 ?_
      cases h
      exact g_iret O ⟨Nat.le_of_ble_eq_true rfl, Nat.le_of_ble_eq_true rfl⟩ (g_nz (zv_ok ev23)) dX1_readStatement_24
theorem kX1_readStatement {l : Launch} {V : gEnv} {M0 : gMem} {t2 : Nat} (ht2 : gNet gShC t2) {o : (Int32 × gMem)} (h : fX1_readStatement t2 M0 = some o) : gM l yX1_readStatement cX1_readStatement 4 (some .boolean) rX1_readStatement V gShC [.ref (gAd V 36), .ref (gAd V 32), .ref (gAd V t2), .ref (gAd V 41)] M0 (some (.int o.1)) o.2 :=
  gM.of (by decide) (Nat.le_of_ble_eq_true rfl) rfl (fun X _ O => tX1_readStatement ht2 h O)
theorem dX5_isAtEnd_0 : decode cX5_isAtEnd 0 = .ok (.aload_n 0, 1) := by decide +kernel
theorem dX5_isAtEnd_1 : decode cX5_isAtEnd 1 = .ok (.getfield 19, 3) := by decide +kernel
theorem dX5_isAtEnd_4 : decode cX5_isAtEnd 4 = .ok (.aload_n 0, 1) := by decide +kernel
theorem dX5_isAtEnd_5 : decode cX5_isAtEnd 5 = .ok (.getfield 15, 3) := by decide +kernel
theorem dX5_isAtEnd_8 : decode cX5_isAtEnd 8 = .ok (.if_icmp .lt 7, 3) := by decide +kernel
theorem dX5_isAtEnd_11 : decode cX5_isAtEnd 11 = .ok (.iconst 1, 1) := by decide +kernel
theorem dX5_isAtEnd_12 : decode cX5_isAtEnd 12 = .ok (.goto 4, 3) := by decide +kernel
theorem dX5_isAtEnd_15 : decode cX5_isAtEnd 15 = .ok (.iconst 0, 1) := by decide +kernel
theorem dX5_isAtEnd_16 : decode cX5_isAtEnd 16 = .ok (.ireturn, 1) := by decide +kernel
abbrev rX5_isAtEnd : Room := { frames := 0, cells := 0, slots := 0, locals := 0 }
abbrev mX5_isAtEnd : gY := (cX5_isAtEnd, RX5, 1, rX5_isAtEnd)
def fX5_isAtEnd (M0 : gMem) : Option Int32 :=
  some (if (M0.1 32 2) < (M0.1 32 1) then (0 : Int32) else (1 : Int32))
set_option maxRecDepth 20000 in
theorem tX5_isAtEnd {X : gX} {V : gEnv} {M0 : gMem}  {o : Int32} (h : fX5_isAtEnd M0 = some o) (O : gO X V mX5_isAtEnd gShC (some .boolean) (some (.int o)) M0) : gG X V mX5_isAtEnd gShC M0 0 0 0 [(0, .ref (gAd V 32))] [] := by
  unfold fX5_isAtEnd at h
  refine g_aload_n 0 rfl rfl dX5_isAtEnd_0 ?_
  refine g_getI FX5_19 sC_32 rfl dX5_isAtEnd_1 ?_
  refine g_aload_n 0 rfl rfl dX5_isAtEnd_4 ?_
  refine g_getI FX5_15 sC_32 rfl dX5_isAtEnd_5 ?_
  have KJ : gG X V mX5_isAtEnd gShC M0 0 0 16 [(0, .ref (gAd V 32))] [.int (if (M0.1 32 2) < (M0.1 32 1) then (0 : Int32) else (1 : Int32))] := by
    cases h
    exact g_iret O ⟨Nat.le_of_ble_eq_true rfl, Nat.le_of_ble_eq_true rfl⟩ (by split <;> rfl) dX5_isAtEnd_16
  by_cases c1 : (M0.1 32 2) < (M0.1 32 1)
  · rw [if_pos c1] at KJ
    refine g_icmp_lt_t c1 (tgt := 15) rfl dX5_isAtEnd_8 ?_
    refine g_iconst (v := 0) rfl dX5_isAtEnd_15 ?_
    exact KJ
  · rw [if_neg c1] at KJ
    refine g_icmp_lt_f c1 (tgt := 15) rfl dX5_isAtEnd_8 ?_
    refine g_iconst (v := 1) rfl dX5_isAtEnd_11 ?_
    refine g_goto (tgt := 16) rfl dX5_isAtEnd_12 ?_
    exact KJ
theorem kX5_isAtEnd {l : Launch} {V : gEnv} {M0 : gMem}   {o : Int32} (h : fX5_isAtEnd M0 = some o) : gM l yX5_isAtEnd cX5_isAtEnd 1 (some .boolean) rX5_isAtEnd V gShC [.ref (gAd V 32)] M0 (some (.int o)) M0 :=
  gM.of (by decide) (Nat.le_of_ble_eq_true rfl) rfl (fun X _ O => tX5_isAtEnd  h O)
theorem dX5_readSemicolon_0 : decode cX5_readSemicolon 0 = .ok (.aload_n 0, 1) := by decide +kernel
theorem dX5_readSemicolon_1 : decode cX5_readSemicolon 1 = .ok (.invokevirtual 31, 3) := by decide +kernel
theorem dX5_readSemicolon_4 : decode cX5_readSemicolon 4 = .ok (.aload_n 0, 1) := by decide +kernel
theorem dX5_readSemicolon_5 : decode cX5_readSemicolon 5 = .ok (.invokevirtual 73, 3) := by decide +kernel
theorem dX5_readSemicolon_8 : decode cX5_readSemicolon 8 = .ok (.ifCond .ne 17, 3) := by decide +kernel
theorem dX5_readSemicolon_11 : decode cX5_readSemicolon 11 = .ok (.aload_n 0, 1) := by decide +kernel
theorem dX5_readSemicolon_12 : decode cX5_readSemicolon 12 = .ok (.getfield 9, 3) := by decide +kernel
theorem dX5_readSemicolon_15 : decode cX5_readSemicolon 15 = .ok (.aload_n 0, 1) := by decide +kernel
theorem dX5_readSemicolon_16 : decode cX5_readSemicolon 16 = .ok (.getfield 19, 3) := by decide +kernel
theorem dX5_readSemicolon_19 : decode cX5_readSemicolon 19 = .ok (.baload, 1) := by decide +kernel
theorem dX5_readSemicolon_20 : decode cX5_readSemicolon 20 = .ok (.bipush 59, 2) := by decide +kernel
theorem dX5_readSemicolon_22 : decode cX5_readSemicolon 22 = .ok (.if_icmp .eq 13, 3) := by decide +kernel
theorem dX5_readSemicolon_25 : decode cX5_readSemicolon 25 = .ok (.aload_n 0, 1) := by decide +kernel
theorem dX5_readSemicolon_26 : decode cX5_readSemicolon 26 = .ok (.iconst 1, 1) := by decide +kernel
theorem dX5_readSemicolon_27 : decode cX5_readSemicolon 27 = .ok (.aload_n 0, 1) := by decide +kernel
theorem dX5_readSemicolon_28 : decode cX5_readSemicolon 28 = .ok (.getfield 19, 3) := by decide +kernel
theorem dX5_readSemicolon_31 : decode cX5_readSemicolon 31 = .ok (.invokevirtual 38, 3) := by decide +kernel
theorem dX5_readSemicolon_34 : decode cX5_readSemicolon 34 = .ok (.ireturn, 1) := by decide +kernel
theorem dX5_readSemicolon_35 : decode cX5_readSemicolon 35 = .ok (.aload_n 0, 1) := by decide +kernel
theorem dX5_readSemicolon_36 : decode cX5_readSemicolon 36 = .ok (.dup, 1) := by decide +kernel
theorem dX5_readSemicolon_37 : decode cX5_readSemicolon 37 = .ok (.getfield 19, 3) := by decide +kernel
theorem dX5_readSemicolon_40 : decode cX5_readSemicolon 40 = .ok (.iconst 1, 1) := by decide +kernel
theorem dX5_readSemicolon_41 : decode cX5_readSemicolon 41 = .ok (.iadd, 1) := by decide +kernel
theorem dX5_readSemicolon_42 : decode cX5_readSemicolon 42 = .ok (.putfield 19, 3) := by decide +kernel
theorem dX5_readSemicolon_45 : decode cX5_readSemicolon 45 = .ok (.iconst 1, 1) := by decide +kernel
theorem dX5_readSemicolon_46 : decode cX5_readSemicolon 46 = .ok (.ireturn, 1) := by decide +kernel
abbrev rX5_readSemicolon : Room := { frames := 1, cells := 0, slots := 0, locals := 22 }
abbrev mX5_readSemicolon : gY := (cX5_readSemicolon, RX5, 1, rX5_readSemicolon)
def fX5_readSemicolon_b25 (M0 : gMem) : Option (Int32 × gMem) :=
  (fX5_fail (1 : Int32) (M0.1 32 2) M0).bind fun v7 => (zv v7.1).bind fun v8 => some (v8, v7.2)
set_option maxRecDepth 20000 in
theorem tX5_readSemicolon_b25 {X : gX} {V : gEnv} {M0 : gMem}  {o : (Int32 × gMem)} (h : fX5_readSemicolon_b25 M0 = some o) (O : gO X V mX5_readSemicolon gShC (some .boolean) (some (.int o.1)) o.2) : gG X V mX5_readSemicolon gShC M0 0 0 25 [(0, .ref (gAd V 32))] [] := by
  unfold fX5_readSemicolon_b25 at h
  refine g_aload_n 0 rfl rfl dX5_readSemicolon_25 ?_
  refine g_iconst (v := 1) rfl dX5_readSemicolon_26 ?_
  refine g_aload_n 0 rfl rfl dX5_readSemicolon_27 ?_
  refine g_getI FX5_19 sC_32 rfl dX5_readSemicolon_28 ?_
  obtain ⟨v7, ev7, h⟩ := g_bnd h
  refine g_callV LX5_38 sC_32 rfl (kX5_fail ev7) rfl rfl (Nat.le_of_ble_eq_true rfl) ⟨Nat.le_of_ble_eq_true rfl, Nat.le_of_ble_eq_true rfl⟩ ⟨Nat.le_of_ble_eq_true rfl, Nat.le_of_ble_eq_true rfl⟩ dX5_readSemicolon_31 rfl ?_
  obtain ⟨v8, ev8, h⟩ := g_bnd h
  refine g_zv ev8 ?_
  cases h
  exact g_iret O ⟨Nat.le_of_ble_eq_true rfl, Nat.le_of_ble_eq_true rfl⟩ (g_nz (zv_ok ev8)) dX5_readSemicolon_34
def fX5_readSemicolon (M0 : gMem) : Option (Int32 × gMem) :=
  (fX5_skipSpaces M0).bind fun v1 => (fX5_isAtEnd v1).bind fun v2 => if v2 = 0 then ((rI v1 33 900 (v1.1 32 2)).bind fun v4 => if v4 = (59 : Int32) then ((wF v1 32 2 ((v1.1 32 2) + (1 : Int32))).bind fun M6 => some ((1 : Int32), M6)) else fX5_readSemicolon_b25 v1) else fX5_readSemicolon_b25 v1
set_option maxRecDepth 20000 in
theorem tX5_readSemicolon {X : gX} {V : gEnv} {M0 : gMem}  {o : (Int32 × gMem)} (h : fX5_readSemicolon M0 = some o) (O : gO X V mX5_readSemicolon gShC (some .boolean) (some (.int o.1)) o.2) : gG X V mX5_readSemicolon gShC M0 0 0 0 [(0, .ref (gAd V 32))] [] := by
  unfold fX5_readSemicolon at h
  refine g_aload_n 0 rfl rfl dX5_readSemicolon_0 ?_
  obtain ⟨v1, ev1, h⟩ := g_bnd h
  refine g_callV LX5_31 sC_32 rfl (kX5_skipSpaces ev1) rfl rfl (Nat.le_of_ble_eq_true rfl) ⟨Nat.le_of_ble_eq_true rfl, Nat.le_of_ble_eq_true rfl⟩ ⟨Nat.le_of_ble_eq_true rfl, Nat.le_of_ble_eq_true rfl⟩ dX5_readSemicolon_1 rfl ?_
  refine g_aload_n 0 rfl rfl dX5_readSemicolon_4 ?_
  obtain ⟨v2, ev2, h⟩ := g_bnd h
  refine g_callV LX5_73 sC_32 rfl (kX5_isAtEnd ev2) rfl rfl (Nat.le_of_ble_eq_true rfl) ⟨Nat.le_of_ble_eq_true rfl, Nat.le_of_ble_eq_true rfl⟩ ⟨Nat.le_of_ble_eq_true rfl, Nat.le_of_ble_eq_true rfl⟩ dX5_readSemicolon_5 rfl ?_
  rcases g_ite h with ⟨c3, h⟩ | ⟨c3, h⟩
  · refine g_if_ne_f c3 (tgt := 25) rfl dX5_readSemicolon_8 ?_
    refine g_aload_n 0 rfl rfl dX5_readSemicolon_11 ?_
    refine g_getR FX5_9 sC_32 rfl dX5_readSemicolon_12 ?_
    refine g_aload_n 0 rfl rfl dX5_readSemicolon_15 ?_
    refine g_getI FX5_19 sC_32 rfl dX5_readSemicolon_16 ?_
    obtain ⟨v4, ev4, h⟩ := g_bnd h
    refine g_bald' ev4 sC_33 dX5_readSemicolon_19 ?_
    refine g_bipush (v := 59) rfl dX5_readSemicolon_20 ?_
    rcases g_ite h with ⟨c5, h⟩ | ⟨c5, h⟩
    · refine g_icmp_eq_t c5 (tgt := 35) rfl dX5_readSemicolon_22 ?_
      refine g_aload_n 0 rfl rfl dX5_readSemicolon_35 ?_
      refine g_dup rfl dX5_readSemicolon_36 ?_
      refine g_getI FX5_19 sC_32 rfl dX5_readSemicolon_37 ?_
      refine g_iconst (v := 1) rfl dX5_readSemicolon_40 ?_
      refine g_iadd dX5_readSemicolon_41 ?_
      obtain ⟨M6, eM6, h⟩ := g_bnd h
      refine g_putI' eM6 FX5_19 jX5 sC_32 rfl rfl rfl dX5_readSemicolon_42 ?_
      refine g_iconst (v := 1) rfl dX5_readSemicolon_45 ?_
      cases h
      exact g_iret O ⟨Nat.le_of_ble_eq_true rfl, Nat.le_of_ble_eq_true rfl⟩ rfl dX5_readSemicolon_46
    · refine g_icmp_eq_f c5 (tgt := 35) rfl dX5_readSemicolon_22 ?_
      exact tX5_readSemicolon_b25  h O
  · refine g_if_ne_t c3 (tgt := 25) rfl dX5_readSemicolon_8 ?_
    exact tX5_readSemicolon_b25  h O
theorem kX5_readSemicolon {l : Launch} {V : gEnv} {M0 : gMem}   {o : (Int32 × gMem)} (h : fX5_readSemicolon M0 = some o) : gM l yX5_readSemicolon cX5_readSemicolon 1 (some .boolean) rX5_readSemicolon V gShC [.ref (gAd V 32)] M0 (some (.int o.1)) o.2 :=
  gM.of (by decide) (Nat.le_of_ble_eq_true rfl) rfl (fun X _ O => tX5_readSemicolon  h O)
theorem dX1_readAll_0 : decode cX1_readAll 0 = .ok (.aload_n 2, 1) := by decide +kernel
theorem dX1_readAll_1 : decode cX1_readAll 1 = .ok (.invokevirtual 18, 3) := by decide +kernel
theorem dX1_readAll_4 : decode cX1_readAll 4 = .ok (.aload_n 0, 1) := by decide +kernel
theorem dX1_readAll_5 : decode cX1_readAll 5 = .ok (.iconst 0, 1) := by decide +kernel
theorem dX1_readAll_6 : decode cX1_readAll 6 = .ok (.putfield 9, 3) := by decide +kernel
theorem dX1_readAll_9 : decode cX1_readAll 9 = .ok (.aload_n 0, 1) := by decide +kernel
theorem dX1_readAll_10 : decode cX1_readAll 10 = .ok (.iconst 0, 1) := by decide +kernel
theorem dX1_readAll_11 : decode cX1_readAll 11 = .ok (.putfield 15, 3) := by decide +kernel
theorem dX1_readAll_14 : decode cX1_readAll 14 = .ok (.aload_n 1, 1) := by decide +kernel
theorem dX1_readAll_15 : decode cX1_readAll 15 = .ok (.invokevirtual 23, 3) := by decide +kernel
theorem dX1_readAll_18 : decode cX1_readAll 18 = .ok (.iconst 1, 1) := by decide +kernel
theorem dX1_readAll_19 : decode cX1_readAll 19 = .ok (.istore 4, 2) := by decide +kernel
theorem dX1_readAll_21 : decode cX1_readAll 21 = .ok (.iconst 0, 1) := by decide +kernel
theorem dX1_readAll_22 : decode cX1_readAll 22 = .ok (.istore 5, 2) := by decide +kernel
theorem dX1_readAll_24 : decode cX1_readAll 24 = .ok (.iload 5, 2) := by decide +kernel
theorem dX1_readAll_26 : decode cX1_readAll 26 = .ok (.sipush 900, 3) := by decide +kernel
theorem dX1_readAll_29 : decode cX1_readAll 29 = .ok (.if_icmp .ge 58, 3) := by decide +kernel
theorem dX1_readAll_32 : decode cX1_readAll 32 = .ok (.iload 4, 2) := by decide +kernel
theorem dX1_readAll_34 : decode cX1_readAll 34 = .ok (.ifCond .eq 53, 3) := by decide +kernel
theorem dX1_readAll_37 : decode cX1_readAll 37 = .ok (.aload_n 0, 1) := by decide +kernel
theorem dX1_readAll_38 : decode cX1_readAll 38 = .ok (.aload_n 1, 1) := by decide +kernel
theorem dX1_readAll_39 : decode cX1_readAll 39 = .ok (.aload_n 2, 1) := by decide +kernel
theorem dX1_readAll_40 : decode cX1_readAll 40 = .ok (.aload_n 3, 1) := by decide +kernel
theorem dX1_readAll_41 : decode cX1_readAll 41 = .ok (.invokevirtual 28, 3) := by decide +kernel
theorem dX1_readAll_44 : decode cX1_readAll 44 = .ok (.ifCond .ne 5, 3) := by decide +kernel
theorem dX1_readAll_47 : decode cX1_readAll 47 = .ok (.iconst 0, 1) := by decide +kernel
theorem dX1_readAll_48 : decode cX1_readAll 48 = .ok (.ireturn, 1) := by decide +kernel
theorem dX1_readAll_49 : decode cX1_readAll 49 = .ok (.aload_n 1, 1) := by decide +kernel
theorem dX1_readAll_50 : decode cX1_readAll 50 = .ok (.invokevirtual 32, 3) := by decide +kernel
theorem dX1_readAll_53 : decode cX1_readAll 53 = .ok (.aload_n 1, 1) := by decide +kernel
theorem dX1_readAll_54 : decode cX1_readAll 54 = .ok (.invokevirtual 35, 3) := by decide +kernel
theorem dX1_readAll_57 : decode cX1_readAll 57 = .ok (.ifCond .ne 7, 3) := by decide +kernel
theorem dX1_readAll_60 : decode cX1_readAll 60 = .ok (.iconst 1, 1) := by decide +kernel
theorem dX1_readAll_61 : decode cX1_readAll 61 = .ok (.goto 4, 3) := by decide +kernel
theorem dX1_readAll_64 : decode cX1_readAll 64 = .ok (.iconst 0, 1) := by decide +kernel
theorem dX1_readAll_65 : decode cX1_readAll 65 = .ok (.istore 4, 2) := by decide +kernel
theorem dX1_readAll_67 : decode cX1_readAll 67 = .ok (.iload 4, 2) := by decide +kernel
theorem dX1_readAll_69 : decode cX1_readAll 69 = .ok (.ifCond .eq 12, 3) := by decide +kernel
theorem dX1_readAll_72 : decode cX1_readAll 72 = .ok (.aload_n 1, 1) := by decide +kernel
theorem dX1_readAll_73 : decode cX1_readAll 73 = .ok (.invokevirtual 39, 3) := by decide +kernel
theorem dX1_readAll_76 : decode cX1_readAll 76 = .ok (.ifCond .ne 5, 3) := by decide +kernel
theorem dX1_readAll_79 : decode cX1_readAll 79 = .ok (.iconst 0, 1) := by decide +kernel
theorem dX1_readAll_80 : decode cX1_readAll 80 = .ok (.ireturn, 1) := by decide +kernel
theorem dX1_readAll_81 : decode cX1_readAll 81 = .ok (.iinc 5 1, 3) := by decide +kernel
theorem dX1_readAll_84 : decode cX1_readAll 84 = .ok (.goto (-60), 3) := by decide +kernel
theorem dX1_readAll_87 : decode cX1_readAll 87 = .ok (.aload_n 2, 1) := by decide +kernel
theorem dX1_readAll_88 : decode cX1_readAll 88 = .ok (.invokevirtual 42, 3) := by decide +kernel
theorem dX1_readAll_91 : decode cX1_readAll 91 = .ok (.iconst 1, 1) := by decide +kernel
theorem dX1_readAll_92 : decode cX1_readAll 92 = .ok (.ireturn, 1) := by decide +kernel
abbrev rX1_readAll : Room := { frames := 6, cells := 0, slots := 0, locals := 165 }
abbrev mX1_readAll : gY := (cX1_readAll, RX1, 6, rX1_readAll)
def fX1_readAll_b81 (t2 : Nat) (x4 : Int32) (x5 : Int32) (M0 : gMem) : Option ((Int32 × Int32 × gMem) ⊕ (gMem ⊕ (Int32 × gMem))) :=
  some (.inl (x4, x5 + (1 : Int32), M0))
set_option maxRecDepth 20000 in
theorem tX1_readAll_b81 {X : gX} {V : gEnv} {t2 : Nat} {x4 : Int32} {x5 : Int32} {M0 : gMem} (ht2 : gNet gShC t2) {o : ((Int32 × Int32 × gMem) ⊕ (gMem ⊕ (Int32 × gMem)))} (h : fX1_readAll_b81 t2 x4 x5 M0 = some o) (Kc : ∀ s9, o = .inl s9 → gG X V mX1_readAll gShC s9.2.2 0 0 24 [(0, .ref (gAd V 36)), (1, .ref (gAd V 32)), (2, .ref (gAd V t2)), (3, .ref (gAd V 41)), (4, .int s9.1), (5, .int s9.2.1)] []) (Kx : ∀ e9, o = .inr (.inl e9) → gG X V mX1_readAll gShC e9 0 0 87 [(2, .ref (gAd V t2))] []) (Kr : ∀ r9, o = .inr (.inr r9) → gO X V mX1_readAll gShC (some .boolean) (some (.int r9.1)) r9.2) : gG X V mX1_readAll gShC M0 0 0 81 [(0, .ref (gAd V 36)), (1, .ref (gAd V 32)), (2, .ref (gAd V t2)), (3, .ref (gAd V 41)), (4, .int x4), (5, .int x5)] [] := by
  unfold fX1_readAll_b81 at h
  refine g_iinc (j := 5) (v := x5 + (1 : Int32)) (ls' := [(5, .int (x5 + (1 : Int32))), (0, .ref (gAd V 36)), (1, .ref (gAd V 32)), (2, .ref (gAd V t2)), (3, .ref (gAd V 41)), (4, .int x4)]) rfl rfl (Nat.le_of_ble_eq_true rfl) rfl dX1_readAll_81 ?_
  refine g_goto (tgt := 24) rfl dX1_readAll_84 ?_
  cases h
  refine g_sub [1, 2, 3, 4, 5, 0] rfl ?_
  exact Kc (x4, x5 + (1 : Int32), M0) rfl
def fX1_readAll_l24 (t2 : Nat) (x4 : Int32) (x5 : Int32) (M0 : gMem) : Option ((Int32 × Int32 × gMem) ⊕ (gMem ⊕ (Int32 × gMem))) :=
  if (900 : Int32) ≤ x5 then (some (.inr (.inl M0))) else if x4 = 0 then (some (.inr (.inl M0))) else (fX1_readStatement t2 M0).bind fun v7 => if v7.1 = 0 then (some (.inr (.inr ((0 : Int32), v7.2)))) else (fX5_skipSpaces v7.2).bind fun v9 => (fX5_isAtEnd v9).bind fun v10 => (nm (if v10 = 0 then (1 : Int32) else (0 : Int32))).bind fun v12 => if v12 = 0 then (fX1_readAll_b81 t2 v12 x5 v9) else (fX5_readSemicolon v9).bind fun v14 => if v14.1 = 0 then (some (.inr (.inr ((0 : Int32), v14.2)))) else fX1_readAll_b81 t2 v12 x5 v14.2
set_option maxRecDepth 20000 in
theorem tX1_readAll_l24 {X : gX} {V : gEnv} {t2 : Nat} {x4 : Int32} {x5 : Int32} {M0 : gMem} (ht2 : gNet gShC t2) {o : ((Int32 × Int32 × gMem) ⊕ (gMem ⊕ (Int32 × gMem)))} (h : fX1_readAll_l24 t2 x4 x5 M0 = some o) (Kc : ∀ s9, o = .inl s9 → gG X V mX1_readAll gShC s9.2.2 0 0 24 [(0, .ref (gAd V 36)), (1, .ref (gAd V 32)), (2, .ref (gAd V t2)), (3, .ref (gAd V 41)), (4, .int s9.1), (5, .int s9.2.1)] []) (Kx : ∀ e9, o = .inr (.inl e9) → gG X V mX1_readAll gShC e9 0 0 87 [(2, .ref (gAd V t2))] []) (Kr : ∀ r9, o = .inr (.inr r9) → gO X V mX1_readAll gShC (some .boolean) (some (.int r9.1)) r9.2) : gG X V mX1_readAll gShC M0 0 0 24 [(0, .ref (gAd V 36)), (1, .ref (gAd V 32)), (2, .ref (gAd V t2)), (3, .ref (gAd V 41)), (4, .int x4), (5, .int x5)] [] := by
  unfold fX1_readAll_l24 at h
  refine g_iload 5 rfl dX1_readAll_24 ?_
  refine g_sipush (v := 900) rfl dX1_readAll_26 ?_
  rcases g_ite h with ⟨c5, h⟩ | ⟨c5, h⟩
  · refine g_icmp_ge_t c5 (tgt := 87) rfl dX1_readAll_29 ?_
    cases h
    refine g_sub [2] rfl ?_
    exact Kx M0 rfl
  · refine g_icmp_ge_f c5 (tgt := 87) rfl dX1_readAll_29 ?_
    refine g_iload 4 rfl dX1_readAll_32 ?_
    rcases g_ite h with ⟨c6, h⟩ | ⟨c6, h⟩
    · refine g_if_eq_t c6 (tgt := 87) rfl dX1_readAll_34 ?_
      cases h
      refine g_sub [2] rfl ?_
      exact Kx M0 rfl
    · refine g_if_eq_f c6 (tgt := 87) rfl dX1_readAll_34 ?_
      refine g_aload_n 0 rfl rfl dX1_readAll_37 ?_
      refine g_aload_n 1 rfl rfl dX1_readAll_38 ?_
      refine g_aload_n 2 rfl rfl dX1_readAll_39 ?_
      refine g_aload_n 3 rfl rfl dX1_readAll_40 ?_
      obtain ⟨v7, ev7, h⟩ := g_bnd h
      refine g_callV LX1_28 sC_36 rfl (kX1_readStatement ht2 ev7) rfl rfl (Nat.le_of_ble_eq_true rfl) ⟨Nat.le_of_ble_eq_true rfl, Nat.le_of_ble_eq_true rfl⟩ ⟨Nat.le_of_ble_eq_true rfl, Nat.le_of_ble_eq_true rfl⟩ dX1_readAll_41 rfl ?_
      rcases g_ite h with ⟨c8, h⟩ | ⟨c8, h⟩
      · refine g_if_ne_f c8 (tgt := 49) rfl dX1_readAll_44 ?_
        refine g_iconst (v := 0) rfl dX1_readAll_47 ?_
        cases h
        exact g_iret (Kr ((0 : Int32), v7.2) rfl) ⟨Nat.le_of_ble_eq_true rfl, Nat.le_of_ble_eq_true rfl⟩ rfl dX1_readAll_48
      · refine g_if_ne_t c8 (tgt := 49) rfl dX1_readAll_44 ?_
        refine g_aload_n 1 rfl rfl dX1_readAll_49 ?_
        obtain ⟨v9, ev9, h⟩ := g_bnd h
        refine g_callV LX1_32 sC_32 rfl (kX5_skipSpaces ev9) rfl rfl (Nat.le_of_ble_eq_true rfl) ⟨Nat.le_of_ble_eq_true rfl, Nat.le_of_ble_eq_true rfl⟩ ⟨Nat.le_of_ble_eq_true rfl, Nat.le_of_ble_eq_true rfl⟩ dX1_readAll_50 rfl ?_
        refine g_aload_n 1 rfl rfl dX1_readAll_53 ?_
        obtain ⟨v10, ev10, h⟩ := g_bnd h
        refine g_callV LX1_35 sC_32 rfl (kX5_isAtEnd ev10) rfl rfl (Nat.le_of_ble_eq_true rfl) ⟨Nat.le_of_ble_eq_true rfl, Nat.le_of_ble_eq_true rfl⟩ ⟨Nat.le_of_ble_eq_true rfl, Nat.le_of_ble_eq_true rfl⟩ dX1_readAll_54 rfl ?_
        have KJ : gG X V mX1_readAll gShC v9 0 0 65 [(0, .ref (gAd V 36)), (1, .ref (gAd V 32)), (2, .ref (gAd V t2)), (3, .ref (gAd V 41)), (4, .int x4), (5, .int x5)] [.int (if v10 = 0 then (1 : Int32) else (0 : Int32))] := by
          obtain ⟨v12, ev12, h⟩ := g_bnd h
          refine g_nmI ev12 ?_
          refine g_istore (ls' := [(4, .int v12), (0, .ref (gAd V 36)), (1, .ref (gAd V 32)), (2, .ref (gAd V t2)), (3, .ref (gAd V 41)), (5, .int x5)]) (Nat.le_of_ble_eq_true rfl) rfl dX1_readAll_65 ?_
          refine g_iload 0 rfl dX1_readAll_67 ?_
          rcases g_ite h with ⟨c13, h⟩ | ⟨c13, h⟩
          · refine g_if_eq_t c13 (tgt := 81) rfl dX1_readAll_69 ?_
            refine g_sub [1, 2, 3, 4, 0, 5] rfl ?_
            exact tX1_readAll_b81 ht2 h Kc Kx Kr
          · refine g_if_eq_f c13 (tgt := 81) rfl dX1_readAll_69 ?_
            refine g_aload_n 2 rfl rfl dX1_readAll_72 ?_
            obtain ⟨v14, ev14, h⟩ := g_bnd h
            refine g_callV LX1_39 sC_32 rfl (kX5_readSemicolon ev14) rfl rfl (Nat.le_of_ble_eq_true rfl) ⟨Nat.le_of_ble_eq_true rfl, Nat.le_of_ble_eq_true rfl⟩ ⟨Nat.le_of_ble_eq_true rfl, Nat.le_of_ble_eq_true rfl⟩ dX1_readAll_73 rfl ?_
            rcases g_ite h with ⟨c15, h⟩ | ⟨c15, h⟩
            · refine g_if_ne_f c15 (tgt := 81) rfl dX1_readAll_76 ?_
              refine g_iconst (v := 0) rfl dX1_readAll_79 ?_
              cases h
              exact g_iret (Kr ((0 : Int32), v14.2) rfl) ⟨Nat.le_of_ble_eq_true rfl, Nat.le_of_ble_eq_true rfl⟩ rfl dX1_readAll_80
            · refine g_if_ne_t c15 (tgt := 81) rfl dX1_readAll_76 ?_
              refine g_sub [1, 2, 3, 4, 0, 5] rfl ?_
              exact tX1_readAll_b81 ht2 h Kc Kx Kr
        by_cases c11 : v10 = 0
        · rw [if_pos c11] at KJ
          refine g_if_ne_f c11 (tgt := 64) rfl dX1_readAll_57 ?_
          refine g_iconst (v := 1) rfl dX1_readAll_60 ?_
          refine g_goto (tgt := 65) rfl dX1_readAll_61 ?_
          exact KJ
        · rw [if_neg c11] at KJ
          refine g_if_ne_t c11 (tgt := 64) rfl dX1_readAll_57 ?_
          refine g_iconst (v := 0) rfl dX1_readAll_64 ?_
          exact KJ
def fX1_readAll_b87 (t2 : Nat) (M0 : gMem) : Option (Int32 × gMem) :=
  (fX2_clearAccounts t2 M0).bind fun v18 => some ((1 : Int32), v18)
set_option maxRecDepth 20000 in
theorem tX1_readAll_b87 {X : gX} {V : gEnv} {t2 : Nat} {M0 : gMem} (ht2 : gNet gShC t2) {o : (Int32 × gMem)} (h : fX1_readAll_b87 t2 M0 = some o) (O : gO X V mX1_readAll gShC (some .boolean) (some (.int o.1)) o.2) : gG X V mX1_readAll gShC M0 0 0 87 [(2, .ref (gAd V t2))] [] := by
  unfold fX1_readAll_b87 at h
  refine g_aload_n 0 rfl rfl dX1_readAll_87 ?_
  obtain ⟨v18, ev18, h⟩ := g_bnd h
  refine g_callV LX1_42 ht2.1 rfl (kX2_clearAccounts ht2 ev18) rfl rfl (Nat.le_of_ble_eq_true rfl) ⟨Nat.le_of_ble_eq_true rfl, Nat.le_of_ble_eq_true rfl⟩ ⟨Nat.le_of_ble_eq_true rfl, Nat.le_of_ble_eq_true rfl⟩ dX1_readAll_88 rfl ?_
  refine g_iconst (v := 1) rfl dX1_readAll_91 ?_
  cases h
  exact g_iret O ⟨Nat.le_of_ble_eq_true rfl, Nat.le_of_ble_eq_true rfl⟩ rfl dX1_readAll_92
def fX1_readAll (t2 : Nat) (M0 : gMem) : Option (Int32 × gMem) :=
  (fX2_clear t2 M0).bind fun v1 => (wZ v1 36 0 (0 : Int32)).bind fun M2 => (wZ M2 36 1 (0 : Int32)).bind fun M3 => (fX5_begin M3).bind fun v4 => (gLoop (fun z9 => fX1_readAll_l24 t2 z9.1 z9.2.1 z9.2.2) gFu ((1 : Int32), (0 : Int32), v4)).bind fun w16 => gSE w16 (fun y17 => fX1_readAll_b87 t2 y17) (fun r19 => some r19)
set_option maxRecDepth 20000 in
theorem tX1_readAll {X : gX} {V : gEnv} {t2 : Nat} {M0 : gMem} (ht2 : gNet gShC t2) {o : (Int32 × gMem)} (h : fX1_readAll t2 M0 = some o) (O : gO X V mX1_readAll gShC (some .boolean) (some (.int o.1)) o.2) : gG X V mX1_readAll gShC M0 0 0 0 [(0, .ref (gAd V 36)), (1, .ref (gAd V 32)), (2, .ref (gAd V t2)), (3, .ref (gAd V 41))] [] := by
  unfold fX1_readAll at h
  refine g_aload_n 2 rfl rfl dX1_readAll_0 ?_
  obtain ⟨v1, ev1, h⟩ := g_bnd h
  refine g_callV LX1_18 ht2.1 rfl (kX2_clear ht2 ev1) rfl rfl (Nat.le_of_ble_eq_true rfl) ⟨Nat.le_of_ble_eq_true rfl, Nat.le_of_ble_eq_true rfl⟩ ⟨Nat.le_of_ble_eq_true rfl, Nat.le_of_ble_eq_true rfl⟩ dX1_readAll_1 rfl ?_
  refine g_aload_n 0 rfl rfl dX1_readAll_4 ?_
  refine g_iconst (v := 0) rfl dX1_readAll_5 ?_
  obtain ⟨M2, eM2, h⟩ := g_bnd h
  refine g_putZ' eM2 FX1_9 jX1 sC_36 rfl rfl rfl dX1_readAll_6 ?_
  refine g_aload_n 0 rfl rfl dX1_readAll_9 ?_
  refine g_iconst (v := 0) rfl dX1_readAll_10 ?_
  obtain ⟨M3, eM3, h⟩ := g_bnd h
  refine g_putZ' eM3 FX1_15 jX1 sC_36 rfl rfl rfl dX1_readAll_11 ?_
  refine g_aload_n 1 rfl rfl dX1_readAll_14 ?_
  obtain ⟨v4, ev4, h⟩ := g_bnd h
  refine g_callV LX1_23 sC_32 rfl (kX5_begin ev4) rfl rfl (Nat.le_of_ble_eq_true rfl) ⟨Nat.le_of_ble_eq_true rfl, Nat.le_of_ble_eq_true rfl⟩ ⟨Nat.le_of_ble_eq_true rfl, Nat.le_of_ble_eq_true rfl⟩ dX1_readAll_15 rfl ?_
  refine g_iconst (v := 1) rfl dX1_readAll_18 ?_
  refine g_istore (ls' := [(4, .int (1 : Int32)), (0, .ref (gAd V 36)), (1, .ref (gAd V 32)), (2, .ref (gAd V t2)), (3, .ref (gAd V 41))]) (Nat.le_of_ble_eq_true rfl) rfl dX1_readAll_19 ?_
  refine g_iconst (v := 0) rfl dX1_readAll_21 ?_
  refine g_istore (ls' := [(5, .int (0 : Int32)), (4, .int (1 : Int32)), (0, .ref (gAd V 36)), (1, .ref (gAd V 32)), (2, .ref (gAd V t2)), (3, .ref (gAd V 41))]) (Nat.le_of_ble_eq_true rfl) rfl dX1_readAll_22 ?_
  obtain ⟨w16, ew16, h⟩ := g_bnd h
  refine g_sub [2, 3, 4, 5, 1, 0] rfl ?_
  rcases w16 with y17 | r19
  · have h := g_sl h
    have KX : gG X V mX1_readAll gShC y17 0 0 87 [(2, .ref (gAd V t2))] [] := by
      exact tX1_readAll_b87 ht2 h O
    exact gLoop_Q ew16 (fun z9 => gG X V mX1_readAll gShC z9.2.2 0 0 24 [(0, .ref (gAd V 36)), (1, .ref (gAd V 32)), (2, .ref (gAd V t2)), (3, .ref (gAd V 41)), (4, .int z9.1), (5, .int z9.2.1)] []) (fun s9 o9 hb9 hc9 hx9 => tX1_readAll_l24 ht2 hb9 hc9 (fun e9 he9 => by cases hx9 _ he9; exact KX) (fun r9 he9 => by cases hx9 _ he9))
  · have h := g_sr h
    cases h
    exact gLoop_Q ew16 (fun z9 => gG X V mX1_readAll gShC z9.2.2 0 0 24 [(0, .ref (gAd V 36)), (1, .ref (gAd V 32)), (2, .ref (gAd V t2)), (3, .ref (gAd V 41)), (4, .int z9.1), (5, .int z9.2.1)] []) (fun s9 o9 hb9 hc9 hx9 => tX1_readAll_l24 ht2 hb9 hc9 (fun e9 he9 => by cases hx9 _ he9) (fun r9 he9 => by cases hx9 _ he9; exact O))
theorem kX1_readAll {l : Launch} {V : gEnv} {M0 : gMem} {t2 : Nat} (ht2 : gNet gShC t2) {o : (Int32 × gMem)} (h : fX1_readAll t2 M0 = some o) : gM l yX1_readAll cX1_readAll 6 (some .boolean) rX1_readAll V gShC [.ref (gAd V 36), .ref (gAd V 32), .ref (gAd V t2), .ref (gAd V 41)] M0 (some (.int o.1)) o.2 :=
  gM.of (by decide) (Nat.le_of_ble_eq_true rfl) rfl (fun X _ O => tX1_readAll ht2 h O)
theorem dX2_copyFrom_0 : decode cX2_copyFrom 0 = .ok (.aload_n 1, 1) := by decide +kernel
theorem dX2_copyFrom_1 : decode cX2_copyFrom 1 = .ok (.getfield 9, 3) := by decide +kernel
theorem dX2_copyFrom_4 : decode cX2_copyFrom 4 = .ok (.iconst 0, 1) := by decide +kernel
theorem dX2_copyFrom_5 : decode cX2_copyFrom 5 = .ok (.aload_n 0, 1) := by decide +kernel
theorem dX2_copyFrom_6 : decode cX2_copyFrom 6 = .ok (.getfield 9, 3) := by decide +kernel
theorem dX2_copyFrom_9 : decode cX2_copyFrom 9 = .ok (.iconst 0, 1) := by decide +kernel
theorem dX2_copyFrom_10 : decode cX2_copyFrom 10 = .ok (.bipush 24, 2) := by decide +kernel
theorem dX2_copyFrom_12 : decode cX2_copyFrom 12 = .ok (.invokestatic 65, 3) := by decide +kernel
theorem dX2_copyFrom_15 : decode cX2_copyFrom 15 = .ok (.aload_n 1, 1) := by decide +kernel
theorem dX2_copyFrom_16 : decode cX2_copyFrom 16 = .ok (.getfield 15, 3) := by decide +kernel
theorem dX2_copyFrom_19 : decode cX2_copyFrom 19 = .ok (.iconst 0, 1) := by decide +kernel
theorem dX2_copyFrom_20 : decode cX2_copyFrom 20 = .ok (.aload_n 0, 1) := by decide +kernel
theorem dX2_copyFrom_21 : decode cX2_copyFrom 21 = .ok (.getfield 15, 3) := by decide +kernel
theorem dX2_copyFrom_24 : decode cX2_copyFrom 24 = .ok (.iconst 0, 1) := by decide +kernel
theorem dX2_copyFrom_25 : decode cX2_copyFrom 25 = .ok (.bipush 24, 2) := by decide +kernel
theorem dX2_copyFrom_27 : decode cX2_copyFrom 27 = .ok (.invokestatic 65, 3) := by decide +kernel
theorem dX2_copyFrom_30 : decode cX2_copyFrom 30 = .ok (.aload_n 1, 1) := by decide +kernel
theorem dX2_copyFrom_31 : decode cX2_copyFrom 31 = .ok (.getfield 19, 3) := by decide +kernel
theorem dX2_copyFrom_34 : decode cX2_copyFrom 34 = .ok (.iconst 0, 1) := by decide +kernel
theorem dX2_copyFrom_35 : decode cX2_copyFrom 35 = .ok (.aload_n 0, 1) := by decide +kernel
theorem dX2_copyFrom_36 : decode cX2_copyFrom 36 = .ok (.getfield 19, 3) := by decide +kernel
theorem dX2_copyFrom_39 : decode cX2_copyFrom 39 = .ok (.iconst 0, 1) := by decide +kernel
theorem dX2_copyFrom_40 : decode cX2_copyFrom 40 = .ok (.bipush 60, 2) := by decide +kernel
theorem dX2_copyFrom_42 : decode cX2_copyFrom 42 = .ok (.invokestatic 65, 3) := by decide +kernel
theorem dX2_copyFrom_45 : decode cX2_copyFrom 45 = .ok (.aload_n 1, 1) := by decide +kernel
theorem dX2_copyFrom_46 : decode cX2_copyFrom 46 = .ok (.getfield 22, 3) := by decide +kernel
theorem dX2_copyFrom_49 : decode cX2_copyFrom 49 = .ok (.iconst 0, 1) := by decide +kernel
theorem dX2_copyFrom_50 : decode cX2_copyFrom 50 = .ok (.aload_n 0, 1) := by decide +kernel
theorem dX2_copyFrom_51 : decode cX2_copyFrom 51 = .ok (.getfield 22, 3) := by decide +kernel
theorem dX2_copyFrom_54 : decode cX2_copyFrom 54 = .ok (.iconst 0, 1) := by decide +kernel
theorem dX2_copyFrom_55 : decode cX2_copyFrom 55 = .ok (.bipush 60, 2) := by decide +kernel
theorem dX2_copyFrom_57 : decode cX2_copyFrom 57 = .ok (.invokestatic 65, 3) := by decide +kernel
theorem dX2_copyFrom_60 : decode cX2_copyFrom 60 = .ok (.aload_n 1, 1) := by decide +kernel
theorem dX2_copyFrom_61 : decode cX2_copyFrom 61 = .ok (.getfield 25, 3) := by decide +kernel
theorem dX2_copyFrom_64 : decode cX2_copyFrom 64 = .ok (.iconst 0, 1) := by decide +kernel
theorem dX2_copyFrom_65 : decode cX2_copyFrom 65 = .ok (.aload_n 0, 1) := by decide +kernel
theorem dX2_copyFrom_66 : decode cX2_copyFrom 66 = .ok (.getfield 25, 3) := by decide +kernel
theorem dX2_copyFrom_69 : decode cX2_copyFrom 69 = .ok (.iconst 0, 1) := by decide +kernel
theorem dX2_copyFrom_70 : decode cX2_copyFrom 70 = .ok (.bipush 24, 2) := by decide +kernel
theorem dX2_copyFrom_72 : decode cX2_copyFrom 72 = .ok (.invokestatic 65, 3) := by decide +kernel
theorem dX2_copyFrom_75 : decode cX2_copyFrom 75 = .ok (.aload_n 1, 1) := by decide +kernel
theorem dX2_copyFrom_76 : decode cX2_copyFrom 76 = .ok (.getfield 28, 3) := by decide +kernel
theorem dX2_copyFrom_79 : decode cX2_copyFrom 79 = .ok (.iconst 0, 1) := by decide +kernel
theorem dX2_copyFrom_80 : decode cX2_copyFrom 80 = .ok (.aload_n 0, 1) := by decide +kernel
theorem dX2_copyFrom_81 : decode cX2_copyFrom 81 = .ok (.getfield 28, 3) := by decide +kernel
theorem dX2_copyFrom_84 : decode cX2_copyFrom 84 = .ok (.iconst 0, 1) := by decide +kernel
theorem dX2_copyFrom_85 : decode cX2_copyFrom 85 = .ok (.bipush 24, 2) := by decide +kernel
theorem dX2_copyFrom_87 : decode cX2_copyFrom 87 = .ok (.invokestatic 65, 3) := by decide +kernel
theorem dX2_copyFrom_90 : decode cX2_copyFrom 90 = .ok (.aload_n 1, 1) := by decide +kernel
theorem dX2_copyFrom_91 : decode cX2_copyFrom 91 = .ok (.getfield 31, 3) := by decide +kernel
theorem dX2_copyFrom_94 : decode cX2_copyFrom 94 = .ok (.iconst 0, 1) := by decide +kernel
theorem dX2_copyFrom_95 : decode cX2_copyFrom 95 = .ok (.aload_n 0, 1) := by decide +kernel
theorem dX2_copyFrom_96 : decode cX2_copyFrom 96 = .ok (.getfield 31, 3) := by decide +kernel
theorem dX2_copyFrom_99 : decode cX2_copyFrom 99 = .ok (.iconst 0, 1) := by decide +kernel
theorem dX2_copyFrom_100 : decode cX2_copyFrom 100 = .ok (.bipush 24, 2) := by decide +kernel
theorem dX2_copyFrom_102 : decode cX2_copyFrom 102 = .ok (.invokestatic 65, 3) := by decide +kernel
theorem dX2_copyFrom_105 : decode cX2_copyFrom 105 = .ok (.aload_n 1, 1) := by decide +kernel
theorem dX2_copyFrom_106 : decode cX2_copyFrom 106 = .ok (.getfield 34, 3) := by decide +kernel
theorem dX2_copyFrom_109 : decode cX2_copyFrom 109 = .ok (.iconst 0, 1) := by decide +kernel
theorem dX2_copyFrom_110 : decode cX2_copyFrom 110 = .ok (.aload_n 0, 1) := by decide +kernel
theorem dX2_copyFrom_111 : decode cX2_copyFrom 111 = .ok (.getfield 34, 3) := by decide +kernel
theorem dX2_copyFrom_114 : decode cX2_copyFrom 114 = .ok (.iconst 0, 1) := by decide +kernel
theorem dX2_copyFrom_115 : decode cX2_copyFrom 115 = .ok (.bipush 24, 2) := by decide +kernel
theorem dX2_copyFrom_117 : decode cX2_copyFrom 117 = .ok (.invokestatic 65, 3) := by decide +kernel
theorem dX2_copyFrom_120 : decode cX2_copyFrom 120 = .ok (.aload_n 1, 1) := by decide +kernel
theorem dX2_copyFrom_121 : decode cX2_copyFrom 121 = .ok (.getfield 37, 3) := by decide +kernel
theorem dX2_copyFrom_124 : decode cX2_copyFrom 124 = .ok (.iconst 0, 1) := by decide +kernel
theorem dX2_copyFrom_125 : decode cX2_copyFrom 125 = .ok (.aload_n 0, 1) := by decide +kernel
theorem dX2_copyFrom_126 : decode cX2_copyFrom 126 = .ok (.getfield 37, 3) := by decide +kernel
theorem dX2_copyFrom_129 : decode cX2_copyFrom 129 = .ok (.iconst 0, 1) := by decide +kernel
theorem dX2_copyFrom_130 : decode cX2_copyFrom 130 = .ok (.bipush 9, 2) := by decide +kernel
theorem dX2_copyFrom_132 : decode cX2_copyFrom 132 = .ok (.invokestatic 65, 3) := by decide +kernel
theorem dX2_copyFrom_135 : decode cX2_copyFrom 135 = .ok (.aload_n 0, 1) := by decide +kernel
theorem dX2_copyFrom_136 : decode cX2_copyFrom 136 = .ok (.aload_n 1, 1) := by decide +kernel
theorem dX2_copyFrom_137 : decode cX2_copyFrom 137 = .ok (.getfield 40, 3) := by decide +kernel
theorem dX2_copyFrom_140 : decode cX2_copyFrom 140 = .ok (.putfield 40, 3) := by decide +kernel
theorem dX2_copyFrom_143 : decode cX2_copyFrom 143 = .ok (.aload_n 0, 1) := by decide +kernel
theorem dX2_copyFrom_144 : decode cX2_copyFrom 144 = .ok (.aload_n 1, 1) := by decide +kernel
theorem dX2_copyFrom_145 : decode cX2_copyFrom 145 = .ok (.getfield 44, 3) := by decide +kernel
theorem dX2_copyFrom_148 : decode cX2_copyFrom 148 = .ok (.putfield 44, 3) := by decide +kernel
theorem dX2_copyFrom_151 : decode cX2_copyFrom 151 = .ok (.aload_n 0, 1) := by decide +kernel
theorem dX2_copyFrom_152 : decode cX2_copyFrom 152 = .ok (.aload_n 1, 1) := by decide +kernel
theorem dX2_copyFrom_153 : decode cX2_copyFrom 153 = .ok (.getfield 47, 3) := by decide +kernel
theorem dX2_copyFrom_156 : decode cX2_copyFrom 156 = .ok (.putfield 47, 3) := by decide +kernel
theorem dX2_copyFrom_159 : decode cX2_copyFrom 159 = .ok (.aload_n 0, 1) := by decide +kernel
theorem dX2_copyFrom_160 : decode cX2_copyFrom 160 = .ok (.aload_n 1, 1) := by decide +kernel
theorem dX2_copyFrom_161 : decode cX2_copyFrom 161 = .ok (.getfield 50, 3) := by decide +kernel
theorem dX2_copyFrom_164 : decode cX2_copyFrom 164 = .ok (.putfield 50, 3) := by decide +kernel
theorem dX2_copyFrom_167 : decode cX2_copyFrom 167 = .ok (.aload_n 0, 1) := by decide +kernel
theorem dX2_copyFrom_168 : decode cX2_copyFrom 168 = .ok (.aload_n 1, 1) := by decide +kernel
theorem dX2_copyFrom_169 : decode cX2_copyFrom 169 = .ok (.getfield 53, 3) := by decide +kernel
theorem dX2_copyFrom_172 : decode cX2_copyFrom 172 = .ok (.putfield 53, 3) := by decide +kernel
theorem dX2_copyFrom_175 : decode cX2_copyFrom 175 = .ok (.return_, 1) := by decide +kernel
abbrev rX2_copyFrom : Room := { frames := 1, cells := 0, slots := 0, locals := 60 }
abbrev mX2_copyFrom : gY := (cX2_copyFrom, RX2, 2, rX2_copyFrom)
def fX2_copyFrom (t0 : Nat) (t1 : Nat) (M0 : gMem) : Option gMem :=
  (cpL M0 (t1 + 1) (t0 + 1) 24).bind fun M1 => (cpI M1 (t1 + 2) (t0 + 2) 24).bind fun M2 => (cpI M2 (t1 + 3) (t0 + 3) 60).bind fun M3 => (cpI M3 (t1 + 4) (t0 + 4) 60).bind fun M4 => (cpI M4 (t1 + 5) (t0 + 5) 24).bind fun M5 => (cpI M5 (t1 + 6) (t0 + 6) 24).bind fun M6 => (cpI M6 (t1 + 7) (t0 + 7) 24).bind fun M7 => (cpI M7 (t1 + 8) (t0 + 8) 24).bind fun M8 => (cpL M8 (t1 + 9) (t0 + 9) 9).bind fun M9 => (wF M9 t0 9 (M9.1 t1 9)).bind fun M10 => (wF M10 t0 10 (M10.1 t1 10)).bind fun M11 => (wF M11 t0 11 (M11.1 t1 11)).bind fun M12 => (wF M12 t0 12 (M12.1 t1 12)).bind fun M13 => (wF M13 t0 13 (M13.1 t1 13)).bind fun M14 => some M14
set_option maxRecDepth 20000 in
theorem tX2_copyFrom {X : gX} {V : gEnv} {t0 : Nat} {t1 : Nat} {M0 : gMem} (ht0 : gNet gShC t0) (ht1 : gNet gShC t1) {o : gMem} (h : fX2_copyFrom t0 t1 M0 = some o) (O : gO X V mX2_copyFrom gShC none none o) : gG X V mX2_copyFrom gShC M0 0 0 0 [(0, .ref (gAd V t0)), (1, .ref (gAd V t1))] [] := by
  unfold fX2_copyFrom at h
  refine g_aload_n 1 rfl rfl dX2_copyFrom_0 ?_
  refine g_getR FX2_9 ht1.1 rfl dX2_copyFrom_1 ?_
  refine g_iconst (v := 0) rfl dX2_copyFrom_4 ?_
  refine g_aload_n 0 rfl rfl dX2_copyFrom_5 ?_
  refine g_getR FX2_9 ht0.1 rfl dX2_copyFrom_6 ?_
  refine g_iconst (v := 0) rfl dX2_copyFrom_9 ?_
  refine g_bipush (v := 24) rfl dX2_copyFrom_10 ?_
  obtain ⟨M1, eM1, h⟩ := g_bnd h
  refine g_cpL eM1 ht1.2.1 ht0.2.1 (Nat.le_of_ble_eq_true rfl) (Nat.le_of_ble_eq_true rfl) ⟨Nat.le_of_ble_eq_true rfl, Nat.le_of_ble_eq_true rfl⟩ ⟨by decide, rfl⟩ zcp_X2_65 dX2_copyFrom_12 ?_
  refine g_aload_n 1 rfl rfl dX2_copyFrom_15 ?_
  refine g_getR FX2_15 ht1.1 rfl dX2_copyFrom_16 ?_
  refine g_iconst (v := 0) rfl dX2_copyFrom_19 ?_
  refine g_aload_n 0 rfl rfl dX2_copyFrom_20 ?_
  refine g_getR FX2_15 ht0.1 rfl dX2_copyFrom_21 ?_
  refine g_iconst (v := 0) rfl dX2_copyFrom_24 ?_
  refine g_bipush (v := 24) rfl dX2_copyFrom_25 ?_
  obtain ⟨M2, eM2, h⟩ := g_bnd h
  refine g_cpI eM2 ht1.2.2.1 ht0.2.2.1 (Nat.le_of_ble_eq_true rfl) (Nat.le_of_ble_eq_true rfl) ⟨Nat.le_of_ble_eq_true rfl, Nat.le_of_ble_eq_true rfl⟩ ⟨by decide, rfl⟩ zcp_X2_65 dX2_copyFrom_27 ?_
  refine g_aload_n 1 rfl rfl dX2_copyFrom_30 ?_
  refine g_getR FX2_19 ht1.1 rfl dX2_copyFrom_31 ?_
  refine g_iconst (v := 0) rfl dX2_copyFrom_34 ?_
  refine g_aload_n 0 rfl rfl dX2_copyFrom_35 ?_
  refine g_getR FX2_19 ht0.1 rfl dX2_copyFrom_36 ?_
  refine g_iconst (v := 0) rfl dX2_copyFrom_39 ?_
  refine g_bipush (v := 60) rfl dX2_copyFrom_40 ?_
  obtain ⟨M3, eM3, h⟩ := g_bnd h
  refine g_cpI eM3 ht1.2.2.2.1 ht0.2.2.2.1 (Nat.le_of_ble_eq_true rfl) (Nat.le_of_ble_eq_true rfl) ⟨Nat.le_of_ble_eq_true rfl, Nat.le_of_ble_eq_true rfl⟩ ⟨by decide, rfl⟩ zcp_X2_65 dX2_copyFrom_42 ?_
  refine g_aload_n 1 rfl rfl dX2_copyFrom_45 ?_
  refine g_getR FX2_22 ht1.1 rfl dX2_copyFrom_46 ?_
  refine g_iconst (v := 0) rfl dX2_copyFrom_49 ?_
  refine g_aload_n 0 rfl rfl dX2_copyFrom_50 ?_
  refine g_getR FX2_22 ht0.1 rfl dX2_copyFrom_51 ?_
  refine g_iconst (v := 0) rfl dX2_copyFrom_54 ?_
  refine g_bipush (v := 60) rfl dX2_copyFrom_55 ?_
  obtain ⟨M4, eM4, h⟩ := g_bnd h
  refine g_cpI eM4 ht1.2.2.2.2.1 ht0.2.2.2.2.1 (Nat.le_of_ble_eq_true rfl) (Nat.le_of_ble_eq_true rfl) ⟨Nat.le_of_ble_eq_true rfl, Nat.le_of_ble_eq_true rfl⟩ ⟨by decide, rfl⟩ zcp_X2_65 dX2_copyFrom_57 ?_
  refine g_aload_n 1 rfl rfl dX2_copyFrom_60 ?_
  refine g_getR FX2_25 ht1.1 rfl dX2_copyFrom_61 ?_
  refine g_iconst (v := 0) rfl dX2_copyFrom_64 ?_
  refine g_aload_n 0 rfl rfl dX2_copyFrom_65 ?_
  refine g_getR FX2_25 ht0.1 rfl dX2_copyFrom_66 ?_
  refine g_iconst (v := 0) rfl dX2_copyFrom_69 ?_
  refine g_bipush (v := 24) rfl dX2_copyFrom_70 ?_
  obtain ⟨M5, eM5, h⟩ := g_bnd h
  refine g_cpI eM5 ht1.2.2.2.2.2.1 ht0.2.2.2.2.2.1 (Nat.le_of_ble_eq_true rfl) (Nat.le_of_ble_eq_true rfl) ⟨Nat.le_of_ble_eq_true rfl, Nat.le_of_ble_eq_true rfl⟩ ⟨by decide, rfl⟩ zcp_X2_65 dX2_copyFrom_72 ?_
  refine g_aload_n 1 rfl rfl dX2_copyFrom_75 ?_
  refine g_getR FX2_28 ht1.1 rfl dX2_copyFrom_76 ?_
  refine g_iconst (v := 0) rfl dX2_copyFrom_79 ?_
  refine g_aload_n 0 rfl rfl dX2_copyFrom_80 ?_
  refine g_getR FX2_28 ht0.1 rfl dX2_copyFrom_81 ?_
  refine g_iconst (v := 0) rfl dX2_copyFrom_84 ?_
  refine g_bipush (v := 24) rfl dX2_copyFrom_85 ?_
  obtain ⟨M6, eM6, h⟩ := g_bnd h
  refine g_cpI eM6 ht1.2.2.2.2.2.2.1 ht0.2.2.2.2.2.2.1 (Nat.le_of_ble_eq_true rfl) (Nat.le_of_ble_eq_true rfl) ⟨Nat.le_of_ble_eq_true rfl, Nat.le_of_ble_eq_true rfl⟩ ⟨by decide, rfl⟩ zcp_X2_65 dX2_copyFrom_87 ?_
  refine g_aload_n 1 rfl rfl dX2_copyFrom_90 ?_
  refine g_getR FX2_31 ht1.1 rfl dX2_copyFrom_91 ?_
  refine g_iconst (v := 0) rfl dX2_copyFrom_94 ?_
  refine g_aload_n 0 rfl rfl dX2_copyFrom_95 ?_
  refine g_getR FX2_31 ht0.1 rfl dX2_copyFrom_96 ?_
  refine g_iconst (v := 0) rfl dX2_copyFrom_99 ?_
  refine g_bipush (v := 24) rfl dX2_copyFrom_100 ?_
  obtain ⟨M7, eM7, h⟩ := g_bnd h
  refine g_cpI eM7 ht1.2.2.2.2.2.2.2.1 ht0.2.2.2.2.2.2.2.1 (Nat.le_of_ble_eq_true rfl) (Nat.le_of_ble_eq_true rfl) ⟨Nat.le_of_ble_eq_true rfl, Nat.le_of_ble_eq_true rfl⟩ ⟨by decide, rfl⟩ zcp_X2_65 dX2_copyFrom_102 ?_
  refine g_aload_n 1 rfl rfl dX2_copyFrom_105 ?_
  refine g_getR FX2_34 ht1.1 rfl dX2_copyFrom_106 ?_
  refine g_iconst (v := 0) rfl dX2_copyFrom_109 ?_
  refine g_aload_n 0 rfl rfl dX2_copyFrom_110 ?_
  refine g_getR FX2_34 ht0.1 rfl dX2_copyFrom_111 ?_
  refine g_iconst (v := 0) rfl dX2_copyFrom_114 ?_
  refine g_bipush (v := 24) rfl dX2_copyFrom_115 ?_
  obtain ⟨M8, eM8, h⟩ := g_bnd h
  refine g_cpI eM8 ht1.2.2.2.2.2.2.2.2.1 ht0.2.2.2.2.2.2.2.2.1 (Nat.le_of_ble_eq_true rfl) (Nat.le_of_ble_eq_true rfl) ⟨Nat.le_of_ble_eq_true rfl, Nat.le_of_ble_eq_true rfl⟩ ⟨by decide, rfl⟩ zcp_X2_65 dX2_copyFrom_117 ?_
  refine g_aload_n 1 rfl rfl dX2_copyFrom_120 ?_
  refine g_getR FX2_37 ht1.1 rfl dX2_copyFrom_121 ?_
  refine g_iconst (v := 0) rfl dX2_copyFrom_124 ?_
  refine g_aload_n 0 rfl rfl dX2_copyFrom_125 ?_
  refine g_getR FX2_37 ht0.1 rfl dX2_copyFrom_126 ?_
  refine g_iconst (v := 0) rfl dX2_copyFrom_129 ?_
  refine g_bipush (v := 9) rfl dX2_copyFrom_130 ?_
  obtain ⟨M9, eM9, h⟩ := g_bnd h
  refine g_cpL eM9 ht1.2.2.2.2.2.2.2.2.2 ht0.2.2.2.2.2.2.2.2.2 (Nat.le_of_ble_eq_true rfl) (Nat.le_of_ble_eq_true rfl) ⟨Nat.le_of_ble_eq_true rfl, Nat.le_of_ble_eq_true rfl⟩ ⟨by decide, rfl⟩ zcp_X2_65 dX2_copyFrom_132 ?_
  refine g_aload_n 0 rfl rfl dX2_copyFrom_135 ?_
  refine g_aload_n 1 rfl rfl dX2_copyFrom_136 ?_
  refine g_getI FX2_40 ht1.1 rfl dX2_copyFrom_137 ?_
  obtain ⟨M10, eM10, h⟩ := g_bnd h
  refine g_putI' eM10 FX2_40 jX2 ht0.1 rfl rfl rfl dX2_copyFrom_140 ?_
  refine g_aload_n 0 rfl rfl dX2_copyFrom_143 ?_
  refine g_aload_n 1 rfl rfl dX2_copyFrom_144 ?_
  refine g_getI FX2_44 ht1.1 rfl dX2_copyFrom_145 ?_
  obtain ⟨M11, eM11, h⟩ := g_bnd h
  refine g_putI' eM11 FX2_44 jX2 ht0.1 rfl rfl rfl dX2_copyFrom_148 ?_
  refine g_aload_n 0 rfl rfl dX2_copyFrom_151 ?_
  refine g_aload_n 1 rfl rfl dX2_copyFrom_152 ?_
  refine g_getI FX2_47 ht1.1 rfl dX2_copyFrom_153 ?_
  obtain ⟨M12, eM12, h⟩ := g_bnd h
  refine g_putI' eM12 FX2_47 jX2 ht0.1 rfl rfl rfl dX2_copyFrom_156 ?_
  refine g_aload_n 0 rfl rfl dX2_copyFrom_159 ?_
  refine g_aload_n 1 rfl rfl dX2_copyFrom_160 ?_
  refine g_getI FX2_50 ht1.1 rfl dX2_copyFrom_161 ?_
  obtain ⟨M13, eM13, h⟩ := g_bnd h
  refine g_putI' eM13 FX2_50 jX2 ht0.1 rfl rfl rfl dX2_copyFrom_164 ?_
  refine g_aload_n 0 rfl rfl dX2_copyFrom_167 ?_
  refine g_aload_n 1 rfl rfl dX2_copyFrom_168 ?_
  refine g_getI FX2_53 ht1.1 rfl dX2_copyFrom_169 ?_
  obtain ⟨M14, eM14, h⟩ := g_bnd h
  refine g_putI' eM14 FX2_53 jX2 ht0.1 rfl rfl rfl dX2_copyFrom_172 ?_
  cases h
  exact g_vret O ⟨Nat.le_of_ble_eq_true rfl, Nat.le_of_ble_eq_true rfl⟩ dX2_copyFrom_175
theorem kX2_copyFrom {l : Launch} {V : gEnv} {M0 : gMem} {t0 : Nat} {t1 : Nat} (ht0 : gNet gShC t0) (ht1 : gNet gShC t1) {o : gMem} (h : fX2_copyFrom t0 t1 M0 = some o) : gM l yX2_copyFrom cX2_copyFrom 2 none rX2_copyFrom V gShC [.ref (gAd V t0), .ref (gAd V t1)] M0 none o :=
  gM.of (by decide) (Nat.le_of_ble_eq_true rfl) rfl (fun X _ O => tX2_copyFrom ht0 ht1 h O)
theorem dX2_numberOf_0 : decode cX2_numberOf 0 = .ok (.iconst 0, 1) := by decide +kernel
theorem dX2_numberOf_1 : decode cX2_numberOf 1 = .ok (.istore_n 3, 1) := by decide +kernel
theorem dX2_numberOf_2 : decode cX2_numberOf 2 = .ok (.iload_n 3, 1) := by decide +kernel
theorem dX2_numberOf_3 : decode cX2_numberOf 3 = .ok (.aload_n 0, 1) := by decide +kernel
theorem dX2_numberOf_4 : decode cX2_numberOf 4 = .ok (.getfield 44, 3) := by decide +kernel
theorem dX2_numberOf_7 : decode cX2_numberOf 7 = .ok (.if_icmp .ge 31, 3) := by decide +kernel
theorem dX2_numberOf_10 : decode cX2_numberOf 10 = .ok (.aload_n 0, 1) := by decide +kernel
theorem dX2_numberOf_11 : decode cX2_numberOf 11 = .ok (.getfield 19, 3) := by decide +kernel
theorem dX2_numberOf_14 : decode cX2_numberOf 14 = .ok (.iload_n 3, 1) := by decide +kernel
theorem dX2_numberOf_15 : decode cX2_numberOf 15 = .ok (.iaload, 1) := by decide +kernel
theorem dX2_numberOf_16 : decode cX2_numberOf 16 = .ok (.iload_n 1, 1) := by decide +kernel
theorem dX2_numberOf_17 : decode cX2_numberOf 17 = .ok (.if_icmp .ne 15, 3) := by decide +kernel
theorem dX2_numberOf_20 : decode cX2_numberOf 20 = .ok (.aload_n 0, 1) := by decide +kernel
theorem dX2_numberOf_21 : decode cX2_numberOf 21 = .ok (.getfield 22, 3) := by decide +kernel
theorem dX2_numberOf_24 : decode cX2_numberOf 24 = .ok (.iload_n 3, 1) := by decide +kernel
theorem dX2_numberOf_25 : decode cX2_numberOf 25 = .ok (.iaload, 1) := by decide +kernel
theorem dX2_numberOf_26 : decode cX2_numberOf 26 = .ok (.iload_n 2, 1) := by decide +kernel
theorem dX2_numberOf_27 : decode cX2_numberOf 27 = .ok (.if_icmp .ne 5, 3) := by decide +kernel
theorem dX2_numberOf_30 : decode cX2_numberOf 30 = .ok (.iload_n 3, 1) := by decide +kernel
theorem dX2_numberOf_31 : decode cX2_numberOf 31 = .ok (.ireturn, 1) := by decide +kernel
theorem dX2_numberOf_32 : decode cX2_numberOf 32 = .ok (.iinc 3 1, 3) := by decide +kernel
theorem dX2_numberOf_35 : decode cX2_numberOf 35 = .ok (.goto (-33), 3) := by decide +kernel
theorem dX2_numberOf_38 : decode cX2_numberOf 38 = .ok (.iconst (-1), 1) := by decide +kernel
theorem dX2_numberOf_39 : decode cX2_numberOf 39 = .ok (.ireturn, 1) := by decide +kernel
abbrev rX2_numberOf : Room := { frames := 0, cells := 0, slots := 0, locals := 0 }
abbrev mX2_numberOf : gY := (cX2_numberOf, RX2, 4, rX2_numberOf)
def fX2_numberOf_b32 (t0 : Nat) (x1 : Int32) (x2 : Int32) (x3 : Int32) (M0 : gMem) : Option (Int32 ⊕ (Unit ⊕ Int32)) :=
  some (.inl (x3 + (1 : Int32)))
set_option maxRecDepth 20000 in
theorem tX2_numberOf_b32 {X : gX} {V : gEnv} {t0 : Nat} {x1 : Int32} {x2 : Int32} {x3 : Int32} {M0 : gMem} (ht0 : gNet gShC t0) {o : (Int32 ⊕ (Unit ⊕ Int32))} (h : fX2_numberOf_b32 t0 x1 x2 x3 M0 = some o) (Kc : ∀ s9, o = .inl s9 → gG X V mX2_numberOf gShC M0 0 0 2 [(0, .ref (gAd V t0)), (1, .int x1), (2, .int x2), (3, .int s9)] []) (Kx : ∀ e9, o = .inr (.inl e9) → gG X V mX2_numberOf gShC M0 0 0 38 [] []) (Kr : ∀ r9, o = .inr (.inr r9) → gO X V mX2_numberOf gShC (some .int) (some (.int r9)) M0) : gG X V mX2_numberOf gShC M0 0 0 32 [(0, .ref (gAd V t0)), (1, .int x1), (2, .int x2), (3, .int x3)] [] := by
  unfold fX2_numberOf_b32 at h
  refine g_iinc (j := 3) (v := x3 + (1 : Int32)) (ls' := [(3, .int (x3 + (1 : Int32))), (0, .ref (gAd V t0)), (1, .int x1), (2, .int x2)]) rfl rfl (Nat.le_of_ble_eq_true rfl) rfl dX2_numberOf_32 ?_
  refine g_goto (tgt := 2) rfl dX2_numberOf_35 ?_
  cases h
  refine g_sub [1, 2, 3, 0] rfl ?_
  exact Kc (x3 + (1 : Int32)) rfl
def fX2_numberOf_l2 (t0 : Nat) (x1 : Int32) (x2 : Int32) (M0 : gMem) (x3 : Int32) : Option (Int32 ⊕ (Unit ⊕ Int32)) :=
  if (M0.1 t0 10) ≤ x3 then (some (.inr (.inl ()))) else (rI M0 (t0 + 3) 60 x3).bind fun v2 => if v2 = x1 then ((rI M0 (t0 + 4) 60 x3).bind fun v4 => if v4 = x2 then (some (.inr (.inr x3))) else fX2_numberOf_b32 t0 x1 x2 x3 M0) else fX2_numberOf_b32 t0 x1 x2 x3 M0
set_option maxRecDepth 20000 in
theorem tX2_numberOf_l2 {X : gX} {V : gEnv} {t0 : Nat} {x1 : Int32} {x2 : Int32} {M0 : gMem} {x3 : Int32} (ht0 : gNet gShC t0) {o : (Int32 ⊕ (Unit ⊕ Int32))} (h : fX2_numberOf_l2 t0 x1 x2 M0 x3 = some o) (Kc : ∀ s9, o = .inl s9 → gG X V mX2_numberOf gShC M0 0 0 2 [(0, .ref (gAd V t0)), (1, .int x1), (2, .int x2), (3, .int s9)] []) (Kx : ∀ e9, o = .inr (.inl e9) → gG X V mX2_numberOf gShC M0 0 0 38 [] []) (Kr : ∀ r9, o = .inr (.inr r9) → gO X V mX2_numberOf gShC (some .int) (some (.int r9)) M0) : gG X V mX2_numberOf gShC M0 0 0 2 [(0, .ref (gAd V t0)), (1, .int x1), (2, .int x2), (3, .int x3)] [] := by
  unfold fX2_numberOf_l2 at h
  refine g_iload_n 3 rfl rfl dX2_numberOf_2 ?_
  refine g_aload_n 0 rfl rfl dX2_numberOf_3 ?_
  refine g_getI FX2_44 ht0.1 rfl dX2_numberOf_4 ?_
  rcases g_ite h with ⟨c1, h⟩ | ⟨c1, h⟩
  · refine g_icmp_ge_t c1 (tgt := 38) rfl dX2_numberOf_7 ?_
    cases h
    refine g_sub [] rfl ?_
    exact Kx () rfl
  · refine g_icmp_ge_f c1 (tgt := 38) rfl dX2_numberOf_7 ?_
    refine g_aload_n 0 rfl rfl dX2_numberOf_10 ?_
    refine g_getR FX2_19 ht0.1 rfl dX2_numberOf_11 ?_
    refine g_iload_n 3 rfl rfl dX2_numberOf_14 ?_
    obtain ⟨v2, ev2, h⟩ := g_bnd h
    refine g_iald' ev2 ht0.2.2.2.1 dX2_numberOf_15 ?_
    refine g_iload_n 1 rfl rfl dX2_numberOf_16 ?_
    rcases g_ite h with ⟨c3, h⟩ | ⟨c3, h⟩
    · refine g_icmp_ne_f c3 (tgt := 32) rfl dX2_numberOf_17 ?_
      refine g_aload_n 0 rfl rfl dX2_numberOf_20 ?_
      refine g_getR FX2_22 ht0.1 rfl dX2_numberOf_21 ?_
      refine g_iload_n 3 rfl rfl dX2_numberOf_24 ?_
      obtain ⟨v4, ev4, h⟩ := g_bnd h
      refine g_iald' ev4 ht0.2.2.2.2.1 dX2_numberOf_25 ?_
      refine g_iload_n 2 rfl rfl dX2_numberOf_26 ?_
      rcases g_ite h with ⟨c5, h⟩ | ⟨c5, h⟩
      · refine g_icmp_ne_f c5 (tgt := 32) rfl dX2_numberOf_27 ?_
        refine g_iload_n 3 rfl rfl dX2_numberOf_30 ?_
        cases h
        exact g_iret (Kr x3 rfl) ⟨Nat.le_of_ble_eq_true rfl, Nat.le_of_ble_eq_true rfl⟩ rfl dX2_numberOf_31
      · refine g_icmp_ne_t c5 (tgt := 32) rfl dX2_numberOf_27 ?_
        exact tX2_numberOf_b32 ht0 h Kc Kx Kr
    · refine g_icmp_ne_t c3 (tgt := 32) rfl dX2_numberOf_17 ?_
      exact tX2_numberOf_b32 ht0 h Kc Kx Kr
def fX2_numberOf (t0 : Nat) (x1 : Int32) (x2 : Int32) (M0 : gMem) : Option Int32 :=
  (gLoop (fun z9 => fX2_numberOf_l2 t0 x1 x2 M0 z9) gFu (0 : Int32)).bind fun w6 => gSE w6 (fun y7 => some (-1 : Int32)) (fun r8 => some r8)
set_option maxRecDepth 20000 in
theorem tX2_numberOf {X : gX} {V : gEnv} {t0 : Nat} {x1 : Int32} {x2 : Int32} {M0 : gMem} (ht0 : gNet gShC t0) {o : Int32} (h : fX2_numberOf t0 x1 x2 M0 = some o) (O : gO X V mX2_numberOf gShC (some .int) (some (.int o)) M0) : gG X V mX2_numberOf gShC M0 0 0 0 [(0, .ref (gAd V t0)), (1, .int x1), (2, .int x2)] [] := by
  unfold fX2_numberOf at h
  refine g_iconst (v := 0) rfl dX2_numberOf_0 ?_
  refine g_istore_n (ls' := [(3, .int (0 : Int32)), (0, .ref (gAd V t0)), (1, .int x1), (2, .int x2)]) rfl (Nat.le_of_ble_eq_true rfl) rfl dX2_numberOf_1 ?_
  obtain ⟨w6, ew6, h⟩ := g_bnd h
  refine g_sub [1, 2, 3, 0] rfl ?_
  rcases w6 with y7 | r8
  · have h := g_sl h
    have KX : gG X V mX2_numberOf gShC M0 0 0 38 [] [] := by
      refine g_iconst (v := -1) rfl dX2_numberOf_38 ?_
      cases h
      exact g_iret O ⟨Nat.le_of_ble_eq_true rfl, Nat.le_of_ble_eq_true rfl⟩ rfl dX2_numberOf_39
    exact gLoop_Q ew6 (fun z9 => gG X V mX2_numberOf gShC M0 0 0 2 [(0, .ref (gAd V t0)), (1, .int x1), (2, .int x2), (3, .int z9)] []) (fun s9 o9 hb9 hc9 hx9 => tX2_numberOf_l2 ht0 hb9 hc9 (fun e9 he9 => by cases hx9 _ he9; exact KX) (fun r9 he9 => by cases hx9 _ he9))
  · have h := g_sr h
    cases h
    exact gLoop_Q ew6 (fun z9 => gG X V mX2_numberOf gShC M0 0 0 2 [(0, .ref (gAd V t0)), (1, .int x1), (2, .int x2), (3, .int z9)] []) (fun s9 o9 hb9 hc9 hx9 => tX2_numberOf_l2 ht0 hb9 hc9 (fun e9 he9 => by cases hx9 _ he9) (fun r9 he9 => by cases hx9 _ he9; exact O))
theorem kX2_numberOf {l : Launch} {V : gEnv} {M0 : gMem} {t0 : Nat} {x1 : Int32} {x2 : Int32} (ht0 : gNet gShC t0) {o : Int32} (h : fX2_numberOf t0 x1 x2 M0 = some o) : gM l yX2_numberOf cX2_numberOf 4 (some .int) rX2_numberOf V gShC [.ref (gAd V t0), .int x1, .int x2] M0 (some (.int o)) M0 :=
  gM.of (by decide) (Nat.le_of_ble_eq_true rfl) rfl (fun X _ O => tX2_numberOf ht0 h O)
