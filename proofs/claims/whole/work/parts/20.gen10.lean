/-! METHODS, by program: pure functions and contracts -/
theorem dX11_readsOrder_0 : decode cX11_readsOrder 0 = .ok (.aload_n 0, 1) := by decide +kernel
theorem dX11_readsOrder_1 : decode cX11_readsOrder 1 = .ok (.invokevirtual 335, 3) := by decide +kernel
theorem dX11_readsOrder_4 : decode cX11_readsOrder 4 = .ok (.istore_n 1, 1) := by decide +kernel
theorem dX11_readsOrder_5 : decode cX11_readsOrder 5 = .ok (.iload_n 1, 1) := by decide +kernel
theorem dX11_readsOrder_6 : decode cX11_readsOrder 6 = .ok (.iconst (-1), 1) := by decide +kernel
theorem dX11_readsOrder_7 : decode cX11_readsOrder 7 = .ok (.if_icmp .ne 9, 3) := by decide +kernel
theorem dX11_readsOrder_10 : decode cX11_readsOrder 10 = .ok (.aload_n 0, 1) := by decide +kernel
theorem dX11_readsOrder_11 : decode cX11_readsOrder 11 = .ok (.iconst 1, 1) := by decide +kernel
theorem dX11_readsOrder_12 : decode cX11_readsOrder 12 = .ok (.invokevirtual 254, 3) := by decide +kernel
theorem dX11_readsOrder_15 : decode cX11_readsOrder 15 = .ok (.ireturn, 1) := by decide +kernel
theorem dX11_readsOrder_16 : decode cX11_readsOrder 16 = .ok (.aload_n 0, 1) := by decide +kernel
theorem dX11_readsOrder_17 : decode cX11_readsOrder 17 = .ok (.getfield 338, 3) := by decide +kernel
theorem dX11_readsOrder_20 : decode cX11_readsOrder 20 = .ok (.bipush 30, 2) := by decide +kernel
theorem dX11_readsOrder_22 : decode cX11_readsOrder 22 = .ok (.if_icmp .ne 9, 3) := by decide +kernel
theorem dX11_readsOrder_25 : decode cX11_readsOrder 25 = .ok (.aload_n 0, 1) := by decide +kernel
theorem dX11_readsOrder_26 : decode cX11_readsOrder 26 = .ok (.iconst 4, 1) := by decide +kernel
theorem dX11_readsOrder_27 : decode cX11_readsOrder 27 = .ok (.invokevirtual 254, 3) := by decide +kernel
theorem dX11_readsOrder_30 : decode cX11_readsOrder 30 = .ok (.ireturn, 1) := by decide +kernel
theorem dX11_readsOrder_31 : decode cX11_readsOrder 31 = .ok (.aload_n 0, 1) := by decide +kernel
theorem dX11_readsOrder_32 : decode cX11_readsOrder 32 = .ok (.invokevirtual 260, 3) := by decide +kernel
theorem dX11_readsOrder_35 : decode cX11_readsOrder 35 = .ok (.aload_n 0, 1) := by decide +kernel
theorem dX11_readsOrder_36 : decode cX11_readsOrder 36 = .ok (.getfield 50, 3) := by decide +kernel
theorem dX11_readsOrder_39 : decode cX11_readsOrder 39 = .ok (.iconst 3, 1) := by decide +kernel
theorem dX11_readsOrder_40 : decode cX11_readsOrder 40 = .ok (.aload_n 0, 1) := by decide +kernel
theorem dX11_readsOrder_41 : decode cX11_readsOrder 41 = .ok (.getfield 338, 3) := by decide +kernel
theorem dX11_readsOrder_44 : decode cX11_readsOrder 44 = .ok (.imul, 1) := by decide +kernel
theorem dX11_readsOrder_45 : decode cX11_readsOrder 45 = .ok (.iload_n 1, 1) := by decide +kernel
theorem dX11_readsOrder_46 : decode cX11_readsOrder 46 = .ok (.iastore, 1) := by decide +kernel
theorem dX11_readsOrder_47 : decode cX11_readsOrder 47 = .ok (.aload_n 0, 1) := by decide +kernel
theorem dX11_readsOrder_48 : decode cX11_readsOrder 48 = .ok (.iload_n 1, 1) := by decide +kernel
theorem dX11_readsOrder_49 : decode cX11_readsOrder 49 = .ok (.invokevirtual 341, 3) := by decide +kernel
theorem dX11_readsOrder_52 : decode cX11_readsOrder 52 = .ok (.ifCond .ne 5, 3) := by decide +kernel
theorem dX11_readsOrder_55 : decode cX11_readsOrder 55 = .ok (.iconst 0, 1) := by decide +kernel
theorem dX11_readsOrder_56 : decode cX11_readsOrder 56 = .ok (.ireturn, 1) := by decide +kernel
theorem dX11_readsOrder_57 : decode cX11_readsOrder 57 = .ok (.aload_n 0, 1) := by decide +kernel
theorem dX11_readsOrder_58 : decode cX11_readsOrder 58 = .ok (.getfield 50, 3) := by decide +kernel
theorem dX11_readsOrder_61 : decode cX11_readsOrder 61 = .ok (.iconst 3, 1) := by decide +kernel
theorem dX11_readsOrder_62 : decode cX11_readsOrder 62 = .ok (.aload_n 0, 1) := by decide +kernel
theorem dX11_readsOrder_63 : decode cX11_readsOrder 63 = .ok (.getfield 338, 3) := by decide +kernel
theorem dX11_readsOrder_66 : decode cX11_readsOrder 66 = .ok (.imul, 1) := by decide +kernel
theorem dX11_readsOrder_67 : decode cX11_readsOrder 67 = .ok (.iconst 1, 1) := by decide +kernel
theorem dX11_readsOrder_68 : decode cX11_readsOrder 68 = .ok (.iadd, 1) := by decide +kernel
theorem dX11_readsOrder_69 : decode cX11_readsOrder 69 = .ok (.aload_n 0, 1) := by decide +kernel
theorem dX11_readsOrder_70 : decode cX11_readsOrder 70 = .ok (.getfield 257, 3) := by decide +kernel
theorem dX11_readsOrder_73 : decode cX11_readsOrder 73 = .ok (.iastore, 1) := by decide +kernel
theorem dX11_readsOrder_74 : decode cX11_readsOrder 74 = .ok (.aload_n 0, 1) := by decide +kernel
theorem dX11_readsOrder_75 : decode cX11_readsOrder 75 = .ok (.iload_n 1, 1) := by decide +kernel
theorem dX11_readsOrder_76 : decode cX11_readsOrder 76 = .ok (.invokevirtual 344, 3) := by decide +kernel
theorem dX11_readsOrder_79 : decode cX11_readsOrder 79 = .ok (.ifCond .ne 5, 3) := by decide +kernel
theorem dX11_readsOrder_82 : decode cX11_readsOrder 82 = .ok (.iconst 0, 1) := by decide +kernel
theorem dX11_readsOrder_83 : decode cX11_readsOrder 83 = .ok (.ireturn, 1) := by decide +kernel
theorem dX11_readsOrder_84 : decode cX11_readsOrder 84 = .ok (.aload_n 0, 1) := by decide +kernel
theorem dX11_readsOrder_85 : decode cX11_readsOrder 85 = .ok (.getfield 50, 3) := by decide +kernel
theorem dX11_readsOrder_88 : decode cX11_readsOrder 88 = .ok (.iconst 3, 1) := by decide +kernel
theorem dX11_readsOrder_89 : decode cX11_readsOrder 89 = .ok (.aload_n 0, 1) := by decide +kernel
theorem dX11_readsOrder_90 : decode cX11_readsOrder 90 = .ok (.getfield 338, 3) := by decide +kernel
theorem dX11_readsOrder_93 : decode cX11_readsOrder 93 = .ok (.imul, 1) := by decide +kernel
theorem dX11_readsOrder_94 : decode cX11_readsOrder 94 = .ok (.iconst 2, 1) := by decide +kernel
theorem dX11_readsOrder_95 : decode cX11_readsOrder 95 = .ok (.iadd, 1) := by decide +kernel
theorem dX11_readsOrder_96 : decode cX11_readsOrder 96 = .ok (.aload_n 0, 1) := by decide +kernel
theorem dX11_readsOrder_97 : decode cX11_readsOrder 97 = .ok (.getfield 257, 3) := by decide +kernel
theorem dX11_readsOrder_100 : decode cX11_readsOrder 100 = .ok (.iastore, 1) := by decide +kernel
theorem dX11_readsOrder_101 : decode cX11_readsOrder 101 = .ok (.aload_n 0, 1) := by decide +kernel
theorem dX11_readsOrder_102 : decode cX11_readsOrder 102 = .ok (.dup, 1) := by decide +kernel
theorem dX11_readsOrder_103 : decode cX11_readsOrder 103 = .ok (.getfield 338, 3) := by decide +kernel
theorem dX11_readsOrder_106 : decode cX11_readsOrder 106 = .ok (.iconst 1, 1) := by decide +kernel
theorem dX11_readsOrder_107 : decode cX11_readsOrder 107 = .ok (.iadd, 1) := by decide +kernel
theorem dX11_readsOrder_108 : decode cX11_readsOrder 108 = .ok (.putfield 338, 3) := by decide +kernel
theorem dX11_readsOrder_111 : decode cX11_readsOrder 111 = .ok (.aload_n 0, 1) := by decide +kernel
theorem dX11_readsOrder_112 : decode cX11_readsOrder 112 = .ok (.getfield 231, 3) := by decide +kernel
theorem dX11_readsOrder_115 : decode cX11_readsOrder 115 = .ok (.iconst 3, 1) := by decide +kernel
theorem dX11_readsOrder_116 : decode cX11_readsOrder 116 = .ok (.if_icmp .eq 9, 3) := by decide +kernel
theorem dX11_readsOrder_119 : decode cX11_readsOrder 119 = .ok (.aload_n 0, 1) := by decide +kernel
theorem dX11_readsOrder_120 : decode cX11_readsOrder 120 = .ok (.iconst 1, 1) := by decide +kernel
theorem dX11_readsOrder_121 : decode cX11_readsOrder 121 = .ok (.invokevirtual 254, 3) := by decide +kernel
theorem dX11_readsOrder_124 : decode cX11_readsOrder 124 = .ok (.ireturn, 1) := by decide +kernel
theorem dX11_readsOrder_125 : decode cX11_readsOrder 125 = .ok (.aload_n 0, 1) := by decide +kernel
theorem dX11_readsOrder_126 : decode cX11_readsOrder 126 = .ok (.invokevirtual 260, 3) := by decide +kernel
theorem dX11_readsOrder_129 : decode cX11_readsOrder 129 = .ok (.iconst 1, 1) := by decide +kernel
theorem dX11_readsOrder_130 : decode cX11_readsOrder 130 = .ok (.ireturn, 1) := by decide +kernel
abbrev rX11_readsOrder : Room := { frames := 6, cells := 0, slots := 0, locals := 162 }
abbrev mX11_readsOrder : gY := (cX11_readsOrder, RX11, 2, rX11_readsOrder)
def fX11_readsOrder (M0 : gMem) : Option (Int32 × gMem) :=
  (fX11_orderHere M0).bind fun v1 => if v1 = (-1 : Int32) then ((fX11_fails (1 : Int32) M0).bind fun v3 => (zv v3.1).bind fun v4 => some (v4, v3.2)) else if (M0.1 0 33) = (30 : Int32) then ((fX11_fails (4 : Int32) M0).bind fun v6 => (zv v6.1).bind fun v7 => some (v7, v6.2)) else (fX11_goesOn M0).bind fun v8 => (wI v8 13 90 ((3 : Int32) * (v8.1 0 33)) v1).bind fun M9 => (fX11_readsFirst v1 M9).bind fun v10 => if v10.1 = 0 then (some ((0 : Int32), v10.2)) else (wI v10.2 13 90 (((3 : Int32) * (v10.2.1 0 33)) + (1 : Int32)) (v10.2.1 0 30)).bind fun M12 => (fX11_readsSecond v1 M12).bind fun v13 => if v13.1 = 0 then (some ((0 : Int32), v13.2)) else (wI v13.2 13 90 (((3 : Int32) * (v13.2.1 0 33)) + (2 : Int32)) (v13.2.1 0 30)).bind fun M15 => (wF M15 0 33 ((M15.1 0 33) + (1 : Int32))).bind fun M16 => if (M16.1 0 25) = (3 : Int32) then ((fX11_goesOn M16).bind fun v18 => some ((1 : Int32), v18)) else (fX11_fails (1 : Int32) M16).bind fun v19 => (zv v19.1).bind fun v20 => some (v20, v19.2)
set_option maxRecDepth 20000 in
theorem tX11_readsOrder {X : gX} {V : gEnv} {M0 : gMem}  {o : (Int32 × gMem)} (h : fX11_readsOrder M0 = some o) (O : gO X V mX11_readsOrder gShM (some .boolean) (some (.int o.1)) o.2) : gG X V mX11_readsOrder gShM M0 0 0 0 [(0, .ref (gAd V 0))] [] := by
  unfold fX11_readsOrder at h
  refine g_aload_n 0 rfl rfl dX11_readsOrder_0 ?_
  obtain ⟨v1, ev1, h⟩ := g_bnd h
  refine g_callV LX11_335 sM_0 rfl (kX11_orderHere ev1) rfl rfl (Nat.le_of_ble_eq_true rfl) ⟨Nat.le_of_ble_eq_true rfl, Nat.le_of_ble_eq_true rfl⟩ ⟨Nat.le_of_ble_eq_true rfl, Nat.le_of_ble_eq_true rfl⟩ dX11_readsOrder_1 rfl ?_
  refine g_istore_n (ls' := [(1, .int v1), (0, .ref (gAd V 0))]) rfl (Nat.le_of_ble_eq_true rfl) rfl dX11_readsOrder_4 ?_
  refine g_iload_n 0 rfl rfl dX11_readsOrder_5 ?_
  refine g_iconst (v := -1) rfl dX11_readsOrder_6 ?_
  rcases g_ite h with ⟨c2, h⟩ | ⟨c2, h⟩
  · refine g_icmp_ne_f c2 (tgt := 16) rfl dX11_readsOrder_7 ?_
    refine g_aload_n 1 rfl rfl dX11_readsOrder_10 ?_
    refine g_iconst (v := 1) rfl dX11_readsOrder_11 ?_
    obtain ⟨v3, ev3, h⟩ := g_bnd h
    refine g_callV LX11_254 sM_0 rfl (kX11_fails ev3) rfl rfl (Nat.le_of_ble_eq_true rfl) ⟨Nat.le_of_ble_eq_true rfl, Nat.le_of_ble_eq_true rfl⟩ ⟨Nat.le_of_ble_eq_true rfl, Nat.le_of_ble_eq_true rfl⟩ dX11_readsOrder_12 rfl ?_
    obtain ⟨v4, ev4, h⟩ := g_bnd h
    refine g_zv ev4 ?_
    cases h
    exact g_iret O ⟨Nat.le_of_ble_eq_true rfl, Nat.le_of_ble_eq_true rfl⟩ (g_nz (zv_ok ev4)) dX11_readsOrder_15
  · refine g_icmp_ne_t c2 (tgt := 16) rfl dX11_readsOrder_7 ?_
    refine g_aload_n 1 rfl rfl dX11_readsOrder_16 ?_
    refine g_getI FX11_338 sM_0 rfl dX11_readsOrder_17 ?_
    refine g_bipush (v := 30) rfl dX11_readsOrder_20 ?_
    rcases g_ite h with ⟨c5, h⟩ | ⟨c5, h⟩
    · refine g_icmp_ne_f c5 (tgt := 31) rfl dX11_readsOrder_22 ?_
      refine g_aload_n 1 rfl rfl dX11_readsOrder_25 ?_
      refine g_iconst (v := 4) rfl dX11_readsOrder_26 ?_
      obtain ⟨v6, ev6, h⟩ := g_bnd h
      refine g_callV LX11_254 sM_0 rfl (kX11_fails ev6) rfl rfl (Nat.le_of_ble_eq_true rfl) ⟨Nat.le_of_ble_eq_true rfl, Nat.le_of_ble_eq_true rfl⟩ ⟨Nat.le_of_ble_eq_true rfl, Nat.le_of_ble_eq_true rfl⟩ dX11_readsOrder_27 rfl ?_
      obtain ⟨v7, ev7, h⟩ := g_bnd h
      refine g_zv ev7 ?_
      cases h
      exact g_iret O ⟨Nat.le_of_ble_eq_true rfl, Nat.le_of_ble_eq_true rfl⟩ (g_nz (zv_ok ev7)) dX11_readsOrder_30
    · refine g_icmp_ne_t c5 (tgt := 31) rfl dX11_readsOrder_22 ?_
      refine g_aload_n 1 rfl rfl dX11_readsOrder_31 ?_
      obtain ⟨v8, ev8, h⟩ := g_bnd h
      refine g_callV LX11_260 sM_0 rfl (kX11_goesOn ev8) rfl rfl (Nat.le_of_ble_eq_true rfl) ⟨Nat.le_of_ble_eq_true rfl, Nat.le_of_ble_eq_true rfl⟩ ⟨Nat.le_of_ble_eq_true rfl, Nat.le_of_ble_eq_true rfl⟩ dX11_readsOrder_32 rfl ?_
      refine g_aload_n 1 rfl rfl dX11_readsOrder_35 ?_
      refine g_getR FX11_50 sM_0 rfl dX11_readsOrder_36 ?_
      refine g_iconst (v := 3) rfl dX11_readsOrder_39 ?_
      refine g_aload_n 1 rfl rfl dX11_readsOrder_40 ?_
      refine g_getI FX11_338 sM_0 rfl dX11_readsOrder_41 ?_
      refine g_imul dX11_readsOrder_44 ?_
      refine g_iload_n 0 rfl rfl dX11_readsOrder_45 ?_
      obtain ⟨M9, eM9, h⟩ := g_bnd h
      refine g_iast' eM9 sM_13 dX11_readsOrder_46 ?_
      refine g_aload_n 1 rfl rfl dX11_readsOrder_47 ?_
      refine g_iload_n 0 rfl rfl dX11_readsOrder_48 ?_
      obtain ⟨v10, ev10, h⟩ := g_bnd h
      refine g_callV LX11_341 sM_0 rfl (kX11_readsFirst ev10) rfl rfl (Nat.le_of_ble_eq_true rfl) ⟨Nat.le_of_ble_eq_true rfl, Nat.le_of_ble_eq_true rfl⟩ ⟨Nat.le_of_ble_eq_true rfl, Nat.le_of_ble_eq_true rfl⟩ dX11_readsOrder_49 rfl ?_
      rcases g_ite h with ⟨c11, h⟩ | ⟨c11, h⟩
      · refine g_if_ne_f c11 (tgt := 57) rfl dX11_readsOrder_52 ?_
        refine g_iconst (v := 0) rfl dX11_readsOrder_55 ?_
        cases h
        exact g_iret O ⟨Nat.le_of_ble_eq_true rfl, Nat.le_of_ble_eq_true rfl⟩ rfl dX11_readsOrder_56
      · refine g_if_ne_t c11 (tgt := 57) rfl dX11_readsOrder_52 ?_
        refine g_aload_n 1 rfl rfl dX11_readsOrder_57 ?_
        refine g_getR FX11_50 sM_0 rfl dX11_readsOrder_58 ?_
        refine g_iconst (v := 3) rfl dX11_readsOrder_61 ?_
        refine g_aload_n 1 rfl rfl dX11_readsOrder_62 ?_
        refine g_getI FX11_338 sM_0 rfl dX11_readsOrder_63 ?_
        refine g_imul dX11_readsOrder_66 ?_
        refine g_iconst (v := 1) rfl dX11_readsOrder_67 ?_
        refine g_iadd dX11_readsOrder_68 ?_
        refine g_aload_n 1 rfl rfl dX11_readsOrder_69 ?_
        refine g_getI FX11_257 sM_0 rfl dX11_readsOrder_70 ?_
        obtain ⟨M12, eM12, h⟩ := g_bnd h
        refine g_iast' eM12 sM_13 dX11_readsOrder_73 ?_
        refine g_aload_n 1 rfl rfl dX11_readsOrder_74 ?_
        refine g_iload_n 0 rfl rfl dX11_readsOrder_75 ?_
        obtain ⟨v13, ev13, h⟩ := g_bnd h
        refine g_callV LX11_344 sM_0 rfl (kX11_readsSecond ev13) rfl rfl (Nat.le_of_ble_eq_true rfl) ⟨Nat.le_of_ble_eq_true rfl, Nat.le_of_ble_eq_true rfl⟩ ⟨Nat.le_of_ble_eq_true rfl, Nat.le_of_ble_eq_true rfl⟩ dX11_readsOrder_76 rfl ?_
        rcases g_ite h with ⟨c14, h⟩ | ⟨c14, h⟩
        · refine g_if_ne_f c14 (tgt := 84) rfl dX11_readsOrder_79 ?_
          refine g_iconst (v := 0) rfl dX11_readsOrder_82 ?_
          cases h
          exact g_iret O ⟨Nat.le_of_ble_eq_true rfl, Nat.le_of_ble_eq_true rfl⟩ rfl dX11_readsOrder_83
        · refine g_if_ne_t c14 (tgt := 84) rfl dX11_readsOrder_79 ?_
          refine g_aload_n 1 rfl rfl dX11_readsOrder_84 ?_
          refine g_getR FX11_50 sM_0 rfl dX11_readsOrder_85 ?_
          refine g_iconst (v := 3) rfl dX11_readsOrder_88 ?_
          refine g_aload_n 1 rfl rfl dX11_readsOrder_89 ?_
          refine g_getI FX11_338 sM_0 rfl dX11_readsOrder_90 ?_
          refine g_imul dX11_readsOrder_93 ?_
          refine g_iconst (v := 2) rfl dX11_readsOrder_94 ?_
          refine g_iadd dX11_readsOrder_95 ?_
          refine g_aload_n 1 rfl rfl dX11_readsOrder_96 ?_
          refine g_getI FX11_257 sM_0 rfl dX11_readsOrder_97 ?_
          obtain ⟨M15, eM15, h⟩ := g_bnd h
          refine g_iast' eM15 sM_13 dX11_readsOrder_100 ?_
          refine g_aload_n 1 rfl rfl dX11_readsOrder_101 ?_
          refine g_dup rfl dX11_readsOrder_102 ?_
          refine g_getI FX11_338 sM_0 rfl dX11_readsOrder_103 ?_
          refine g_iconst (v := 1) rfl dX11_readsOrder_106 ?_
          refine g_iadd dX11_readsOrder_107 ?_
          obtain ⟨M16, eM16, h⟩ := g_bnd h
          refine g_putI' eM16 FX11_338 jX11 sM_0 rfl rfl rfl dX11_readsOrder_108 ?_
          refine g_aload_n 1 rfl rfl dX11_readsOrder_111 ?_
          refine g_getI FX11_231 sM_0 rfl dX11_readsOrder_112 ?_
          refine g_iconst (v := 3) rfl dX11_readsOrder_115 ?_
          rcases g_ite h with ⟨c17, h⟩ | ⟨c17, h⟩
          · refine g_icmp_eq_t c17 (tgt := 125) rfl dX11_readsOrder_116 ?_
            refine g_aload_n 1 rfl rfl dX11_readsOrder_125 ?_
            obtain ⟨v18, ev18, h⟩ := g_bnd h
            refine g_callV LX11_260 sM_0 rfl (kX11_goesOn ev18) rfl rfl (Nat.le_of_ble_eq_true rfl) ⟨Nat.le_of_ble_eq_true rfl, Nat.le_of_ble_eq_true rfl⟩ ⟨Nat.le_of_ble_eq_true rfl, Nat.le_of_ble_eq_true rfl⟩ dX11_readsOrder_126 rfl ?_
            refine g_iconst (v := 1) rfl dX11_readsOrder_129 ?_
            cases h
            exact g_iret O ⟨Nat.le_of_ble_eq_true rfl, Nat.le_of_ble_eq_true rfl⟩ rfl dX11_readsOrder_130
          · refine g_icmp_eq_f c17 (tgt := 125) rfl dX11_readsOrder_116 ?_
            refine g_aload_n 1 rfl rfl dX11_readsOrder_119 ?_
            refine g_iconst (v := 1) rfl dX11_readsOrder_120 ?_
            obtain ⟨v19, ev19, h⟩ := g_bnd h
            refine g_callV LX11_254 sM_0 rfl (kX11_fails ev19) rfl rfl (Nat.le_of_ble_eq_true rfl) ⟨Nat.le_of_ble_eq_true rfl, Nat.le_of_ble_eq_true rfl⟩ ⟨Nat.le_of_ble_eq_true rfl, Nat.le_of_ble_eq_true rfl⟩ dX11_readsOrder_121 rfl ?_
            obtain ⟨v20, ev20, h⟩ := g_bnd h
            refine g_zv ev20 ?_
            cases h
            exact g_iret O ⟨Nat.le_of_ble_eq_true rfl, Nat.le_of_ble_eq_true rfl⟩ (g_nz (zv_ok ev20)) dX11_readsOrder_124
theorem kX11_readsOrder {l : Launch} {V : gEnv} {M0 : gMem}   {o : (Int32 × gMem)} (h : fX11_readsOrder M0 = some o) : gM l yX11_readsOrder cX11_readsOrder 2 (some .boolean) rX11_readsOrder V gShM [.ref (gAd V 0)] M0 (some (.int o.1)) o.2 :=
  gM.of (by decide) (Nat.le_of_ble_eq_true rfl) rfl (fun X _ O => tX11_readsOrder  h O)
theorem dX11_readsOrders_0 : decode cX11_readsOrders 0 = .ok (.aload_n 0, 1) := by decide +kernel
theorem dX11_readsOrders_1 : decode cX11_readsOrders 1 = .ok (.iconst 0, 1) := by decide +kernel
theorem dX11_readsOrders_2 : decode cX11_readsOrders 2 = .ok (.putfield 338, 3) := by decide +kernel
theorem dX11_readsOrders_5 : decode cX11_readsOrders 5 = .ok (.aload_n 0, 1) := by decide +kernel
theorem dX11_readsOrders_6 : decode cX11_readsOrders 6 = .ok (.getfield 231, 3) := by decide +kernel
theorem dX11_readsOrders_9 : decode cX11_readsOrders 9 = .ok (.ifCond .eq 12, 3) := by decide +kernel
theorem dX11_readsOrders_12 : decode cX11_readsOrders 12 = .ok (.aload_n 0, 1) := by decide +kernel
theorem dX11_readsOrders_13 : decode cX11_readsOrders 13 = .ok (.invokevirtual 347, 3) := by decide +kernel
theorem dX11_readsOrders_16 : decode cX11_readsOrders 16 = .ok (.ifCond .ne (-11), 3) := by decide +kernel
theorem dX11_readsOrders_19 : decode cX11_readsOrders 19 = .ok (.iconst 0, 1) := by decide +kernel
theorem dX11_readsOrders_20 : decode cX11_readsOrders 20 = .ok (.ireturn, 1) := by decide +kernel
theorem dX11_readsOrders_21 : decode cX11_readsOrders 21 = .ok (.iconst 1, 1) := by decide +kernel
theorem dX11_readsOrders_22 : decode cX11_readsOrders 22 = .ok (.ireturn, 1) := by decide +kernel
abbrev rX11_readsOrders : Room := { frames := 7, cells := 0, slots := 0, locals := 183 }
abbrev mX11_readsOrders : gY := (cX11_readsOrders, RX11, 1, rX11_readsOrders)
def fX11_readsOrders_l5 (M0 : gMem) : Option (gMem ⊕ (gMem ⊕ (Int32 × gMem))) :=
  if (M0.1 0 25) = 0 then (some (.inr (.inl M0))) else (fX11_readsOrder M0).bind fun v3 => if v3.1 = 0 then (some (.inr (.inr ((0 : Int32), v3.2)))) else some (.inl v3.2)
set_option maxRecDepth 20000 in
theorem tX11_readsOrders_l5 {X : gX} {V : gEnv} {M0 : gMem}  {o : (gMem ⊕ (gMem ⊕ (Int32 × gMem)))} (h : fX11_readsOrders_l5 M0 = some o) (Kc : ∀ s9, o = .inl s9 → gG X V mX11_readsOrders gShM s9 0 0 5 [(0, .ref (gAd V 0))] []) (Kx : ∀ e9, o = .inr (.inl e9) → gG X V mX11_readsOrders gShM e9 0 0 21 [] []) (Kr : ∀ r9, o = .inr (.inr r9) → gO X V mX11_readsOrders gShM (some .boolean) (some (.int r9.1)) r9.2) : gG X V mX11_readsOrders gShM M0 0 0 5 [(0, .ref (gAd V 0))] [] := by
  unfold fX11_readsOrders_l5 at h
  refine g_aload_n 0 rfl rfl dX11_readsOrders_5 ?_
  refine g_getI FX11_231 sM_0 rfl dX11_readsOrders_6 ?_
  rcases g_ite h with ⟨c2, h⟩ | ⟨c2, h⟩
  · refine g_if_eq_t c2 (tgt := 21) rfl dX11_readsOrders_9 ?_
    cases h
    refine g_sub [] rfl ?_
    exact Kx M0 rfl
  · refine g_if_eq_f c2 (tgt := 21) rfl dX11_readsOrders_9 ?_
    refine g_aload_n 0 rfl rfl dX11_readsOrders_12 ?_
    obtain ⟨v3, ev3, h⟩ := g_bnd h
    refine g_callV LX11_347 sM_0 rfl (kX11_readsOrder ev3) rfl rfl (Nat.le_of_ble_eq_true rfl) ⟨Nat.le_of_ble_eq_true rfl, Nat.le_of_ble_eq_true rfl⟩ ⟨Nat.le_of_ble_eq_true rfl, Nat.le_of_ble_eq_true rfl⟩ dX11_readsOrders_13 rfl ?_
    rcases g_ite h with ⟨c4, h⟩ | ⟨c4, h⟩
    · refine g_if_ne_f c4 (tgt := 5) rfl dX11_readsOrders_16 ?_
      refine g_iconst (v := 0) rfl dX11_readsOrders_19 ?_
      cases h
      exact g_iret (Kr ((0 : Int32), v3.2) rfl) ⟨Nat.le_of_ble_eq_true rfl, Nat.le_of_ble_eq_true rfl⟩ rfl dX11_readsOrders_20
    · refine g_if_ne_t c4 (tgt := 5) rfl dX11_readsOrders_16 ?_
      cases h
      exact Kc v3.2 rfl
def fX11_readsOrders (M0 : gMem) : Option (Int32 × gMem) :=
  (wF M0 0 33 (0 : Int32)).bind fun M1 => (gLoop (fun z9 => fX11_readsOrders_l5 z9) gFu M1).bind fun w5 => gSE w5 (fun y6 => some ((1 : Int32), y6)) (fun r7 => some r7)
set_option maxRecDepth 20000 in
theorem tX11_readsOrders {X : gX} {V : gEnv} {M0 : gMem}  {o : (Int32 × gMem)} (h : fX11_readsOrders M0 = some o) (O : gO X V mX11_readsOrders gShM (some .boolean) (some (.int o.1)) o.2) : gG X V mX11_readsOrders gShM M0 0 0 0 [(0, .ref (gAd V 0))] [] := by
  unfold fX11_readsOrders at h
  refine g_aload_n 0 rfl rfl dX11_readsOrders_0 ?_
  refine g_iconst (v := 0) rfl dX11_readsOrders_1 ?_
  obtain ⟨M1, eM1, h⟩ := g_bnd h
  refine g_putI' eM1 FX11_338 jX11 sM_0 rfl rfl rfl dX11_readsOrders_2 ?_
  obtain ⟨w5, ew5, h⟩ := g_bnd h
  rcases w5 with y6 | r7
  · have h := g_sl h
    have KX : gG X V mX11_readsOrders gShM y6 0 0 21 [] [] := by
      refine g_iconst (v := 1) rfl dX11_readsOrders_21 ?_
      cases h
      exact g_iret O ⟨Nat.le_of_ble_eq_true rfl, Nat.le_of_ble_eq_true rfl⟩ rfl dX11_readsOrders_22
    exact gLoop_Q ew5 (fun z9 => gG X V mX11_readsOrders gShM z9 0 0 5 [(0, .ref (gAd V 0))] []) (fun s9 o9 hb9 hc9 hx9 => tX11_readsOrders_l5  hb9 hc9 (fun e9 he9 => by cases hx9 _ he9; exact KX) (fun r9 he9 => by cases hx9 _ he9))
  · have h := g_sr h
    cases h
    exact gLoop_Q ew5 (fun z9 => gG X V mX11_readsOrders gShM z9 0 0 5 [(0, .ref (gAd V 0))] []) (fun s9 o9 hb9 hc9 hx9 => tX11_readsOrders_l5  hb9 hc9 (fun e9 he9 => by cases hx9 _ he9) (fun r9 he9 => by cases hx9 _ he9; exact O))
theorem kX11_readsOrders {l : Launch} {V : gEnv} {M0 : gMem}   {o : (Int32 × gMem)} (h : fX11_readsOrders M0 = some o) : gM l yX11_readsOrders cX11_readsOrders 1 (some .boolean) rX11_readsOrders V gShM [.ref (gAd V 0)] M0 (some (.int o.1)) o.2 :=
  gM.of (by decide) (Nat.le_of_ble_eq_true rfl) rfl (fun X _ O => tX11_readsOrders  h O)
theorem dX11_cutsFrom_0 : decode cX11_cutsFrom 0 = .ok (.aload_n 0, 1) := by decide +kernel
theorem dX11_cutsFrom_1 : decode cX11_cutsFrom 1 = .ok (.iload_n 1, 1) := by decide +kernel
theorem dX11_cutsFrom_2 : decode cX11_cutsFrom 2 = .ok (.iload_n 2, 1) := by decide +kernel
theorem dX11_cutsFrom_3 : decode cX11_cutsFrom 3 = .ok (.invokevirtual 123, 3) := by decide +kernel
theorem dX11_cutsFrom_6 : decode cX11_cutsFrom 6 = .ok (.istore_n 3, 1) := by decide +kernel
theorem dX11_cutsFrom_7 : decode cX11_cutsFrom 7 = .ok (.iload_n 3, 1) := by decide +kernel
theorem dX11_cutsFrom_8 : decode cX11_cutsFrom 8 = .ok (.iconst (-1), 1) := by decide +kernel
theorem dX11_cutsFrom_9 : decode cX11_cutsFrom 9 = .ok (.if_icmp .ne 8, 3) := by decide +kernel
theorem dX11_cutsFrom_12 : decode cX11_cutsFrom 12 = .ok (.bipush (-9), 2) := by decide +kernel
theorem dX11_cutsFrom_14 : decode cX11_cutsFrom 14 = .ok (.goto 8, 3) := by decide +kernel
theorem dX11_cutsFrom_17 : decode cX11_cutsFrom 17 = .ok (.aload_n 0, 1) := by decide +kernel
theorem dX11_cutsFrom_18 : decode cX11_cutsFrom 18 = .ok (.iload_n 3, 1) := by decide +kernel
theorem dX11_cutsFrom_19 : decode cX11_cutsFrom 19 = .ok (.invokevirtual 350, 3) := by decide +kernel
theorem dX11_cutsFrom_22 : decode cX11_cutsFrom 22 = .ok (.ireturn, 1) := by decide +kernel
abbrev rX11_cutsFrom : Room := { frames := 5, cells := 0, slots := 0, locals := 120 }
abbrev mX11_cutsFrom : gY := (cX11_cutsFrom, RX11, 4, rX11_cutsFrom)
def fX11_cutsFrom (x1 : Int32) (x2 : Int32) (M0 : gMem) : Option (Int32 × gMem) :=
  (fX11_arrowFrom x1 x2 M0).bind fun v1 => if v1 = (-1 : Int32) then (some ((-9 : Int32), M0)) else (fX11_cuts v1 M0).bind fun v3 => some (v3.1, v3.2)
set_option maxRecDepth 20000 in
theorem tX11_cutsFrom {X : gX} {V : gEnv} {x1 : Int32} {x2 : Int32} {M0 : gMem}  {o : (Int32 × gMem)} (h : fX11_cutsFrom x1 x2 M0 = some o) (O : gO X V mX11_cutsFrom gShM (some .int) (some (.int o.1)) o.2) : gG X V mX11_cutsFrom gShM M0 0 0 0 [(0, .ref (gAd V 0)), (1, .int x1), (2, .int x2)] [] := by
  unfold fX11_cutsFrom at h
  refine g_aload_n 0 rfl rfl dX11_cutsFrom_0 ?_
  refine g_iload_n 1 rfl rfl dX11_cutsFrom_1 ?_
  refine g_iload_n 2 rfl rfl dX11_cutsFrom_2 ?_
  obtain ⟨v1, ev1, h⟩ := g_bnd h
  refine g_callV LX11_123 sM_0 rfl (kX11_arrowFrom ev1) rfl rfl (Nat.le_of_ble_eq_true rfl) ⟨Nat.le_of_ble_eq_true rfl, Nat.le_of_ble_eq_true rfl⟩ ⟨Nat.le_of_ble_eq_true rfl, Nat.le_of_ble_eq_true rfl⟩ dX11_cutsFrom_3 rfl ?_
  refine g_istore_n (ls' := [(3, .int v1), (0, .ref (gAd V 0)), (1, .int x1), (2, .int x2)]) rfl (Nat.le_of_ble_eq_true rfl) rfl dX11_cutsFrom_6 ?_
  refine g_iload_n 0 rfl rfl dX11_cutsFrom_7 ?_
  refine g_iconst (v := -1) rfl dX11_cutsFrom_8 ?_
  rcases g_ite h with ⟨c2, h⟩ | ⟨c2, h⟩
  · refine g_icmp_ne_f c2 (tgt := 17) rfl dX11_cutsFrom_9 ?_
    refine g_bipush (v := -9) rfl dX11_cutsFrom_12 ?_
    refine g_goto (tgt := 22) rfl dX11_cutsFrom_14 ?_
    cases h
    exact g_iret O ⟨Nat.le_of_ble_eq_true rfl, Nat.le_of_ble_eq_true rfl⟩ rfl dX11_cutsFrom_22
  · refine g_icmp_ne_t c2 (tgt := 17) rfl dX11_cutsFrom_9 ?_
    refine g_aload_n 1 rfl rfl dX11_cutsFrom_17 ?_
    refine g_iload_n 0 rfl rfl dX11_cutsFrom_18 ?_
    obtain ⟨v3, ev3, h⟩ := g_bnd h
    refine g_callV LX11_350 sM_0 rfl (kX11_cuts ev3) rfl rfl (Nat.le_of_ble_eq_true rfl) ⟨Nat.le_of_ble_eq_true rfl, Nat.le_of_ble_eq_true rfl⟩ ⟨Nat.le_of_ble_eq_true rfl, Nat.le_of_ble_eq_true rfl⟩ dX11_cutsFrom_19 rfl ?_
    cases h
    exact g_iret O ⟨Nat.le_of_ble_eq_true rfl, Nat.le_of_ble_eq_true rfl⟩ rfl dX11_cutsFrom_22
theorem kX11_cutsFrom {l : Launch} {V : gEnv} {M0 : gMem} {x1 : Int32} {x2 : Int32}  {o : (Int32 × gMem)} (h : fX11_cutsFrom x1 x2 M0 = some o) : gM l yX11_cutsFrom cX11_cutsFrom 4 (some .int) rX11_cutsFrom V gShM [.ref (gAd V 0), .int x1, .int x2] M0 (some (.int o.1)) o.2 :=
  gM.of (by decide) (Nat.le_of_ble_eq_true rfl) rfl (fun X _ O => tX11_cutsFrom  h O)
theorem dX11_does_0 : decode cX11_does 0 = .ok (.aload_n 0, 1) := by decide +kernel
theorem dX11_does_1 : decode cX11_does 1 = .ok (.getfield 50, 3) := by decide +kernel
theorem dX11_does_4 : decode cX11_does 4 = .ok (.iconst 3, 1) := by decide +kernel
theorem dX11_does_5 : decode cX11_does 5 = .ok (.iload_n 1, 1) := by decide +kernel
theorem dX11_does_6 : decode cX11_does 6 = .ok (.imul, 1) := by decide +kernel
theorem dX11_does_7 : decode cX11_does 7 = .ok (.iconst 1, 1) := by decide +kernel
theorem dX11_does_8 : decode cX11_does 8 = .ok (.iadd, 1) := by decide +kernel
theorem dX11_does_9 : decode cX11_does 9 = .ok (.iaload, 1) := by decide +kernel
theorem dX11_does_10 : decode cX11_does 10 = .ok (.istore_n 2, 1) := by decide +kernel
theorem dX11_does_11 : decode cX11_does 11 = .ok (.aload_n 0, 1) := by decide +kernel
theorem dX11_does_12 : decode cX11_does 12 = .ok (.getfield 50, 3) := by decide +kernel
theorem dX11_does_15 : decode cX11_does 15 = .ok (.iconst 3, 1) := by decide +kernel
theorem dX11_does_16 : decode cX11_does 16 = .ok (.iload_n 1, 1) := by decide +kernel
theorem dX11_does_17 : decode cX11_does 17 = .ok (.imul, 1) := by decide +kernel
theorem dX11_does_18 : decode cX11_does 18 = .ok (.iconst 2, 1) := by decide +kernel
theorem dX11_does_19 : decode cX11_does 19 = .ok (.iadd, 1) := by decide +kernel
theorem dX11_does_20 : decode cX11_does 20 = .ok (.iaload, 1) := by decide +kernel
theorem dX11_does_21 : decode cX11_does 21 = .ok (.istore_n 3, 1) := by decide +kernel
theorem dX11_does_22 : decode cX11_does 22 = .ok (.aload_n 0, 1) := by decide +kernel
theorem dX11_does_23 : decode cX11_does 23 = .ok (.getfield 50, 3) := by decide +kernel
theorem dX11_does_26 : decode cX11_does 26 = .ok (.iconst 3, 1) := by decide +kernel
theorem dX11_does_27 : decode cX11_does 27 = .ok (.iload_n 1, 1) := by decide +kernel
theorem dX11_does_28 : decode cX11_does 28 = .ok (.imul, 1) := by decide +kernel
theorem dX11_does_29 : decode cX11_does 29 = .ok (.iaload, 1) := by decide +kernel
theorem dX11_does_30 : decode cX11_does 30 = .ok (.tableswitch 105 0 5 #[38, 45, 52, 68, 91, 98], 38) := by decide +kernel
theorem dX11_does_68 : decode cX11_does 68 = .ok (.aload_n 0, 1) := by decide +kernel
theorem dX11_does_69 : decode cX11_does 69 = .ok (.iload_n 2, 1) := by decide +kernel
theorem dX11_does_70 : decode cX11_does 70 = .ok (.iload_n 3, 1) := by decide +kernel
theorem dX11_does_71 : decode cX11_does 71 = .ok (.invokevirtual 282, 3) := by decide +kernel
theorem dX11_does_74 : decode cX11_does 74 = .ok (.ireturn, 1) := by decide +kernel
theorem dX11_does_75 : decode cX11_does 75 = .ok (.aload_n 0, 1) := by decide +kernel
theorem dX11_does_76 : decode cX11_does 76 = .ok (.iload_n 2, 1) := by decide +kernel
theorem dX11_does_77 : decode cX11_does 77 = .ok (.iload_n 3, 1) := by decide +kernel
theorem dX11_does_78 : decode cX11_does 78 = .ok (.invokevirtual 353, 3) := by decide +kernel
theorem dX11_does_81 : decode cX11_does 81 = .ok (.ireturn, 1) := by decide +kernel
theorem dX11_does_82 : decode cX11_does 82 = .ok (.aload_n 0, 1) := by decide +kernel
theorem dX11_does_83 : decode cX11_does 83 = .ok (.sipush 158, 3) := by decide +kernel
theorem dX11_does_86 : decode cX11_does 86 = .ok (.bipush 9, 2) := by decide +kernel
theorem dX11_does_88 : decode cX11_does 88 = .ok (.iload_n 2, 1) := by decide +kernel
theorem dX11_does_89 : decode cX11_does 89 = .ok (.imul, 1) := by decide +kernel
theorem dX11_does_90 : decode cX11_does 90 = .ok (.iadd, 1) := by decide +kernel
theorem dX11_does_91 : decode cX11_does 91 = .ok (.iconst 0, 1) := by decide +kernel
theorem dX11_does_92 : decode cX11_does 92 = .ok (.iadd, 1) := by decide +kernel
theorem dX11_does_93 : decode cX11_does 93 = .ok (.iload_n 3, 1) := by decide +kernel
theorem dX11_does_94 : decode cX11_does 94 = .ok (.invokevirtual 356, 3) := by decide +kernel
theorem dX11_does_97 : decode cX11_does 97 = .ok (.ireturn, 1) := by decide +kernel
theorem dX11_does_98 : decode cX11_does 98 = .ok (.iload_n 2, 1) := by decide +kernel
theorem dX11_does_99 : decode cX11_does 99 = .ok (.aload_n 0, 1) := by decide +kernel
theorem dX11_does_100 : decode cX11_does 100 = .ok (.getfield 9, 3) := by decide +kernel
theorem dX11_does_103 : decode cX11_does 103 = .ok (.iconst 2, 1) := by decide +kernel
theorem dX11_does_104 : decode cX11_does 104 = .ok (.iaload, 1) := by decide +kernel
theorem dX11_does_105 : decode cX11_does 105 = .ok (.iconst 2, 1) := by decide +kernel
theorem dX11_does_106 : decode cX11_does 106 = .ok (.isub, 1) := by decide +kernel
theorem dX11_does_107 : decode cX11_does 107 = .ok (.if_icmp .le 8, 3) := by decide +kernel
theorem dX11_does_110 : decode cX11_does 110 = .ok (.bipush (-9), 2) := by decide +kernel
theorem dX11_does_112 : decode cX11_does 112 = .ok (.goto 8, 3) := by decide +kernel
theorem dX11_does_115 : decode cX11_does 115 = .ok (.aload_n 0, 1) := by decide +kernel
theorem dX11_does_116 : decode cX11_does 116 = .ok (.iload_n 2, 1) := by decide +kernel
theorem dX11_does_117 : decode cX11_does 117 = .ok (.invokevirtual 359, 3) := by decide +kernel
theorem dX11_does_120 : decode cX11_does 120 = .ok (.ireturn, 1) := by decide +kernel
theorem dX11_does_121 : decode cX11_does 121 = .ok (.aload_n 0, 1) := by decide +kernel
theorem dX11_does_122 : decode cX11_does 122 = .ok (.iconst 3, 1) := by decide +kernel
theorem dX11_does_123 : decode cX11_does 123 = .ok (.iload_n 2, 1) := by decide +kernel
theorem dX11_does_124 : decode cX11_does 124 = .ok (.invokevirtual 356, 3) := by decide +kernel
theorem dX11_does_127 : decode cX11_does 127 = .ok (.ireturn, 1) := by decide +kernel
theorem dX11_does_128 : decode cX11_does 128 = .ok (.aload_n 0, 1) := by decide +kernel
theorem dX11_does_129 : decode cX11_does 129 = .ok (.iconst 4, 1) := by decide +kernel
theorem dX11_does_130 : decode cX11_does 130 = .ok (.iload_n 2, 1) := by decide +kernel
theorem dX11_does_131 : decode cX11_does 131 = .ok (.invokevirtual 356, 3) := by decide +kernel
theorem dX11_does_134 : decode cX11_does 134 = .ok (.ireturn, 1) := by decide +kernel
theorem dX11_does_135 : decode cX11_does 135 = .ok (.aload_n 0, 1) := by decide +kernel
theorem dX11_does_136 : decode cX11_does 136 = .ok (.invokevirtual 362, 3) := by decide +kernel
theorem dX11_does_139 : decode cX11_does 139 = .ok (.ireturn, 1) := by decide +kernel
abbrev rX11_does : Room := { frames := 7, cells := 0, slots := 0, locals := 162 }
abbrev mX11_does : gY := (cX11_does, RX11, 4, rX11_does)
def fX11_does (x1 : Int32) (M0 : gMem) : Option (Int32 × gMem) :=
  (rI M0 13 90 (((3 : Int32) * x1) + (1 : Int32))).bind fun v1 => (rI M0 13 90 (((3 : Int32) * x1) + (2 : Int32))).bind fun v2 => (rI M0 13 90 ((3 : Int32) * x1)).bind fun v3 => if v3 = (0 : Int32) then ((fX11_comes v1 v2 M0).bind fun v5 => some (v5.1, v5.2)) else if v3 = (1 : Int32) then ((fX11_cutsFrom v1 v2 M0).bind fun v7 => some (v7.1, v7.2)) else if v3 = (2 : Int32) then ((fX11_becomes (((158 : Int32) + ((9 : Int32) * v1)) + (0 : Int32)) v2 M0).bind fun v9 => some (v9.1, v9.2)) else if v3 = (3 : Int32) then ((rI M0 1 374 (2 : Int32)).bind fun v11 => if v1 ≤ (v11 - (2 : Int32)) then ((fX11_swaps v1 M0).bind fun v13 => some (v13.1, v13.2)) else some ((-9 : Int32), M0)) else if v3 = (4 : Int32) then ((fX11_becomes (3 : Int32) v1 M0).bind fun v15 => some (v15.1, v15.2)) else if v3 = (5 : Int32) then ((fX11_becomes (4 : Int32) v1 M0).bind fun v17 => some (v17.1, v17.2)) else (fX11_refreshes M0).bind fun v18 => some (v18.1, v18.2)
set_option maxRecDepth 20000 in
theorem tX11_does {X : gX} {V : gEnv} {x1 : Int32} {M0 : gMem}  {o : (Int32 × gMem)} (h : fX11_does x1 M0 = some o) (O : gO X V mX11_does gShM (some .int) (some (.int o.1)) o.2) : gG X V mX11_does gShM M0 0 0 0 [(0, .ref (gAd V 0)), (1, .int x1)] [] := by
  unfold fX11_does at h
  refine g_aload_n 0 rfl rfl dX11_does_0 ?_
  refine g_getR FX11_50 sM_0 rfl dX11_does_1 ?_
  refine g_iconst (v := 3) rfl dX11_does_4 ?_
  refine g_iload_n 1 rfl rfl dX11_does_5 ?_
  refine g_imul dX11_does_6 ?_
  refine g_iconst (v := 1) rfl dX11_does_7 ?_
  refine g_iadd dX11_does_8 ?_
  obtain ⟨v1, ev1, h⟩ := g_bnd h
  refine g_iald' ev1 sM_13 dX11_does_9 ?_
  refine g_istore_n (ls' := [(2, .int v1), (0, .ref (gAd V 0)), (1, .int x1)]) rfl (Nat.le_of_ble_eq_true rfl) rfl dX11_does_10 ?_
  refine g_aload_n 1 rfl rfl dX11_does_11 ?_
  refine g_getR FX11_50 sM_0 rfl dX11_does_12 ?_
  refine g_iconst (v := 3) rfl dX11_does_15 ?_
  refine g_iload_n 2 rfl rfl dX11_does_16 ?_
  refine g_imul dX11_does_17 ?_
  refine g_iconst (v := 2) rfl dX11_does_18 ?_
  refine g_iadd dX11_does_19 ?_
  obtain ⟨v2, ev2, h⟩ := g_bnd h
  refine g_iald' ev2 sM_13 dX11_does_20 ?_
  refine g_istore_n (ls' := [(3, .int v2), (2, .int v1), (0, .ref (gAd V 0)), (1, .int x1)]) rfl (Nat.le_of_ble_eq_true rfl) rfl dX11_does_21 ?_
  refine g_aload_n 2 rfl rfl dX11_does_22 ?_
  refine g_getR FX11_50 sM_0 rfl dX11_does_23 ?_
  refine g_iconst (v := 3) rfl dX11_does_26 ?_
  refine g_iload_n 3 rfl rfl dX11_does_27 ?_
  refine g_imul dX11_does_28 ?_
  obtain ⟨v3, ev3, h⟩ := g_bnd h
  refine g_iald' ev3 sM_13 dX11_does_29 ?_
  rcases g_ite h with ⟨c4, h⟩ | ⟨c4, h⟩
  · refine g_tabIn (off := 38) (tgt := 68) (by rw [c4]; decide) (by rw [c4]; decide) (by rw [c4]; rfl) rfl dX11_does_30 ?_
    refine g_aload_n 2 rfl rfl dX11_does_68 ?_
    refine g_iload_n 1 rfl rfl dX11_does_69 ?_
    refine g_iload_n 0 rfl rfl dX11_does_70 ?_
    obtain ⟨v5, ev5, h⟩ := g_bnd h
    refine g_callV LX11_282 sM_0 rfl (kX11_comes ev5) rfl rfl (Nat.le_of_ble_eq_true rfl) ⟨Nat.le_of_ble_eq_true rfl, Nat.le_of_ble_eq_true rfl⟩ ⟨Nat.le_of_ble_eq_true rfl, Nat.le_of_ble_eq_true rfl⟩ dX11_does_71 rfl ?_
    cases h
    exact g_iret O ⟨Nat.le_of_ble_eq_true rfl, Nat.le_of_ble_eq_true rfl⟩ rfl dX11_does_74
  ·
    rcases g_ite h with ⟨c6, h⟩ | ⟨c6, h⟩
    · refine g_tabIn (off := 45) (tgt := 75) (by rw [c6]; decide) (by rw [c6]; decide) (by rw [c6]; rfl) rfl dX11_does_30 ?_
      refine g_aload_n 2 rfl rfl dX11_does_75 ?_
      refine g_iload_n 1 rfl rfl dX11_does_76 ?_
      refine g_iload_n 0 rfl rfl dX11_does_77 ?_
      obtain ⟨v7, ev7, h⟩ := g_bnd h
      refine g_callV LX11_353 sM_0 rfl (kX11_cutsFrom ev7) rfl rfl (Nat.le_of_ble_eq_true rfl) ⟨Nat.le_of_ble_eq_true rfl, Nat.le_of_ble_eq_true rfl⟩ ⟨Nat.le_of_ble_eq_true rfl, Nat.le_of_ble_eq_true rfl⟩ dX11_does_78 rfl ?_
      cases h
      exact g_iret O ⟨Nat.le_of_ble_eq_true rfl, Nat.le_of_ble_eq_true rfl⟩ rfl dX11_does_81
    ·
      rcases g_ite h with ⟨c8, h⟩ | ⟨c8, h⟩
      · refine g_tabIn (off := 52) (tgt := 82) (by rw [c8]; decide) (by rw [c8]; decide) (by rw [c8]; rfl) rfl dX11_does_30 ?_
        refine g_aload_n 2 rfl rfl dX11_does_82 ?_
        refine g_sipush (v := 158) rfl dX11_does_83 ?_
        refine g_bipush (v := 9) rfl dX11_does_86 ?_
        refine g_iload_n 1 rfl rfl dX11_does_88 ?_
        refine g_imul dX11_does_89 ?_
        refine g_iadd dX11_does_90 ?_
        refine g_iconst (v := 0) rfl dX11_does_91 ?_
        refine g_iadd dX11_does_92 ?_
        refine g_iload_n 0 rfl rfl dX11_does_93 ?_
        obtain ⟨v9, ev9, h⟩ := g_bnd h
        refine g_callV LX11_356 sM_0 rfl (kX11_becomes ev9) rfl rfl (Nat.le_of_ble_eq_true rfl) ⟨Nat.le_of_ble_eq_true rfl, Nat.le_of_ble_eq_true rfl⟩ ⟨Nat.le_of_ble_eq_true rfl, Nat.le_of_ble_eq_true rfl⟩ dX11_does_94 rfl ?_
        cases h
        exact g_iret O ⟨Nat.le_of_ble_eq_true rfl, Nat.le_of_ble_eq_true rfl⟩ rfl dX11_does_97
      ·
        rcases g_ite h with ⟨c10, h⟩ | ⟨c10, h⟩
        · refine g_tabIn (off := 68) (tgt := 98) (by rw [c10]; decide) (by rw [c10]; decide) (by rw [c10]; rfl) rfl dX11_does_30 ?_
          refine g_iload_n 1 rfl rfl dX11_does_98 ?_
          refine g_aload_n 2 rfl rfl dX11_does_99 ?_
          refine g_getR FX11_9 sM_0 rfl dX11_does_100 ?_
          refine g_iconst (v := 2) rfl dX11_does_103 ?_
          obtain ⟨v11, ev11, h⟩ := g_bnd h
          refine g_iald' ev11 sM_1 dX11_does_104 ?_
          refine g_iconst (v := 2) rfl dX11_does_105 ?_
          refine g_isub dX11_does_106 ?_
          rcases g_ite h with ⟨c12, h⟩ | ⟨c12, h⟩
          · refine g_icmp_le_t c12 (tgt := 115) rfl dX11_does_107 ?_
            refine g_aload_n 2 rfl rfl dX11_does_115 ?_
            refine g_iload_n 1 rfl rfl dX11_does_116 ?_
            obtain ⟨v13, ev13, h⟩ := g_bnd h
            refine g_callV LX11_359 sM_0 rfl (kX11_swaps ev13) rfl rfl (Nat.le_of_ble_eq_true rfl) ⟨Nat.le_of_ble_eq_true rfl, Nat.le_of_ble_eq_true rfl⟩ ⟨Nat.le_of_ble_eq_true rfl, Nat.le_of_ble_eq_true rfl⟩ dX11_does_117 rfl ?_
            cases h
            exact g_iret O ⟨Nat.le_of_ble_eq_true rfl, Nat.le_of_ble_eq_true rfl⟩ rfl dX11_does_120
          · refine g_icmp_le_f c12 (tgt := 115) rfl dX11_does_107 ?_
            refine g_bipush (v := -9) rfl dX11_does_110 ?_
            refine g_goto (tgt := 120) rfl dX11_does_112 ?_
            cases h
            exact g_iret O ⟨Nat.le_of_ble_eq_true rfl, Nat.le_of_ble_eq_true rfl⟩ rfl dX11_does_120
        ·
          rcases g_ite h with ⟨c14, h⟩ | ⟨c14, h⟩
          · refine g_tabIn (off := 91) (tgt := 121) (by rw [c14]; decide) (by rw [c14]; decide) (by rw [c14]; rfl) rfl dX11_does_30 ?_
            refine g_aload_n 2 rfl rfl dX11_does_121 ?_
            refine g_iconst (v := 3) rfl dX11_does_122 ?_
            refine g_iload_n 1 rfl rfl dX11_does_123 ?_
            obtain ⟨v15, ev15, h⟩ := g_bnd h
            refine g_callV LX11_356 sM_0 rfl (kX11_becomes ev15) rfl rfl (Nat.le_of_ble_eq_true rfl) ⟨Nat.le_of_ble_eq_true rfl, Nat.le_of_ble_eq_true rfl⟩ ⟨Nat.le_of_ble_eq_true rfl, Nat.le_of_ble_eq_true rfl⟩ dX11_does_124 rfl ?_
            cases h
            exact g_iret O ⟨Nat.le_of_ble_eq_true rfl, Nat.le_of_ble_eq_true rfl⟩ rfl dX11_does_127
          ·
            rcases g_ite h with ⟨c16, h⟩ | ⟨c16, h⟩
            · refine g_tabIn (off := 98) (tgt := 128) (by rw [c16]; decide) (by rw [c16]; decide) (by rw [c16]; rfl) rfl dX11_does_30 ?_
              refine g_aload_n 2 rfl rfl dX11_does_128 ?_
              refine g_iconst (v := 4) rfl dX11_does_129 ?_
              refine g_iload_n 1 rfl rfl dX11_does_130 ?_
              obtain ⟨v17, ev17, h⟩ := g_bnd h
              refine g_callV LX11_356 sM_0 rfl (kX11_becomes ev17) rfl rfl (Nat.le_of_ble_eq_true rfl) ⟨Nat.le_of_ble_eq_true rfl, Nat.le_of_ble_eq_true rfl⟩ ⟨Nat.le_of_ble_eq_true rfl, Nat.le_of_ble_eq_true rfl⟩ dX11_does_131 rfl ?_
              cases h
              exact g_iret O ⟨Nat.le_of_ble_eq_true rfl, Nat.le_of_ble_eq_true rfl⟩ rfl dX11_does_134
            ·
              have nc4 := gne (0 : Int32) (j := 0) rfl c4
              have nc6 := gne (1 : Int32) (j := 1) rfl c6
              have nc8 := gne (2 : Int32) (j := 2) rfl c8
              have nc10 := gne (3 : Int32) (j := 3) rfl c10
              have nc14 := gne (4 : Int32) (j := 4) rfl c14
              have nc16 := gne (5 : Int32) (j := 5) rfl c16
              refine g_tabOut (tgt := 135) (by omega) rfl dX11_does_30 ?_
              refine g_aload_n 2 rfl rfl dX11_does_135 ?_
              obtain ⟨v18, ev18, h⟩ := g_bnd h
              refine g_callV LX11_362 sM_0 rfl (kX11_refreshes ev18) rfl rfl (Nat.le_of_ble_eq_true rfl) ⟨Nat.le_of_ble_eq_true rfl, Nat.le_of_ble_eq_true rfl⟩ ⟨Nat.le_of_ble_eq_true rfl, Nat.le_of_ble_eq_true rfl⟩ dX11_does_136 rfl ?_
              cases h
              exact g_iret O ⟨Nat.le_of_ble_eq_true rfl, Nat.le_of_ble_eq_true rfl⟩ rfl dX11_does_139
theorem kX11_does {l : Launch} {V : gEnv} {M0 : gMem} {x1 : Int32}  {o : (Int32 × gMem)} (h : fX11_does x1 M0 = some o) : gM l yX11_does cX11_does 4 (some .int) rX11_does V gShM [.ref (gAd V 0), .int x1] M0 (some (.int o.1)) o.2 :=
  gM.of (by decide) (Nat.le_of_ble_eq_true rfl) rfl (fun X _ O => tX11_does  h O)
theorem dX11_runOrders_0 : decode cX11_runOrders 0 = .ok (.aload_n 0, 1) := by decide +kernel
theorem dX11_runOrders_1 : decode cX11_runOrders 1 = .ok (.iconst 0, 1) := by decide +kernel
theorem dX11_runOrders_2 : decode cX11_runOrders 2 = .ok (.putfield 72, 3) := by decide +kernel
theorem dX11_runOrders_5 : decode cX11_runOrders 5 = .ok (.aload_n 0, 1) := by decide +kernel
theorem dX11_runOrders_6 : decode cX11_runOrders 6 = .ok (.invokevirtual 315, 3) := by decide +kernel
theorem dX11_runOrders_9 : decode cX11_runOrders 9 = .ok (.aload_n 0, 1) := by decide +kernel
theorem dX11_runOrders_10 : decode cX11_runOrders 10 = .ok (.invokevirtual 365, 3) := by decide +kernel
theorem dX11_runOrders_13 : decode cX11_runOrders 13 = .ok (.istore_n 1, 1) := by decide +kernel
theorem dX11_runOrders_14 : decode cX11_runOrders 14 = .ok (.aload_n 0, 1) := by decide +kernel
theorem dX11_runOrders_15 : decode cX11_runOrders 15 = .ok (.invokevirtual 321, 3) := by decide +kernel
theorem dX11_runOrders_18 : decode cX11_runOrders 18 = .ok (.ifCond .ne 10, 3) := by decide +kernel
theorem dX11_runOrders_21 : decode cX11_runOrders 21 = .ok (.aload_n 0, 1) := by decide +kernel
theorem dX11_runOrders_22 : decode cX11_runOrders 22 = .ok (.iconst 1, 1) := by decide +kernel
theorem dX11_runOrders_23 : decode cX11_runOrders 23 = .ok (.putfield 72, 3) := by decide +kernel
theorem dX11_runOrders_26 : decode cX11_runOrders 26 = .ok (.iconst 0, 1) := by decide +kernel
theorem dX11_runOrders_27 : decode cX11_runOrders 27 = .ok (.ireturn, 1) := by decide +kernel
theorem dX11_runOrders_28 : decode cX11_runOrders 28 = .ok (.aload_n 0, 1) := by decide +kernel
theorem dX11_runOrders_29 : decode cX11_runOrders 29 = .ok (.invokevirtual 368, 3) := by decide +kernel
theorem dX11_runOrders_32 : decode cX11_runOrders 32 = .ok (.aload_n 0, 1) := by decide +kernel
theorem dX11_runOrders_33 : decode cX11_runOrders 33 = .ok (.invokevirtual 371, 3) := by decide +kernel
theorem dX11_runOrders_36 : decode cX11_runOrders 36 = .ok (.iconst 0, 1) := by decide +kernel
theorem dX11_runOrders_37 : decode cX11_runOrders 37 = .ok (.istore_n 2, 1) := by decide +kernel
theorem dX11_runOrders_38 : decode cX11_runOrders 38 = .ok (.iload_n 2, 1) := by decide +kernel
theorem dX11_runOrders_39 : decode cX11_runOrders 39 = .ok (.aload_n 0, 1) := by decide +kernel
theorem dX11_runOrders_40 : decode cX11_runOrders 40 = .ok (.getfield 338, 3) := by decide +kernel
theorem dX11_runOrders_43 : decode cX11_runOrders 43 = .ok (.if_icmp .ge 17, 3) := by decide +kernel
theorem dX11_runOrders_46 : decode cX11_runOrders 46 = .ok (.aload_n 0, 1) := by decide +kernel
theorem dX11_runOrders_47 : decode cX11_runOrders 47 = .ok (.iload_n 2, 1) := by decide +kernel
theorem dX11_runOrders_48 : decode cX11_runOrders 48 = .ok (.invokevirtual 374, 3) := by decide +kernel
theorem dX11_runOrders_51 : decode cX11_runOrders 51 = .ok (.ifCond .lt 9, 3) := by decide +kernel
theorem dX11_runOrders_54 : decode cX11_runOrders 54 = .ok (.iinc 2 1, 3) := by decide +kernel
theorem dX11_runOrders_57 : decode cX11_runOrders 57 = .ok (.goto (-19), 3) := by decide +kernel
theorem dX11_runOrders_60 : decode cX11_runOrders 60 = .ok (.iload_n 2, 1) := by decide +kernel
theorem dX11_runOrders_61 : decode cX11_runOrders 61 = .ok (.ireturn, 1) := by decide +kernel
abbrev rX11_runOrders : Room := { frames := 8, cells := 0, slots := 0, locals := 203 }
abbrev mX11_runOrders : gY := (cX11_runOrders, RX11, 3, rX11_runOrders)
def fX11_runOrders_l38 (x2 : Int32) (M0 : gMem) : Option ((Int32 × gMem) ⊕ (Int32 × gMem)) :=
  if (M0.1 0 33) ≤ x2 then (some (.inr (x2, M0))) else (fX11_does x2 M0).bind fun v10 => if v10.1 < 0 then (some (.inr (x2, v10.2))) else some (.inl (x2 + (1 : Int32), v10.2))
set_option maxRecDepth 20000 in
theorem tX11_runOrders_l38 {X : gX} {V : gEnv} {x2 : Int32} {M0 : gMem}  {o : ((Int32 × gMem) ⊕ (Int32 × gMem))} (h : fX11_runOrders_l38 x2 M0 = some o) (Kc : ∀ s9, o = .inl s9 → gG X V mX11_runOrders gShM s9.2 0 0 38 [(0, .ref (gAd V 0)), (2, .int s9.1)] []) (Kx : ∀ e9, o = .inr e9 → gG X V mX11_runOrders gShM e9.2 0 0 60 [(2, .int e9.1)] []) : gG X V mX11_runOrders gShM M0 0 0 38 [(0, .ref (gAd V 0)), (2, .int x2)] [] := by
  unfold fX11_runOrders_l38 at h
  refine g_iload_n 1 rfl rfl dX11_runOrders_38 ?_
  refine g_aload_n 0 rfl rfl dX11_runOrders_39 ?_
  refine g_getI FX11_338 sM_0 rfl dX11_runOrders_40 ?_
  rcases g_ite h with ⟨c9, h⟩ | ⟨c9, h⟩
  · refine g_icmp_ge_t c9 (tgt := 60) rfl dX11_runOrders_43 ?_
    cases h
    refine g_sub [1] rfl ?_
    exact Kx (x2, M0) rfl
  · refine g_icmp_ge_f c9 (tgt := 60) rfl dX11_runOrders_43 ?_
    refine g_aload_n 0 rfl rfl dX11_runOrders_46 ?_
    refine g_iload_n 1 rfl rfl dX11_runOrders_47 ?_
    obtain ⟨v10, ev10, h⟩ := g_bnd h
    refine g_callV LX11_374 sM_0 rfl (kX11_does ev10) rfl rfl (Nat.le_of_ble_eq_true rfl) ⟨Nat.le_of_ble_eq_true rfl, Nat.le_of_ble_eq_true rfl⟩ ⟨Nat.le_of_ble_eq_true rfl, Nat.le_of_ble_eq_true rfl⟩ dX11_runOrders_48 rfl ?_
    rcases g_ite h with ⟨c11, h⟩ | ⟨c11, h⟩
    · refine g_if_lt_t c11 (tgt := 60) rfl dX11_runOrders_51 ?_
      cases h
      refine g_sub [1] rfl ?_
      exact Kx (x2, v10.2) rfl
    · refine g_if_lt_f c11 (tgt := 60) rfl dX11_runOrders_51 ?_
      refine g_iinc (j := 1) (v := x2 + (1 : Int32)) (ls' := [(2, .int (x2 + (1 : Int32))), (0, .ref (gAd V 0))]) rfl rfl (Nat.le_of_ble_eq_true rfl) rfl dX11_runOrders_54 ?_
      refine g_goto (tgt := 38) rfl dX11_runOrders_57 ?_
      cases h
      refine g_sub [1, 0] rfl ?_
      exact Kc (x2 + (1 : Int32), v10.2) rfl
def fX11_runOrders (M0 : gMem) : Option (Int32 × gMem) :=
  (wF M0 0 0 (0 : Int32)).bind fun M1 => (fX11_starts M1).bind fun v2 => (fX11_readsOrders v2).bind fun v3 => (fX11_ends v3.2).bind fun v4 => if v4.1 = 0 then ((wF v4.2 0 0 (1 : Int32)).bind fun M6 => some ((0 : Int32), M6)) else (fX11_goesAside v4.2).bind fun v7 => (fX11_keeps v7).bind fun v8 => (gLoop (fun z9 => fX11_runOrders_l38 z9.1 z9.2) gFu ((0 : Int32), v8)).bind fun w12 => some (w12.1, w12.2)
set_option maxRecDepth 20000 in
theorem tX11_runOrders {X : gX} {V : gEnv} {M0 : gMem}  {o : (Int32 × gMem)} (h : fX11_runOrders M0 = some o) (O : gO X V mX11_runOrders gShM (some .int) (some (.int o.1)) o.2) : gG X V mX11_runOrders gShM M0 0 0 0 [(0, .ref (gAd V 0))] [] := by
  unfold fX11_runOrders at h
  refine g_aload_n 0 rfl rfl dX11_runOrders_0 ?_
  refine g_iconst (v := 0) rfl dX11_runOrders_1 ?_
  obtain ⟨M1, eM1, h⟩ := g_bnd h
  refine g_putI' eM1 FX11_72 jX11 sM_0 rfl rfl rfl dX11_runOrders_2 ?_
  refine g_aload_n 0 rfl rfl dX11_runOrders_5 ?_
  obtain ⟨v2, ev2, h⟩ := g_bnd h
  refine g_callV LX11_315 sM_0 rfl (kX11_starts ev2) rfl rfl (Nat.le_of_ble_eq_true rfl) ⟨Nat.le_of_ble_eq_true rfl, Nat.le_of_ble_eq_true rfl⟩ ⟨Nat.le_of_ble_eq_true rfl, Nat.le_of_ble_eq_true rfl⟩ dX11_runOrders_6 rfl ?_
  refine g_aload_n 0 rfl rfl dX11_runOrders_9 ?_
  obtain ⟨v3, ev3, h⟩ := g_bnd h
  refine g_callV LX11_365 sM_0 rfl (kX11_readsOrders ev3) rfl rfl (Nat.le_of_ble_eq_true rfl) ⟨Nat.le_of_ble_eq_true rfl, Nat.le_of_ble_eq_true rfl⟩ ⟨Nat.le_of_ble_eq_true rfl, Nat.le_of_ble_eq_true rfl⟩ dX11_runOrders_10 rfl ?_
  refine g_istore_n (ls' := [(1, .int v3.1), (0, .ref (gAd V 0))]) rfl (Nat.le_of_ble_eq_true rfl) rfl dX11_runOrders_13 ?_
  refine g_aload_n 1 rfl rfl dX11_runOrders_14 ?_
  obtain ⟨v4, ev4, h⟩ := g_bnd h
  refine g_callV LX11_321 sM_0 rfl (kX11_ends ev4) rfl rfl (Nat.le_of_ble_eq_true rfl) ⟨Nat.le_of_ble_eq_true rfl, Nat.le_of_ble_eq_true rfl⟩ ⟨Nat.le_of_ble_eq_true rfl, Nat.le_of_ble_eq_true rfl⟩ dX11_runOrders_15 rfl ?_
  rcases g_ite h with ⟨c5, h⟩ | ⟨c5, h⟩
  · refine g_if_ne_f c5 (tgt := 28) rfl dX11_runOrders_18 ?_
    refine g_aload_n 1 rfl rfl dX11_runOrders_21 ?_
    refine g_iconst (v := 1) rfl dX11_runOrders_22 ?_
    obtain ⟨M6, eM6, h⟩ := g_bnd h
    refine g_putI' eM6 FX11_72 jX11 sM_0 rfl rfl rfl dX11_runOrders_23 ?_
    refine g_iconst (v := 0) rfl dX11_runOrders_26 ?_
    cases h
    exact g_iret O ⟨Nat.le_of_ble_eq_true rfl, Nat.le_of_ble_eq_true rfl⟩ rfl dX11_runOrders_27
  · refine g_if_ne_t c5 (tgt := 28) rfl dX11_runOrders_18 ?_
    refine g_aload_n 1 rfl rfl dX11_runOrders_28 ?_
    obtain ⟨v7, ev7, h⟩ := g_bnd h
    refine g_callV LX11_368 sM_0 rfl (kX11_goesAside ev7) rfl rfl (Nat.le_of_ble_eq_true rfl) ⟨Nat.le_of_ble_eq_true rfl, Nat.le_of_ble_eq_true rfl⟩ ⟨Nat.le_of_ble_eq_true rfl, Nat.le_of_ble_eq_true rfl⟩ dX11_runOrders_29 rfl ?_
    refine g_aload_n 1 rfl rfl dX11_runOrders_32 ?_
    obtain ⟨v8, ev8, h⟩ := g_bnd h
    refine g_callV LX11_371 sM_0 rfl (kX11_keeps ev8) rfl rfl (Nat.le_of_ble_eq_true rfl) ⟨Nat.le_of_ble_eq_true rfl, Nat.le_of_ble_eq_true rfl⟩ ⟨Nat.le_of_ble_eq_true rfl, Nat.le_of_ble_eq_true rfl⟩ dX11_runOrders_33 rfl ?_
    refine g_iconst (v := 0) rfl dX11_runOrders_36 ?_
    refine g_istore_n (ls' := [(2, .int (0 : Int32)), (1, .int v3.1), (0, .ref (gAd V 0))]) rfl (Nat.le_of_ble_eq_true rfl) rfl dX11_runOrders_37 ?_
    obtain ⟨w12, ew12, h⟩ := g_bnd h
    refine g_sub [2, 0] rfl ?_
    have KX : gG X V mX11_runOrders gShM w12.2 0 0 60 [(2, .int w12.1)] [] := by
      refine g_iload_n 0 rfl rfl dX11_runOrders_60 ?_
      cases h
      exact g_iret O ⟨Nat.le_of_ble_eq_true rfl, Nat.le_of_ble_eq_true rfl⟩ rfl dX11_runOrders_61
    exact gLoop_Q ew12 (fun z9 => gG X V mX11_runOrders gShM z9.2 0 0 38 [(0, .ref (gAd V 0)), (2, .int z9.1)] []) (fun s9 o9 hb9 hc9 hx9 => tX11_runOrders_l38  hb9 hc9 (fun e9 he9 => by cases hx9 _ he9; exact KX))
theorem kX11_runOrders {l : Launch} {V : gEnv} {M0 : gMem}   {o : (Int32 × gMem)} (h : fX11_runOrders M0 = some o) : gM l yX11_runOrders cX11_runOrders 3 (some .int) rX11_runOrders V gShM [.ref (gAd V 0)] M0 (some (.int o.1)) o.2 :=
  gM.of (by decide) (Nat.le_of_ble_eq_true rfl) rfl (fun X _ O => tX11_runOrders  h O)
theorem dX11_largest_0 : decode cX11_largest 0 = .ok (.iconst 0, 1) := by decide +kernel
theorem dX11_largest_1 : decode cX11_largest 1 = .ok (.istore_n 1, 1) := by decide +kernel
theorem dX11_largest_2 : decode cX11_largest 2 = .ok (.iconst 0, 1) := by decide +kernel
theorem dX11_largest_3 : decode cX11_largest 3 = .ok (.istore_n 2, 1) := by decide +kernel
theorem dX11_largest_4 : decode cX11_largest 4 = .ok (.iload_n 2, 1) := by decide +kernel
theorem dX11_largest_5 : decode cX11_largest 5 = .ok (.aload_n 0, 1) := by decide +kernel
theorem dX11_largest_6 : decode cX11_largest 6 = .ok (.getfield 9, 3) := by decide +kernel
theorem dX11_largest_9 : decode cX11_largest 9 = .ok (.iconst 2, 1) := by decide +kernel
theorem dX11_largest_10 : decode cX11_largest 10 = .ok (.iaload, 1) := by decide +kernel
theorem dX11_largest_11 : decode cX11_largest 11 = .ok (.if_icmp .ge 22, 3) := by decide +kernel
theorem dX11_largest_14 : decode cX11_largest 14 = .ok (.iload_n 1, 1) := by decide +kernel
theorem dX11_largest_15 : decode cX11_largest 15 = .ok (.aload_n 0, 1) := by decide +kernel
theorem dX11_largest_16 : decode cX11_largest 16 = .ok (.iload_n 2, 1) := by decide +kernel
theorem dX11_largest_17 : decode cX11_largest 17 = .ok (.invokevirtual 179, 3) := by decide +kernel
theorem dX11_largest_20 : decode cX11_largest 20 = .ok (.invokestatic 139, 3) := by decide +kernel
theorem dX11_largest_23 : decode cX11_largest 23 = .ok (.invokestatic 377, 3) := by decide +kernel
theorem dX11_largest_26 : decode cX11_largest 26 = .ok (.istore_n 1, 1) := by decide +kernel
theorem dX11_largest_27 : decode cX11_largest 27 = .ok (.iinc 2 1, 3) := by decide +kernel
theorem dX11_largest_30 : decode cX11_largest 30 = .ok (.goto (-26), 3) := by decide +kernel
theorem dX11_largest_33 : decode cX11_largest 33 = .ok (.iload_n 1, 1) := by decide +kernel
theorem dX11_largest_34 : decode cX11_largest 34 = .ok (.ireturn, 1) := by decide +kernel
abbrev rX11_largest : Room := { frames := 3, cells := 0, slots := 0, locals := 66 }
abbrev mX11_largest : gY := (cX11_largest, RX11, 3, rX11_largest)
def fX11_largest_l4 (M0 : gMem) (x1 : Int32) (x2 : Int32) : Option ((Int32 × Int32) ⊕ Int32) :=
  (rI M0 1 374 (2 : Int32)).bind fun v1 => if v1 ≤ x2 then (some (.inr x1)) else (fX11_membersAt x2 M0).bind fun v3 => (fX11_many v3).bind fun v4 => (nm (if x1 < v4 then v4 else x1)).bind fun v5 => some (.inl (v5, x2 + (1 : Int32)))
set_option maxRecDepth 20000 in
theorem tX11_largest_l4 {X : gX} {V : gEnv} {M0 : gMem} {x1 : Int32} {x2 : Int32}  {o : ((Int32 × Int32) ⊕ Int32)} (h : fX11_largest_l4 M0 x1 x2 = some o) (Kc : ∀ s9, o = .inl s9 → gG X V mX11_largest gShM M0 0 0 4 [(0, .ref (gAd V 0)), (1, .int s9.1), (2, .int s9.2)] []) (Kx : ∀ e9, o = .inr e9 → gG X V mX11_largest gShM M0 0 0 33 [(1, .int e9)] []) : gG X V mX11_largest gShM M0 0 0 4 [(0, .ref (gAd V 0)), (1, .int x1), (2, .int x2)] [] := by
  unfold fX11_largest_l4 at h
  refine g_iload_n 2 rfl rfl dX11_largest_4 ?_
  refine g_aload_n 0 rfl rfl dX11_largest_5 ?_
  refine g_getR FX11_9 sM_0 rfl dX11_largest_6 ?_
  refine g_iconst (v := 2) rfl dX11_largest_9 ?_
  obtain ⟨v1, ev1, h⟩ := g_bnd h
  refine g_iald' ev1 sM_1 dX11_largest_10 ?_
  rcases g_ite h with ⟨c2, h⟩ | ⟨c2, h⟩
  · refine g_icmp_ge_t c2 (tgt := 33) rfl dX11_largest_11 ?_
    cases h
    refine g_sub [1] rfl ?_
    exact Kx x1 rfl
  · refine g_icmp_ge_f c2 (tgt := 33) rfl dX11_largest_11 ?_
    refine g_iload_n 1 rfl rfl dX11_largest_14 ?_
    refine g_aload_n 0 rfl rfl dX11_largest_15 ?_
    refine g_iload_n 2 rfl rfl dX11_largest_16 ?_
    obtain ⟨v3, ev3, h⟩ := g_bnd h
    refine g_callV LX11_179 sM_0 rfl (kX11_membersAt ev3) rfl rfl (Nat.le_of_ble_eq_true rfl) ⟨Nat.le_of_ble_eq_true rfl, Nat.le_of_ble_eq_true rfl⟩ ⟨Nat.le_of_ble_eq_true rfl, Nat.le_of_ble_eq_true rfl⟩ dX11_largest_17 rfl ?_
    obtain ⟨v4, ev4, h⟩ := g_bnd h
    refine g_callS LX11_139 (kX11_many ev4) rfl rfl (Nat.le_of_ble_eq_true rfl) ⟨Nat.le_of_ble_eq_true rfl, Nat.le_of_ble_eq_true rfl⟩ ⟨Nat.le_of_ble_eq_true rfl, Nat.le_of_ble_eq_true rfl⟩ dX11_largest_20 rfl ?_
    refine g_max ZmaxX11_377 Zmax_s Zm_i Zmax_c ⟨Nat.le_of_ble_eq_true rfl, Nat.le_of_ble_eq_true rfl⟩ ⟨Nat.le_of_ble_eq_true rfl, Nat.le_of_ble_eq_true rfl⟩ dX11_largest_23 ?_
    obtain ⟨v5, ev5, h⟩ := g_bnd h
    refine g_nmI ev5 ?_
    refine g_istore_n (ls' := [(1, .int v5), (0, .ref (gAd V 0)), (2, .int x2)]) rfl (Nat.le_of_ble_eq_true rfl) rfl dX11_largest_26 ?_
    refine g_iinc (j := 2) (v := x2 + (1 : Int32)) (ls' := [(2, .int (x2 + (1 : Int32))), (1, .int v5), (0, .ref (gAd V 0))]) rfl rfl (Nat.le_of_ble_eq_true rfl) rfl dX11_largest_27 ?_
    refine g_goto (tgt := 4) rfl dX11_largest_30 ?_
    cases h
    refine g_sub [2, 1, 0] rfl ?_
    exact Kc (v5, x2 + (1 : Int32)) rfl
def fX11_largest (M0 : gMem) : Option Int32 :=
  (gLoop (fun z9 => fX11_largest_l4 M0 z9.1 z9.2) gFu ((0 : Int32), (0 : Int32))).bind fun w6 => some w6
set_option maxRecDepth 20000 in
theorem tX11_largest {X : gX} {V : gEnv} {M0 : gMem}  {o : Int32} (h : fX11_largest M0 = some o) (O : gO X V mX11_largest gShM (some .int) (some (.int o)) M0) : gG X V mX11_largest gShM M0 0 0 0 [(0, .ref (gAd V 0))] [] := by
  unfold fX11_largest at h
  refine g_iconst (v := 0) rfl dX11_largest_0 ?_
  refine g_istore_n (ls' := [(1, .int (0 : Int32)), (0, .ref (gAd V 0))]) rfl (Nat.le_of_ble_eq_true rfl) rfl dX11_largest_1 ?_
  refine g_iconst (v := 0) rfl dX11_largest_2 ?_
  refine g_istore_n (ls' := [(2, .int (0 : Int32)), (1, .int (0 : Int32)), (0, .ref (gAd V 0))]) rfl (Nat.le_of_ble_eq_true rfl) rfl dX11_largest_3 ?_
  obtain ⟨w6, ew6, h⟩ := g_bnd h
  refine g_sub [2, 1, 0] rfl ?_
  have KX : gG X V mX11_largest gShM M0 0 0 33 [(1, .int w6)] [] := by
    refine g_iload_n 0 rfl rfl dX11_largest_33 ?_
    cases h
    exact g_iret O ⟨Nat.le_of_ble_eq_true rfl, Nat.le_of_ble_eq_true rfl⟩ rfl dX11_largest_34
  exact gLoop_Q ew6 (fun z9 => gG X V mX11_largest gShM M0 0 0 4 [(0, .ref (gAd V 0)), (1, .int z9.1), (2, .int z9.2)] []) (fun s9 o9 hb9 hc9 hx9 => tX11_largest_l4  hb9 hc9 (fun e9 he9 => by cases hx9 _ he9; exact KX))
theorem kX11_largest {l : Launch} {V : gEnv} {M0 : gMem}   {o : Int32} (h : fX11_largest M0 = some o) : gM l yX11_largest cX11_largest 3 (some .int) rX11_largest V gShM [.ref (gAd V 0)] M0 (some (.int o)) M0 :=
  gM.of (by decide) (Nat.le_of_ble_eq_true rfl) rfl (fun X _ O => tX11_largest  h O)
theorem dX11_groupsOfMore_0 : decode cX11_groupsOfMore 0 = .ok (.iconst 0, 1) := by decide +kernel
theorem dX11_groupsOfMore_1 : decode cX11_groupsOfMore 1 = .ok (.istore_n 1, 1) := by decide +kernel
theorem dX11_groupsOfMore_2 : decode cX11_groupsOfMore 2 = .ok (.iconst 0, 1) := by decide +kernel
theorem dX11_groupsOfMore_3 : decode cX11_groupsOfMore 3 = .ok (.istore_n 2, 1) := by decide +kernel
theorem dX11_groupsOfMore_4 : decode cX11_groupsOfMore 4 = .ok (.iload_n 2, 1) := by decide +kernel
theorem dX11_groupsOfMore_5 : decode cX11_groupsOfMore 5 = .ok (.aload_n 0, 1) := by decide +kernel
theorem dX11_groupsOfMore_6 : decode cX11_groupsOfMore 6 = .ok (.getfield 9, 3) := by decide +kernel
theorem dX11_groupsOfMore_9 : decode cX11_groupsOfMore 9 = .ok (.iconst 2, 1) := by decide +kernel
theorem dX11_groupsOfMore_10 : decode cX11_groupsOfMore 10 = .ok (.iaload, 1) := by decide +kernel
theorem dX11_groupsOfMore_11 : decode cX11_groupsOfMore 11 = .ok (.if_icmp .ge 29, 3) := by decide +kernel
theorem dX11_groupsOfMore_14 : decode cX11_groupsOfMore 14 = .ok (.iload_n 1, 1) := by decide +kernel
theorem dX11_groupsOfMore_15 : decode cX11_groupsOfMore 15 = .ok (.aload_n 0, 1) := by decide +kernel
theorem dX11_groupsOfMore_16 : decode cX11_groupsOfMore 16 = .ok (.iload_n 2, 1) := by decide +kernel
theorem dX11_groupsOfMore_17 : decode cX11_groupsOfMore 17 = .ok (.invokevirtual 179, 3) := by decide +kernel
theorem dX11_groupsOfMore_20 : decode cX11_groupsOfMore 20 = .ok (.invokestatic 139, 3) := by decide +kernel
theorem dX11_groupsOfMore_23 : decode cX11_groupsOfMore 23 = .ok (.iconst 1, 1) := by decide +kernel
theorem dX11_groupsOfMore_24 : decode cX11_groupsOfMore 24 = .ok (.if_icmp .le 7, 3) := by decide +kernel
theorem dX11_groupsOfMore_27 : decode cX11_groupsOfMore 27 = .ok (.iconst 1, 1) := by decide +kernel
theorem dX11_groupsOfMore_28 : decode cX11_groupsOfMore 28 = .ok (.goto 4, 3) := by decide +kernel
theorem dX11_groupsOfMore_31 : decode cX11_groupsOfMore 31 = .ok (.iconst 0, 1) := by decide +kernel
theorem dX11_groupsOfMore_32 : decode cX11_groupsOfMore 32 = .ok (.iadd, 1) := by decide +kernel
theorem dX11_groupsOfMore_33 : decode cX11_groupsOfMore 33 = .ok (.istore_n 1, 1) := by decide +kernel
theorem dX11_groupsOfMore_34 : decode cX11_groupsOfMore 34 = .ok (.iinc 2 1, 3) := by decide +kernel
theorem dX11_groupsOfMore_37 : decode cX11_groupsOfMore 37 = .ok (.goto (-33), 3) := by decide +kernel
theorem dX11_groupsOfMore_40 : decode cX11_groupsOfMore 40 = .ok (.iload_n 1, 1) := by decide +kernel
theorem dX11_groupsOfMore_41 : decode cX11_groupsOfMore 41 = .ok (.ireturn, 1) := by decide +kernel
abbrev rX11_groupsOfMore : Room := { frames := 3, cells := 0, slots := 0, locals := 66 }
abbrev mX11_groupsOfMore : gY := (cX11_groupsOfMore, RX11, 3, rX11_groupsOfMore)
def fX11_groupsOfMore_l4 (M0 : gMem) (x1 : Int32) (x2 : Int32) : Option ((Int32 × Int32) ⊕ Int32) :=
  (rI M0 1 374 (2 : Int32)).bind fun v1 => if v1 ≤ x2 then (some (.inr x1)) else (fX11_membersAt x2 M0).bind fun v3 => (fX11_many v3).bind fun v4 => (nm (x1 + (if v4 ≤ (1 : Int32) then (0 : Int32) else (1 : Int32)))).bind fun v6 => some (.inl (v6, x2 + (1 : Int32)))
set_option maxRecDepth 20000 in
theorem tX11_groupsOfMore_l4 {X : gX} {V : gEnv} {M0 : gMem} {x1 : Int32} {x2 : Int32}  {o : ((Int32 × Int32) ⊕ Int32)} (h : fX11_groupsOfMore_l4 M0 x1 x2 = some o) (Kc : ∀ s9, o = .inl s9 → gG X V mX11_groupsOfMore gShM M0 0 0 4 [(0, .ref (gAd V 0)), (1, .int s9.1), (2, .int s9.2)] []) (Kx : ∀ e9, o = .inr e9 → gG X V mX11_groupsOfMore gShM M0 0 0 40 [(1, .int e9)] []) : gG X V mX11_groupsOfMore gShM M0 0 0 4 [(0, .ref (gAd V 0)), (1, .int x1), (2, .int x2)] [] := by
  unfold fX11_groupsOfMore_l4 at h
  refine g_iload_n 2 rfl rfl dX11_groupsOfMore_4 ?_
  refine g_aload_n 0 rfl rfl dX11_groupsOfMore_5 ?_
  refine g_getR FX11_9 sM_0 rfl dX11_groupsOfMore_6 ?_
  refine g_iconst (v := 2) rfl dX11_groupsOfMore_9 ?_
  obtain ⟨v1, ev1, h⟩ := g_bnd h
  refine g_iald' ev1 sM_1 dX11_groupsOfMore_10 ?_
  rcases g_ite h with ⟨c2, h⟩ | ⟨c2, h⟩
  · refine g_icmp_ge_t c2 (tgt := 40) rfl dX11_groupsOfMore_11 ?_
    cases h
    refine g_sub [1] rfl ?_
    exact Kx x1 rfl
  · refine g_icmp_ge_f c2 (tgt := 40) rfl dX11_groupsOfMore_11 ?_
    refine g_iload_n 1 rfl rfl dX11_groupsOfMore_14 ?_
    refine g_aload_n 0 rfl rfl dX11_groupsOfMore_15 ?_
    refine g_iload_n 2 rfl rfl dX11_groupsOfMore_16 ?_
    obtain ⟨v3, ev3, h⟩ := g_bnd h
    refine g_callV LX11_179 sM_0 rfl (kX11_membersAt ev3) rfl rfl (Nat.le_of_ble_eq_true rfl) ⟨Nat.le_of_ble_eq_true rfl, Nat.le_of_ble_eq_true rfl⟩ ⟨Nat.le_of_ble_eq_true rfl, Nat.le_of_ble_eq_true rfl⟩ dX11_groupsOfMore_17 rfl ?_
    obtain ⟨v4, ev4, h⟩ := g_bnd h
    refine g_callS LX11_139 (kX11_many ev4) rfl rfl (Nat.le_of_ble_eq_true rfl) ⟨Nat.le_of_ble_eq_true rfl, Nat.le_of_ble_eq_true rfl⟩ ⟨Nat.le_of_ble_eq_true rfl, Nat.le_of_ble_eq_true rfl⟩ dX11_groupsOfMore_20 rfl ?_
    refine g_iconst (v := 1) rfl dX11_groupsOfMore_23 ?_
    have KJ : gG X V mX11_groupsOfMore gShM M0 0 0 32 [(0, .ref (gAd V 0)), (1, .int x1), (2, .int x2)] [.int (if v4 ≤ (1 : Int32) then (0 : Int32) else (1 : Int32)), .int x1] := by
      refine g_iadd dX11_groupsOfMore_32 ?_
      obtain ⟨v6, ev6, h⟩ := g_bnd h
      refine g_nmI ev6 ?_
      refine g_istore_n (ls' := [(1, .int v6), (0, .ref (gAd V 0)), (2, .int x2)]) rfl (Nat.le_of_ble_eq_true rfl) rfl dX11_groupsOfMore_33 ?_
      refine g_iinc (j := 2) (v := x2 + (1 : Int32)) (ls' := [(2, .int (x2 + (1 : Int32))), (1, .int v6), (0, .ref (gAd V 0))]) rfl rfl (Nat.le_of_ble_eq_true rfl) rfl dX11_groupsOfMore_34 ?_
      refine g_goto (tgt := 4) rfl dX11_groupsOfMore_37 ?_
      cases h
      refine g_sub [2, 1, 0] rfl ?_
      exact Kc (v6, x2 + (1 : Int32)) rfl
    by_cases c5 : v4 ≤ (1 : Int32)
    · rw [if_pos c5] at KJ
      refine g_icmp_le_t c5 (tgt := 31) rfl dX11_groupsOfMore_24 ?_
      refine g_iconst (v := 0) rfl dX11_groupsOfMore_31 ?_
      exact KJ
    · rw [if_neg c5] at KJ
      refine g_icmp_le_f c5 (tgt := 31) rfl dX11_groupsOfMore_24 ?_
      refine g_iconst (v := 1) rfl dX11_groupsOfMore_27 ?_
      refine g_goto (tgt := 32) rfl dX11_groupsOfMore_28 ?_
      exact KJ
def fX11_groupsOfMore (M0 : gMem) : Option Int32 :=
  (gLoop (fun z9 => fX11_groupsOfMore_l4 M0 z9.1 z9.2) gFu ((0 : Int32), (0 : Int32))).bind fun w7 => some w7
set_option maxRecDepth 20000 in
theorem tX11_groupsOfMore {X : gX} {V : gEnv} {M0 : gMem}  {o : Int32} (h : fX11_groupsOfMore M0 = some o) (O : gO X V mX11_groupsOfMore gShM (some .int) (some (.int o)) M0) : gG X V mX11_groupsOfMore gShM M0 0 0 0 [(0, .ref (gAd V 0))] [] := by
  unfold fX11_groupsOfMore at h
  refine g_iconst (v := 0) rfl dX11_groupsOfMore_0 ?_
  refine g_istore_n (ls' := [(1, .int (0 : Int32)), (0, .ref (gAd V 0))]) rfl (Nat.le_of_ble_eq_true rfl) rfl dX11_groupsOfMore_1 ?_
  refine g_iconst (v := 0) rfl dX11_groupsOfMore_2 ?_
  refine g_istore_n (ls' := [(2, .int (0 : Int32)), (1, .int (0 : Int32)), (0, .ref (gAd V 0))]) rfl (Nat.le_of_ble_eq_true rfl) rfl dX11_groupsOfMore_3 ?_
  obtain ⟨w7, ew7, h⟩ := g_bnd h
  refine g_sub [2, 1, 0] rfl ?_
  have KX : gG X V mX11_groupsOfMore gShM M0 0 0 40 [(1, .int w7)] [] := by
    refine g_iload_n 0 rfl rfl dX11_groupsOfMore_40 ?_
    cases h
    exact g_iret O ⟨Nat.le_of_ble_eq_true rfl, Nat.le_of_ble_eq_true rfl⟩ rfl dX11_groupsOfMore_41
  exact gLoop_Q ew7 (fun z9 => gG X V mX11_groupsOfMore gShM M0 0 0 4 [(0, .ref (gAd V 0)), (1, .int z9.1), (2, .int z9.2)] []) (fun s9 o9 hb9 hc9 hx9 => tX11_groupsOfMore_l4  hb9 hc9 (fun e9 he9 => by cases hx9 _ he9; exact KX))
theorem kX11_groupsOfMore {l : Launch} {V : gEnv} {M0 : gMem}   {o : Int32} (h : fX11_groupsOfMore M0 = some o) : gM l yX11_groupsOfMore cX11_groupsOfMore 3 (some .int) rX11_groupsOfMore V gShM [.ref (gAd V 0)] M0 (some (.int o)) M0 :=
  gM.of (by decide) (Nat.le_of_ble_eq_true rfl) rfl (fun X _ O => tX11_groupsOfMore  h O)
theorem dX11_size_0 : decode cX11_size 0 = .ok (.aload_n 0, 1) := by decide +kernel
theorem dX11_size_1 : decode cX11_size 1 = .ok (.iload_n 1, 1) := by decide +kernel
theorem dX11_size_2 : decode cX11_size 2 = .ok (.iconst 0, 1) := by decide +kernel
theorem dX11_size_3 : decode cX11_size 3 = .ok (.bipush 8, 2) := by decide +kernel
theorem dX11_size_5 : decode cX11_size 5 = .ok (.invokestatic 172, 3) := by decide +kernel
theorem dX11_size_8 : decode cX11_size 8 = .ok (.ifCond .ne 7, 3) := by decide +kernel
theorem dX11_size_11 : decode cX11_size 11 = .ok (.iconst 1, 1) := by decide +kernel
theorem dX11_size_12 : decode cX11_size 12 = .ok (.goto 4, 3) := by decide +kernel
theorem dX11_size_15 : decode cX11_size 15 = .ok (.iconst 0, 1) := by decide +kernel
theorem dX11_size_16 : decode cX11_size 16 = .ok (.invokevirtual 212, 3) := by decide +kernel
theorem dX11_size_19 : decode cX11_size 19 = .ok (.ifCond .eq 5, 3) := by decide +kernel
theorem dX11_size_22 : decode cX11_size 22 = .ok (.iconst 0, 1) := by decide +kernel
theorem dX11_size_23 : decode cX11_size 23 = .ok (.ireturn, 1) := by decide +kernel
theorem dX11_size_24 : decode cX11_size 24 = .ok (.iload_n 1, 1) := by decide +kernel
theorem dX11_size_25 : decode cX11_size 25 = .ok (.tableswitch 51 5 8 #[31, 36, 41, 46], 31) := by decide +kernel
theorem dX11_size_56 : decode cX11_size 56 = .ok (.aload_n 0, 1) := by decide +kernel
theorem dX11_size_57 : decode cX11_size 57 = .ok (.invokevirtual 380, 3) := by decide +kernel
theorem dX11_size_60 : decode cX11_size 60 = .ok (.ireturn, 1) := by decide +kernel
theorem dX11_size_61 : decode cX11_size 61 = .ok (.aload_n 0, 1) := by decide +kernel
theorem dX11_size_62 : decode cX11_size 62 = .ok (.invokevirtual 383, 3) := by decide +kernel
theorem dX11_size_65 : decode cX11_size 65 = .ok (.ireturn, 1) := by decide +kernel
theorem dX11_size_66 : decode cX11_size 66 = .ok (.aload_n 0, 1) := by decide +kernel
theorem dX11_size_67 : decode cX11_size 67 = .ok (.invokevirtual 386, 3) := by decide +kernel
theorem dX11_size_70 : decode cX11_size 70 = .ok (.ireturn, 1) := by decide +kernel
theorem dX11_size_71 : decode cX11_size 71 = .ok (.aload_n 0, 1) := by decide +kernel
theorem dX11_size_72 : decode cX11_size 72 = .ok (.getfield 75, 3) := by decide +kernel
theorem dX11_size_75 : decode cX11_size 75 = .ok (.ireturn, 1) := by decide +kernel
theorem dX11_size_76 : decode cX11_size 76 = .ok (.aload_n 0, 1) := by decide +kernel
theorem dX11_size_77 : decode cX11_size 77 = .ok (.getfield 9, 3) := by decide +kernel
theorem dX11_size_80 : decode cX11_size 80 = .ok (.iload_n 1, 1) := by decide +kernel
theorem dX11_size_81 : decode cX11_size 81 = .ok (.iaload, 1) := by decide +kernel
theorem dX11_size_82 : decode cX11_size 82 = .ok (.ireturn, 1) := by decide +kernel
abbrev rX11_size : Room := { frames := 4, cells := 0, slots := 0, locals := 88 }
abbrev mX11_size : gY := (cX11_size, RX11, 2, rX11_size)
def fX11_size (x1 : Int32) (M0 : gMem) : Option (Int32 × gMem) :=
  (fX11_in x1 (0 : Int32) (8 : Int32)).bind fun v1 => (fX11_wrong (if v1 = 0 then (1 : Int32) else (0 : Int32)) M0).bind fun v3 => if v3.1 = 0 then (if x1 = (5 : Int32) then ((fX11_largest v3.2).bind fun v6 => some (v6, v3.2)) else if x1 = (6 : Int32) then ((fX11_inners v3.2).bind fun v8 => some (v8, v3.2)) else if x1 = (7 : Int32) then ((fX11_groupsOfMore v3.2).bind fun v10 => some (v10, v3.2)) else if x1 = (8 : Int32) then (some (v3.2.1 0 6, v3.2)) else (rI v3.2 1 374 x1).bind fun v12 => some (v12, v3.2)) else some ((0 : Int32), v3.2)
set_option maxRecDepth 20000 in
theorem tX11_size {X : gX} {V : gEnv} {x1 : Int32} {M0 : gMem}  {o : (Int32 × gMem)} (h : fX11_size x1 M0 = some o) (O : gO X V mX11_size gShM (some .int) (some (.int o.1)) o.2) : gG X V mX11_size gShM M0 0 0 0 [(0, .ref (gAd V 0)), (1, .int x1)] [] := by
  unfold fX11_size at h
  refine g_aload_n 0 rfl rfl dX11_size_0 ?_
  refine g_iload_n 1 rfl rfl dX11_size_1 ?_
  refine g_iconst (v := 0) rfl dX11_size_2 ?_
  refine g_bipush (v := 8) rfl dX11_size_3 ?_
  obtain ⟨v1, ev1, h⟩ := g_bnd h
  refine g_callS LX11_172 (kX11_in ev1) rfl rfl (Nat.le_of_ble_eq_true rfl) ⟨Nat.le_of_ble_eq_true rfl, Nat.le_of_ble_eq_true rfl⟩ ⟨Nat.le_of_ble_eq_true rfl, Nat.le_of_ble_eq_true rfl⟩ dX11_size_5 rfl ?_
  have KJ : gG X V mX11_size gShM M0 0 0 16 [(0, .ref (gAd V 0)), (1, .int x1)] [.int (if v1 = 0 then (1 : Int32) else (0 : Int32)), .ref (gAd V 0)] := by
    obtain ⟨v3, ev3, h⟩ := g_bnd h
    refine g_callV LX11_212 sM_0 rfl (kX11_wrong ev3) rfl rfl (Nat.le_of_ble_eq_true rfl) ⟨Nat.le_of_ble_eq_true rfl, Nat.le_of_ble_eq_true rfl⟩ ⟨Nat.le_of_ble_eq_true rfl, Nat.le_of_ble_eq_true rfl⟩ dX11_size_16 rfl ?_
    rcases g_ite h with ⟨c4, h⟩ | ⟨c4, h⟩
    · refine g_if_eq_t c4 (tgt := 24) rfl dX11_size_19 ?_
      refine g_iload_n 1 rfl rfl dX11_size_24 ?_
      rcases g_ite h with ⟨c5, h⟩ | ⟨c5, h⟩
      · refine g_tabIn (off := 31) (tgt := 56) (by rw [c5]; decide) (by rw [c5]; decide) (by rw [c5]; rfl) rfl dX11_size_25 ?_
        refine g_aload_n 0 rfl rfl dX11_size_56 ?_
        obtain ⟨v6, ev6, h⟩ := g_bnd h
        refine g_callV LX11_380 sM_0 rfl (kX11_largest ev6) rfl rfl (Nat.le_of_ble_eq_true rfl) ⟨Nat.le_of_ble_eq_true rfl, Nat.le_of_ble_eq_true rfl⟩ ⟨Nat.le_of_ble_eq_true rfl, Nat.le_of_ble_eq_true rfl⟩ dX11_size_57 rfl ?_
        cases h
        exact g_iret O ⟨Nat.le_of_ble_eq_true rfl, Nat.le_of_ble_eq_true rfl⟩ rfl dX11_size_60
      ·
        rcases g_ite h with ⟨c7, h⟩ | ⟨c7, h⟩
        · refine g_tabIn (off := 36) (tgt := 61) (by rw [c7]; decide) (by rw [c7]; decide) (by rw [c7]; rfl) rfl dX11_size_25 ?_
          refine g_aload_n 0 rfl rfl dX11_size_61 ?_
          obtain ⟨v8, ev8, h⟩ := g_bnd h
          refine g_callV LX11_383 sM_0 rfl (kX11_inners ev8) rfl rfl (Nat.le_of_ble_eq_true rfl) ⟨Nat.le_of_ble_eq_true rfl, Nat.le_of_ble_eq_true rfl⟩ ⟨Nat.le_of_ble_eq_true rfl, Nat.le_of_ble_eq_true rfl⟩ dX11_size_62 rfl ?_
          cases h
          exact g_iret O ⟨Nat.le_of_ble_eq_true rfl, Nat.le_of_ble_eq_true rfl⟩ rfl dX11_size_65
        ·
          rcases g_ite h with ⟨c9, h⟩ | ⟨c9, h⟩
          · refine g_tabIn (off := 41) (tgt := 66) (by rw [c9]; decide) (by rw [c9]; decide) (by rw [c9]; rfl) rfl dX11_size_25 ?_
            refine g_aload_n 0 rfl rfl dX11_size_66 ?_
            obtain ⟨v10, ev10, h⟩ := g_bnd h
            refine g_callV LX11_386 sM_0 rfl (kX11_groupsOfMore ev10) rfl rfl (Nat.le_of_ble_eq_true rfl) ⟨Nat.le_of_ble_eq_true rfl, Nat.le_of_ble_eq_true rfl⟩ ⟨Nat.le_of_ble_eq_true rfl, Nat.le_of_ble_eq_true rfl⟩ dX11_size_67 rfl ?_
            cases h
            exact g_iret O ⟨Nat.le_of_ble_eq_true rfl, Nat.le_of_ble_eq_true rfl⟩ rfl dX11_size_70
          ·
            rcases g_ite h with ⟨c11, h⟩ | ⟨c11, h⟩
            · refine g_tabIn (off := 46) (tgt := 71) (by rw [c11]; decide) (by rw [c11]; decide) (by rw [c11]; rfl) rfl dX11_size_25 ?_
              refine g_aload_n 0 rfl rfl dX11_size_71 ?_
              refine g_getI FX11_75 sM_0 rfl dX11_size_72 ?_
              cases h
              exact g_iret O ⟨Nat.le_of_ble_eq_true rfl, Nat.le_of_ble_eq_true rfl⟩ rfl dX11_size_75
            ·
              have nc5 := gne (5 : Int32) (j := 5) rfl c5
              have nc7 := gne (6 : Int32) (j := 6) rfl c7
              have nc9 := gne (7 : Int32) (j := 7) rfl c9
              have nc11 := gne (8 : Int32) (j := 8) rfl c11
              refine g_tabOut (tgt := 76) (by omega) rfl dX11_size_25 ?_
              refine g_aload_n 0 rfl rfl dX11_size_76 ?_
              refine g_getR FX11_9 sM_0 rfl dX11_size_77 ?_
              refine g_iload_n 1 rfl rfl dX11_size_80 ?_
              obtain ⟨v12, ev12, h⟩ := g_bnd h
              refine g_iald' ev12 sM_1 dX11_size_81 ?_
              cases h
              exact g_iret O ⟨Nat.le_of_ble_eq_true rfl, Nat.le_of_ble_eq_true rfl⟩ rfl dX11_size_82
    · refine g_if_eq_f c4 (tgt := 24) rfl dX11_size_19 ?_
      refine g_iconst (v := 0) rfl dX11_size_22 ?_
      cases h
      exact g_iret O ⟨Nat.le_of_ble_eq_true rfl, Nat.le_of_ble_eq_true rfl⟩ rfl dX11_size_23
  by_cases c2 : v1 = 0
  · rw [if_pos c2] at KJ
    refine g_if_ne_f c2 (tgt := 15) rfl dX11_size_8 ?_
    refine g_iconst (v := 1) rfl dX11_size_11 ?_
    refine g_goto (tgt := 16) rfl dX11_size_12 ?_
    exact KJ
  · rw [if_neg c2] at KJ
    refine g_if_ne_t c2 (tgt := 15) rfl dX11_size_8 ?_
    refine g_iconst (v := 0) rfl dX11_size_15 ?_
    exact KJ
theorem kX11_size {l : Launch} {V : gEnv} {M0 : gMem} {x1 : Int32}  {o : (Int32 × gMem)} (h : fX11_size x1 M0 = some o) : gM l yX11_size cX11_size 2 (some .int) rX11_size V gShM [.ref (gAd V 0), .int x1] M0 (some (.int o.1)) o.2 :=
  gM.of (by decide) (Nat.le_of_ble_eq_true rfl) rfl (fun X _ O => tX11_size  h O)
theorem dX11_noTask_0 : decode cX11_noTask 0 = .ok (.aload_n 0, 1) := by decide +kernel
theorem dX11_noTask_1 : decode cX11_noTask 1 = .ok (.iload_n 1, 1) := by decide +kernel
theorem dX11_noTask_2 : decode cX11_noTask 2 = .ok (.iconst 0, 1) := by decide +kernel
theorem dX11_noTask_3 : decode cX11_noTask 3 = .ok (.aload_n 0, 1) := by decide +kernel
theorem dX11_noTask_4 : decode cX11_noTask 4 = .ok (.getfield 9, 3) := by decide +kernel
theorem dX11_noTask_7 : decode cX11_noTask 7 = .ok (.iconst 0, 1) := by decide +kernel
theorem dX11_noTask_8 : decode cX11_noTask 8 = .ok (.iaload, 1) := by decide +kernel
theorem dX11_noTask_9 : decode cX11_noTask 9 = .ok (.iconst 1, 1) := by decide +kernel
theorem dX11_noTask_10 : decode cX11_noTask 10 = .ok (.isub, 1) := by decide +kernel
theorem dX11_noTask_11 : decode cX11_noTask 11 = .ok (.invokestatic 172, 3) := by decide +kernel
theorem dX11_noTask_14 : decode cX11_noTask 14 = .ok (.ifCond .ne 7, 3) := by decide +kernel
theorem dX11_noTask_17 : decode cX11_noTask 17 = .ok (.iconst 1, 1) := by decide +kernel
theorem dX11_noTask_18 : decode cX11_noTask 18 = .ok (.goto 4, 3) := by decide +kernel
theorem dX11_noTask_21 : decode cX11_noTask 21 = .ok (.iconst 0, 1) := by decide +kernel
theorem dX11_noTask_22 : decode cX11_noTask 22 = .ok (.invokevirtual 212, 3) := by decide +kernel
theorem dX11_noTask_25 : decode cX11_noTask 25 = .ok (.ireturn, 1) := by decide +kernel
abbrev rX11_noTask : Room := { frames := 1, cells := 0, slots := 0, locals := 22 }
abbrev mX11_noTask : gY := (cX11_noTask, RX11, 2, rX11_noTask)
def fX11_noTask (x1 : Int32) (M0 : gMem) : Option (Int32 × gMem) :=
  (rI M0 1 374 (0 : Int32)).bind fun v1 => (fX11_in x1 (0 : Int32) (v1 - (1 : Int32))).bind fun v2 => (fX11_wrong (if v2 = 0 then (1 : Int32) else (0 : Int32)) M0).bind fun v4 => (zv v4.1).bind fun v5 => some (v5, v4.2)
set_option maxRecDepth 20000 in
theorem tX11_noTask {X : gX} {V : gEnv} {x1 : Int32} {M0 : gMem}  {o : (Int32 × gMem)} (h : fX11_noTask x1 M0 = some o) (O : gO X V mX11_noTask gShM (some .boolean) (some (.int o.1)) o.2) : gG X V mX11_noTask gShM M0 0 0 0 [(0, .ref (gAd V 0)), (1, .int x1)] [] := by
  unfold fX11_noTask at h
  refine g_aload_n 0 rfl rfl dX11_noTask_0 ?_
  refine g_iload_n 1 rfl rfl dX11_noTask_1 ?_
  refine g_iconst (v := 0) rfl dX11_noTask_2 ?_
  refine g_aload_n 0 rfl rfl dX11_noTask_3 ?_
  refine g_getR FX11_9 sM_0 rfl dX11_noTask_4 ?_
  refine g_iconst (v := 0) rfl dX11_noTask_7 ?_
  obtain ⟨v1, ev1, h⟩ := g_bnd h
  refine g_iald' ev1 sM_1 dX11_noTask_8 ?_
  refine g_iconst (v := 1) rfl dX11_noTask_9 ?_
  refine g_isub dX11_noTask_10 ?_
  obtain ⟨v2, ev2, h⟩ := g_bnd h
  refine g_callS LX11_172 (kX11_in ev2) rfl rfl (Nat.le_of_ble_eq_true rfl) ⟨Nat.le_of_ble_eq_true rfl, Nat.le_of_ble_eq_true rfl⟩ ⟨Nat.le_of_ble_eq_true rfl, Nat.le_of_ble_eq_true rfl⟩ dX11_noTask_11 rfl ?_
  have KJ : gG X V mX11_noTask gShM M0 0 0 22 [(0, .ref (gAd V 0)), (1, .int x1)] [.int (if v2 = 0 then (1 : Int32) else (0 : Int32)), .ref (gAd V 0)] := by
    obtain ⟨v4, ev4, h⟩ := g_bnd h
    refine g_callV LX11_212 sM_0 rfl (kX11_wrong ev4) rfl rfl (Nat.le_of_ble_eq_true rfl) ⟨Nat.le_of_ble_eq_true rfl, Nat.le_of_ble_eq_true rfl⟩ ⟨Nat.le_of_ble_eq_true rfl, Nat.le_of_ble_eq_true rfl⟩ dX11_noTask_22 rfl ?_
    obtain ⟨v5, ev5, h⟩ := g_bnd h
    refine g_zv ev5 ?_
    cases h
    exact g_iret O ⟨Nat.le_of_ble_eq_true rfl, Nat.le_of_ble_eq_true rfl⟩ (g_nz (zv_ok ev5)) dX11_noTask_25
  by_cases c3 : v2 = 0
  · rw [if_pos c3] at KJ
    refine g_if_ne_f c3 (tgt := 21) rfl dX11_noTask_14 ?_
    refine g_iconst (v := 1) rfl dX11_noTask_17 ?_
    refine g_goto (tgt := 22) rfl dX11_noTask_18 ?_
    exact KJ
  · rw [if_neg c3] at KJ
    refine g_if_ne_t c3 (tgt := 21) rfl dX11_noTask_14 ?_
    refine g_iconst (v := 0) rfl dX11_noTask_21 ?_
    exact KJ
theorem kX11_noTask {l : Launch} {V : gEnv} {M0 : gMem} {x1 : Int32}  {o : (Int32 × gMem)} (h : fX11_noTask x1 M0 = some o) : gM l yX11_noTask cX11_noTask 2 (some .boolean) rX11_noTask V gShM [.ref (gAd V 0), .int x1] M0 (some (.int o.1)) o.2 :=
  gM.of (by decide) (Nat.le_of_ble_eq_true rfl) rfl (fun X _ O => tX11_noTask  h O)
