/-! METHODS, by program: pure functions and contracts -/
theorem dX11_dealt_0 : decode cX11_dealt 0 = .ok (.aload_n 0, 1) := by decide +kernel
theorem dX11_dealt_1 : decode cX11_dealt 1 = .ok (.getfield 114, 3) := by decide +kernel
theorem dX11_dealt_4 : decode cX11_dealt 4 = .ok (.aload_n 0, 1) := by decide +kernel
theorem dX11_dealt_5 : decode cX11_dealt 5 = .ok (.getfield 117, 3) := by decide +kernel
theorem dX11_dealt_8 : decode cX11_dealt 8 = .ok (.iand, 1) := by decide +kernel
theorem dX11_dealt_9 : decode cX11_dealt 9 = .ok (.istore_n 2, 1) := by decide +kernel
theorem dX11_dealt_10 : decode cX11_dealt 10 = .ok (.aload_n 0, 1) := by decide +kernel
theorem dX11_dealt_11 : decode cX11_dealt 11 = .ok (.getfield 114, 3) := by decide +kernel
theorem dX11_dealt_14 : decode cX11_dealt 14 = .ok (.aload_n 0, 1) := by decide +kernel
theorem dX11_dealt_15 : decode cX11_dealt 15 = .ok (.getfield 117, 3) := by decide +kernel
theorem dX11_dealt_18 : decode cX11_dealt 18 = .ok (.ior, 1) := by decide +kernel
theorem dX11_dealt_19 : decode cX11_dealt 19 = .ok (.invokestatic 139, 3) := by decide +kernel
theorem dX11_dealt_22 : decode cX11_dealt 22 = .ok (.istore_n 3, 1) := by decide +kernel
theorem dX11_dealt_23 : decode cX11_dealt 23 = .ok (.aload_n 0, 1) := by decide +kernel
theorem dX11_dealt_24 : decode cX11_dealt 24 = .ok (.getfield 117, 3) := by decide +kernel
theorem dX11_dealt_27 : decode cX11_dealt 27 = .ok (.iload_n 2, 1) := by decide +kernel
theorem dX11_dealt_28 : decode cX11_dealt 28 = .ok (.iconst (-1), 1) := by decide +kernel
theorem dX11_dealt_29 : decode cX11_dealt 29 = .ok (.ixor, 1) := by decide +kernel
theorem dX11_dealt_30 : decode cX11_dealt 30 = .ok (.iand, 1) := by decide +kernel
theorem dX11_dealt_31 : decode cX11_dealt 31 = .ok (.invokestatic 139, 3) := by decide +kernel
theorem dX11_dealt_34 : decode cX11_dealt 34 = .ok (.istore 4, 2) := by decide +kernel
theorem dX11_dealt_36 : decode cX11_dealt 36 = .ok (.aload_n 0, 1) := by decide +kernel
theorem dX11_dealt_37 : decode cX11_dealt 37 = .ok (.getfield 114, 3) := by decide +kernel
theorem dX11_dealt_40 : decode cX11_dealt 40 = .ok (.iload_n 2, 1) := by decide +kernel
theorem dX11_dealt_41 : decode cX11_dealt 41 = .ok (.iconst (-1), 1) := by decide +kernel
theorem dX11_dealt_42 : decode cX11_dealt 42 = .ok (.ixor, 1) := by decide +kernel
theorem dX11_dealt_43 : decode cX11_dealt 43 = .ok (.iand, 1) := by decide +kernel
theorem dX11_dealt_44 : decode cX11_dealt 44 = .ok (.invokestatic 139, 3) := by decide +kernel
theorem dX11_dealt_47 : decode cX11_dealt 47 = .ok (.istore 5, 2) := by decide +kernel
theorem dX11_dealt_49 : decode cX11_dealt 49 = .ok (.iload_n 1, 1) := by decide +kernel
theorem dX11_dealt_50 : decode cX11_dealt 50 = .ok (.iload 4, 2) := by decide +kernel
theorem dX11_dealt_52 : decode cX11_dealt 52 = .ok (.if_icmp .ge 17, 3) := by decide +kernel
theorem dX11_dealt_55 : decode cX11_dealt 55 = .ok (.aload_n 0, 1) := by decide +kernel
theorem dX11_dealt_56 : decode cX11_dealt 56 = .ok (.aload_n 0, 1) := by decide +kernel
theorem dX11_dealt_57 : decode cX11_dealt 57 = .ok (.getfield 117, 3) := by decide +kernel
theorem dX11_dealt_60 : decode cX11_dealt 60 = .ok (.iload_n 2, 1) := by decide +kernel
theorem dX11_dealt_61 : decode cX11_dealt 61 = .ok (.iconst (-1), 1) := by decide +kernel
theorem dX11_dealt_62 : decode cX11_dealt 62 = .ok (.ixor, 1) := by decide +kernel
theorem dX11_dealt_63 : decode cX11_dealt 63 = .ok (.iand, 1) := by decide +kernel
theorem dX11_dealt_64 : decode cX11_dealt 64 = .ok (.iload_n 1, 1) := by decide +kernel
theorem dX11_dealt_65 : decode cX11_dealt 65 = .ok (.invokevirtual 142, 3) := by decide +kernel
theorem dX11_dealt_68 : decode cX11_dealt 68 = .ok (.ireturn, 1) := by decide +kernel
theorem dX11_dealt_69 : decode cX11_dealt 69 = .ok (.iload_n 1, 1) := by decide +kernel
theorem dX11_dealt_70 : decode cX11_dealt 70 = .ok (.iload 4, 2) := by decide +kernel
theorem dX11_dealt_72 : decode cX11_dealt 72 = .ok (.if_icmp .ne 10, 3) := by decide +kernel
theorem dX11_dealt_75 : decode cX11_dealt 75 = .ok (.iload_n 2, 1) := by decide +kernel
theorem dX11_dealt_76 : decode cX11_dealt 76 = .ok (.ifCond .eq 6, 3) := by decide +kernel
theorem dX11_dealt_79 : decode cX11_dealt 79 = .ok (.bipush (-2), 2) := by decide +kernel
theorem dX11_dealt_81 : decode cX11_dealt 81 = .ok (.ireturn, 1) := by decide +kernel
theorem dX11_dealt_82 : decode cX11_dealt 82 = .ok (.iload_n 1, 1) := by decide +kernel
theorem dX11_dealt_83 : decode cX11_dealt 83 = .ok (.iload_n 3, 1) := by decide +kernel
theorem dX11_dealt_84 : decode cX11_dealt 84 = .ok (.iload 5, 2) := by decide +kernel
theorem dX11_dealt_86 : decode cX11_dealt 86 = .ok (.isub, 1) := by decide +kernel
theorem dX11_dealt_87 : decode cX11_dealt 87 = .ok (.if_icmp .lt 24, 3) := by decide +kernel
theorem dX11_dealt_90 : decode cX11_dealt 90 = .ok (.aload_n 0, 1) := by decide +kernel
theorem dX11_dealt_91 : decode cX11_dealt 91 = .ok (.aload_n 0, 1) := by decide +kernel
theorem dX11_dealt_92 : decode cX11_dealt 92 = .ok (.getfield 114, 3) := by decide +kernel
theorem dX11_dealt_95 : decode cX11_dealt 95 = .ok (.iload_n 2, 1) := by decide +kernel
theorem dX11_dealt_96 : decode cX11_dealt 96 = .ok (.iconst (-1), 1) := by decide +kernel
theorem dX11_dealt_97 : decode cX11_dealt 97 = .ok (.ixor, 1) := by decide +kernel
theorem dX11_dealt_98 : decode cX11_dealt 98 = .ok (.iand, 1) := by decide +kernel
theorem dX11_dealt_99 : decode cX11_dealt 99 = .ok (.iload_n 1, 1) := by decide +kernel
theorem dX11_dealt_100 : decode cX11_dealt 100 = .ok (.iload_n 3, 1) := by decide +kernel
theorem dX11_dealt_101 : decode cX11_dealt 101 = .ok (.iload 5, 2) := by decide +kernel
theorem dX11_dealt_103 : decode cX11_dealt 103 = .ok (.isub, 1) := by decide +kernel
theorem dX11_dealt_104 : decode cX11_dealt 104 = .ok (.isub, 1) := by decide +kernel
theorem dX11_dealt_105 : decode cX11_dealt 105 = .ok (.invokevirtual 142, 3) := by decide +kernel
theorem dX11_dealt_108 : decode cX11_dealt 108 = .ok (.goto 4, 3) := by decide +kernel
theorem dX11_dealt_111 : decode cX11_dealt 111 = .ok (.iconst (-1), 1) := by decide +kernel
theorem dX11_dealt_112 : decode cX11_dealt 112 = .ok (.ireturn, 1) := by decide +kernel
abbrev rX11_dealt : Room := { frames := 2, cells := 0, slots := 0, locals := 45 }
abbrev mX11_dealt : gY := (cX11_dealt, RX11, 6, rX11_dealt)
def fX11_dealt_b82 (x1 : Int32) (x2 : Int32) (x3 : Int32) (x5 : Int32) (M0 : gMem) : Option Int32 :=
  if x1 < (x3 - x5) then (some (-1 : Int32)) else (fX11_nth ((M0.1 0 12) &&& (x2 ^^^ (-1 : Int32))) (x1 - (x3 - x5)) M0).bind fun v9 => some v9
set_option maxRecDepth 20000 in
theorem tX11_dealt_b82 {X : gX} {V : gEnv} {x1 : Int32} {x2 : Int32} {x3 : Int32} {x5 : Int32} {M0 : gMem}  {o : Int32} (h : fX11_dealt_b82 x1 x2 x3 x5 M0 = some o) (O : gO X V mX11_dealt gShM (some .int) (some (.int o)) M0) : gG X V mX11_dealt gShM M0 0 0 82 [(0, .ref (gAd V 0)), (1, .int x1), (2, .int x2), (3, .int x3), (5, .int x5)] [] := by
  unfold fX11_dealt_b82 at h
  refine g_iload_n 1 rfl rfl dX11_dealt_82 ?_
  refine g_iload_n 3 rfl rfl dX11_dealt_83 ?_
  refine g_iload 4 rfl dX11_dealt_84 ?_
  refine g_isub dX11_dealt_86 ?_
  rcases g_ite h with ⟨c8, h⟩ | ⟨c8, h⟩
  · refine g_icmp_lt_t c8 (tgt := 111) rfl dX11_dealt_87 ?_
    refine g_iconst (v := -1) rfl dX11_dealt_111 ?_
    cases h
    exact g_iret O ⟨Nat.le_of_ble_eq_true rfl, Nat.le_of_ble_eq_true rfl⟩ rfl dX11_dealt_112
  · refine g_icmp_lt_f c8 (tgt := 111) rfl dX11_dealt_87 ?_
    refine g_aload_n 0 rfl rfl dX11_dealt_90 ?_
    refine g_aload_n 0 rfl rfl dX11_dealt_91 ?_
    refine g_getI FX11_114 sM_0 rfl dX11_dealt_92 ?_
    refine g_iload_n 2 rfl rfl dX11_dealt_95 ?_
    refine g_iconst (v := -1) rfl dX11_dealt_96 ?_
    refine g_ixor dX11_dealt_97 ?_
    refine g_iand dX11_dealt_98 ?_
    refine g_iload_n 1 rfl rfl dX11_dealt_99 ?_
    refine g_iload_n 3 rfl rfl dX11_dealt_100 ?_
    refine g_iload 4 rfl dX11_dealt_101 ?_
    refine g_isub dX11_dealt_103 ?_
    refine g_isub dX11_dealt_104 ?_
    obtain ⟨v9, ev9, h⟩ := g_bnd h
    refine g_callV LX11_142 sM_0 rfl (kX11_nth ev9) rfl rfl (Nat.le_of_ble_eq_true rfl) ⟨Nat.le_of_ble_eq_true rfl, Nat.le_of_ble_eq_true rfl⟩ ⟨Nat.le_of_ble_eq_true rfl, Nat.le_of_ble_eq_true rfl⟩ dX11_dealt_105 rfl ?_
    refine g_goto (tgt := 112) rfl dX11_dealt_108 ?_
    cases h
    exact g_iret O ⟨Nat.le_of_ble_eq_true rfl, Nat.le_of_ble_eq_true rfl⟩ rfl dX11_dealt_112
def fX11_dealt (x1 : Int32) (M0 : gMem) : Option Int32 :=
  (nm ((M0.1 0 12) &&& (M0.1 0 13))).bind fun v1 => (fX11_many ((M0.1 0 12) ||| (M0.1 0 13))).bind fun v2 => (fX11_many ((M0.1 0 13) &&& (v1 ^^^ (-1 : Int32)))).bind fun v3 => (fX11_many ((M0.1 0 12) &&& (v1 ^^^ (-1 : Int32)))).bind fun v4 => if v3 ≤ x1 then (if x1 = v3 then (if v1 = 0 then (fX11_dealt_b82 x1 v1 v2 v4 M0) else some (-2 : Int32)) else fX11_dealt_b82 x1 v1 v2 v4 M0) else (fX11_nth ((M0.1 0 13) &&& (v1 ^^^ (-1 : Int32))) x1 M0).bind fun v10 => some v10
set_option maxRecDepth 20000 in
theorem tX11_dealt {X : gX} {V : gEnv} {x1 : Int32} {M0 : gMem}  {o : Int32} (h : fX11_dealt x1 M0 = some o) (O : gO X V mX11_dealt gShM (some .int) (some (.int o)) M0) : gG X V mX11_dealt gShM M0 0 0 0 [(0, .ref (gAd V 0)), (1, .int x1)] [] := by
  unfold fX11_dealt at h
  refine g_aload_n 0 rfl rfl dX11_dealt_0 ?_
  refine g_getI FX11_114 sM_0 rfl dX11_dealt_1 ?_
  refine g_aload_n 0 rfl rfl dX11_dealt_4 ?_
  refine g_getI FX11_117 sM_0 rfl dX11_dealt_5 ?_
  refine g_iand dX11_dealt_8 ?_
  obtain ⟨v1, ev1, h⟩ := g_bnd h
  refine g_nmI ev1 ?_
  refine g_istore_n (ls' := [(2, .int v1), (0, .ref (gAd V 0)), (1, .int x1)]) rfl (Nat.le_of_ble_eq_true rfl) rfl dX11_dealt_9 ?_
  refine g_aload_n 1 rfl rfl dX11_dealt_10 ?_
  refine g_getI FX11_114 sM_0 rfl dX11_dealt_11 ?_
  refine g_aload_n 1 rfl rfl dX11_dealt_14 ?_
  refine g_getI FX11_117 sM_0 rfl dX11_dealt_15 ?_
  refine g_ior dX11_dealt_18 ?_
  obtain ⟨v2, ev2, h⟩ := g_bnd h
  refine g_callS LX11_139 (kX11_many ev2) rfl rfl (Nat.le_of_ble_eq_true rfl) ⟨Nat.le_of_ble_eq_true rfl, Nat.le_of_ble_eq_true rfl⟩ ⟨Nat.le_of_ble_eq_true rfl, Nat.le_of_ble_eq_true rfl⟩ dX11_dealt_19 rfl ?_
  refine g_istore_n (ls' := [(3, .int v2), (2, .int v1), (0, .ref (gAd V 0)), (1, .int x1)]) rfl (Nat.le_of_ble_eq_true rfl) rfl dX11_dealt_22 ?_
  refine g_aload_n 2 rfl rfl dX11_dealt_23 ?_
  refine g_getI FX11_117 sM_0 rfl dX11_dealt_24 ?_
  refine g_iload_n 1 rfl rfl dX11_dealt_27 ?_
  refine g_iconst (v := -1) rfl dX11_dealt_28 ?_
  refine g_ixor dX11_dealt_29 ?_
  refine g_iand dX11_dealt_30 ?_
  obtain ⟨v3, ev3, h⟩ := g_bnd h
  refine g_callS LX11_139 (kX11_many ev3) rfl rfl (Nat.le_of_ble_eq_true rfl) ⟨Nat.le_of_ble_eq_true rfl, Nat.le_of_ble_eq_true rfl⟩ ⟨Nat.le_of_ble_eq_true rfl, Nat.le_of_ble_eq_true rfl⟩ dX11_dealt_31 rfl ?_
  refine g_istore (ls' := [(4, .int v3), (3, .int v2), (2, .int v1), (0, .ref (gAd V 0)), (1, .int x1)]) (Nat.le_of_ble_eq_true rfl) rfl dX11_dealt_34 ?_
  refine g_aload_n 3 rfl rfl dX11_dealt_36 ?_
  refine g_getI FX11_114 sM_0 rfl dX11_dealt_37 ?_
  refine g_iload_n 2 rfl rfl dX11_dealt_40 ?_
  refine g_iconst (v := -1) rfl dX11_dealt_41 ?_
  refine g_ixor dX11_dealt_42 ?_
  refine g_iand dX11_dealt_43 ?_
  obtain ⟨v4, ev4, h⟩ := g_bnd h
  refine g_callS LX11_139 (kX11_many ev4) rfl rfl (Nat.le_of_ble_eq_true rfl) ⟨Nat.le_of_ble_eq_true rfl, Nat.le_of_ble_eq_true rfl⟩ ⟨Nat.le_of_ble_eq_true rfl, Nat.le_of_ble_eq_true rfl⟩ dX11_dealt_44 rfl ?_
  refine g_istore (ls' := [(5, .int v4), (4, .int v3), (3, .int v2), (2, .int v1), (0, .ref (gAd V 0)), (1, .int x1)]) (Nat.le_of_ble_eq_true rfl) rfl dX11_dealt_47 ?_
  refine g_iload_n 5 rfl rfl dX11_dealt_49 ?_
  refine g_iload 1 rfl dX11_dealt_50 ?_
  rcases g_ite h with ⟨c5, h⟩ | ⟨c5, h⟩
  · refine g_icmp_ge_t c5 (tgt := 69) rfl dX11_dealt_52 ?_
    refine g_iload_n 5 rfl rfl dX11_dealt_69 ?_
    refine g_iload 1 rfl dX11_dealt_70 ?_
    rcases g_ite h with ⟨c6, h⟩ | ⟨c6, h⟩
    · refine g_icmp_ne_f c6 (tgt := 82) rfl dX11_dealt_72 ?_
      refine g_iload_n 3 rfl rfl dX11_dealt_75 ?_
      rcases g_ite h with ⟨c7, h⟩ | ⟨c7, h⟩
      · refine g_if_eq_t c7 (tgt := 82) rfl dX11_dealt_76 ?_
        refine g_sub [4, 5, 3, 2, 0] rfl ?_
        exact tX11_dealt_b82  h O
      · refine g_if_eq_f c7 (tgt := 82) rfl dX11_dealt_76 ?_
        refine g_bipush (v := -2) rfl dX11_dealt_79 ?_
        cases h
        exact g_iret O ⟨Nat.le_of_ble_eq_true rfl, Nat.le_of_ble_eq_true rfl⟩ rfl dX11_dealt_81
    · refine g_icmp_ne_t c6 (tgt := 82) rfl dX11_dealt_72 ?_
      refine g_sub [4, 5, 3, 2, 0] rfl ?_
      exact tX11_dealt_b82  h O
  · refine g_icmp_ge_f c5 (tgt := 69) rfl dX11_dealt_52 ?_
    refine g_aload_n 4 rfl rfl dX11_dealt_55 ?_
    refine g_aload_n 4 rfl rfl dX11_dealt_56 ?_
    refine g_getI FX11_117 sM_0 rfl dX11_dealt_57 ?_
    refine g_iload_n 3 rfl rfl dX11_dealt_60 ?_
    refine g_iconst (v := -1) rfl dX11_dealt_61 ?_
    refine g_ixor dX11_dealt_62 ?_
    refine g_iand dX11_dealt_63 ?_
    refine g_iload_n 5 rfl rfl dX11_dealt_64 ?_
    obtain ⟨v10, ev10, h⟩ := g_bnd h
    refine g_callV LX11_142 sM_0 rfl (kX11_nth ev10) rfl rfl (Nat.le_of_ble_eq_true rfl) ⟨Nat.le_of_ble_eq_true rfl, Nat.le_of_ble_eq_true rfl⟩ ⟨Nat.le_of_ble_eq_true rfl, Nat.le_of_ble_eq_true rfl⟩ dX11_dealt_65 rfl ?_
    cases h
    exact g_iret O ⟨Nat.le_of_ble_eq_true rfl, Nat.le_of_ble_eq_true rfl⟩ rfl dX11_dealt_68
theorem kX11_dealt {l : Launch} {V : gEnv} {M0 : gMem} {x1 : Int32}  {o : Int32} (h : fX11_dealt x1 M0 = some o) : gM l yX11_dealt cX11_dealt 6 (some .int) rX11_dealt V gShM [.ref (gAd V 0), .int x1] M0 (some (.int o)) M0 :=
  gM.of (by decide) (Nat.le_of_ble_eq_true rfl) rfl (fun X _ O => tX11_dealt  h O)
theorem dX11_deals_0 : decode cX11_deals 0 = .ok (.iconst 0, 1) := by decide +kernel
theorem dX11_deals_1 : decode cX11_deals 1 = .ok (.istore_n 1, 1) := by decide +kernel
theorem dX11_deals_2 : decode cX11_deals 2 = .ok (.aload_n 0, 1) := by decide +kernel
theorem dX11_deals_3 : decode cX11_deals 3 = .ok (.getfield 108, 3) := by decide +kernel
theorem dX11_deals_6 : decode cX11_deals 6 = .ok (.istore_n 2, 1) := by decide +kernel
theorem dX11_deals_7 : decode cX11_deals 7 = .ok (.iload_n 2, 1) := by decide +kernel
theorem dX11_deals_8 : decode cX11_deals 8 = .ok (.aload_n 0, 1) := by decide +kernel
theorem dX11_deals_9 : decode cX11_deals 9 = .ok (.getfield 111, 3) := by decide +kernel
theorem dX11_deals_12 : decode cX11_deals 12 = .ok (.if_icmp .gt 52, 3) := by decide +kernel
theorem dX11_deals_15 : decode cX11_deals 15 = .ok (.aload_n 0, 1) := by decide +kernel
theorem dX11_deals_16 : decode cX11_deals 16 = .ok (.getfield 114, 3) := by decide +kernel
theorem dX11_deals_19 : decode cX11_deals 19 = .ok (.aload_n 0, 1) := by decide +kernel
theorem dX11_deals_20 : decode cX11_deals 20 = .ok (.getfield 117, 3) := by decide +kernel
theorem dX11_deals_23 : decode cX11_deals 23 = .ok (.ior, 1) := by decide +kernel
theorem dX11_deals_24 : decode cX11_deals 24 = .ok (.iload_n 2, 1) := by decide +kernel
theorem dX11_deals_25 : decode cX11_deals 25 = .ok (.invokestatic 93, 3) := by decide +kernel
theorem dX11_deals_28 : decode cX11_deals 28 = .ok (.ifCond .ne 11, 3) := by decide +kernel
theorem dX11_deals_31 : decode cX11_deals 31 = .ok (.aload_n 0, 1) := by decide +kernel
theorem dX11_deals_32 : decode cX11_deals 32 = .ok (.iload_n 2, 1) := by decide +kernel
theorem dX11_deals_33 : decode cX11_deals 33 = .ok (.invokevirtual 136, 3) := by decide +kernel
theorem dX11_deals_36 : decode cX11_deals 36 = .ok (.goto 22, 3) := by decide +kernel
theorem dX11_deals_39 : decode cX11_deals 39 = .ok (.aload_n 0, 1) := by decide +kernel
theorem dX11_deals_40 : decode cX11_deals 40 = .ok (.iload_n 1, 1) := by decide +kernel
theorem dX11_deals_41 : decode cX11_deals 41 = .ok (.invokevirtual 145, 3) := by decide +kernel
theorem dX11_deals_44 : decode cX11_deals 44 = .ok (.istore_n 3, 1) := by decide +kernel
theorem dX11_deals_45 : decode cX11_deals 45 = .ok (.iinc 1 1, 3) := by decide +kernel
theorem dX11_deals_48 : decode cX11_deals 48 = .ok (.iload_n 3, 1) := by decide +kernel
theorem dX11_deals_49 : decode cX11_deals 49 = .ok (.iconst (-1), 1) := by decide +kernel
theorem dX11_deals_50 : decode cX11_deals 50 = .ok (.if_icmp .eq 8, 3) := by decide +kernel
theorem dX11_deals_53 : decode cX11_deals 53 = .ok (.aload_n 0, 1) := by decide +kernel
theorem dX11_deals_54 : decode cX11_deals 54 = .ok (.iload_n 3, 1) := by decide +kernel
theorem dX11_deals_55 : decode cX11_deals 55 = .ok (.invokevirtual 136, 3) := by decide +kernel
theorem dX11_deals_58 : decode cX11_deals 58 = .ok (.iinc 2 1, 3) := by decide +kernel
theorem dX11_deals_61 : decode cX11_deals 61 = .ok (.goto (-54), 3) := by decide +kernel
theorem dX11_deals_64 : decode cX11_deals 64 = .ok (.return_, 1) := by decide +kernel
abbrev rX11_deals : Room := { frames := 3, cells := 0, slots := 0, locals := 70 }
abbrev mX11_deals : gY := (cX11_deals, RX11, 4, rX11_deals)
def fX11_deals_b58 (x1 : Int32) (x2 : Int32) (M0 : gMem) : Option ((Int32 × Int32 × gMem) ⊕ gMem) :=
  some (.inl (x1, x2 + (1 : Int32), M0))
set_option maxRecDepth 20000 in
theorem tX11_deals_b58 {X : gX} {V : gEnv} {x1 : Int32} {x2 : Int32} {M0 : gMem}  {o : ((Int32 × Int32 × gMem) ⊕ gMem)} (h : fX11_deals_b58 x1 x2 M0 = some o) (Kc : ∀ s9, o = .inl s9 → gG X V mX11_deals gShM s9.2.2 0 0 7 [(0, .ref (gAd V 0)), (1, .int s9.1), (2, .int s9.2.1)] []) (Kx : ∀ e9, o = .inr e9 → gG X V mX11_deals gShM e9 0 0 64 [] []) : gG X V mX11_deals gShM M0 0 0 58 [(0, .ref (gAd V 0)), (1, .int x1), (2, .int x2)] [] := by
  unfold fX11_deals_b58 at h
  refine g_iinc (j := 2) (v := x2 + (1 : Int32)) (ls' := [(2, .int (x2 + (1 : Int32))), (0, .ref (gAd V 0)), (1, .int x1)]) rfl rfl (Nat.le_of_ble_eq_true rfl) rfl dX11_deals_58 ?_
  refine g_goto (tgt := 7) rfl dX11_deals_61 ?_
  cases h
  refine g_sub [1, 2, 0] rfl ?_
  exact Kc (x1, x2 + (1 : Int32), M0) rfl
def fX11_deals_l7 (x1 : Int32) (x2 : Int32) (M0 : gMem) : Option ((Int32 × Int32 × gMem) ⊕ gMem) :=
  if (M0.1 0 11) < x2 then (some (.inr M0)) else (fX11_has ((M0.1 0 12) ||| (M0.1 0 13)) x2).bind fun v3 => if v3 = 0 then ((fX11_adds x2 M0).bind fun v5 => fX11_deals_b58 x1 x2 v5) else (fX11_dealt x1 M0).bind fun v6 => if v6 = (-1 : Int32) then (fX11_deals_b58 (x1 + (1 : Int32)) x2 M0) else (fX11_adds v6 M0).bind fun v8 => fX11_deals_b58 (x1 + (1 : Int32)) x2 v8
set_option maxRecDepth 20000 in
theorem tX11_deals_l7 {X : gX} {V : gEnv} {x1 : Int32} {x2 : Int32} {M0 : gMem}  {o : ((Int32 × Int32 × gMem) ⊕ gMem)} (h : fX11_deals_l7 x1 x2 M0 = some o) (Kc : ∀ s9, o = .inl s9 → gG X V mX11_deals gShM s9.2.2 0 0 7 [(0, .ref (gAd V 0)), (1, .int s9.1), (2, .int s9.2.1)] []) (Kx : ∀ e9, o = .inr e9 → gG X V mX11_deals gShM e9 0 0 64 [] []) : gG X V mX11_deals gShM M0 0 0 7 [(0, .ref (gAd V 0)), (1, .int x1), (2, .int x2)] [] := by
  unfold fX11_deals_l7 at h
  refine g_iload_n 2 rfl rfl dX11_deals_7 ?_
  refine g_aload_n 0 rfl rfl dX11_deals_8 ?_
  refine g_getI FX11_111 sM_0 rfl dX11_deals_9 ?_
  rcases g_ite h with ⟨c2, h⟩ | ⟨c2, h⟩
  · refine g_icmp_gt_t c2 (tgt := 64) rfl dX11_deals_12 ?_
    cases h
    refine g_sub [] rfl ?_
    exact Kx M0 rfl
  · refine g_icmp_gt_f c2 (tgt := 64) rfl dX11_deals_12 ?_
    refine g_aload_n 0 rfl rfl dX11_deals_15 ?_
    refine g_getI FX11_114 sM_0 rfl dX11_deals_16 ?_
    refine g_aload_n 0 rfl rfl dX11_deals_19 ?_
    refine g_getI FX11_117 sM_0 rfl dX11_deals_20 ?_
    refine g_ior dX11_deals_23 ?_
    refine g_iload_n 2 rfl rfl dX11_deals_24 ?_
    obtain ⟨v3, ev3, h⟩ := g_bnd h
    refine g_callS LX11_93 (kX11_has ev3) rfl rfl (Nat.le_of_ble_eq_true rfl) ⟨Nat.le_of_ble_eq_true rfl, Nat.le_of_ble_eq_true rfl⟩ ⟨Nat.le_of_ble_eq_true rfl, Nat.le_of_ble_eq_true rfl⟩ dX11_deals_25 rfl ?_
    rcases g_ite h with ⟨c4, h⟩ | ⟨c4, h⟩
    · refine g_if_ne_f c4 (tgt := 39) rfl dX11_deals_28 ?_
      refine g_aload_n 0 rfl rfl dX11_deals_31 ?_
      refine g_iload_n 2 rfl rfl dX11_deals_32 ?_
      obtain ⟨v5, ev5, h⟩ := g_bnd h
      refine g_callV LX11_136 sM_0 rfl (kX11_adds ev5) rfl rfl (Nat.le_of_ble_eq_true rfl) ⟨Nat.le_of_ble_eq_true rfl, Nat.le_of_ble_eq_true rfl⟩ ⟨Nat.le_of_ble_eq_true rfl, Nat.le_of_ble_eq_true rfl⟩ dX11_deals_33 rfl ?_
      refine g_goto (tgt := 58) rfl dX11_deals_36 ?_
      exact tX11_deals_b58  h Kc Kx
    · refine g_if_ne_t c4 (tgt := 39) rfl dX11_deals_28 ?_
      refine g_aload_n 0 rfl rfl dX11_deals_39 ?_
      refine g_iload_n 1 rfl rfl dX11_deals_40 ?_
      obtain ⟨v6, ev6, h⟩ := g_bnd h
      refine g_callV LX11_145 sM_0 rfl (kX11_dealt ev6) rfl rfl (Nat.le_of_ble_eq_true rfl) ⟨Nat.le_of_ble_eq_true rfl, Nat.le_of_ble_eq_true rfl⟩ ⟨Nat.le_of_ble_eq_true rfl, Nat.le_of_ble_eq_true rfl⟩ dX11_deals_41 rfl ?_
      refine g_istore_n (ls' := [(3, .int v6), (0, .ref (gAd V 0)), (1, .int x1), (2, .int x2)]) rfl (Nat.le_of_ble_eq_true rfl) rfl dX11_deals_44 ?_
      refine g_iinc (j := 2) (v := x1 + (1 : Int32)) (ls' := [(1, .int (x1 + (1 : Int32))), (3, .int v6), (0, .ref (gAd V 0)), (2, .int x2)]) rfl rfl (Nat.le_of_ble_eq_true rfl) rfl dX11_deals_45 ?_
      refine g_iload_n 1 rfl rfl dX11_deals_48 ?_
      refine g_iconst (v := -1) rfl dX11_deals_49 ?_
      rcases g_ite h with ⟨c7, h⟩ | ⟨c7, h⟩
      · refine g_icmp_eq_t c7 (tgt := 58) rfl dX11_deals_50 ?_
        refine g_sub [2, 0, 3] rfl ?_
        exact tX11_deals_b58  h Kc Kx
      · refine g_icmp_eq_f c7 (tgt := 58) rfl dX11_deals_50 ?_
        refine g_aload_n 2 rfl rfl dX11_deals_53 ?_
        refine g_iload_n 1 rfl rfl dX11_deals_54 ?_
        obtain ⟨v8, ev8, h⟩ := g_bnd h
        refine g_callV LX11_136 sM_0 rfl (kX11_adds ev8) rfl rfl (Nat.le_of_ble_eq_true rfl) ⟨Nat.le_of_ble_eq_true rfl, Nat.le_of_ble_eq_true rfl⟩ ⟨Nat.le_of_ble_eq_true rfl, Nat.le_of_ble_eq_true rfl⟩ dX11_deals_55 rfl ?_
        refine g_sub [2, 0, 3] rfl ?_
        exact tX11_deals_b58  h Kc Kx
def fX11_deals (M0 : gMem) : Option gMem :=
  (nm (M0.1 0 10)).bind fun v1 => (gLoop (fun z9 => fX11_deals_l7 z9.1 z9.2.1 z9.2.2) gFu ((0 : Int32), v1, M0)).bind fun w9 => some w9
set_option maxRecDepth 20000 in
theorem tX11_deals {X : gX} {V : gEnv} {M0 : gMem}  {o : gMem} (h : fX11_deals M0 = some o) (O : gO X V mX11_deals gShM none none o) : gG X V mX11_deals gShM M0 0 0 0 [(0, .ref (gAd V 0))] [] := by
  unfold fX11_deals at h
  refine g_iconst (v := 0) rfl dX11_deals_0 ?_
  refine g_istore_n (ls' := [(1, .int (0 : Int32)), (0, .ref (gAd V 0))]) rfl (Nat.le_of_ble_eq_true rfl) rfl dX11_deals_1 ?_
  refine g_aload_n 1 rfl rfl dX11_deals_2 ?_
  refine g_getI FX11_108 sM_0 rfl dX11_deals_3 ?_
  obtain ⟨v1, ev1, h⟩ := g_bnd h
  refine g_nmI ev1 ?_
  refine g_istore_n (ls' := [(2, .int v1), (1, .int (0 : Int32)), (0, .ref (gAd V 0))]) rfl (Nat.le_of_ble_eq_true rfl) rfl dX11_deals_6 ?_
  obtain ⟨w9, ew9, h⟩ := g_bnd h
  refine g_sub [2, 1, 0] rfl ?_
  have KX : gG X V mX11_deals gShM w9 0 0 64 [] [] := by
    cases h
    exact g_vret O ⟨Nat.le_of_ble_eq_true rfl, Nat.le_of_ble_eq_true rfl⟩ dX11_deals_64
  exact gLoop_Q ew9 (fun z9 => gG X V mX11_deals gShM z9.2.2 0 0 7 [(0, .ref (gAd V 0)), (1, .int z9.1), (2, .int z9.2.1)] []) (fun s9 o9 hb9 hc9 hx9 => tX11_deals_l7  hb9 hc9 (fun e9 he9 => by cases hx9 _ he9; exact KX))
theorem kX11_deals {l : Launch} {V : gEnv} {M0 : gMem}   {o : gMem} (h : fX11_deals M0 = some o) : gM l yX11_deals cX11_deals 4 none rX11_deals V gShM [.ref (gAd V 0)] M0 none o :=
  gM.of (by decide) (Nat.le_of_ble_eq_true rfl) rfl (fun X _ O => tX11_deals  h O)
theorem dX11_ordersPart_0 : decode cX11_ordersPart 0 = .ok (.aload_n 0, 1) := by decide +kernel
theorem dX11_ordersPart_1 : decode cX11_ordersPart 1 = .ok (.iconst 0, 1) := by decide +kernel
theorem dX11_ordersPart_2 : decode cX11_ordersPart 2 = .ok (.putfield 133, 3) := by decide +kernel
theorem dX11_ordersPart_5 : decode cX11_ordersPart 5 = .ok (.aload_n 0, 1) := by decide +kernel
theorem dX11_ordersPart_6 : decode cX11_ordersPart 6 = .ok (.getfield 9, 3) := by decide +kernel
theorem dX11_ordersPart_9 : decode cX11_ordersPart 9 = .ok (.iconst 3, 1) := by decide +kernel
theorem dX11_ordersPart_10 : decode cX11_ordersPart 10 = .ok (.iaload, 1) := by decide +kernel
theorem dX11_ordersPart_11 : decode cX11_ordersPart 11 = .ok (.ifCond .ne 8, 3) := by decide +kernel
theorem dX11_ordersPart_14 : decode cX11_ordersPart 14 = .ok (.aload_n 0, 1) := by decide +kernel
theorem dX11_ordersPart_15 : decode cX11_ordersPart 15 = .ok (.invokevirtual 148, 3) := by decide +kernel
theorem dX11_ordersPart_18 : decode cX11_ordersPart 18 = .ok (.return_, 1) := by decide +kernel
theorem dX11_ordersPart_19 : decode cX11_ordersPart 19 = .ok (.aload_n 0, 1) := by decide +kernel
theorem dX11_ordersPart_20 : decode cX11_ordersPart 20 = .ok (.getfield 9, 3) := by decide +kernel
theorem dX11_ordersPart_23 : decode cX11_ordersPart 23 = .ok (.iconst 3, 1) := by decide +kernel
theorem dX11_ordersPart_24 : decode cX11_ordersPart 24 = .ok (.iaload, 1) := by decide +kernel
theorem dX11_ordersPart_25 : decode cX11_ordersPart 25 = .ok (.iconst 1, 1) := by decide +kernel
theorem dX11_ordersPart_26 : decode cX11_ordersPart 26 = .ok (.if_icmp .ne 38, 3) := by decide +kernel
theorem dX11_ordersPart_29 : decode cX11_ordersPart 29 = .ok (.aload_n 0, 1) := by decide +kernel
theorem dX11_ordersPart_30 : decode cX11_ordersPart 30 = .ok (.aload_n 0, 1) := by decide +kernel
theorem dX11_ordersPart_31 : decode cX11_ordersPart 31 = .ok (.invokevirtual 151, 3) := by decide +kernel
theorem dX11_ordersPart_34 : decode cX11_ordersPart 34 = .ok (.aload_n 0, 1) := by decide +kernel
theorem dX11_ordersPart_35 : decode cX11_ordersPart 35 = .ok (.getfield 114, 3) := by decide +kernel
theorem dX11_ordersPart_38 : decode cX11_ordersPart 38 = .ok (.iconst (-1), 1) := by decide +kernel
theorem dX11_ordersPart_39 : decode cX11_ordersPart 39 = .ok (.ixor, 1) := by decide +kernel
theorem dX11_ordersPart_40 : decode cX11_ordersPart 40 = .ok (.iand, 1) := by decide +kernel
theorem dX11_ordersPart_41 : decode cX11_ordersPart 41 = .ok (.invokevirtual 155, 3) := by decide +kernel
theorem dX11_ordersPart_44 : decode cX11_ordersPart 44 = .ok (.aload_n 0, 1) := by decide +kernel
theorem dX11_ordersPart_45 : decode cX11_ordersPart 45 = .ok (.invokevirtual 158, 3) := by decide +kernel
theorem dX11_ordersPart_48 : decode cX11_ordersPart 48 = .ok (.aload_n 0, 1) := by decide +kernel
theorem dX11_ordersPart_49 : decode cX11_ordersPart 49 = .ok (.aload_n 0, 1) := by decide +kernel
theorem dX11_ordersPart_50 : decode cX11_ordersPart 50 = .ok (.getfield 114, 3) := by decide +kernel
theorem dX11_ordersPart_53 : decode cX11_ordersPart 53 = .ok (.aload_n 0, 1) := by decide +kernel
theorem dX11_ordersPart_54 : decode cX11_ordersPart 54 = .ok (.getfield 117, 3) := by decide +kernel
theorem dX11_ordersPart_57 : decode cX11_ordersPart 57 = .ok (.iconst (-1), 1) := by decide +kernel
theorem dX11_ordersPart_58 : decode cX11_ordersPart 58 = .ok (.ixor, 1) := by decide +kernel
theorem dX11_ordersPart_59 : decode cX11_ordersPart 59 = .ok (.iand, 1) := by decide +kernel
theorem dX11_ordersPart_60 : decode cX11_ordersPart 60 = .ok (.invokevirtual 155, 3) := by decide +kernel
theorem dX11_ordersPart_63 : decode cX11_ordersPart 63 = .ok (.return_, 1) := by decide +kernel
theorem dX11_ordersPart_64 : decode cX11_ordersPart 64 = .ok (.aload_n 0, 1) := by decide +kernel
theorem dX11_ordersPart_65 : decode cX11_ordersPart 65 = .ok (.aload_n 0, 1) := by decide +kernel
theorem dX11_ordersPart_66 : decode cX11_ordersPart 66 = .ok (.getfield 117, 3) := by decide +kernel
theorem dX11_ordersPart_69 : decode cX11_ordersPart 69 = .ok (.aload_n 0, 1) := by decide +kernel
theorem dX11_ordersPart_70 : decode cX11_ordersPart 70 = .ok (.getfield 114, 3) := by decide +kernel
theorem dX11_ordersPart_73 : decode cX11_ordersPart 73 = .ok (.iconst (-1), 1) := by decide +kernel
theorem dX11_ordersPart_74 : decode cX11_ordersPart 74 = .ok (.ixor, 1) := by decide +kernel
theorem dX11_ordersPart_75 : decode cX11_ordersPart 75 = .ok (.iand, 1) := by decide +kernel
theorem dX11_ordersPart_76 : decode cX11_ordersPart 76 = .ok (.invokevirtual 155, 3) := by decide +kernel
theorem dX11_ordersPart_79 : decode cX11_ordersPart 79 = .ok (.aload_n 0, 1) := by decide +kernel
theorem dX11_ordersPart_80 : decode cX11_ordersPart 80 = .ok (.invokevirtual 158, 3) := by decide +kernel
theorem dX11_ordersPart_83 : decode cX11_ordersPart 83 = .ok (.aload_n 0, 1) := by decide +kernel
theorem dX11_ordersPart_84 : decode cX11_ordersPart 84 = .ok (.aload_n 0, 1) := by decide +kernel
theorem dX11_ordersPart_85 : decode cX11_ordersPart 85 = .ok (.invokevirtual 151, 3) := by decide +kernel
theorem dX11_ordersPart_88 : decode cX11_ordersPart 88 = .ok (.aload_n 0, 1) := by decide +kernel
theorem dX11_ordersPart_89 : decode cX11_ordersPart 89 = .ok (.getfield 117, 3) := by decide +kernel
theorem dX11_ordersPart_92 : decode cX11_ordersPart 92 = .ok (.iconst (-1), 1) := by decide +kernel
theorem dX11_ordersPart_93 : decode cX11_ordersPart 93 = .ok (.ixor, 1) := by decide +kernel
theorem dX11_ordersPart_94 : decode cX11_ordersPart 94 = .ok (.iand, 1) := by decide +kernel
theorem dX11_ordersPart_95 : decode cX11_ordersPart 95 = .ok (.invokevirtual 155, 3) := by decide +kernel
theorem dX11_ordersPart_98 : decode cX11_ordersPart 98 = .ok (.return_, 1) := by decide +kernel
abbrev rX11_ordersPart : Room := { frames := 4, cells := 0, slots := 0, locals := 93 }
abbrev mX11_ordersPart : gY := (cX11_ordersPart, RX11, 1, rX11_ordersPart)
def fX11_ordersPart (M0 : gMem) : Option gMem :=
  (wF M0 0 16 (0 : Int32)).bind fun M1 => (rI M1 1 374 (3 : Int32)).bind fun v2 => if v2 = 0 then ((fX11_deals M1).bind fun v4 => some v4) else (rI M1 1 374 (3 : Int32)).bind fun v5 => if v5 = (1 : Int32) then ((fX11_affected M1).bind fun v7 => (fX11_addsAll (v7 &&& ((M1.1 0 12) ^^^ (-1 : Int32))) M1).bind fun v8 => (fX11_addsJoined v8).bind fun v9 => (fX11_addsAll ((v9.1 0 12) &&& ((v9.1 0 13) ^^^ (-1 : Int32))) v9).bind fun v10 => some v10) else (fX11_addsAll ((M1.1 0 13) &&& ((M1.1 0 12) ^^^ (-1 : Int32))) M1).bind fun v11 => (fX11_addsJoined v11).bind fun v12 => (fX11_affected v12).bind fun v13 => (fX11_addsAll (v13 &&& ((v12.1 0 13) ^^^ (-1 : Int32))) v12).bind fun v14 => some v14
set_option maxRecDepth 20000 in
theorem tX11_ordersPart {X : gX} {V : gEnv} {M0 : gMem}  {o : gMem} (h : fX11_ordersPart M0 = some o) (O : gO X V mX11_ordersPart gShM none none o) : gG X V mX11_ordersPart gShM M0 0 0 0 [(0, .ref (gAd V 0))] [] := by
  unfold fX11_ordersPart at h
  refine g_aload_n 0 rfl rfl dX11_ordersPart_0 ?_
  refine g_iconst (v := 0) rfl dX11_ordersPart_1 ?_
  obtain ⟨M1, eM1, h⟩ := g_bnd h
  refine g_putI' eM1 FX11_133 jX11 sM_0 rfl rfl rfl dX11_ordersPart_2 ?_
  refine g_aload_n 0 rfl rfl dX11_ordersPart_5 ?_
  refine g_getR FX11_9 sM_0 rfl dX11_ordersPart_6 ?_
  refine g_iconst (v := 3) rfl dX11_ordersPart_9 ?_
  obtain ⟨v2, ev2, h⟩ := g_bnd h
  refine g_iald' ev2 sM_1 dX11_ordersPart_10 ?_
  rcases g_ite h with ⟨c3, h⟩ | ⟨c3, h⟩
  · refine g_if_ne_f c3 (tgt := 19) rfl dX11_ordersPart_11 ?_
    refine g_aload_n 0 rfl rfl dX11_ordersPart_14 ?_
    obtain ⟨v4, ev4, h⟩ := g_bnd h
    refine g_callV LX11_148 sM_0 rfl (kX11_deals ev4) rfl rfl (Nat.le_of_ble_eq_true rfl) ⟨Nat.le_of_ble_eq_true rfl, Nat.le_of_ble_eq_true rfl⟩ ⟨Nat.le_of_ble_eq_true rfl, Nat.le_of_ble_eq_true rfl⟩ dX11_ordersPart_15 rfl ?_
    cases h
    exact g_vret O ⟨Nat.le_of_ble_eq_true rfl, Nat.le_of_ble_eq_true rfl⟩ dX11_ordersPart_18
  · refine g_if_ne_t c3 (tgt := 19) rfl dX11_ordersPart_11 ?_
    refine g_aload_n 0 rfl rfl dX11_ordersPart_19 ?_
    refine g_getR FX11_9 sM_0 rfl dX11_ordersPart_20 ?_
    refine g_iconst (v := 3) rfl dX11_ordersPart_23 ?_
    obtain ⟨v5, ev5, h⟩ := g_bnd h
    refine g_iald' ev5 sM_1 dX11_ordersPart_24 ?_
    refine g_iconst (v := 1) rfl dX11_ordersPart_25 ?_
    rcases g_ite h with ⟨c6, h⟩ | ⟨c6, h⟩
    · refine g_icmp_ne_f c6 (tgt := 64) rfl dX11_ordersPart_26 ?_
      refine g_aload_n 0 rfl rfl dX11_ordersPart_29 ?_
      refine g_aload_n 0 rfl rfl dX11_ordersPart_30 ?_
      obtain ⟨v7, ev7, h⟩ := g_bnd h
      refine g_callV LX11_151 sM_0 rfl (kX11_affected ev7) rfl rfl (Nat.le_of_ble_eq_true rfl) ⟨Nat.le_of_ble_eq_true rfl, Nat.le_of_ble_eq_true rfl⟩ ⟨Nat.le_of_ble_eq_true rfl, Nat.le_of_ble_eq_true rfl⟩ dX11_ordersPart_31 rfl ?_
      refine g_aload_n 0 rfl rfl dX11_ordersPart_34 ?_
      refine g_getI FX11_114 sM_0 rfl dX11_ordersPart_35 ?_
      refine g_iconst (v := -1) rfl dX11_ordersPart_38 ?_
      refine g_ixor dX11_ordersPart_39 ?_
      refine g_iand dX11_ordersPart_40 ?_
      obtain ⟨v8, ev8, h⟩ := g_bnd h
      refine g_callV LX11_155 sM_0 rfl (kX11_addsAll ev8) rfl rfl (Nat.le_of_ble_eq_true rfl) ⟨Nat.le_of_ble_eq_true rfl, Nat.le_of_ble_eq_true rfl⟩ ⟨Nat.le_of_ble_eq_true rfl, Nat.le_of_ble_eq_true rfl⟩ dX11_ordersPart_41 rfl ?_
      refine g_aload_n 0 rfl rfl dX11_ordersPart_44 ?_
      obtain ⟨v9, ev9, h⟩ := g_bnd h
      refine g_callV LX11_158 sM_0 rfl (kX11_addsJoined ev9) rfl rfl (Nat.le_of_ble_eq_true rfl) ⟨Nat.le_of_ble_eq_true rfl, Nat.le_of_ble_eq_true rfl⟩ ⟨Nat.le_of_ble_eq_true rfl, Nat.le_of_ble_eq_true rfl⟩ dX11_ordersPart_45 rfl ?_
      refine g_aload_n 0 rfl rfl dX11_ordersPart_48 ?_
      refine g_aload_n 0 rfl rfl dX11_ordersPart_49 ?_
      refine g_getI FX11_114 sM_0 rfl dX11_ordersPart_50 ?_
      refine g_aload_n 0 rfl rfl dX11_ordersPart_53 ?_
      refine g_getI FX11_117 sM_0 rfl dX11_ordersPart_54 ?_
      refine g_iconst (v := -1) rfl dX11_ordersPart_57 ?_
      refine g_ixor dX11_ordersPart_58 ?_
      refine g_iand dX11_ordersPart_59 ?_
      obtain ⟨v10, ev10, h⟩ := g_bnd h
      refine g_callV LX11_155 sM_0 rfl (kX11_addsAll ev10) rfl rfl (Nat.le_of_ble_eq_true rfl) ⟨Nat.le_of_ble_eq_true rfl, Nat.le_of_ble_eq_true rfl⟩ ⟨Nat.le_of_ble_eq_true rfl, Nat.le_of_ble_eq_true rfl⟩ dX11_ordersPart_60 rfl ?_
      cases h
      exact g_vret O ⟨Nat.le_of_ble_eq_true rfl, Nat.le_of_ble_eq_true rfl⟩ dX11_ordersPart_63
    · refine g_icmp_ne_t c6 (tgt := 64) rfl dX11_ordersPart_26 ?_
      refine g_aload_n 0 rfl rfl dX11_ordersPart_64 ?_
      refine g_aload_n 0 rfl rfl dX11_ordersPart_65 ?_
      refine g_getI FX11_117 sM_0 rfl dX11_ordersPart_66 ?_
      refine g_aload_n 0 rfl rfl dX11_ordersPart_69 ?_
      refine g_getI FX11_114 sM_0 rfl dX11_ordersPart_70 ?_
      refine g_iconst (v := -1) rfl dX11_ordersPart_73 ?_
      refine g_ixor dX11_ordersPart_74 ?_
      refine g_iand dX11_ordersPart_75 ?_
      obtain ⟨v11, ev11, h⟩ := g_bnd h
      refine g_callV LX11_155 sM_0 rfl (kX11_addsAll ev11) rfl rfl (Nat.le_of_ble_eq_true rfl) ⟨Nat.le_of_ble_eq_true rfl, Nat.le_of_ble_eq_true rfl⟩ ⟨Nat.le_of_ble_eq_true rfl, Nat.le_of_ble_eq_true rfl⟩ dX11_ordersPart_76 rfl ?_
      refine g_aload_n 0 rfl rfl dX11_ordersPart_79 ?_
      obtain ⟨v12, ev12, h⟩ := g_bnd h
      refine g_callV LX11_158 sM_0 rfl (kX11_addsJoined ev12) rfl rfl (Nat.le_of_ble_eq_true rfl) ⟨Nat.le_of_ble_eq_true rfl, Nat.le_of_ble_eq_true rfl⟩ ⟨Nat.le_of_ble_eq_true rfl, Nat.le_of_ble_eq_true rfl⟩ dX11_ordersPart_80 rfl ?_
      refine g_aload_n 0 rfl rfl dX11_ordersPart_83 ?_
      refine g_aload_n 0 rfl rfl dX11_ordersPart_84 ?_
      obtain ⟨v13, ev13, h⟩ := g_bnd h
      refine g_callV LX11_151 sM_0 rfl (kX11_affected ev13) rfl rfl (Nat.le_of_ble_eq_true rfl) ⟨Nat.le_of_ble_eq_true rfl, Nat.le_of_ble_eq_true rfl⟩ ⟨Nat.le_of_ble_eq_true rfl, Nat.le_of_ble_eq_true rfl⟩ dX11_ordersPart_85 rfl ?_
      refine g_aload_n 0 rfl rfl dX11_ordersPart_88 ?_
      refine g_getI FX11_117 sM_0 rfl dX11_ordersPart_89 ?_
      refine g_iconst (v := -1) rfl dX11_ordersPart_92 ?_
      refine g_ixor dX11_ordersPart_93 ?_
      refine g_iand dX11_ordersPart_94 ?_
      obtain ⟨v14, ev14, h⟩ := g_bnd h
      refine g_callV LX11_155 sM_0 rfl (kX11_addsAll ev14) rfl rfl (Nat.le_of_ble_eq_true rfl) ⟨Nat.le_of_ble_eq_true rfl, Nat.le_of_ble_eq_true rfl⟩ ⟨Nat.le_of_ble_eq_true rfl, Nat.le_of_ble_eq_true rfl⟩ dX11_ordersPart_95 rfl ?_
      cases h
      exact g_vret O ⟨Nat.le_of_ble_eq_true rfl, Nat.le_of_ble_eq_true rfl⟩ dX11_ordersPart_98
theorem kX11_ordersPart {l : Launch} {V : gEnv} {M0 : gMem}   {o : gMem} (h : fX11_ordersPart M0 = some o) : gM l yX11_ordersPart cX11_ordersPart 1 none rX11_ordersPart V gShM [.ref (gAd V 0)] M0 none o :=
  gM.of (by decide) (Nat.le_of_ble_eq_true rfl) rfl (fun X _ O => tX11_ordersPart  h O)
theorem dX11_leastHead_0 : decode cX11_leastHead 0 = .ok (.bipush 24, 2) := by decide +kernel
theorem dX11_leastHead_2 : decode cX11_leastHead 2 = .ok (.istore_n 2, 1) := by decide +kernel
theorem dX11_leastHead_3 : decode cX11_leastHead 3 = .ok (.aload_n 0, 1) := by decide +kernel
theorem dX11_leastHead_4 : decode cX11_leastHead 4 = .ok (.getfield 108, 3) := by decide +kernel
theorem dX11_leastHead_7 : decode cX11_leastHead 7 = .ok (.istore_n 3, 1) := by decide +kernel
theorem dX11_leastHead_8 : decode cX11_leastHead 8 = .ok (.iload_n 3, 1) := by decide +kernel
theorem dX11_leastHead_9 : decode cX11_leastHead 9 = .ok (.aload_n 0, 1) := by decide +kernel
theorem dX11_leastHead_10 : decode cX11_leastHead 10 = .ok (.getfield 111, 3) := by decide +kernel
theorem dX11_leastHead_13 : decode cX11_leastHead 13 = .ok (.if_icmp .gt 35, 3) := by decide +kernel
theorem dX11_leastHead_16 : decode cX11_leastHead 16 = .ok (.iload_n 1, 1) := by decide +kernel
theorem dX11_leastHead_17 : decode cX11_leastHead 17 = .ok (.iload_n 3, 1) := by decide +kernel
theorem dX11_leastHead_18 : decode cX11_leastHead 18 = .ok (.invokestatic 93, 3) := by decide +kernel
theorem dX11_leastHead_21 : decode cX11_leastHead 21 = .ok (.ifCond .eq 19, 3) := by decide +kernel
theorem dX11_leastHead_24 : decode cX11_leastHead 24 = .ok (.iload_n 2, 1) := by decide +kernel
theorem dX11_leastHead_25 : decode cX11_leastHead 25 = .ok (.aload_n 0, 1) := by decide +kernel
theorem dX11_leastHead_26 : decode cX11_leastHead 26 = .ok (.getfield 9, 3) := by decide +kernel
theorem dX11_leastHead_29 : decode cX11_leastHead 29 = .ok (.bipush 14, 2) := by decide +kernel
theorem dX11_leastHead_31 : decode cX11_leastHead 31 = .ok (.iload_n 3, 1) := by decide +kernel
theorem dX11_leastHead_32 : decode cX11_leastHead 32 = .ok (.iadd, 1) := by decide +kernel
theorem dX11_leastHead_33 : decode cX11_leastHead 33 = .ok (.iaload, 1) := by decide +kernel
theorem dX11_leastHead_34 : decode cX11_leastHead 34 = .ok (.invokestatic 161, 3) := by decide +kernel
theorem dX11_leastHead_37 : decode cX11_leastHead 37 = .ok (.goto 4, 3) := by decide +kernel
theorem dX11_leastHead_40 : decode cX11_leastHead 40 = .ok (.iload_n 2, 1) := by decide +kernel
theorem dX11_leastHead_41 : decode cX11_leastHead 41 = .ok (.istore_n 2, 1) := by decide +kernel
theorem dX11_leastHead_42 : decode cX11_leastHead 42 = .ok (.iinc 3 1, 3) := by decide +kernel
theorem dX11_leastHead_45 : decode cX11_leastHead 45 = .ok (.goto (-37), 3) := by decide +kernel
theorem dX11_leastHead_48 : decode cX11_leastHead 48 = .ok (.iload_n 2, 1) := by decide +kernel
theorem dX11_leastHead_49 : decode cX11_leastHead 49 = .ok (.ireturn, 1) := by decide +kernel
abbrev rX11_leastHead : Room := { frames := 1, cells := 0, slots := 0, locals := 30 }
abbrev mX11_leastHead : gY := (cX11_leastHead, RX11, 4, rX11_leastHead)
def fX11_leastHead_b41 (x1 : Int32) (x3 : Int32) (s0 : Int32) (M0 : gMem) : Option ((Int32 × Int32) ⊕ Int32) :=
  some (.inl (s0, x3 + (1 : Int32)))
set_option maxRecDepth 20000 in
theorem tX11_leastHead_b41 {X : gX} {V : gEnv} {x1 : Int32} {x3 : Int32} {s0 : Int32} {M0 : gMem}  {o : ((Int32 × Int32) ⊕ Int32)} (h : fX11_leastHead_b41 x1 x3 s0 M0 = some o) (Kc : ∀ s9, o = .inl s9 → gG X V mX11_leastHead gShM M0 0 0 8 [(0, .ref (gAd V 0)), (1, .int x1), (2, .int s9.1), (3, .int s9.2)] []) (Kx : ∀ e9, o = .inr e9 → gG X V mX11_leastHead gShM M0 0 0 48 [(2, .int e9)] []) : gG X V mX11_leastHead gShM M0 0 0 41 [(0, .ref (gAd V 0)), (1, .int x1), (3, .int x3)] [.int s0] := by
  unfold fX11_leastHead_b41 at h
  refine g_istore_n (ls' := [(2, .int s0), (0, .ref (gAd V 0)), (1, .int x1), (3, .int x3)]) rfl (Nat.le_of_ble_eq_true rfl) rfl dX11_leastHead_41 ?_
  refine g_iinc (j := 3) (v := x3 + (1 : Int32)) (ls' := [(3, .int (x3 + (1 : Int32))), (2, .int s0), (0, .ref (gAd V 0)), (1, .int x1)]) rfl rfl (Nat.le_of_ble_eq_true rfl) rfl dX11_leastHead_42 ?_
  refine g_goto (tgt := 8) rfl dX11_leastHead_45 ?_
  cases h
  refine g_sub [2, 3, 1, 0] rfl ?_
  exact Kc (s0, x3 + (1 : Int32)) rfl
def fX11_leastHead_l8 (x1 : Int32) (M0 : gMem) (x2 : Int32) (x3 : Int32) : Option ((Int32 × Int32) ⊕ Int32) :=
  if (M0.1 0 11) < x3 then (some (.inr x2)) else (fX11_has x1 x3).bind fun v3 => if v3 = 0 then (fX11_leastHead_b41 x1 x3 x2 M0) else (rI M0 1 374 ((14 : Int32) + x3)).bind fun v5 => fX11_leastHead_b41 x1 x3 (if v5 < x2 then v5 else x2) M0
set_option maxRecDepth 20000 in
theorem tX11_leastHead_l8 {X : gX} {V : gEnv} {x1 : Int32} {M0 : gMem} {x2 : Int32} {x3 : Int32}  {o : ((Int32 × Int32) ⊕ Int32)} (h : fX11_leastHead_l8 x1 M0 x2 x3 = some o) (Kc : ∀ s9, o = .inl s9 → gG X V mX11_leastHead gShM M0 0 0 8 [(0, .ref (gAd V 0)), (1, .int x1), (2, .int s9.1), (3, .int s9.2)] []) (Kx : ∀ e9, o = .inr e9 → gG X V mX11_leastHead gShM M0 0 0 48 [(2, .int e9)] []) : gG X V mX11_leastHead gShM M0 0 0 8 [(0, .ref (gAd V 0)), (1, .int x1), (2, .int x2), (3, .int x3)] [] := by
  unfold fX11_leastHead_l8 at h
  refine g_iload_n 3 rfl rfl dX11_leastHead_8 ?_
  refine g_aload_n 0 rfl rfl dX11_leastHead_9 ?_
  refine g_getI FX11_111 sM_0 rfl dX11_leastHead_10 ?_
  rcases g_ite h with ⟨c2, h⟩ | ⟨c2, h⟩
  · refine g_icmp_gt_t c2 (tgt := 48) rfl dX11_leastHead_13 ?_
    cases h
    refine g_sub [2] rfl ?_
    exact Kx x2 rfl
  · refine g_icmp_gt_f c2 (tgt := 48) rfl dX11_leastHead_13 ?_
    refine g_iload_n 1 rfl rfl dX11_leastHead_16 ?_
    refine g_iload_n 3 rfl rfl dX11_leastHead_17 ?_
    obtain ⟨v3, ev3, h⟩ := g_bnd h
    refine g_callS LX11_93 (kX11_has ev3) rfl rfl (Nat.le_of_ble_eq_true rfl) ⟨Nat.le_of_ble_eq_true rfl, Nat.le_of_ble_eq_true rfl⟩ ⟨Nat.le_of_ble_eq_true rfl, Nat.le_of_ble_eq_true rfl⟩ dX11_leastHead_18 rfl ?_
    rcases g_ite h with ⟨c4, h⟩ | ⟨c4, h⟩
    · refine g_if_eq_t c4 (tgt := 40) rfl dX11_leastHead_21 ?_
      refine g_iload_n 2 rfl rfl dX11_leastHead_40 ?_
      refine g_sub [0, 1, 3] rfl ?_
      exact tX11_leastHead_b41  h Kc Kx
    · refine g_if_eq_f c4 (tgt := 40) rfl dX11_leastHead_21 ?_
      refine g_iload_n 2 rfl rfl dX11_leastHead_24 ?_
      refine g_aload_n 0 rfl rfl dX11_leastHead_25 ?_
      refine g_getR FX11_9 sM_0 rfl dX11_leastHead_26 ?_
      refine g_bipush (v := 14) rfl dX11_leastHead_29 ?_
      refine g_iload_n 3 rfl rfl dX11_leastHead_31 ?_
      refine g_iadd dX11_leastHead_32 ?_
      obtain ⟨v5, ev5, h⟩ := g_bnd h
      refine g_iald' ev5 sM_1 dX11_leastHead_33 ?_
      refine g_min ZminX11_161 Zmin_s Zm_i Zmin_c ⟨Nat.le_of_ble_eq_true rfl, Nat.le_of_ble_eq_true rfl⟩ ⟨Nat.le_of_ble_eq_true rfl, Nat.le_of_ble_eq_true rfl⟩ dX11_leastHead_34 ?_
      refine g_goto (tgt := 41) rfl dX11_leastHead_37 ?_
      refine g_sub [0, 1, 3] rfl ?_
      exact tX11_leastHead_b41  h Kc Kx
def fX11_leastHead (x1 : Int32) (M0 : gMem) : Option Int32 :=
  (nm (M0.1 0 10)).bind fun v1 => (gLoop (fun z9 => fX11_leastHead_l8 x1 M0 z9.1 z9.2) gFu ((24 : Int32), v1)).bind fun w6 => some w6
set_option maxRecDepth 20000 in
theorem tX11_leastHead {X : gX} {V : gEnv} {x1 : Int32} {M0 : gMem}  {o : Int32} (h : fX11_leastHead x1 M0 = some o) (O : gO X V mX11_leastHead gShM (some .int) (some (.int o)) M0) : gG X V mX11_leastHead gShM M0 0 0 0 [(0, .ref (gAd V 0)), (1, .int x1)] [] := by
  unfold fX11_leastHead at h
  refine g_bipush (v := 24) rfl dX11_leastHead_0 ?_
  refine g_istore_n (ls' := [(2, .int (24 : Int32)), (0, .ref (gAd V 0)), (1, .int x1)]) rfl (Nat.le_of_ble_eq_true rfl) rfl dX11_leastHead_2 ?_
  refine g_aload_n 1 rfl rfl dX11_leastHead_3 ?_
  refine g_getI FX11_108 sM_0 rfl dX11_leastHead_4 ?_
  obtain ⟨v1, ev1, h⟩ := g_bnd h
  refine g_nmI ev1 ?_
  refine g_istore_n (ls' := [(3, .int v1), (2, .int (24 : Int32)), (0, .ref (gAd V 0)), (1, .int x1)]) rfl (Nat.le_of_ble_eq_true rfl) rfl dX11_leastHead_7 ?_
  obtain ⟨w6, ew6, h⟩ := g_bnd h
  refine g_sub [2, 3, 1, 0] rfl ?_
  have KX : gG X V mX11_leastHead gShM M0 0 0 48 [(2, .int w6)] [] := by
    refine g_iload_n 0 rfl rfl dX11_leastHead_48 ?_
    cases h
    exact g_iret O ⟨Nat.le_of_ble_eq_true rfl, Nat.le_of_ble_eq_true rfl⟩ rfl dX11_leastHead_49
  exact gLoop_Q ew6 (fun z9 => gG X V mX11_leastHead gShM M0 0 0 8 [(0, .ref (gAd V 0)), (1, .int x1), (2, .int z9.1), (3, .int z9.2)] []) (fun s9 o9 hb9 hc9 hx9 => tX11_leastHead_l8  hb9 hc9 (fun e9 he9 => by cases hx9 _ he9; exact KX))
theorem kX11_leastHead {l : Launch} {V : gEnv} {M0 : gMem} {x1 : Int32}  {o : Int32} (h : fX11_leastHead x1 M0 = some o) : gM l yX11_leastHead cX11_leastHead 4 (some .int) rX11_leastHead V gShM [.ref (gAd V 0), .int x1] M0 (some (.int o)) M0 :=
  gM.of (by decide) (Nat.le_of_ble_eq_true rfl) rfl (fun X _ O => tX11_leastHead  h O)
theorem dX11_movedFrom_0 : decode cX11_movedFrom 0 = .ok (.iconst 0, 1) := by decide +kernel
theorem dX11_movedFrom_1 : decode cX11_movedFrom 1 = .ok (.istore_n 1, 1) := by decide +kernel
theorem dX11_movedFrom_2 : decode cX11_movedFrom 2 = .ok (.aload_n 0, 1) := by decide +kernel
theorem dX11_movedFrom_3 : decode cX11_movedFrom 3 = .ok (.getfield 108, 3) := by decide +kernel
theorem dX11_movedFrom_6 : decode cX11_movedFrom 6 = .ok (.istore_n 2, 1) := by decide +kernel
theorem dX11_movedFrom_7 : decode cX11_movedFrom 7 = .ok (.iload_n 2, 1) := by decide +kernel
theorem dX11_movedFrom_8 : decode cX11_movedFrom 8 = .ok (.aload_n 0, 1) := by decide +kernel
theorem dX11_movedFrom_9 : decode cX11_movedFrom 9 = .ok (.getfield 108, 3) := by decide +kernel
theorem dX11_movedFrom_12 : decode cX11_movedFrom 12 = .ok (.aload_n 0, 1) := by decide +kernel
theorem dX11_movedFrom_13 : decode cX11_movedFrom 13 = .ok (.getfield 133, 3) := by decide +kernel
theorem dX11_movedFrom_16 : decode cX11_movedFrom 16 = .ok (.iadd, 1) := by decide +kernel
theorem dX11_movedFrom_17 : decode cX11_movedFrom 17 = .ok (.if_icmp .ge 83, 3) := by decide +kernel
theorem dX11_movedFrom_20 : decode cX11_movedFrom 20 = .ok (.aload_n 0, 1) := by decide +kernel
theorem dX11_movedFrom_21 : decode cX11_movedFrom 21 = .ok (.iload_n 2, 1) := by decide +kernel
theorem dX11_movedFrom_22 : decode cX11_movedFrom 22 = .ok (.invokevirtual 179, 3) := by decide +kernel
theorem dX11_movedFrom_25 : decode cX11_movedFrom 25 = .ok (.istore_n 3, 1) := by decide +kernel
theorem dX11_movedFrom_26 : decode cX11_movedFrom 26 = .ok (.iconst 0, 1) := by decide +kernel
theorem dX11_movedFrom_27 : decode cX11_movedFrom 27 = .ok (.istore 4, 2) := by decide +kernel
theorem dX11_movedFrom_29 : decode cX11_movedFrom 29 = .ok (.iconst 0, 1) := by decide +kernel
theorem dX11_movedFrom_30 : decode cX11_movedFrom 30 = .ok (.istore 5, 2) := by decide +kernel
theorem dX11_movedFrom_32 : decode cX11_movedFrom 32 = .ok (.iload 5, 2) := by decide +kernel
theorem dX11_movedFrom_34 : decode cX11_movedFrom 34 = .ok (.aload_n 0, 1) := by decide +kernel
theorem dX11_movedFrom_35 : decode cX11_movedFrom 35 = .ok (.getfield 9, 3) := by decide +kernel
theorem dX11_movedFrom_38 : decode cX11_movedFrom 38 = .ok (.iconst 0, 1) := by decide +kernel
theorem dX11_movedFrom_39 : decode cX11_movedFrom 39 = .ok (.iaload, 1) := by decide +kernel
theorem dX11_movedFrom_40 : decode cX11_movedFrom 40 = .ok (.if_icmp .ge 41, 3) := by decide +kernel
theorem dX11_movedFrom_43 : decode cX11_movedFrom 43 = .ok (.iload 4, 2) := by decide +kernel
theorem dX11_movedFrom_45 : decode cX11_movedFrom 45 = .ok (.ifCond .ne 23, 3) := by decide +kernel
theorem dX11_movedFrom_48 : decode cX11_movedFrom 48 = .ok (.iload_n 3, 1) := by decide +kernel
theorem dX11_movedFrom_49 : decode cX11_movedFrom 49 = .ok (.iload 5, 2) := by decide +kernel
theorem dX11_movedFrom_51 : decode cX11_movedFrom 51 = .ok (.invokestatic 93, 3) := by decide +kernel
theorem dX11_movedFrom_54 : decode cX11_movedFrom 54 = .ok (.ifCond .eq 18, 3) := by decide +kernel
theorem dX11_movedFrom_57 : decode cX11_movedFrom 57 = .ok (.aload_n 0, 1) := by decide +kernel
theorem dX11_movedFrom_58 : decode cX11_movedFrom 58 = .ok (.getfield 37, 3) := by decide +kernel
theorem dX11_movedFrom_61 : decode cX11_movedFrom 61 = .ok (.iload 5, 2) := by decide +kernel
theorem dX11_movedFrom_63 : decode cX11_movedFrom 63 = .ok (.iaload, 1) := by decide +kernel
theorem dX11_movedFrom_64 : decode cX11_movedFrom 64 = .ok (.iload_n 2, 1) := by decide +kernel
theorem dX11_movedFrom_65 : decode cX11_movedFrom 65 = .ok (.if_icmp .eq 7, 3) := by decide +kernel
theorem dX11_movedFrom_68 : decode cX11_movedFrom 68 = .ok (.iconst 1, 1) := by decide +kernel
theorem dX11_movedFrom_69 : decode cX11_movedFrom 69 = .ok (.goto 4, 3) := by decide +kernel
theorem dX11_movedFrom_72 : decode cX11_movedFrom 72 = .ok (.iconst 0, 1) := by decide +kernel
theorem dX11_movedFrom_73 : decode cX11_movedFrom 73 = .ok (.istore 4, 2) := by decide +kernel
theorem dX11_movedFrom_75 : decode cX11_movedFrom 75 = .ok (.iinc 5 1, 3) := by decide +kernel
theorem dX11_movedFrom_78 : decode cX11_movedFrom 78 = .ok (.goto (-46), 3) := by decide +kernel
theorem dX11_movedFrom_81 : decode cX11_movedFrom 81 = .ok (.iload_n 1, 1) := by decide +kernel
theorem dX11_movedFrom_82 : decode cX11_movedFrom 82 = .ok (.iload 4, 2) := by decide +kernel
theorem dX11_movedFrom_84 : decode cX11_movedFrom 84 = .ok (.ifCond .eq 7, 3) := by decide +kernel
theorem dX11_movedFrom_87 : decode cX11_movedFrom 87 = .ok (.iconst 1, 1) := by decide +kernel
theorem dX11_movedFrom_88 : decode cX11_movedFrom 88 = .ok (.goto 4, 3) := by decide +kernel
theorem dX11_movedFrom_91 : decode cX11_movedFrom 91 = .ok (.iconst 0, 1) := by decide +kernel
theorem dX11_movedFrom_92 : decode cX11_movedFrom 92 = .ok (.iadd, 1) := by decide +kernel
theorem dX11_movedFrom_93 : decode cX11_movedFrom 93 = .ok (.istore_n 1, 1) := by decide +kernel
theorem dX11_movedFrom_94 : decode cX11_movedFrom 94 = .ok (.iinc 2 1, 3) := by decide +kernel
theorem dX11_movedFrom_97 : decode cX11_movedFrom 97 = .ok (.goto (-90), 3) := by decide +kernel
theorem dX11_movedFrom_100 : decode cX11_movedFrom 100 = .ok (.iload_n 1, 1) := by decide +kernel
theorem dX11_movedFrom_101 : decode cX11_movedFrom 101 = .ok (.ireturn, 1) := by decide +kernel
abbrev rX11_movedFrom : Room := { frames := 3, cells := 0, slots := 0, locals := 66 }
abbrev mX11_movedFrom : gY := (cX11_movedFrom, RX11, 6, rX11_movedFrom)
def fX11_movedFrom_b73 (x1 : Int32) (x2 : Int32) (x3 : Int32) (x5 : Int32) (s0 : Int32) (M0 : gMem) : Option ((Int32 × Int32) ⊕ Int32) :=
  some (.inl (s0, x5 + (1 : Int32)))
set_option maxRecDepth 20000 in
theorem tX11_movedFrom_b73 {X : gX} {V : gEnv} {x1 : Int32} {x2 : Int32} {x3 : Int32} {x5 : Int32} {s0 : Int32} {M0 : gMem}  {o : ((Int32 × Int32) ⊕ Int32)} (h : fX11_movedFrom_b73 x1 x2 x3 x5 s0 M0 = some o) (Kc : ∀ s9, o = .inl s9 → gG X V mX11_movedFrom gShM M0 0 0 32 [(0, .ref (gAd V 0)), (1, .int x1), (2, .int x2), (3, .int x3), (4, .int s9.1), (5, .int s9.2)] []) (Kx : ∀ e9, o = .inr e9 → gG X V mX11_movedFrom gShM M0 0 0 81 [(0, .ref (gAd V 0)), (1, .int x1), (2, .int x2), (4, .int e9)] []) : gG X V mX11_movedFrom gShM M0 0 0 73 [(0, .ref (gAd V 0)), (1, .int x1), (2, .int x2), (3, .int x3), (5, .int x5)] [.int s0] := by
  unfold fX11_movedFrom_b73 at h
  refine g_istore (ls' := [(4, .int s0), (0, .ref (gAd V 0)), (1, .int x1), (2, .int x2), (3, .int x3), (5, .int x5)]) (Nat.le_of_ble_eq_true rfl) rfl dX11_movedFrom_73 ?_
  refine g_iinc (j := 5) (v := x5 + (1 : Int32)) (ls' := [(5, .int (x5 + (1 : Int32))), (4, .int s0), (0, .ref (gAd V 0)), (1, .int x1), (2, .int x2), (3, .int x3)]) rfl rfl (Nat.le_of_ble_eq_true rfl) rfl dX11_movedFrom_75 ?_
  refine g_goto (tgt := 32) rfl dX11_movedFrom_78 ?_
  cases h
  refine g_sub [2, 3, 4, 5, 1, 0] rfl ?_
  exact Kc (s0, x5 + (1 : Int32)) rfl
def fX11_movedFrom_b72 (x1 : Int32) (x2 : Int32) (x3 : Int32) (x5 : Int32) (M0 : gMem) : Option ((Int32 × Int32) ⊕ Int32) :=
  fX11_movedFrom_b73 x1 x2 x3 x5 (0 : Int32) M0
set_option maxRecDepth 20000 in
theorem tX11_movedFrom_b72 {X : gX} {V : gEnv} {x1 : Int32} {x2 : Int32} {x3 : Int32} {x5 : Int32} {M0 : gMem}  {o : ((Int32 × Int32) ⊕ Int32)} (h : fX11_movedFrom_b72 x1 x2 x3 x5 M0 = some o) (Kc : ∀ s9, o = .inl s9 → gG X V mX11_movedFrom gShM M0 0 0 32 [(0, .ref (gAd V 0)), (1, .int x1), (2, .int x2), (3, .int x3), (4, .int s9.1), (5, .int s9.2)] []) (Kx : ∀ e9, o = .inr e9 → gG X V mX11_movedFrom gShM M0 0 0 81 [(0, .ref (gAd V 0)), (1, .int x1), (2, .int x2), (4, .int e9)] []) : gG X V mX11_movedFrom gShM M0 0 0 72 [(0, .ref (gAd V 0)), (1, .int x1), (2, .int x2), (3, .int x3), (5, .int x5)] [] := by
  unfold fX11_movedFrom_b72 at h
  refine g_iconst (v := 0) rfl dX11_movedFrom_72 ?_
  exact tX11_movedFrom_b73  h Kc Kx
def fX11_movedFrom_b68 (x1 : Int32) (x2 : Int32) (x3 : Int32) (x5 : Int32) (M0 : gMem) : Option ((Int32 × Int32) ⊕ Int32) :=
  fX11_movedFrom_b73 x1 x2 x3 x5 (1 : Int32) M0
set_option maxRecDepth 20000 in
theorem tX11_movedFrom_b68 {X : gX} {V : gEnv} {x1 : Int32} {x2 : Int32} {x3 : Int32} {x5 : Int32} {M0 : gMem}  {o : ((Int32 × Int32) ⊕ Int32)} (h : fX11_movedFrom_b68 x1 x2 x3 x5 M0 = some o) (Kc : ∀ s9, o = .inl s9 → gG X V mX11_movedFrom gShM M0 0 0 32 [(0, .ref (gAd V 0)), (1, .int x1), (2, .int x2), (3, .int x3), (4, .int s9.1), (5, .int s9.2)] []) (Kx : ∀ e9, o = .inr e9 → gG X V mX11_movedFrom gShM M0 0 0 81 [(0, .ref (gAd V 0)), (1, .int x1), (2, .int x2), (4, .int e9)] []) : gG X V mX11_movedFrom gShM M0 0 0 68 [(0, .ref (gAd V 0)), (1, .int x1), (2, .int x2), (3, .int x3), (5, .int x5)] [] := by
  unfold fX11_movedFrom_b68 at h
  refine g_iconst (v := 1) rfl dX11_movedFrom_68 ?_
  refine g_goto (tgt := 73) rfl dX11_movedFrom_69 ?_
  exact tX11_movedFrom_b73  h Kc Kx
def fX11_movedFrom_l32 (x1 : Int32) (x2 : Int32) (x3 : Int32) (M0 : gMem) (x4 : Int32) (x5 : Int32) : Option ((Int32 × Int32) ⊕ Int32) :=
  (rI M0 1 374 (0 : Int32)).bind fun v4 => if v4 ≤ x5 then (some (.inr x4)) else if x4 = 0 then ((fX11_has x3 x5).bind fun v7 => if v7 = 0 then (fX11_movedFrom_b72 x1 x2 x3 x5 M0) else (rI M0 10 24 x5).bind fun v9 => if v9 = x2 then (fX11_movedFrom_b72 x1 x2 x3 x5 M0) else fX11_movedFrom_b68 x1 x2 x3 x5 M0) else fX11_movedFrom_b68 x1 x2 x3 x5 M0
set_option maxRecDepth 20000 in
theorem tX11_movedFrom_l32 {X : gX} {V : gEnv} {x1 : Int32} {x2 : Int32} {x3 : Int32} {M0 : gMem} {x4 : Int32} {x5 : Int32}  {o : ((Int32 × Int32) ⊕ Int32)} (h : fX11_movedFrom_l32 x1 x2 x3 M0 x4 x5 = some o) (Kc : ∀ s9, o = .inl s9 → gG X V mX11_movedFrom gShM M0 0 0 32 [(0, .ref (gAd V 0)), (1, .int x1), (2, .int x2), (3, .int x3), (4, .int s9.1), (5, .int s9.2)] []) (Kx : ∀ e9, o = .inr e9 → gG X V mX11_movedFrom gShM M0 0 0 81 [(0, .ref (gAd V 0)), (1, .int x1), (2, .int x2), (4, .int e9)] []) : gG X V mX11_movedFrom gShM M0 0 0 32 [(0, .ref (gAd V 0)), (1, .int x1), (2, .int x2), (3, .int x3), (4, .int x4), (5, .int x5)] [] := by
  unfold fX11_movedFrom_l32 at h
  refine g_iload 5 rfl dX11_movedFrom_32 ?_
  refine g_aload_n 0 rfl rfl dX11_movedFrom_34 ?_
  refine g_getR FX11_9 sM_0 rfl dX11_movedFrom_35 ?_
  refine g_iconst (v := 0) rfl dX11_movedFrom_38 ?_
  obtain ⟨v4, ev4, h⟩ := g_bnd h
  refine g_iald' ev4 sM_1 dX11_movedFrom_39 ?_
  rcases g_ite h with ⟨c5, h⟩ | ⟨c5, h⟩
  · refine g_icmp_ge_t c5 (tgt := 81) rfl dX11_movedFrom_40 ?_
    cases h
    refine g_sub [0, 1, 2, 4] rfl ?_
    exact Kx x4 rfl
  · refine g_icmp_ge_f c5 (tgt := 81) rfl dX11_movedFrom_40 ?_
    refine g_iload 4 rfl dX11_movedFrom_43 ?_
    rcases g_ite h with ⟨c6, h⟩ | ⟨c6, h⟩
    · refine g_if_ne_f c6 (tgt := 68) rfl dX11_movedFrom_45 ?_
      refine g_iload_n 3 rfl rfl dX11_movedFrom_48 ?_
      refine g_iload 5 rfl dX11_movedFrom_49 ?_
      obtain ⟨v7, ev7, h⟩ := g_bnd h
      refine g_callS LX11_93 (kX11_has ev7) rfl rfl (Nat.le_of_ble_eq_true rfl) ⟨Nat.le_of_ble_eq_true rfl, Nat.le_of_ble_eq_true rfl⟩ ⟨Nat.le_of_ble_eq_true rfl, Nat.le_of_ble_eq_true rfl⟩ dX11_movedFrom_51 rfl ?_
      rcases g_ite h with ⟨c8, h⟩ | ⟨c8, h⟩
      · refine g_if_eq_t c8 (tgt := 72) rfl dX11_movedFrom_54 ?_
        refine g_sub [0, 1, 2, 3, 5] rfl ?_
        exact tX11_movedFrom_b72  h Kc Kx
      · refine g_if_eq_f c8 (tgt := 72) rfl dX11_movedFrom_54 ?_
        refine g_aload_n 0 rfl rfl dX11_movedFrom_57 ?_
        refine g_getR FX11_37 sM_0 rfl dX11_movedFrom_58 ?_
        refine g_iload 5 rfl dX11_movedFrom_61 ?_
        obtain ⟨v9, ev9, h⟩ := g_bnd h
        refine g_iald' ev9 sM_10 dX11_movedFrom_63 ?_
        refine g_iload_n 2 rfl rfl dX11_movedFrom_64 ?_
        rcases g_ite h with ⟨c10, h⟩ | ⟨c10, h⟩
        · refine g_icmp_eq_t c10 (tgt := 72) rfl dX11_movedFrom_65 ?_
          refine g_sub [0, 1, 2, 3, 5] rfl ?_
          exact tX11_movedFrom_b72  h Kc Kx
        · refine g_icmp_eq_f c10 (tgt := 72) rfl dX11_movedFrom_65 ?_
          refine g_sub [0, 1, 2, 3, 5] rfl ?_
          exact tX11_movedFrom_b68  h Kc Kx
    · refine g_if_ne_t c6 (tgt := 68) rfl dX11_movedFrom_45 ?_
      refine g_sub [0, 1, 2, 3, 5] rfl ?_
      exact tX11_movedFrom_b68  h Kc Kx
def fX11_movedFrom_l7 (M0 : gMem) (x1 : Int32) (x2 : Int32) : Option ((Int32 × Int32) ⊕ Int32) :=
  if ((M0.1 0 10) + (M0.1 0 16)) ≤ x2 then (some (.inr x1)) else (fX11_membersAt x2 M0).bind fun v3 => (gLoop (fun z9 => fX11_movedFrom_l32 x1 x2 v3 M0 z9.1 z9.2) gFu ((0 : Int32), (0 : Int32))).bind fun w11 => (nm (x1 + (if w11 = 0 then (0 : Int32) else (1 : Int32)))).bind fun v13 => some (.inl (v13, x2 + (1 : Int32)))
set_option maxRecDepth 20000 in
theorem tX11_movedFrom_l7 {X : gX} {V : gEnv} {M0 : gMem} {x1 : Int32} {x2 : Int32}  {o : ((Int32 × Int32) ⊕ Int32)} (h : fX11_movedFrom_l7 M0 x1 x2 = some o) (Kc : ∀ s9, o = .inl s9 → gG X V mX11_movedFrom gShM M0 0 0 7 [(0, .ref (gAd V 0)), (1, .int s9.1), (2, .int s9.2)] []) (Kx : ∀ e9, o = .inr e9 → gG X V mX11_movedFrom gShM M0 0 0 100 [(1, .int e9)] []) : gG X V mX11_movedFrom gShM M0 0 0 7 [(0, .ref (gAd V 0)), (1, .int x1), (2, .int x2)] [] := by
  unfold fX11_movedFrom_l7 at h
  refine g_iload_n 2 rfl rfl dX11_movedFrom_7 ?_
  refine g_aload_n 0 rfl rfl dX11_movedFrom_8 ?_
  refine g_getI FX11_108 sM_0 rfl dX11_movedFrom_9 ?_
  refine g_aload_n 0 rfl rfl dX11_movedFrom_12 ?_
  refine g_getI FX11_133 sM_0 rfl dX11_movedFrom_13 ?_
  refine g_iadd dX11_movedFrom_16 ?_
  rcases g_ite h with ⟨c2, h⟩ | ⟨c2, h⟩
  · refine g_icmp_ge_t c2 (tgt := 100) rfl dX11_movedFrom_17 ?_
    cases h
    refine g_sub [1] rfl ?_
    exact Kx x1 rfl
  · refine g_icmp_ge_f c2 (tgt := 100) rfl dX11_movedFrom_17 ?_
    refine g_aload_n 0 rfl rfl dX11_movedFrom_20 ?_
    refine g_iload_n 2 rfl rfl dX11_movedFrom_21 ?_
    obtain ⟨v3, ev3, h⟩ := g_bnd h
    refine g_callV LX11_179 sM_0 rfl (kX11_membersAt ev3) rfl rfl (Nat.le_of_ble_eq_true rfl) ⟨Nat.le_of_ble_eq_true rfl, Nat.le_of_ble_eq_true rfl⟩ ⟨Nat.le_of_ble_eq_true rfl, Nat.le_of_ble_eq_true rfl⟩ dX11_movedFrom_22 rfl ?_
    refine g_istore_n (ls' := [(3, .int v3), (0, .ref (gAd V 0)), (1, .int x1), (2, .int x2)]) rfl (Nat.le_of_ble_eq_true rfl) rfl dX11_movedFrom_25 ?_
    refine g_iconst (v := 0) rfl dX11_movedFrom_26 ?_
    refine g_istore (ls' := [(4, .int (0 : Int32)), (3, .int v3), (0, .ref (gAd V 0)), (1, .int x1), (2, .int x2)]) (Nat.le_of_ble_eq_true rfl) rfl dX11_movedFrom_27 ?_
    refine g_iconst (v := 0) rfl dX11_movedFrom_29 ?_
    refine g_istore (ls' := [(5, .int (0 : Int32)), (4, .int (0 : Int32)), (3, .int v3), (0, .ref (gAd V 0)), (1, .int x1), (2, .int x2)]) (Nat.le_of_ble_eq_true rfl) rfl dX11_movedFrom_30 ?_
    obtain ⟨w11, ew11, h⟩ := g_bnd h
    refine g_sub [3, 4, 5, 2, 1, 0] rfl ?_
    have KX : gG X V mX11_movedFrom gShM M0 0 0 81 [(0, .ref (gAd V 0)), (1, .int x1), (2, .int x2), (4, .int w11)] [] := by
      refine g_iload_n 1 rfl rfl dX11_movedFrom_81 ?_
      refine g_iload 3 rfl dX11_movedFrom_82 ?_
      have KJ : gG X V mX11_movedFrom gShM M0 0 0 92 [(0, .ref (gAd V 0)), (1, .int x1), (2, .int x2), (4, .int w11)] [.int (if w11 = 0 then (0 : Int32) else (1 : Int32)), .int x1] := by
        refine g_iadd dX11_movedFrom_92 ?_
        obtain ⟨v13, ev13, h⟩ := g_bnd h
        refine g_nmI ev13 ?_
        refine g_istore_n (ls' := [(1, .int v13), (0, .ref (gAd V 0)), (2, .int x2), (4, .int w11)]) rfl (Nat.le_of_ble_eq_true rfl) rfl dX11_movedFrom_93 ?_
        refine g_iinc (j := 2) (v := x2 + (1 : Int32)) (ls' := [(2, .int (x2 + (1 : Int32))), (1, .int v13), (0, .ref (gAd V 0)), (4, .int w11)]) rfl rfl (Nat.le_of_ble_eq_true rfl) rfl dX11_movedFrom_94 ?_
        refine g_goto (tgt := 7) rfl dX11_movedFrom_97 ?_
        cases h
        refine g_sub [2, 1, 0] rfl ?_
        exact Kc (v13, x2 + (1 : Int32)) rfl
      by_cases c12 : w11 = 0
      · rw [if_pos c12] at KJ
        refine g_if_eq_t c12 (tgt := 91) rfl dX11_movedFrom_84 ?_
        refine g_iconst (v := 0) rfl dX11_movedFrom_91 ?_
        exact KJ
      · rw [if_neg c12] at KJ
        refine g_if_eq_f c12 (tgt := 91) rfl dX11_movedFrom_84 ?_
        refine g_iconst (v := 1) rfl dX11_movedFrom_87 ?_
        refine g_goto (tgt := 92) rfl dX11_movedFrom_88 ?_
        exact KJ
    exact gLoop_Q ew11 (fun z9 => gG X V mX11_movedFrom gShM M0 0 0 32 [(0, .ref (gAd V 0)), (1, .int x1), (2, .int x2), (3, .int v3), (4, .int z9.1), (5, .int z9.2)] []) (fun s9 o9 hb9 hc9 hx9 => tX11_movedFrom_l32  hb9 hc9 (fun e9 he9 => by cases hx9 _ he9; exact KX))
def fX11_movedFrom (M0 : gMem) : Option Int32 :=
  (nm (M0.1 0 10)).bind fun v1 => (gLoop (fun z9 => fX11_movedFrom_l7 M0 z9.1 z9.2) gFu ((0 : Int32), v1)).bind fun w14 => some w14
set_option maxRecDepth 20000 in
theorem tX11_movedFrom {X : gX} {V : gEnv} {M0 : gMem}  {o : Int32} (h : fX11_movedFrom M0 = some o) (O : gO X V mX11_movedFrom gShM (some .int) (some (.int o)) M0) : gG X V mX11_movedFrom gShM M0 0 0 0 [(0, .ref (gAd V 0))] [] := by
  unfold fX11_movedFrom at h
  refine g_iconst (v := 0) rfl dX11_movedFrom_0 ?_
  refine g_istore_n (ls' := [(1, .int (0 : Int32)), (0, .ref (gAd V 0))]) rfl (Nat.le_of_ble_eq_true rfl) rfl dX11_movedFrom_1 ?_
  refine g_aload_n 1 rfl rfl dX11_movedFrom_2 ?_
  refine g_getI FX11_108 sM_0 rfl dX11_movedFrom_3 ?_
  obtain ⟨v1, ev1, h⟩ := g_bnd h
  refine g_nmI ev1 ?_
  refine g_istore_n (ls' := [(2, .int v1), (1, .int (0 : Int32)), (0, .ref (gAd V 0))]) rfl (Nat.le_of_ble_eq_true rfl) rfl dX11_movedFrom_6 ?_
  obtain ⟨w14, ew14, h⟩ := g_bnd h
  refine g_sub [2, 1, 0] rfl ?_
  have KX : gG X V mX11_movedFrom gShM M0 0 0 100 [(1, .int w14)] [] := by
    refine g_iload_n 0 rfl rfl dX11_movedFrom_100 ?_
    cases h
    exact g_iret O ⟨Nat.le_of_ble_eq_true rfl, Nat.le_of_ble_eq_true rfl⟩ rfl dX11_movedFrom_101
  exact gLoop_Q ew14 (fun z9 => gG X V mX11_movedFrom gShM M0 0 0 7 [(0, .ref (gAd V 0)), (1, .int z9.1), (2, .int z9.2)] []) (fun s9 o9 hb9 hc9 hx9 => tX11_movedFrom_l7  hb9 hc9 (fun e9 he9 => by cases hx9 _ he9; exact KX))
theorem kX11_movedFrom {l : Launch} {V : gEnv} {M0 : gMem}   {o : Int32} (h : fX11_movedFrom M0 = some o) : gM l yX11_movedFrom cX11_movedFrom 6 (some .int) rX11_movedFrom V gShM [.ref (gAd V 0)] M0 (some (.int o)) M0 :=
  gM.of (by decide) (Nat.le_of_ble_eq_true rfl) rfl (fun X _ O => tX11_movedFrom  h O)
