/-! METHODS, by program: pure functions and contracts -/
theorem dX3_readTasks_0 : decode cX3_readTasks 0 = .ok (.aload_n 0, 1) := by decide +kernel
theorem dX3_readTasks_1 : decode cX3_readTasks 1 = .ok (.getfield 15, 3) := by decide +kernel
theorem dX3_readTasks_4 : decode cX3_readTasks 4 = .ok (.aload_n 0, 1) := by decide +kernel
theorem dX3_readTasks_5 : decode cX3_readTasks 5 = .ok (.getfield 21, 3) := by decide +kernel
theorem dX3_readTasks_8 : decode cX3_readTasks 8 = .ok (.aload_n 1, 1) := by decide +kernel
theorem dX3_readTasks_9 : decode cX3_readTasks 9 = .ok (.aload_n 2, 1) := by decide +kernel
theorem dX3_readTasks_10 : decode cX3_readTasks 10 = .ok (.invokevirtual 88, 3) := by decide +kernel
theorem dX3_readTasks_13 : decode cX3_readTasks 13 = .ok (.iastore, 1) := by decide +kernel
theorem dX3_readTasks_14 : decode cX3_readTasks 14 = .ok (.aload_n 0, 1) := by decide +kernel
theorem dX3_readTasks_15 : decode cX3_readTasks 15 = .ok (.getfield 15, 3) := by decide +kernel
theorem dX3_readTasks_18 : decode cX3_readTasks 18 = .ok (.aload_n 0, 1) := by decide +kernel
theorem dX3_readTasks_19 : decode cX3_readTasks 19 = .ok (.getfield 21, 3) := by decide +kernel
theorem dX3_readTasks_22 : decode cX3_readTasks 22 = .ok (.iaload, 1) := by decide +kernel
theorem dX3_readTasks_23 : decode cX3_readTasks 23 = .ok (.iconst (-1), 1) := by decide +kernel
theorem dX3_readTasks_24 : decode cX3_readTasks 24 = .ok (.if_icmp .ne 5, 3) := by decide +kernel
theorem dX3_readTasks_27 : decode cX3_readTasks 27 = .ok (.iconst 0, 1) := by decide +kernel
theorem dX3_readTasks_28 : decode cX3_readTasks 28 = .ok (.ireturn, 1) := by decide +kernel
theorem dX3_readTasks_29 : decode cX3_readTasks 29 = .ok (.aload_n 0, 1) := by decide +kernel
theorem dX3_readTasks_30 : decode cX3_readTasks 30 = .ok (.getfield 18, 3) := by decide +kernel
theorem dX3_readTasks_33 : decode cX3_readTasks 33 = .ok (.aload_n 0, 1) := by decide +kernel
theorem dX3_readTasks_34 : decode cX3_readTasks 34 = .ok (.getfield 21, 3) := by decide +kernel
theorem dX3_readTasks_37 : decode cX3_readTasks 37 = .ok (.iload_n 3, 1) := by decide +kernel
theorem dX3_readTasks_38 : decode cX3_readTasks 38 = .ok (.iconst 3, 1) := by decide +kernel
theorem dX3_readTasks_39 : decode cX3_readTasks 39 = .ok (.if_icmp .ne 13, 3) := by decide +kernel
theorem dX3_readTasks_42 : decode cX3_readTasks 42 = .ok (.aload_n 1, 1) := by decide +kernel
theorem dX3_readTasks_43 : decode cX3_readTasks 43 = .ok (.iconst 1, 1) := by decide +kernel
theorem dX3_readTasks_44 : decode cX3_readTasks 44 = .ok (.bipush 9, 2) := by decide +kernel
theorem dX3_readTasks_46 : decode cX3_readTasks 46 = .ok (.invokevirtual 84, 3) := by decide +kernel
theorem dX3_readTasks_49 : decode cX3_readTasks 49 = .ok (.goto 8, 3) := by decide +kernel
theorem dX3_readTasks_52 : decode cX3_readTasks 52 = .ok (.aload_n 1, 1) := by decide +kernel
theorem dX3_readTasks_53 : decode cX3_readTasks 53 = .ok (.aload_n 2, 1) := by decide +kernel
theorem dX3_readTasks_54 : decode cX3_readTasks 54 = .ok (.invokevirtual 88, 3) := by decide +kernel
theorem dX3_readTasks_57 : decode cX3_readTasks 57 = .ok (.iastore, 1) := by decide +kernel
theorem dX3_readTasks_58 : decode cX3_readTasks 58 = .ok (.aload_n 0, 1) := by decide +kernel
theorem dX3_readTasks_59 : decode cX3_readTasks 59 = .ok (.getfield 18, 3) := by decide +kernel
theorem dX3_readTasks_62 : decode cX3_readTasks 62 = .ok (.aload_n 0, 1) := by decide +kernel
theorem dX3_readTasks_63 : decode cX3_readTasks 63 = .ok (.getfield 21, 3) := by decide +kernel
theorem dX3_readTasks_66 : decode cX3_readTasks 66 = .ok (.iaload, 1) := by decide +kernel
theorem dX3_readTasks_67 : decode cX3_readTasks 67 = .ok (.iconst (-1), 1) := by decide +kernel
theorem dX3_readTasks_68 : decode cX3_readTasks 68 = .ok (.if_icmp .eq 7, 3) := by decide +kernel
theorem dX3_readTasks_71 : decode cX3_readTasks 71 = .ok (.iconst 1, 1) := by decide +kernel
theorem dX3_readTasks_72 : decode cX3_readTasks 72 = .ok (.goto 4, 3) := by decide +kernel
theorem dX3_readTasks_75 : decode cX3_readTasks 75 = .ok (.iconst 0, 1) := by decide +kernel
theorem dX3_readTasks_76 : decode cX3_readTasks 76 = .ok (.ireturn, 1) := by decide +kernel
abbrev rX3_readTasks : Room := { frames := 4, cells := 0, slots := 0, locals := 86 }
abbrev mX3_readTasks : gY := (cX3_readTasks, RX3, 4, rX3_readTasks)
def fX3_readTasks_b57 (t2 : Nat) (s1 : Int32) (s2 : Int32) (M0 : gMem) : Option (Int32 × gMem) :=
  (wI M0 40 30 s1 s2).bind fun M7 => (rI M7 40 30 (M7.1 37 3)).bind fun v8 => some (if v8 = (-1 : Int32) then (0 : Int32) else (1 : Int32), M7)
set_option maxRecDepth 20000 in
theorem tX3_readTasks_b57 {X : gX} {V : gEnv} {t2 : Nat} {s1 : Int32} {s2 : Int32} {M0 : gMem} (ht2 : gNet gShC t2) {o : (Int32 × gMem)} (h : fX3_readTasks_b57 t2 s1 s2 M0 = some o) (O : gO X V mX3_readTasks gShC (some .boolean) (some (.int o.1)) o.2) : gG X V mX3_readTasks gShC M0 0 0 57 [(0, .ref (gAd V 37))] [.int s2, .int s1, .ref (gAd V 40)] := by
  unfold fX3_readTasks_b57 at h
  obtain ⟨M7, eM7, h⟩ := g_bnd h
  refine g_iast' eM7 sC_40 dX3_readTasks_57 ?_
  refine g_aload_n 0 rfl rfl dX3_readTasks_58 ?_
  refine g_getR FX3_18 sC_37 rfl dX3_readTasks_59 ?_
  refine g_aload_n 0 rfl rfl dX3_readTasks_62 ?_
  refine g_getI FX3_21 sC_37 rfl dX3_readTasks_63 ?_
  obtain ⟨v8, ev8, h⟩ := g_bnd h
  refine g_iald' ev8 sC_40 dX3_readTasks_66 ?_
  refine g_iconst (v := -1) rfl dX3_readTasks_67 ?_
  have KJ : gG X V mX3_readTasks gShC M7 0 0 76 [(0, .ref (gAd V 37))] [.int (if v8 = (-1 : Int32) then (0 : Int32) else (1 : Int32))] := by
    cases h
    exact g_iret O ⟨Nat.le_of_ble_eq_true rfl, Nat.le_of_ble_eq_true rfl⟩ (by split <;> rfl) dX3_readTasks_76
  by_cases c9 : v8 = (-1 : Int32)
  · rw [if_pos c9] at KJ
    refine g_icmp_eq_t c9 (tgt := 75) rfl dX3_readTasks_68 ?_
    refine g_iconst (v := 0) rfl dX3_readTasks_75 ?_
    exact KJ
  · rw [if_neg c9] at KJ
    refine g_icmp_eq_f c9 (tgt := 75) rfl dX3_readTasks_68 ?_
    refine g_iconst (v := 1) rfl dX3_readTasks_71 ?_
    refine g_goto (tgt := 76) rfl dX3_readTasks_72 ?_
    exact KJ
def fX3_readTasks (t2 : Nat) (x3 : Int32) (M0 : gMem) : Option (Int32 × gMem) :=
  (fX5_readTask t2 M0).bind fun v1 => (wI v1.2 39 30 (M0.1 37 3) v1.1).bind fun M2 => (rI M2 39 30 (M2.1 37 3)).bind fun v3 => if v3 = (-1 : Int32) then (some ((0 : Int32), M2)) else if x3 = (3 : Int32) then ((fX5_readNumber (1 : Int32) (9 : Int32) M2).bind fun v6 => fX3_readTasks_b57 t2 (M2.1 37 3) v6.1 v6.2) else (fX5_readTask t2 M2).bind fun v10 => fX3_readTasks_b57 t2 (M2.1 37 3) v10.1 v10.2
set_option maxRecDepth 20000 in
theorem tX3_readTasks {X : gX} {V : gEnv} {t2 : Nat} {x3 : Int32} {M0 : gMem} (ht2 : gNet gShC t2) {o : (Int32 × gMem)} (h : fX3_readTasks t2 x3 M0 = some o) (O : gO X V mX3_readTasks gShC (some .boolean) (some (.int o.1)) o.2) : gG X V mX3_readTasks gShC M0 0 0 0 [(0, .ref (gAd V 37)), (1, .ref (gAd V 32)), (2, .ref (gAd V t2)), (3, .int x3)] [] := by
  unfold fX3_readTasks at h
  refine g_aload_n 0 rfl rfl dX3_readTasks_0 ?_
  refine g_getR FX3_15 sC_37 rfl dX3_readTasks_1 ?_
  refine g_aload_n 0 rfl rfl dX3_readTasks_4 ?_
  refine g_getI FX3_21 sC_37 rfl dX3_readTasks_5 ?_
  refine g_aload_n 1 rfl rfl dX3_readTasks_8 ?_
  refine g_aload_n 2 rfl rfl dX3_readTasks_9 ?_
  obtain ⟨v1, ev1, h⟩ := g_bnd h
  refine g_callV LX3_88 sC_32 rfl (kX5_readTask ht2 ev1) rfl rfl (Nat.le_of_ble_eq_true rfl) ⟨Nat.le_of_ble_eq_true rfl, Nat.le_of_ble_eq_true rfl⟩ ⟨Nat.le_of_ble_eq_true rfl, Nat.le_of_ble_eq_true rfl⟩ dX3_readTasks_10 rfl ?_
  obtain ⟨M2, eM2, h⟩ := g_bnd h
  refine g_iast' eM2 sC_39 dX3_readTasks_13 ?_
  refine g_aload_n 0 rfl rfl dX3_readTasks_14 ?_
  refine g_getR FX3_15 sC_37 rfl dX3_readTasks_15 ?_
  refine g_aload_n 0 rfl rfl dX3_readTasks_18 ?_
  refine g_getI FX3_21 sC_37 rfl dX3_readTasks_19 ?_
  obtain ⟨v3, ev3, h⟩ := g_bnd h
  refine g_iald' ev3 sC_39 dX3_readTasks_22 ?_
  refine g_iconst (v := -1) rfl dX3_readTasks_23 ?_
  rcases g_ite h with ⟨c4, h⟩ | ⟨c4, h⟩
  · refine g_icmp_ne_f c4 (tgt := 29) rfl dX3_readTasks_24 ?_
    refine g_iconst (v := 0) rfl dX3_readTasks_27 ?_
    cases h
    exact g_iret O ⟨Nat.le_of_ble_eq_true rfl, Nat.le_of_ble_eq_true rfl⟩ rfl dX3_readTasks_28
  · refine g_icmp_ne_t c4 (tgt := 29) rfl dX3_readTasks_24 ?_
    refine g_aload_n 0 rfl rfl dX3_readTasks_29 ?_
    refine g_getR FX3_18 sC_37 rfl dX3_readTasks_30 ?_
    refine g_aload_n 0 rfl rfl dX3_readTasks_33 ?_
    refine g_getI FX3_21 sC_37 rfl dX3_readTasks_34 ?_
    refine g_iload_n 3 rfl rfl dX3_readTasks_37 ?_
    refine g_iconst (v := 3) rfl dX3_readTasks_38 ?_
    rcases g_ite h with ⟨c5, h⟩ | ⟨c5, h⟩
    · refine g_icmp_ne_f c5 (tgt := 52) rfl dX3_readTasks_39 ?_
      refine g_aload_n 1 rfl rfl dX3_readTasks_42 ?_
      refine g_iconst (v := 1) rfl dX3_readTasks_43 ?_
      refine g_bipush (v := 9) rfl dX3_readTasks_44 ?_
      obtain ⟨v6, ev6, h⟩ := g_bnd h
      refine g_callV LX3_84 sC_32 rfl (kX5_readNumber ev6) rfl rfl (Nat.le_of_ble_eq_true rfl) ⟨Nat.le_of_ble_eq_true rfl, Nat.le_of_ble_eq_true rfl⟩ ⟨Nat.le_of_ble_eq_true rfl, Nat.le_of_ble_eq_true rfl⟩ dX3_readTasks_46 rfl ?_
      refine g_goto (tgt := 57) rfl dX3_readTasks_49 ?_
      refine g_sub [0] rfl ?_
      exact tX3_readTasks_b57 ht2 h O
    · refine g_icmp_ne_t c5 (tgt := 52) rfl dX3_readTasks_39 ?_
      refine g_aload_n 1 rfl rfl dX3_readTasks_52 ?_
      refine g_aload_n 2 rfl rfl dX3_readTasks_53 ?_
      obtain ⟨v10, ev10, h⟩ := g_bnd h
      refine g_callV LX3_88 sC_32 rfl (kX5_readTask ht2 ev10) rfl rfl (Nat.le_of_ble_eq_true rfl) ⟨Nat.le_of_ble_eq_true rfl, Nat.le_of_ble_eq_true rfl⟩ ⟨Nat.le_of_ble_eq_true rfl, Nat.le_of_ble_eq_true rfl⟩ dX3_readTasks_54 rfl ?_
      refine g_sub [0] rfl ?_
      exact tX3_readTasks_b57 ht2 h O
theorem kX3_readTasks {l : Launch} {V : gEnv} {M0 : gMem} {t2 : Nat} {x3 : Int32} (ht2 : gNet gShC t2) {o : (Int32 × gMem)} (h : fX3_readTasks t2 x3 M0 = some o) : gM l yX3_readTasks cX3_readTasks 4 (some .boolean) rX3_readTasks V gShC [.ref (gAd V 37), .ref (gAd V 32), .ref (gAd V t2), .int x3] M0 (some (.int o.1)) o.2 :=
  gM.of (by decide) (Nat.le_of_ble_eq_true rfl) rfl (fun X _ O => tX3_readTasks ht2 h O)
theorem dX3_readOrder_0 : decode cX3_readOrder 0 = .ok (.aload_n 1, 1) := by decide +kernel
theorem dX3_readOrder_1 : decode cX3_readOrder 1 = .ok (.invokevirtual 44, 3) := by decide +kernel
theorem dX3_readOrder_4 : decode cX3_readOrder 4 = .ok (.ifCond .ne 5, 3) := by decide +kernel
theorem dX3_readOrder_7 : decode cX3_readOrder 7 = .ok (.iconst 0, 1) := by decide +kernel
theorem dX3_readOrder_8 : decode cX3_readOrder 8 = .ok (.ireturn, 1) := by decide +kernel
theorem dX3_readOrder_9 : decode cX3_readOrder 9 = .ok (.aload_n 1, 1) := by decide +kernel
theorem dX3_readOrder_10 : decode cX3_readOrder 10 = .ok (.invokestatic 47, 3) := by decide +kernel
theorem dX3_readOrder_13 : decode cX3_readOrder 13 = .ok (.istore_n 3, 1) := by decide +kernel
theorem dX3_readOrder_14 : decode cX3_readOrder 14 = .ok (.iload_n 3, 1) := by decide +kernel
theorem dX3_readOrder_15 : decode cX3_readOrder 15 = .ok (.ifCond .ne 13, 3) := by decide +kernel
theorem dX3_readOrder_18 : decode cX3_readOrder 18 = .ok (.aload_n 1, 1) := by decide +kernel
theorem dX3_readOrder_19 : decode cX3_readOrder 19 = .ok (.iconst 1, 1) := by decide +kernel
theorem dX3_readOrder_20 : decode cX3_readOrder 20 = .ok (.aload_n 1, 1) := by decide +kernel
theorem dX3_readOrder_21 : decode cX3_readOrder 21 = .ok (.getfield 51, 3) := by decide +kernel
theorem dX3_readOrder_24 : decode cX3_readOrder 24 = .ok (.invokevirtual 54, 3) := by decide +kernel
theorem dX3_readOrder_27 : decode cX3_readOrder 27 = .ok (.ireturn, 1) := by decide +kernel
theorem dX3_readOrder_28 : decode cX3_readOrder 28 = .ok (.aload_n 0, 1) := by decide +kernel
theorem dX3_readOrder_29 : decode cX3_readOrder 29 = .ok (.getfield 21, 3) := by decide +kernel
theorem dX3_readOrder_32 : decode cX3_readOrder 32 = .ok (.bipush 30, 2) := by decide +kernel
theorem dX3_readOrder_34 : decode cX3_readOrder 34 = .ok (.if_icmp .lt 13, 3) := by decide +kernel
theorem dX3_readOrder_37 : decode cX3_readOrder 37 = .ok (.aload_n 1, 1) := by decide +kernel
theorem dX3_readOrder_38 : decode cX3_readOrder 38 = .ok (.iconst 4, 1) := by decide +kernel
theorem dX3_readOrder_39 : decode cX3_readOrder 39 = .ok (.aload_n 1, 1) := by decide +kernel
theorem dX3_readOrder_40 : decode cX3_readOrder 40 = .ok (.getfield 51, 3) := by decide +kernel
theorem dX3_readOrder_43 : decode cX3_readOrder 43 = .ok (.invokevirtual 54, 3) := by decide +kernel
theorem dX3_readOrder_46 : decode cX3_readOrder 46 = .ok (.ireturn, 1) := by decide +kernel
theorem dX3_readOrder_47 : decode cX3_readOrder 47 = .ok (.aload_n 0, 1) := by decide +kernel
theorem dX3_readOrder_48 : decode cX3_readOrder 48 = .ok (.getfield 9, 3) := by decide +kernel
theorem dX3_readOrder_51 : decode cX3_readOrder 51 = .ok (.aload_n 0, 1) := by decide +kernel
theorem dX3_readOrder_52 : decode cX3_readOrder 52 = .ok (.getfield 21, 3) := by decide +kernel
theorem dX3_readOrder_55 : decode cX3_readOrder 55 = .ok (.iload_n 3, 1) := by decide +kernel
theorem dX3_readOrder_56 : decode cX3_readOrder 56 = .ok (.iastore, 1) := by decide +kernel
theorem dX3_readOrder_57 : decode cX3_readOrder 57 = .ok (.aload_n 0, 1) := by decide +kernel
theorem dX3_readOrder_58 : decode cX3_readOrder 58 = .ok (.getfield 15, 3) := by decide +kernel
theorem dX3_readOrder_61 : decode cX3_readOrder 61 = .ok (.aload_n 0, 1) := by decide +kernel
theorem dX3_readOrder_62 : decode cX3_readOrder 62 = .ok (.getfield 21, 3) := by decide +kernel
theorem dX3_readOrder_65 : decode cX3_readOrder 65 = .ok (.iconst 0, 1) := by decide +kernel
theorem dX3_readOrder_66 : decode cX3_readOrder 66 = .ok (.iastore, 1) := by decide +kernel
theorem dX3_readOrder_67 : decode cX3_readOrder 67 = .ok (.aload_n 0, 1) := by decide +kernel
theorem dX3_readOrder_68 : decode cX3_readOrder 68 = .ok (.getfield 18, 3) := by decide +kernel
theorem dX3_readOrder_71 : decode cX3_readOrder 71 = .ok (.aload_n 0, 1) := by decide +kernel
theorem dX3_readOrder_72 : decode cX3_readOrder 72 = .ok (.getfield 21, 3) := by decide +kernel
theorem dX3_readOrder_75 : decode cX3_readOrder 75 = .ok (.iconst 0, 1) := by decide +kernel
theorem dX3_readOrder_76 : decode cX3_readOrder 76 = .ok (.iastore, 1) := by decide +kernel
theorem dX3_readOrder_77 : decode cX3_readOrder 77 = .ok (.iload_n 3, 1) := by decide +kernel
theorem dX3_readOrder_78 : decode cX3_readOrder 78 = .ok (.tableswitch 54 4 7 #[32, 40, 47, 30], 30) := by decide +kernel
theorem dX3_readOrder_108 : decode cX3_readOrder 108 = .ok (.iconst 1, 1) := by decide +kernel
theorem dX3_readOrder_109 : decode cX3_readOrder 109 = .ok (.ireturn, 1) := by decide +kernel
theorem dX3_readOrder_110 : decode cX3_readOrder 110 = .ok (.aload_n 0, 1) := by decide +kernel
theorem dX3_readOrder_111 : decode cX3_readOrder 111 = .ok (.aload_n 1, 1) := by decide +kernel
theorem dX3_readOrder_112 : decode cX3_readOrder 112 = .ok (.bipush 22, 2) := by decide +kernel
theorem dX3_readOrder_114 : decode cX3_readOrder 114 = .ok (.invokevirtual 58, 3) := by decide +kernel
theorem dX3_readOrder_117 : decode cX3_readOrder 117 = .ok (.ireturn, 1) := by decide +kernel
theorem dX3_readOrder_118 : decode cX3_readOrder 118 = .ok (.aload_n 0, 1) := by decide +kernel
theorem dX3_readOrder_119 : decode cX3_readOrder 119 = .ok (.aload_n 1, 1) := by decide +kernel
theorem dX3_readOrder_120 : decode cX3_readOrder 120 = .ok (.iconst 2, 1) := by decide +kernel
theorem dX3_readOrder_121 : decode cX3_readOrder 121 = .ok (.invokevirtual 58, 3) := by decide +kernel
theorem dX3_readOrder_124 : decode cX3_readOrder 124 = .ok (.ireturn, 1) := by decide +kernel
theorem dX3_readOrder_125 : decode cX3_readOrder 125 = .ok (.aload_n 0, 1) := by decide +kernel
theorem dX3_readOrder_126 : decode cX3_readOrder 126 = .ok (.aload_n 1, 1) := by decide +kernel
theorem dX3_readOrder_127 : decode cX3_readOrder 127 = .ok (.iconst 1, 1) := by decide +kernel
theorem dX3_readOrder_128 : decode cX3_readOrder 128 = .ok (.invokevirtual 58, 3) := by decide +kernel
theorem dX3_readOrder_131 : decode cX3_readOrder 131 = .ok (.ireturn, 1) := by decide +kernel
theorem dX3_readOrder_132 : decode cX3_readOrder 132 = .ok (.aload_n 0, 1) := by decide +kernel
theorem dX3_readOrder_133 : decode cX3_readOrder 133 = .ok (.aload_n 1, 1) := by decide +kernel
theorem dX3_readOrder_134 : decode cX3_readOrder 134 = .ok (.aload_n 2, 1) := by decide +kernel
theorem dX3_readOrder_135 : decode cX3_readOrder 135 = .ok (.iload_n 3, 1) := by decide +kernel
theorem dX3_readOrder_136 : decode cX3_readOrder 136 = .ok (.invokevirtual 62, 3) := by decide +kernel
theorem dX3_readOrder_139 : decode cX3_readOrder 139 = .ok (.ireturn, 1) := by decide +kernel
abbrev rX3_readOrder : Room := { frames := 6, cells := 0, slots := 0, locals := 162 }
abbrev mX3_readOrder : gY := (cX3_readOrder, RX3, 4, rX3_readOrder)
def fX3_readOrder (t2 : Nat) (M0 : gMem) : Option (Int32 × gMem) :=
  (fX5_readWord M0).bind fun v1 => if v1.1 = 0 then (some ((0 : Int32), v1.2)) else (fX3_kindOf v1.2).bind fun v3 => if v3 = 0 then ((fX5_fail (1 : Int32) (v1.2.1 32 3) v1.2).bind fun v5 => (zv v5.1).bind fun v6 => some (v6, v5.2)) else if (v1.2.1 37 3) < (30 : Int32) then ((wI v1.2 38 30 (v1.2.1 37 3) v3).bind fun M8 => (wI M8 39 30 (M8.1 37 3) (0 : Int32)).bind fun M9 => (wI M9 40 30 (M9.1 37 3) (0 : Int32)).bind fun M10 => if v3 = (4 : Int32) then ((fX3_readFirst (22 : Int32) M10).bind fun v12 => (zv v12.1).bind fun v13 => some (v13, v12.2)) else if v3 = (5 : Int32) then ((fX3_readFirst (2 : Int32) M10).bind fun v15 => (zv v15.1).bind fun v16 => some (v16, v15.2)) else if v3 = (6 : Int32) then ((fX3_readFirst (1 : Int32) M10).bind fun v18 => (zv v18.1).bind fun v19 => some (v19, v18.2)) else if v3 = (7 : Int32) then (some ((1 : Int32), M10)) else (fX3_readTasks t2 v3 M10).bind fun v21 => (zv v21.1).bind fun v22 => some (v22, v21.2)) else (fX5_fail (4 : Int32) (v1.2.1 32 3) v1.2).bind fun v23 => (zv v23.1).bind fun v24 => some (v24, v23.2)
set_option maxRecDepth 20000 in
theorem tX3_readOrder {X : gX} {V : gEnv} {t2 : Nat} {M0 : gMem} (ht2 : gNet gShC t2) {o : (Int32 × gMem)} (h : fX3_readOrder t2 M0 = some o) (O : gO X V mX3_readOrder gShC (some .boolean) (some (.int o.1)) o.2) : gG X V mX3_readOrder gShC M0 0 0 0 [(0, .ref (gAd V 37)), (1, .ref (gAd V 32)), (2, .ref (gAd V t2))] [] := by
  unfold fX3_readOrder at h
  refine g_aload_n 1 rfl rfl dX3_readOrder_0 ?_
  obtain ⟨v1, ev1, h⟩ := g_bnd h
  refine g_callV LX3_44 sC_32 rfl (kX5_readWord ev1) rfl rfl (Nat.le_of_ble_eq_true rfl) ⟨Nat.le_of_ble_eq_true rfl, Nat.le_of_ble_eq_true rfl⟩ ⟨Nat.le_of_ble_eq_true rfl, Nat.le_of_ble_eq_true rfl⟩ dX3_readOrder_1 rfl ?_
  rcases g_ite h with ⟨c2, h⟩ | ⟨c2, h⟩
  · refine g_if_ne_f c2 (tgt := 9) rfl dX3_readOrder_4 ?_
    refine g_iconst (v := 0) rfl dX3_readOrder_7 ?_
    cases h
    exact g_iret O ⟨Nat.le_of_ble_eq_true rfl, Nat.le_of_ble_eq_true rfl⟩ rfl dX3_readOrder_8
  · refine g_if_ne_t c2 (tgt := 9) rfl dX3_readOrder_4 ?_
    refine g_aload_n 1 rfl rfl dX3_readOrder_9 ?_
    obtain ⟨v3, ev3, h⟩ := g_bnd h
    refine g_callS LX3_47 (kX3_kindOf ev3) rfl rfl (Nat.le_of_ble_eq_true rfl) ⟨Nat.le_of_ble_eq_true rfl, Nat.le_of_ble_eq_true rfl⟩ ⟨Nat.le_of_ble_eq_true rfl, Nat.le_of_ble_eq_true rfl⟩ dX3_readOrder_10 rfl ?_
    refine g_istore_n (ls' := [(3, .int v3), (0, .ref (gAd V 37)), (1, .ref (gAd V 32)), (2, .ref (gAd V t2))]) rfl (Nat.le_of_ble_eq_true rfl) rfl dX3_readOrder_13 ?_
    refine g_iload_n 0 rfl rfl dX3_readOrder_14 ?_
    rcases g_ite h with ⟨c4, h⟩ | ⟨c4, h⟩
    · refine g_if_ne_f c4 (tgt := 28) rfl dX3_readOrder_15 ?_
      refine g_aload_n 2 rfl rfl dX3_readOrder_18 ?_
      refine g_iconst (v := 1) rfl dX3_readOrder_19 ?_
      refine g_aload_n 2 rfl rfl dX3_readOrder_20 ?_
      refine g_getI FX3_51 sC_32 rfl dX3_readOrder_21 ?_
      obtain ⟨v5, ev5, h⟩ := g_bnd h
      refine g_callV LX3_54 sC_32 rfl (kX5_fail ev5) rfl rfl (Nat.le_of_ble_eq_true rfl) ⟨Nat.le_of_ble_eq_true rfl, Nat.le_of_ble_eq_true rfl⟩ ⟨Nat.le_of_ble_eq_true rfl, Nat.le_of_ble_eq_true rfl⟩ dX3_readOrder_24 rfl ?_
      obtain ⟨v6, ev6, h⟩ := g_bnd h
      refine g_zv ev6 ?_
      cases h
      exact g_iret O ⟨Nat.le_of_ble_eq_true rfl, Nat.le_of_ble_eq_true rfl⟩ (g_nz (zv_ok ev6)) dX3_readOrder_27
    · refine g_if_ne_t c4 (tgt := 28) rfl dX3_readOrder_15 ?_
      refine g_aload_n 1 rfl rfl dX3_readOrder_28 ?_
      refine g_getI FX3_21 sC_37 rfl dX3_readOrder_29 ?_
      refine g_bipush (v := 30) rfl dX3_readOrder_32 ?_
      rcases g_ite h with ⟨c7, h⟩ | ⟨c7, h⟩
      · refine g_icmp_lt_t c7 (tgt := 47) rfl dX3_readOrder_34 ?_
        refine g_aload_n 1 rfl rfl dX3_readOrder_47 ?_
        refine g_getR FX3_9 sC_37 rfl dX3_readOrder_48 ?_
        refine g_aload_n 1 rfl rfl dX3_readOrder_51 ?_
        refine g_getI FX3_21 sC_37 rfl dX3_readOrder_52 ?_
        refine g_iload_n 0 rfl rfl dX3_readOrder_55 ?_
        obtain ⟨M8, eM8, h⟩ := g_bnd h
        refine g_iast' eM8 sC_38 dX3_readOrder_56 ?_
        refine g_aload_n 1 rfl rfl dX3_readOrder_57 ?_
        refine g_getR FX3_15 sC_37 rfl dX3_readOrder_58 ?_
        refine g_aload_n 1 rfl rfl dX3_readOrder_61 ?_
        refine g_getI FX3_21 sC_37 rfl dX3_readOrder_62 ?_
        refine g_iconst (v := 0) rfl dX3_readOrder_65 ?_
        obtain ⟨M9, eM9, h⟩ := g_bnd h
        refine g_iast' eM9 sC_39 dX3_readOrder_66 ?_
        refine g_aload_n 1 rfl rfl dX3_readOrder_67 ?_
        refine g_getR FX3_18 sC_37 rfl dX3_readOrder_68 ?_
        refine g_aload_n 1 rfl rfl dX3_readOrder_71 ?_
        refine g_getI FX3_21 sC_37 rfl dX3_readOrder_72 ?_
        refine g_iconst (v := 0) rfl dX3_readOrder_75 ?_
        obtain ⟨M10, eM10, h⟩ := g_bnd h
        refine g_iast' eM10 sC_40 dX3_readOrder_76 ?_
        refine g_iload_n 0 rfl rfl dX3_readOrder_77 ?_
        rcases g_ite h with ⟨c11, h⟩ | ⟨c11, h⟩
        · refine g_tabIn (off := 32) (tgt := 110) (by rw [c11]; decide) (by rw [c11]; decide) (by rw [c11]; rfl) rfl dX3_readOrder_78 ?_
          refine g_aload_n 1 rfl rfl dX3_readOrder_110 ?_
          refine g_aload_n 2 rfl rfl dX3_readOrder_111 ?_
          refine g_bipush (v := 22) rfl dX3_readOrder_112 ?_
          obtain ⟨v12, ev12, h⟩ := g_bnd h
          refine g_callV LX3_58 sC_37 rfl (kX3_readFirst ev12) rfl rfl (Nat.le_of_ble_eq_true rfl) ⟨Nat.le_of_ble_eq_true rfl, Nat.le_of_ble_eq_true rfl⟩ ⟨Nat.le_of_ble_eq_true rfl, Nat.le_of_ble_eq_true rfl⟩ dX3_readOrder_114 rfl ?_
          obtain ⟨v13, ev13, h⟩ := g_bnd h
          refine g_zv ev13 ?_
          cases h
          exact g_iret O ⟨Nat.le_of_ble_eq_true rfl, Nat.le_of_ble_eq_true rfl⟩ (g_nz (zv_ok ev13)) dX3_readOrder_117
        ·
          rcases g_ite h with ⟨c14, h⟩ | ⟨c14, h⟩
          · refine g_tabIn (off := 40) (tgt := 118) (by rw [c14]; decide) (by rw [c14]; decide) (by rw [c14]; rfl) rfl dX3_readOrder_78 ?_
            refine g_aload_n 1 rfl rfl dX3_readOrder_118 ?_
            refine g_aload_n 2 rfl rfl dX3_readOrder_119 ?_
            refine g_iconst (v := 2) rfl dX3_readOrder_120 ?_
            obtain ⟨v15, ev15, h⟩ := g_bnd h
            refine g_callV LX3_58 sC_37 rfl (kX3_readFirst ev15) rfl rfl (Nat.le_of_ble_eq_true rfl) ⟨Nat.le_of_ble_eq_true rfl, Nat.le_of_ble_eq_true rfl⟩ ⟨Nat.le_of_ble_eq_true rfl, Nat.le_of_ble_eq_true rfl⟩ dX3_readOrder_121 rfl ?_
            obtain ⟨v16, ev16, h⟩ := g_bnd h
            refine g_zv ev16 ?_
            cases h
            exact g_iret O ⟨Nat.le_of_ble_eq_true rfl, Nat.le_of_ble_eq_true rfl⟩ (g_nz (zv_ok ev16)) dX3_readOrder_124
          ·
            rcases g_ite h with ⟨c17, h⟩ | ⟨c17, h⟩
            · refine g_tabIn (off := 47) (tgt := 125) (by rw [c17]; decide) (by rw [c17]; decide) (by rw [c17]; rfl) rfl dX3_readOrder_78 ?_
              refine g_aload_n 1 rfl rfl dX3_readOrder_125 ?_
              refine g_aload_n 2 rfl rfl dX3_readOrder_126 ?_
              refine g_iconst (v := 1) rfl dX3_readOrder_127 ?_
              obtain ⟨v18, ev18, h⟩ := g_bnd h
              refine g_callV LX3_58 sC_37 rfl (kX3_readFirst ev18) rfl rfl (Nat.le_of_ble_eq_true rfl) ⟨Nat.le_of_ble_eq_true rfl, Nat.le_of_ble_eq_true rfl⟩ ⟨Nat.le_of_ble_eq_true rfl, Nat.le_of_ble_eq_true rfl⟩ dX3_readOrder_128 rfl ?_
              obtain ⟨v19, ev19, h⟩ := g_bnd h
              refine g_zv ev19 ?_
              cases h
              exact g_iret O ⟨Nat.le_of_ble_eq_true rfl, Nat.le_of_ble_eq_true rfl⟩ (g_nz (zv_ok ev19)) dX3_readOrder_131
            ·
              rcases g_ite h with ⟨c20, h⟩ | ⟨c20, h⟩
              · refine g_tabIn (off := 30) (tgt := 108) (by rw [c20]; decide) (by rw [c20]; decide) (by rw [c20]; rfl) rfl dX3_readOrder_78 ?_
                refine g_iconst (v := 1) rfl dX3_readOrder_108 ?_
                cases h
                exact g_iret O ⟨Nat.le_of_ble_eq_true rfl, Nat.le_of_ble_eq_true rfl⟩ rfl dX3_readOrder_109
              ·
                have nc11 := gne (4 : Int32) (j := 4) rfl c11
                have nc14 := gne (5 : Int32) (j := 5) rfl c14
                have nc17 := gne (6 : Int32) (j := 6) rfl c17
                have nc20 := gne (7 : Int32) (j := 7) rfl c20
                refine g_tabOut (tgt := 132) (by omega) rfl dX3_readOrder_78 ?_
                refine g_aload_n 1 rfl rfl dX3_readOrder_132 ?_
                refine g_aload_n 2 rfl rfl dX3_readOrder_133 ?_
                refine g_aload_n 3 rfl rfl dX3_readOrder_134 ?_
                refine g_iload_n 0 rfl rfl dX3_readOrder_135 ?_
                obtain ⟨v21, ev21, h⟩ := g_bnd h
                refine g_callV LX3_62 sC_37 rfl (kX3_readTasks ht2 ev21) rfl rfl (Nat.le_of_ble_eq_true rfl) ⟨Nat.le_of_ble_eq_true rfl, Nat.le_of_ble_eq_true rfl⟩ ⟨Nat.le_of_ble_eq_true rfl, Nat.le_of_ble_eq_true rfl⟩ dX3_readOrder_136 rfl ?_
                obtain ⟨v22, ev22, h⟩ := g_bnd h
                refine g_zv ev22 ?_
                cases h
                exact g_iret O ⟨Nat.le_of_ble_eq_true rfl, Nat.le_of_ble_eq_true rfl⟩ (g_nz (zv_ok ev22)) dX3_readOrder_139
      · refine g_icmp_lt_f c7 (tgt := 47) rfl dX3_readOrder_34 ?_
        refine g_aload_n 2 rfl rfl dX3_readOrder_37 ?_
        refine g_iconst (v := 4) rfl dX3_readOrder_38 ?_
        refine g_aload_n 2 rfl rfl dX3_readOrder_39 ?_
        refine g_getI FX3_51 sC_32 rfl dX3_readOrder_40 ?_
        obtain ⟨v23, ev23, h⟩ := g_bnd h
        refine g_callV LX3_54 sC_32 rfl (kX5_fail ev23) rfl rfl (Nat.le_of_ble_eq_true rfl) ⟨Nat.le_of_ble_eq_true rfl, Nat.le_of_ble_eq_true rfl⟩ ⟨Nat.le_of_ble_eq_true rfl, Nat.le_of_ble_eq_true rfl⟩ dX3_readOrder_43 rfl ?_
        obtain ⟨v24, ev24, h⟩ := g_bnd h
        refine g_zv ev24 ?_
        cases h
        exact g_iret O ⟨Nat.le_of_ble_eq_true rfl, Nat.le_of_ble_eq_true rfl⟩ (g_nz (zv_ok ev24)) dX3_readOrder_46
theorem kX3_readOrder {l : Launch} {V : gEnv} {M0 : gMem} {t2 : Nat} (ht2 : gNet gShC t2) {o : (Int32 × gMem)} (h : fX3_readOrder t2 M0 = some o) : gM l yX3_readOrder cX3_readOrder 4 (some .boolean) rX3_readOrder V gShC [.ref (gAd V 37), .ref (gAd V 32), .ref (gAd V t2)] M0 (some (.int o.1)) o.2 :=
  gM.of (by decide) (Nat.le_of_ble_eq_true rfl) rfl (fun X _ O => tX3_readOrder ht2 h O)
theorem dX3_readAll_0 : decode cX3_readAll 0 = .ok (.aload_n 0, 1) := by decide +kernel
theorem dX3_readAll_1 : decode cX3_readAll 1 = .ok (.iconst 0, 1) := by decide +kernel
theorem dX3_readAll_2 : decode cX3_readAll 2 = .ok (.putfield 21, 3) := by decide +kernel
theorem dX3_readAll_5 : decode cX3_readAll 5 = .ok (.aload_n 1, 1) := by decide +kernel
theorem dX3_readAll_6 : decode cX3_readAll 6 = .ok (.invokevirtual 25, 3) := by decide +kernel
theorem dX3_readAll_9 : decode cX3_readAll 9 = .ok (.aload_n 1, 1) := by decide +kernel
theorem dX3_readAll_10 : decode cX3_readAll 10 = .ok (.invokevirtual 30, 3) := by decide +kernel
theorem dX3_readAll_13 : decode cX3_readAll 13 = .ok (.iconst 0, 1) := by decide +kernel
theorem dX3_readAll_14 : decode cX3_readAll 14 = .ok (.istore_n 3, 1) := by decide +kernel
theorem dX3_readAll_15 : decode cX3_readAll 15 = .ok (.iload_n 3, 1) := by decide +kernel
theorem dX3_readAll_16 : decode cX3_readAll 16 = .ok (.bipush 30, 2) := by decide +kernel
theorem dX3_readAll_18 : decode cX3_readAll 18 = .ok (.if_icmp .gt 48, 3) := by decide +kernel
theorem dX3_readAll_21 : decode cX3_readAll 21 = .ok (.aload_n 1, 1) := by decide +kernel
theorem dX3_readAll_22 : decode cX3_readAll 22 = .ok (.invokevirtual 33, 3) := by decide +kernel
theorem dX3_readAll_25 : decode cX3_readAll 25 = .ok (.ifCond .ne 41, 3) := by decide +kernel
theorem dX3_readAll_28 : decode cX3_readAll 28 = .ok (.aload_n 0, 1) := by decide +kernel
theorem dX3_readAll_29 : decode cX3_readAll 29 = .ok (.aload_n 1, 1) := by decide +kernel
theorem dX3_readAll_30 : decode cX3_readAll 30 = .ok (.aload_n 2, 1) := by decide +kernel
theorem dX3_readAll_31 : decode cX3_readAll 31 = .ok (.invokevirtual 37, 3) := by decide +kernel
theorem dX3_readAll_34 : decode cX3_readAll 34 = .ok (.ifCond .eq 10, 3) := by decide +kernel
theorem dX3_readAll_37 : decode cX3_readAll 37 = .ok (.aload_n 1, 1) := by decide +kernel
theorem dX3_readAll_38 : decode cX3_readAll 38 = .ok (.invokevirtual 41, 3) := by decide +kernel
theorem dX3_readAll_41 : decode cX3_readAll 41 = .ok (.ifCond .ne 5, 3) := by decide +kernel
theorem dX3_readAll_44 : decode cX3_readAll 44 = .ok (.iconst 0, 1) := by decide +kernel
theorem dX3_readAll_45 : decode cX3_readAll 45 = .ok (.ireturn, 1) := by decide +kernel
theorem dX3_readAll_46 : decode cX3_readAll 46 = .ok (.aload_n 1, 1) := by decide +kernel
theorem dX3_readAll_47 : decode cX3_readAll 47 = .ok (.invokevirtual 30, 3) := by decide +kernel
theorem dX3_readAll_50 : decode cX3_readAll 50 = .ok (.aload_n 0, 1) := by decide +kernel
theorem dX3_readAll_51 : decode cX3_readAll 51 = .ok (.dup, 1) := by decide +kernel
theorem dX3_readAll_52 : decode cX3_readAll 52 = .ok (.getfield 21, 3) := by decide +kernel
theorem dX3_readAll_55 : decode cX3_readAll 55 = .ok (.iconst 1, 1) := by decide +kernel
theorem dX3_readAll_56 : decode cX3_readAll 56 = .ok (.iadd, 1) := by decide +kernel
theorem dX3_readAll_57 : decode cX3_readAll 57 = .ok (.putfield 21, 3) := by decide +kernel
theorem dX3_readAll_60 : decode cX3_readAll 60 = .ok (.iinc 3 1, 3) := by decide +kernel
theorem dX3_readAll_63 : decode cX3_readAll 63 = .ok (.goto (-48), 3) := by decide +kernel
theorem dX3_readAll_66 : decode cX3_readAll 66 = .ok (.iconst 1, 1) := by decide +kernel
theorem dX3_readAll_67 : decode cX3_readAll 67 = .ok (.ireturn, 1) := by decide +kernel
abbrev rX3_readAll : Room := { frames := 7, cells := 0, slots := 0, locals := 185 }
abbrev mX3_readAll : gY := (cX3_readAll, RX3, 4, rX3_readAll)
def fX3_readAll_l15 (t2 : Nat) (x3 : Int32) (M0 : gMem) : Option ((Int32 × gMem) ⊕ (gMem ⊕ (Int32 × gMem))) :=
  if (30 : Int32) < x3 then (some (.inr (.inl M0))) else (fX5_isAtEnd M0).bind fun v5 => if v5 = 0 then ((fX3_readOrder t2 M0).bind fun v7 => if v7.1 = 0 then (some (.inr (.inr ((0 : Int32), v7.2)))) else (fX5_readSemicolon v7.2).bind fun v9 => if v9.1 = 0 then (some (.inr (.inr ((0 : Int32), v9.2)))) else (fX5_skipSpaces v9.2).bind fun v11 => (wF v11 37 3 ((v11.1 37 3) + (1 : Int32))).bind fun M12 => some (.inl (x3 + (1 : Int32), M12))) else some (.inr (.inl M0))
set_option maxRecDepth 20000 in
theorem tX3_readAll_l15 {X : gX} {V : gEnv} {t2 : Nat} {x3 : Int32} {M0 : gMem} (ht2 : gNet gShC t2) {o : ((Int32 × gMem) ⊕ (gMem ⊕ (Int32 × gMem)))} (h : fX3_readAll_l15 t2 x3 M0 = some o) (Kc : ∀ s9, o = .inl s9 → gG X V mX3_readAll gShC s9.2 0 0 15 [(0, .ref (gAd V 37)), (1, .ref (gAd V 32)), (2, .ref (gAd V t2)), (3, .int s9.1)] []) (Kx : ∀ e9, o = .inr (.inl e9) → gG X V mX3_readAll gShC e9 0 0 66 [] []) (Kr : ∀ r9, o = .inr (.inr r9) → gO X V mX3_readAll gShC (some .boolean) (some (.int r9.1)) r9.2) : gG X V mX3_readAll gShC M0 0 0 15 [(0, .ref (gAd V 37)), (1, .ref (gAd V 32)), (2, .ref (gAd V t2)), (3, .int x3)] [] := by
  unfold fX3_readAll_l15 at h
  refine g_iload_n 3 rfl rfl dX3_readAll_15 ?_
  refine g_bipush (v := 30) rfl dX3_readAll_16 ?_
  rcases g_ite h with ⟨c4, h⟩ | ⟨c4, h⟩
  · refine g_icmp_gt_t c4 (tgt := 66) rfl dX3_readAll_18 ?_
    cases h
    refine g_sub [] rfl ?_
    exact Kx M0 rfl
  · refine g_icmp_gt_f c4 (tgt := 66) rfl dX3_readAll_18 ?_
    refine g_aload_n 1 rfl rfl dX3_readAll_21 ?_
    obtain ⟨v5, ev5, h⟩ := g_bnd h
    refine g_callV LX3_33 sC_32 rfl (kX5_isAtEnd ev5) rfl rfl (Nat.le_of_ble_eq_true rfl) ⟨Nat.le_of_ble_eq_true rfl, Nat.le_of_ble_eq_true rfl⟩ ⟨Nat.le_of_ble_eq_true rfl, Nat.le_of_ble_eq_true rfl⟩ dX3_readAll_22 rfl ?_
    rcases g_ite h with ⟨c6, h⟩ | ⟨c6, h⟩
    · refine g_if_ne_f c6 (tgt := 66) rfl dX3_readAll_25 ?_
      refine g_aload_n 0 rfl rfl dX3_readAll_28 ?_
      refine g_aload_n 1 rfl rfl dX3_readAll_29 ?_
      refine g_aload_n 2 rfl rfl dX3_readAll_30 ?_
      obtain ⟨v7, ev7, h⟩ := g_bnd h
      refine g_callV LX3_37 sC_37 rfl (kX3_readOrder ht2 ev7) rfl rfl (Nat.le_of_ble_eq_true rfl) ⟨Nat.le_of_ble_eq_true rfl, Nat.le_of_ble_eq_true rfl⟩ ⟨Nat.le_of_ble_eq_true rfl, Nat.le_of_ble_eq_true rfl⟩ dX3_readAll_31 rfl ?_
      rcases g_ite h with ⟨c8, h⟩ | ⟨c8, h⟩
      · refine g_if_eq_t c8 (tgt := 44) rfl dX3_readAll_34 ?_
        refine g_iconst (v := 0) rfl dX3_readAll_44 ?_
        cases h
        exact g_iret (Kr ((0 : Int32), v7.2) rfl) ⟨Nat.le_of_ble_eq_true rfl, Nat.le_of_ble_eq_true rfl⟩ rfl dX3_readAll_45
      · refine g_if_eq_f c8 (tgt := 44) rfl dX3_readAll_34 ?_
        refine g_aload_n 1 rfl rfl dX3_readAll_37 ?_
        obtain ⟨v9, ev9, h⟩ := g_bnd h
        refine g_callV LX3_41 sC_32 rfl (kX5_readSemicolon ev9) rfl rfl (Nat.le_of_ble_eq_true rfl) ⟨Nat.le_of_ble_eq_true rfl, Nat.le_of_ble_eq_true rfl⟩ ⟨Nat.le_of_ble_eq_true rfl, Nat.le_of_ble_eq_true rfl⟩ dX3_readAll_38 rfl ?_
        rcases g_ite h with ⟨c10, h⟩ | ⟨c10, h⟩
        · refine g_if_ne_f c10 (tgt := 46) rfl dX3_readAll_41 ?_
          refine g_iconst (v := 0) rfl dX3_readAll_44 ?_
          cases h
          exact g_iret (Kr ((0 : Int32), v9.2) rfl) ⟨Nat.le_of_ble_eq_true rfl, Nat.le_of_ble_eq_true rfl⟩ rfl dX3_readAll_45
        · refine g_if_ne_t c10 (tgt := 46) rfl dX3_readAll_41 ?_
          refine g_aload_n 1 rfl rfl dX3_readAll_46 ?_
          obtain ⟨v11, ev11, h⟩ := g_bnd h
          refine g_callV LX3_30 sC_32 rfl (kX5_skipSpaces ev11) rfl rfl (Nat.le_of_ble_eq_true rfl) ⟨Nat.le_of_ble_eq_true rfl, Nat.le_of_ble_eq_true rfl⟩ ⟨Nat.le_of_ble_eq_true rfl, Nat.le_of_ble_eq_true rfl⟩ dX3_readAll_47 rfl ?_
          refine g_aload_n 0 rfl rfl dX3_readAll_50 ?_
          refine g_dup rfl dX3_readAll_51 ?_
          refine g_getI FX3_21 sC_37 rfl dX3_readAll_52 ?_
          refine g_iconst (v := 1) rfl dX3_readAll_55 ?_
          refine g_iadd dX3_readAll_56 ?_
          obtain ⟨M12, eM12, h⟩ := g_bnd h
          refine g_putI' eM12 FX3_21 jX3 sC_37 rfl rfl rfl dX3_readAll_57 ?_
          refine g_iinc (j := 3) (v := x3 + (1 : Int32)) (ls' := [(3, .int (x3 + (1 : Int32))), (0, .ref (gAd V 37)), (1, .ref (gAd V 32)), (2, .ref (gAd V t2))]) rfl rfl (Nat.le_of_ble_eq_true rfl) rfl dX3_readAll_60 ?_
          refine g_goto (tgt := 15) rfl dX3_readAll_63 ?_
          cases h
          refine g_sub [1, 2, 3, 0] rfl ?_
          exact Kc (x3 + (1 : Int32), M12) rfl
    · refine g_if_ne_t c6 (tgt := 66) rfl dX3_readAll_25 ?_
      cases h
      refine g_sub [] rfl ?_
      exact Kx M0 rfl
def fX3_readAll (t2 : Nat) (M0 : gMem) : Option (Int32 × gMem) :=
  (wF M0 37 3 (0 : Int32)).bind fun M1 => (fX5_begin M1).bind fun v2 => (fX5_skipSpaces v2).bind fun v3 => (gLoop (fun z9 => fX3_readAll_l15 t2 z9.1 z9.2) gFu ((0 : Int32), v3)).bind fun w13 => gSE w13 (fun y14 => some ((1 : Int32), y14)) (fun r15 => some r15)
set_option maxRecDepth 20000 in
theorem tX3_readAll {X : gX} {V : gEnv} {t2 : Nat} {M0 : gMem} (ht2 : gNet gShC t2) {o : (Int32 × gMem)} (h : fX3_readAll t2 M0 = some o) (O : gO X V mX3_readAll gShC (some .boolean) (some (.int o.1)) o.2) : gG X V mX3_readAll gShC M0 0 0 0 [(0, .ref (gAd V 37)), (1, .ref (gAd V 32)), (2, .ref (gAd V t2))] [] := by
  unfold fX3_readAll at h
  refine g_aload_n 0 rfl rfl dX3_readAll_0 ?_
  refine g_iconst (v := 0) rfl dX3_readAll_1 ?_
  obtain ⟨M1, eM1, h⟩ := g_bnd h
  refine g_putI' eM1 FX3_21 jX3 sC_37 rfl rfl rfl dX3_readAll_2 ?_
  refine g_aload_n 1 rfl rfl dX3_readAll_5 ?_
  obtain ⟨v2, ev2, h⟩ := g_bnd h
  refine g_callV LX3_25 sC_32 rfl (kX5_begin ev2) rfl rfl (Nat.le_of_ble_eq_true rfl) ⟨Nat.le_of_ble_eq_true rfl, Nat.le_of_ble_eq_true rfl⟩ ⟨Nat.le_of_ble_eq_true rfl, Nat.le_of_ble_eq_true rfl⟩ dX3_readAll_6 rfl ?_
  refine g_aload_n 1 rfl rfl dX3_readAll_9 ?_
  obtain ⟨v3, ev3, h⟩ := g_bnd h
  refine g_callV LX3_30 sC_32 rfl (kX5_skipSpaces ev3) rfl rfl (Nat.le_of_ble_eq_true rfl) ⟨Nat.le_of_ble_eq_true rfl, Nat.le_of_ble_eq_true rfl⟩ ⟨Nat.le_of_ble_eq_true rfl, Nat.le_of_ble_eq_true rfl⟩ dX3_readAll_10 rfl ?_
  refine g_iconst (v := 0) rfl dX3_readAll_13 ?_
  refine g_istore_n (ls' := [(3, .int (0 : Int32)), (0, .ref (gAd V 37)), (1, .ref (gAd V 32)), (2, .ref (gAd V t2))]) rfl (Nat.le_of_ble_eq_true rfl) rfl dX3_readAll_14 ?_
  obtain ⟨w13, ew13, h⟩ := g_bnd h
  refine g_sub [1, 2, 3, 0] rfl ?_
  rcases w13 with y14 | r15
  · have h := g_sl h
    have KX : gG X V mX3_readAll gShC y14 0 0 66 [] [] := by
      refine g_iconst (v := 1) rfl dX3_readAll_66 ?_
      cases h
      exact g_iret O ⟨Nat.le_of_ble_eq_true rfl, Nat.le_of_ble_eq_true rfl⟩ rfl dX3_readAll_67
    exact gLoop_Q ew13 (fun z9 => gG X V mX3_readAll gShC z9.2 0 0 15 [(0, .ref (gAd V 37)), (1, .ref (gAd V 32)), (2, .ref (gAd V t2)), (3, .int z9.1)] []) (fun s9 o9 hb9 hc9 hx9 => tX3_readAll_l15 ht2 hb9 hc9 (fun e9 he9 => by cases hx9 _ he9; exact KX) (fun r9 he9 => by cases hx9 _ he9))
  · have h := g_sr h
    cases h
    exact gLoop_Q ew13 (fun z9 => gG X V mX3_readAll gShC z9.2 0 0 15 [(0, .ref (gAd V 37)), (1, .ref (gAd V 32)), (2, .ref (gAd V t2)), (3, .int z9.1)] []) (fun s9 o9 hb9 hc9 hx9 => tX3_readAll_l15 ht2 hb9 hc9 (fun e9 he9 => by cases hx9 _ he9) (fun r9 he9 => by cases hx9 _ he9; exact O))
theorem kX3_readAll {l : Launch} {V : gEnv} {M0 : gMem} {t2 : Nat} (ht2 : gNet gShC t2) {o : (Int32 × gMem)} (h : fX3_readAll t2 M0 = some o) : gM l yX3_readAll cX3_readAll 4 (some .boolean) rX3_readAll V gShC [.ref (gAd V 37), .ref (gAd V 32), .ref (gAd V t2)] M0 (some (.int o.1)) o.2 :=
  gM.of (by decide) (Nat.le_of_ble_eq_true rfl) rfl (fun X _ O => tX3_readAll ht2 h O)
theorem dX3_runArrow_0 : decode cX3_runArrow 0 = .ok (.aload_n 2, 1) := by decide +kernel
theorem dX3_runArrow_1 : decode cX3_runArrow 1 = .ok (.iload_n 0, 1) := by decide +kernel
theorem dX3_runArrow_2 : decode cX3_runArrow 2 = .ok (.iload_n 1, 1) := by decide +kernel
theorem dX3_runArrow_3 : decode cX3_runArrow 3 = .ok (.invokevirtual 121, 3) := by decide +kernel
theorem dX3_runArrow_6 : decode cX3_runArrow 6 = .ok (.ifCond .eq 5, 3) := by decide +kernel
theorem dX3_runArrow_9 : decode cX3_runArrow 9 = .ok (.iconst 0, 1) := by decide +kernel
theorem dX3_runArrow_10 : decode cX3_runArrow 10 = .ok (.ireturn, 1) := by decide +kernel
theorem dX3_runArrow_11 : decode cX3_runArrow 11 = .ok (.aload_n 3, 1) := by decide +kernel
theorem dX3_runArrow_12 : decode cX3_runArrow 12 = .ok (.aload_n 2, 1) := by decide +kernel
theorem dX3_runArrow_13 : decode cX3_runArrow 13 = .ok (.iload_n 0, 1) := by decide +kernel
theorem dX3_runArrow_14 : decode cX3_runArrow 14 = .ok (.iload_n 1, 1) := by decide +kernel
theorem dX3_runArrow_15 : decode cX3_runArrow 15 = .ok (.invokevirtual 124, 3) := by decide +kernel
theorem dX3_runArrow_18 : decode cX3_runArrow 18 = .ok (.pop, 1) := by decide +kernel
theorem dX3_runArrow_19 : decode cX3_runArrow 19 = .ok (.iconst 1, 1) := by decide +kernel
theorem dX3_runArrow_20 : decode cX3_runArrow 20 = .ok (.ireturn, 1) := by decide +kernel
abbrev rX3_runArrow : Room := { frames := 4, cells := 0, slots := 0, locals := 94 }
abbrev mX3_runArrow : gY := (cX3_runArrow, RX3, 4, rX3_runArrow)
def fX3_runArrow (x0 : Int32) (x1 : Int32) (t2 : Nat) (M0 : gMem) : Option (Int32 × gMem) :=
  (fX2_refusal t2 x0 x1 M0).bind fun v1 => if v1 = 0 then ((fX6_bring t2 x0 x1 M0).bind fun v3 => some ((1 : Int32), v3.2)) else some ((0 : Int32), M0)
set_option maxRecDepth 20000 in
theorem tX3_runArrow {X : gX} {V : gEnv} {x0 : Int32} {x1 : Int32} {t2 : Nat} {M0 : gMem} (ht2 : gNet gShC t2) {o : (Int32 × gMem)} (h : fX3_runArrow x0 x1 t2 M0 = some o) (O : gO X V mX3_runArrow gShC (some .boolean) (some (.int o.1)) o.2) : gG X V mX3_runArrow gShC M0 0 0 0 [(0, .int x0), (1, .int x1), (2, .ref (gAd V t2)), (3, .ref (gAd V 41))] [] := by
  unfold fX3_runArrow at h
  refine g_aload_n 2 rfl rfl dX3_runArrow_0 ?_
  refine g_iload_n 0 rfl rfl dX3_runArrow_1 ?_
  refine g_iload_n 1 rfl rfl dX3_runArrow_2 ?_
  obtain ⟨v1, ev1, h⟩ := g_bnd h
  refine g_callV LX3_121 ht2.1 rfl (kX2_refusal ht2 ev1) rfl rfl (Nat.le_of_ble_eq_true rfl) ⟨Nat.le_of_ble_eq_true rfl, Nat.le_of_ble_eq_true rfl⟩ ⟨Nat.le_of_ble_eq_true rfl, Nat.le_of_ble_eq_true rfl⟩ dX3_runArrow_3 rfl ?_
  rcases g_ite h with ⟨c2, h⟩ | ⟨c2, h⟩
  · refine g_if_eq_t c2 (tgt := 11) rfl dX3_runArrow_6 ?_
    refine g_aload_n 3 rfl rfl dX3_runArrow_11 ?_
    refine g_aload_n 2 rfl rfl dX3_runArrow_12 ?_
    refine g_iload_n 0 rfl rfl dX3_runArrow_13 ?_
    refine g_iload_n 1 rfl rfl dX3_runArrow_14 ?_
    obtain ⟨v3, ev3, h⟩ := g_bnd h
    refine g_callV LX3_124 sC_41 rfl (kX6_bring ht2 ev3) rfl rfl (Nat.le_of_ble_eq_true rfl) ⟨Nat.le_of_ble_eq_true rfl, Nat.le_of_ble_eq_true rfl⟩ ⟨Nat.le_of_ble_eq_true rfl, Nat.le_of_ble_eq_true rfl⟩ dX3_runArrow_15 rfl ?_
    refine g_pop rfl dX3_runArrow_18 ?_
    refine g_iconst (v := 1) rfl dX3_runArrow_19 ?_
    cases h
    exact g_iret O ⟨Nat.le_of_ble_eq_true rfl, Nat.le_of_ble_eq_true rfl⟩ rfl dX3_runArrow_20
  · refine g_if_eq_f c2 (tgt := 11) rfl dX3_runArrow_6 ?_
    refine g_iconst (v := 0) rfl dX3_runArrow_9 ?_
    cases h
    exact g_iret O ⟨Nat.le_of_ble_eq_true rfl, Nat.le_of_ble_eq_true rfl⟩ rfl dX3_runArrow_10
theorem kX3_runArrow {l : Launch} {V : gEnv} {M0 : gMem} {x0 : Int32} {x1 : Int32} {t2 : Nat} (ht2 : gNet gShC t2) {o : (Int32 × gMem)} (h : fX3_runArrow x0 x1 t2 M0 = some o) : gM l yX3_runArrow cX3_runArrow 4 (some .boolean) rX3_runArrow V gShC [.int x0, .int x1, .ref (gAd V t2), .ref (gAd V 41)] M0 (some (.int o.1)) o.2 :=
  gM.of (by decide) (Nat.le_of_ble_eq_true rfl) rfl (fun X _ O => tX3_runArrow ht2 h O)
theorem dX8_putParts_0 : decode cX8_putParts 0 = .ok (.iload_n 2, 1) := by decide +kernel
theorem dX8_putParts_1 : decode cX8_putParts 1 = .ok (.istore 4, 2) := by decide +kernel
theorem dX8_putParts_3 : decode cX8_putParts 3 = .ok (.iconst 0, 1) := by decide +kernel
theorem dX8_putParts_4 : decode cX8_putParts 4 = .ok (.istore 5, 2) := by decide +kernel
theorem dX8_putParts_6 : decode cX8_putParts 6 = .ok (.iconst 0, 1) := by decide +kernel
theorem dX8_putParts_7 : decode cX8_putParts 7 = .ok (.istore 6, 2) := by decide +kernel
theorem dX8_putParts_9 : decode cX8_putParts 9 = .ok (.iload 6, 2) := by decide +kernel
theorem dX8_putParts_11 : decode cX8_putParts 11 = .ok (.aload_n 1, 1) := by decide +kernel
theorem dX8_putParts_12 : decode cX8_putParts 12 = .ok (.getfield 76, 3) := by decide +kernel
theorem dX8_putParts_15 : decode cX8_putParts 15 = .ok (.if_icmp .ge 105, 3) := by decide +kernel
theorem dX8_putParts_18 : decode cX8_putParts 18 = .ok (.iload 4, 2) := by decide +kernel
theorem dX8_putParts_20 : decode cX8_putParts 20 = .ok (.iload 6, 2) := by decide +kernel
theorem dX8_putParts_22 : decode cX8_putParts 22 = .ok (.invokestatic 79, 3) := by decide +kernel
theorem dX8_putParts_25 : decode cX8_putParts 25 = .ok (.ifCond .eq 89, 3) := by decide +kernel
theorem dX8_putParts_28 : decode cX8_putParts 28 = .ok (.iconst 0, 1) := by decide +kernel
theorem dX8_putParts_29 : decode cX8_putParts 29 = .ok (.istore 7, 2) := by decide +kernel
theorem dX8_putParts_31 : decode cX8_putParts 31 = .ok (.iload 6, 2) := by decide +kernel
theorem dX8_putParts_33 : decode cX8_putParts 33 = .ok (.istore 8, 2) := by decide +kernel
theorem dX8_putParts_35 : decode cX8_putParts 35 = .ok (.iload 8, 2) := by decide +kernel
theorem dX8_putParts_37 : decode cX8_putParts 37 = .ok (.aload_n 1, 1) := by decide +kernel
theorem dX8_putParts_38 : decode cX8_putParts 38 = .ok (.getfield 76, 3) := by decide +kernel
theorem dX8_putParts_41 : decode cX8_putParts 41 = .ok (.if_icmp .ge 52, 3) := by decide +kernel
theorem dX8_putParts_44 : decode cX8_putParts 44 = .ok (.iload 4, 2) := by decide +kernel
theorem dX8_putParts_46 : decode cX8_putParts 46 = .ok (.iload 8, 2) := by decide +kernel
theorem dX8_putParts_48 : decode cX8_putParts 48 = .ok (.invokestatic 79, 3) := by decide +kernel
theorem dX8_putParts_51 : decode cX8_putParts 51 = .ok (.ifCond .eq 36, 3) := by decide +kernel
theorem dX8_putParts_54 : decode cX8_putParts 54 = .ok (.aload_n 3, 1) := by decide +kernel
theorem dX8_putParts_55 : decode cX8_putParts 55 = .ok (.iload 6, 2) := by decide +kernel
theorem dX8_putParts_57 : decode cX8_putParts 57 = .ok (.iaload, 1) := by decide +kernel
theorem dX8_putParts_58 : decode cX8_putParts 58 = .ok (.iload 8, 2) := by decide +kernel
theorem dX8_putParts_60 : decode cX8_putParts 60 = .ok (.invokestatic 79, 3) := by decide +kernel
theorem dX8_putParts_63 : decode cX8_putParts 63 = .ok (.ifCond .eq 24, 3) := by decide +kernel
theorem dX8_putParts_66 : decode cX8_putParts 66 = .ok (.aload_n 3, 1) := by decide +kernel
theorem dX8_putParts_67 : decode cX8_putParts 67 = .ok (.iload 8, 2) := by decide +kernel
theorem dX8_putParts_69 : decode cX8_putParts 69 = .ok (.iaload, 1) := by decide +kernel
theorem dX8_putParts_70 : decode cX8_putParts 70 = .ok (.iload 6, 2) := by decide +kernel
theorem dX8_putParts_72 : decode cX8_putParts 72 = .ok (.invokestatic 79, 3) := by decide +kernel
theorem dX8_putParts_75 : decode cX8_putParts 75 = .ok (.ifCond .eq 12, 3) := by decide +kernel
theorem dX8_putParts_78 : decode cX8_putParts 78 = .ok (.iload 7, 2) := by decide +kernel
theorem dX8_putParts_80 : decode cX8_putParts 80 = .ok (.iconst 1, 1) := by decide +kernel
theorem dX8_putParts_81 : decode cX8_putParts 81 = .ok (.iload 8, 2) := by decide +kernel
theorem dX8_putParts_83 : decode cX8_putParts 83 = .ok (.ishl, 1) := by decide +kernel
theorem dX8_putParts_84 : decode cX8_putParts 84 = .ok (.ior, 1) := by decide +kernel
theorem dX8_putParts_85 : decode cX8_putParts 85 = .ok (.istore 7, 2) := by decide +kernel
theorem dX8_putParts_87 : decode cX8_putParts 87 = .ok (.iinc 8 1, 3) := by decide +kernel
theorem dX8_putParts_90 : decode cX8_putParts 90 = .ok (.goto (-55), 3) := by decide +kernel
theorem dX8_putParts_93 : decode cX8_putParts 93 = .ok (.aload_n 0, 1) := by decide +kernel
theorem dX8_putParts_94 : decode cX8_putParts 94 = .ok (.getfield 12, 3) := by decide +kernel
theorem dX8_putParts_97 : decode cX8_putParts 97 = .ok (.iload 7, 2) := by decide +kernel
theorem dX8_putParts_99 : decode cX8_putParts 99 = .ok (.invokevirtual 54, 3) := by decide +kernel
theorem dX8_putParts_102 : decode cX8_putParts 102 = .ok (.iload 4, 2) := by decide +kernel
theorem dX8_putParts_104 : decode cX8_putParts 104 = .ok (.iload 7, 2) := by decide +kernel
theorem dX8_putParts_106 : decode cX8_putParts 106 = .ok (.iconst (-1), 1) := by decide +kernel
theorem dX8_putParts_107 : decode cX8_putParts 107 = .ok (.ixor, 1) := by decide +kernel
theorem dX8_putParts_108 : decode cX8_putParts 108 = .ok (.iand, 1) := by decide +kernel
theorem dX8_putParts_109 : decode cX8_putParts 109 = .ok (.istore 4, 2) := by decide +kernel
theorem dX8_putParts_111 : decode cX8_putParts 111 = .ok (.iinc 5 1, 3) := by decide +kernel
theorem dX8_putParts_114 : decode cX8_putParts 114 = .ok (.iinc 6 1, 3) := by decide +kernel
theorem dX8_putParts_117 : decode cX8_putParts 117 = .ok (.goto (-108), 3) := by decide +kernel
theorem dX8_putParts_120 : decode cX8_putParts 120 = .ok (.iload 5, 2) := by decide +kernel
theorem dX8_putParts_122 : decode cX8_putParts 122 = .ok (.ireturn, 1) := by decide +kernel
abbrev rX8_putParts : Room := { frames := 1, cells := 0, slots := 0, locals := 21 }
abbrev mX8_putParts : gY := (cX8_putParts, RX8, 9, rX8_putParts)
def fX8_putParts_b114 (t1 : Nat) (t3 : Nat) (x4 : Int32) (x5 : Int32) (x6 : Int32) (M0 : gMem) : Option ((Int32 × Int32 × Int32 × gMem) ⊕ (Int32 × gMem)) :=
  some (.inl (x4, x5, x6 + (1 : Int32), M0))
set_option maxRecDepth 20000 in
theorem tX8_putParts_b114 {X : gX} {V : gEnv} {t1 : Nat} {t3 : Nat} {x4 : Int32} {x5 : Int32} {x6 : Int32} {M0 : gMem} (ht1 : gNet gShC t1) (ht3 : gShC[t3]? = some (.inl (0, 24))) {o : ((Int32 × Int32 × Int32 × gMem) ⊕ (Int32 × gMem))} (h : fX8_putParts_b114 t1 t3 x4 x5 x6 M0 = some o) (Kc : ∀ s9, o = .inl s9 → gG X V mX8_putParts gShC s9.2.2.2 0 0 9 [(0, .ref (gAd V 44)), (1, .ref (gAd V t1)), (3, .ref (gAd V t3)), (4, .int s9.1), (5, .int s9.2.1), (6, .int s9.2.2.1)] []) (Kx : ∀ e9, o = .inr e9 → gG X V mX8_putParts gShC e9.2 0 0 120 [(5, .int e9.1)] []) : gG X V mX8_putParts gShC M0 0 0 114 [(0, .ref (gAd V 44)), (1, .ref (gAd V t1)), (3, .ref (gAd V t3)), (4, .int x4), (5, .int x5), (6, .int x6)] [] := by
  unfold fX8_putParts_b114 at h
  refine g_iinc (j := 5) (v := x6 + (1 : Int32)) (ls' := [(6, .int (x6 + (1 : Int32))), (0, .ref (gAd V 44)), (1, .ref (gAd V t1)), (3, .ref (gAd V t3)), (4, .int x4), (5, .int x5)]) rfl rfl (Nat.le_of_ble_eq_true rfl) rfl dX8_putParts_114 ?_
  refine g_goto (tgt := 9) rfl dX8_putParts_117 ?_
  cases h
  refine g_sub [1, 2, 3, 4, 5, 0] rfl ?_
  exact Kc (x4, x5, x6 + (1 : Int32), M0) rfl
def fX8_putParts_b87 (t1 : Nat) (t3 : Nat) (x4 : Int32) (x5 : Int32) (x6 : Int32) (x7 : Int32) (x8 : Int32) (M0 : gMem) : Option ((Int32 × Int32) ⊕ Int32) :=
  some (.inl (x7, x8 + (1 : Int32)))
set_option maxRecDepth 20000 in
theorem tX8_putParts_b87 {X : gX} {V : gEnv} {t1 : Nat} {t3 : Nat} {x4 : Int32} {x5 : Int32} {x6 : Int32} {x7 : Int32} {x8 : Int32} {M0 : gMem} (ht1 : gNet gShC t1) (ht3 : gShC[t3]? = some (.inl (0, 24))) {o : ((Int32 × Int32) ⊕ Int32)} (h : fX8_putParts_b87 t1 t3 x4 x5 x6 x7 x8 M0 = some o) (Kc : ∀ s9, o = .inl s9 → gG X V mX8_putParts gShC M0 0 0 35 [(0, .ref (gAd V 44)), (1, .ref (gAd V t1)), (3, .ref (gAd V t3)), (4, .int x4), (5, .int x5), (6, .int x6), (7, .int s9.1), (8, .int s9.2)] []) (Kx : ∀ e9, o = .inr e9 → gG X V mX8_putParts gShC M0 0 0 93 [(0, .ref (gAd V 44)), (1, .ref (gAd V t1)), (3, .ref (gAd V t3)), (4, .int x4), (5, .int x5), (6, .int x6), (7, .int e9)] []) : gG X V mX8_putParts gShC M0 0 0 87 [(0, .ref (gAd V 44)), (1, .ref (gAd V t1)), (3, .ref (gAd V t3)), (4, .int x4), (5, .int x5), (6, .int x6), (7, .int x7), (8, .int x8)] [] := by
  unfold fX8_putParts_b87 at h
  refine g_iinc (j := 7) (v := x8 + (1 : Int32)) (ls' := [(8, .int (x8 + (1 : Int32))), (0, .ref (gAd V 44)), (1, .ref (gAd V t1)), (3, .ref (gAd V t3)), (4, .int x4), (5, .int x5), (6, .int x6), (7, .int x7)]) rfl rfl (Nat.le_of_ble_eq_true rfl) rfl dX8_putParts_87 ?_
  refine g_goto (tgt := 35) rfl dX8_putParts_90 ?_
  cases h
  refine g_sub [1, 2, 3, 4, 5, 6, 7, 0] rfl ?_
  exact Kc (x7, x8 + (1 : Int32)) rfl
def fX8_putParts_l35 (t1 : Nat) (t3 : Nat) (x4 : Int32) (x5 : Int32) (x6 : Int32) (M0 : gMem) (x7 : Int32) (x8 : Int32) : Option ((Int32 × Int32) ⊕ Int32) :=
  if (M0.1 t1 9) ≤ x8 then (some (.inr x7)) else (fX10_has x4 x8).bind fun v5 => if v5 = 0 then (fX8_putParts_b87 t1 t3 x4 x5 x6 x7 x8 M0) else (rI M0 t3 24 x6).bind fun v7 => (fX10_has v7 x8).bind fun v8 => if v8 = 0 then (fX8_putParts_b87 t1 t3 x4 x5 x6 x7 x8 M0) else (rI M0 t3 24 x8).bind fun v10 => (fX10_has v10 x6).bind fun v11 => if v11 = 0 then (fX8_putParts_b87 t1 t3 x4 x5 x6 x7 x8 M0) else (nm (x7 ||| ((1 : Int32) <<< (x8 &&& 31)))).bind fun v13 => fX8_putParts_b87 t1 t3 x4 x5 x6 v13 x8 M0
set_option maxRecDepth 20000 in
theorem tX8_putParts_l35 {X : gX} {V : gEnv} {t1 : Nat} {t3 : Nat} {x4 : Int32} {x5 : Int32} {x6 : Int32} {M0 : gMem} {x7 : Int32} {x8 : Int32} (ht1 : gNet gShC t1) (ht3 : gShC[t3]? = some (.inl (0, 24))) {o : ((Int32 × Int32) ⊕ Int32)} (h : fX8_putParts_l35 t1 t3 x4 x5 x6 M0 x7 x8 = some o) (Kc : ∀ s9, o = .inl s9 → gG X V mX8_putParts gShC M0 0 0 35 [(0, .ref (gAd V 44)), (1, .ref (gAd V t1)), (3, .ref (gAd V t3)), (4, .int x4), (5, .int x5), (6, .int x6), (7, .int s9.1), (8, .int s9.2)] []) (Kx : ∀ e9, o = .inr e9 → gG X V mX8_putParts gShC M0 0 0 93 [(0, .ref (gAd V 44)), (1, .ref (gAd V t1)), (3, .ref (gAd V t3)), (4, .int x4), (5, .int x5), (6, .int x6), (7, .int e9)] []) : gG X V mX8_putParts gShC M0 0 0 35 [(0, .ref (gAd V 44)), (1, .ref (gAd V t1)), (3, .ref (gAd V t3)), (4, .int x4), (5, .int x5), (6, .int x6), (7, .int x7), (8, .int x8)] [] := by
  unfold fX8_putParts_l35 at h
  refine g_iload 7 rfl dX8_putParts_35 ?_
  refine g_aload_n 1 rfl rfl dX8_putParts_37 ?_
  refine g_getI FX8_76 ht1.1 rfl dX8_putParts_38 ?_
  rcases g_ite h with ⟨c4, h⟩ | ⟨c4, h⟩
  · refine g_icmp_ge_t c4 (tgt := 93) rfl dX8_putParts_41 ?_
    cases h
    refine g_sub [0, 1, 2, 3, 4, 5, 6] rfl ?_
    exact Kx x7 rfl
  · refine g_icmp_ge_f c4 (tgt := 93) rfl dX8_putParts_41 ?_
    refine g_iload 3 rfl dX8_putParts_44 ?_
    refine g_iload 7 rfl dX8_putParts_46 ?_
    obtain ⟨v5, ev5, h⟩ := g_bnd h
    refine g_callN LX8_79 (kX10_has ev5) rfl rfl (Nat.le_of_ble_eq_true rfl) ⟨Nat.le_of_ble_eq_true rfl, Nat.le_of_ble_eq_true rfl⟩ ⟨Nat.le_of_ble_eq_true rfl, Nat.le_of_ble_eq_true rfl⟩ dX8_putParts_48 rfl ?_
    rcases g_ite h with ⟨c6, h⟩ | ⟨c6, h⟩
    · refine g_if_eq_t c6 (tgt := 87) rfl dX8_putParts_51 ?_
      exact tX8_putParts_b87 ht1 ht3 h Kc Kx
    · refine g_if_eq_f c6 (tgt := 87) rfl dX8_putParts_51 ?_
      refine g_aload_n 2 rfl rfl dX8_putParts_54 ?_
      refine g_iload 5 rfl dX8_putParts_55 ?_
      obtain ⟨v7, ev7, h⟩ := g_bnd h
      refine g_iald' ev7 ht3 dX8_putParts_57 ?_
      refine g_iload 7 rfl dX8_putParts_58 ?_
      obtain ⟨v8, ev8, h⟩ := g_bnd h
      refine g_callN LX8_79 (kX10_has ev8) rfl rfl (Nat.le_of_ble_eq_true rfl) ⟨Nat.le_of_ble_eq_true rfl, Nat.le_of_ble_eq_true rfl⟩ ⟨Nat.le_of_ble_eq_true rfl, Nat.le_of_ble_eq_true rfl⟩ dX8_putParts_60 rfl ?_
      rcases g_ite h with ⟨c9, h⟩ | ⟨c9, h⟩
      · refine g_if_eq_t c9 (tgt := 87) rfl dX8_putParts_63 ?_
        exact tX8_putParts_b87 ht1 ht3 h Kc Kx
      · refine g_if_eq_f c9 (tgt := 87) rfl dX8_putParts_63 ?_
        refine g_aload_n 2 rfl rfl dX8_putParts_66 ?_
        refine g_iload 7 rfl dX8_putParts_67 ?_
        obtain ⟨v10, ev10, h⟩ := g_bnd h
        refine g_iald' ev10 ht3 dX8_putParts_69 ?_
        refine g_iload 5 rfl dX8_putParts_70 ?_
        obtain ⟨v11, ev11, h⟩ := g_bnd h
        refine g_callN LX8_79 (kX10_has ev11) rfl rfl (Nat.le_of_ble_eq_true rfl) ⟨Nat.le_of_ble_eq_true rfl, Nat.le_of_ble_eq_true rfl⟩ ⟨Nat.le_of_ble_eq_true rfl, Nat.le_of_ble_eq_true rfl⟩ dX8_putParts_72 rfl ?_
        rcases g_ite h with ⟨c12, h⟩ | ⟨c12, h⟩
        · refine g_if_eq_t c12 (tgt := 87) rfl dX8_putParts_75 ?_
          exact tX8_putParts_b87 ht1 ht3 h Kc Kx
        · refine g_if_eq_f c12 (tgt := 87) rfl dX8_putParts_75 ?_
          refine g_iload 6 rfl dX8_putParts_78 ?_
          refine g_iconst (v := 1) rfl dX8_putParts_80 ?_
          refine g_iload 7 rfl dX8_putParts_81 ?_
          refine g_ishl dX8_putParts_83 ?_
          refine g_ior dX8_putParts_84 ?_
          obtain ⟨v13, ev13, h⟩ := g_bnd h
          refine g_nmI ev13 ?_
          refine g_istore (ls' := [(7, .int v13), (0, .ref (gAd V 44)), (1, .ref (gAd V t1)), (3, .ref (gAd V t3)), (4, .int x4), (5, .int x5), (6, .int x6), (8, .int x8)]) (Nat.le_of_ble_eq_true rfl) rfl dX8_putParts_85 ?_
          refine g_sub [1, 2, 3, 4, 5, 6, 0, 7] rfl ?_
          exact tX8_putParts_b87 ht1 ht3 h Kc Kx
def fX8_putParts_l9 (t1 : Nat) (t3 : Nat) (x4 : Int32) (x5 : Int32) (x6 : Int32) (M0 : gMem) : Option ((Int32 × Int32 × Int32 × gMem) ⊕ (Int32 × gMem)) :=
  if (M0.1 t1 9) ≤ x6 then (some (.inr (x5, M0))) else (fX10_has x4 x6).bind fun v2 => if v2 = 0 then (fX8_putParts_b114 t1 t3 x4 x5 x6 M0) else (gLoop (fun z9 => fX8_putParts_l35 t1 t3 x4 x5 x6 M0 z9.1 z9.2) gFu ((0 : Int32), x6)).bind fun w14 => (fX7_put 45 w14 M0).bind fun v15 => (nm (x4 &&& (w14 ^^^ (-1 : Int32)))).bind fun v16 => fX8_putParts_b114 t1 t3 v16 (x5 + (1 : Int32)) x6 v15
set_option maxRecDepth 20000 in
theorem tX8_putParts_l9 {X : gX} {V : gEnv} {t1 : Nat} {t3 : Nat} {x4 : Int32} {x5 : Int32} {x6 : Int32} {M0 : gMem} (ht1 : gNet gShC t1) (ht3 : gShC[t3]? = some (.inl (0, 24))) {o : ((Int32 × Int32 × Int32 × gMem) ⊕ (Int32 × gMem))} (h : fX8_putParts_l9 t1 t3 x4 x5 x6 M0 = some o) (Kc : ∀ s9, o = .inl s9 → gG X V mX8_putParts gShC s9.2.2.2 0 0 9 [(0, .ref (gAd V 44)), (1, .ref (gAd V t1)), (3, .ref (gAd V t3)), (4, .int s9.1), (5, .int s9.2.1), (6, .int s9.2.2.1)] []) (Kx : ∀ e9, o = .inr e9 → gG X V mX8_putParts gShC e9.2 0 0 120 [(5, .int e9.1)] []) : gG X V mX8_putParts gShC M0 0 0 9 [(0, .ref (gAd V 44)), (1, .ref (gAd V t1)), (3, .ref (gAd V t3)), (4, .int x4), (5, .int x5), (6, .int x6)] [] := by
  unfold fX8_putParts_l9 at h
  refine g_iload 5 rfl dX8_putParts_9 ?_
  refine g_aload_n 1 rfl rfl dX8_putParts_11 ?_
  refine g_getI FX8_76 ht1.1 rfl dX8_putParts_12 ?_
  rcases g_ite h with ⟨c1, h⟩ | ⟨c1, h⟩
  · refine g_icmp_ge_t c1 (tgt := 120) rfl dX8_putParts_15 ?_
    cases h
    refine g_sub [4] rfl ?_
    exact Kx (x5, M0) rfl
  · refine g_icmp_ge_f c1 (tgt := 120) rfl dX8_putParts_15 ?_
    refine g_iload 3 rfl dX8_putParts_18 ?_
    refine g_iload 5 rfl dX8_putParts_20 ?_
    obtain ⟨v2, ev2, h⟩ := g_bnd h
    refine g_callN LX8_79 (kX10_has ev2) rfl rfl (Nat.le_of_ble_eq_true rfl) ⟨Nat.le_of_ble_eq_true rfl, Nat.le_of_ble_eq_true rfl⟩ ⟨Nat.le_of_ble_eq_true rfl, Nat.le_of_ble_eq_true rfl⟩ dX8_putParts_22 rfl ?_
    rcases g_ite h with ⟨c3, h⟩ | ⟨c3, h⟩
    · refine g_if_eq_t c3 (tgt := 114) rfl dX8_putParts_25 ?_
      exact tX8_putParts_b114 ht1 ht3 h Kc Kx
    · refine g_if_eq_f c3 (tgt := 114) rfl dX8_putParts_25 ?_
      refine g_iconst (v := 0) rfl dX8_putParts_28 ?_
      refine g_istore (ls' := [(7, .int (0 : Int32)), (0, .ref (gAd V 44)), (1, .ref (gAd V t1)), (3, .ref (gAd V t3)), (4, .int x4), (5, .int x5), (6, .int x6)]) (Nat.le_of_ble_eq_true rfl) rfl dX8_putParts_29 ?_
      refine g_iload 6 rfl dX8_putParts_31 ?_
      refine g_istore (ls' := [(8, .int x6), (7, .int (0 : Int32)), (0, .ref (gAd V 44)), (1, .ref (gAd V t1)), (3, .ref (gAd V t3)), (4, .int x4), (5, .int x5), (6, .int x6)]) (Nat.le_of_ble_eq_true rfl) rfl dX8_putParts_33 ?_
      obtain ⟨w14, ew14, h⟩ := g_bnd h
      refine g_sub [2, 3, 4, 5, 6, 7, 1, 0] rfl ?_
      have KX : gG X V mX8_putParts gShC M0 0 0 93 [(0, .ref (gAd V 44)), (1, .ref (gAd V t1)), (3, .ref (gAd V t3)), (4, .int x4), (5, .int x5), (6, .int x6), (7, .int w14)] [] := by
        refine g_aload_n 0 rfl rfl dX8_putParts_93 ?_
        refine g_getR FX8_12 sC_44 rfl dX8_putParts_94 ?_
        refine g_iload 6 rfl dX8_putParts_97 ?_
        obtain ⟨v15, ev15, h⟩ := g_bnd h
        refine g_callV LX8_54 sC_45 rfl (kX7_put wC_45 ev15) rfl rfl (Nat.le_of_ble_eq_true rfl) ⟨Nat.le_of_ble_eq_true rfl, Nat.le_of_ble_eq_true rfl⟩ ⟨Nat.le_of_ble_eq_true rfl, Nat.le_of_ble_eq_true rfl⟩ dX8_putParts_99 rfl ?_
        refine g_iload 3 rfl dX8_putParts_102 ?_
        refine g_iload 6 rfl dX8_putParts_104 ?_
        refine g_iconst (v := -1) rfl dX8_putParts_106 ?_
        refine g_ixor dX8_putParts_107 ?_
        refine g_iand dX8_putParts_108 ?_
        obtain ⟨v16, ev16, h⟩ := g_bnd h
        refine g_nmI ev16 ?_
        refine g_istore (ls' := [(4, .int v16), (0, .ref (gAd V 44)), (1, .ref (gAd V t1)), (3, .ref (gAd V t3)), (5, .int x5), (6, .int x6), (7, .int w14)]) (Nat.le_of_ble_eq_true rfl) rfl dX8_putParts_109 ?_
        refine g_iinc (j := 4) (v := x5 + (1 : Int32)) (ls' := [(5, .int (x5 + (1 : Int32))), (4, .int v16), (0, .ref (gAd V 44)), (1, .ref (gAd V t1)), (3, .ref (gAd V t3)), (6, .int x6), (7, .int w14)]) rfl rfl (Nat.le_of_ble_eq_true rfl) rfl dX8_putParts_111 ?_
        refine g_sub [2, 3, 4, 1, 0, 5] rfl ?_
        exact tX8_putParts_b114 ht1 ht3 h Kc Kx
      exact gLoop_Q ew14 (fun z9 => gG X V mX8_putParts gShC M0 0 0 35 [(0, .ref (gAd V 44)), (1, .ref (gAd V t1)), (3, .ref (gAd V t3)), (4, .int x4), (5, .int x5), (6, .int x6), (7, .int z9.1), (8, .int z9.2)] []) (fun s9 o9 hb9 hc9 hx9 => tX8_putParts_l35 ht1 ht3 hb9 hc9 (fun e9 he9 => by cases hx9 _ he9; exact KX))
def fX8_putParts (t1 : Nat) (x2 : Int32) (t3 : Nat) (M0 : gMem) : Option (Int32 × gMem) :=
  (gLoop (fun z9 => fX8_putParts_l9 t1 t3 z9.1 z9.2.1 z9.2.2.1 z9.2.2.2) gFu (x2, (0 : Int32), (0 : Int32), M0)).bind fun w17 => some (w17.1, w17.2)
set_option maxRecDepth 20000 in
theorem tX8_putParts {X : gX} {V : gEnv} {t1 : Nat} {x2 : Int32} {t3 : Nat} {M0 : gMem} (ht1 : gNet gShC t1) (ht3 : gShC[t3]? = some (.inl (0, 24))) {o : (Int32 × gMem)} (h : fX8_putParts t1 x2 t3 M0 = some o) (O : gO X V mX8_putParts gShC (some .int) (some (.int o.1)) o.2) : gG X V mX8_putParts gShC M0 0 0 0 [(0, .ref (gAd V 44)), (1, .ref (gAd V t1)), (2, .int x2), (3, .ref (gAd V t3))] [] := by
  unfold fX8_putParts at h
  refine g_iload_n 2 rfl rfl dX8_putParts_0 ?_
  refine g_istore (ls' := [(4, .int x2), (0, .ref (gAd V 44)), (1, .ref (gAd V t1)), (2, .int x2), (3, .ref (gAd V t3))]) (Nat.le_of_ble_eq_true rfl) rfl dX8_putParts_1 ?_
  refine g_iconst (v := 0) rfl dX8_putParts_3 ?_
  refine g_istore (ls' := [(5, .int (0 : Int32)), (4, .int x2), (0, .ref (gAd V 44)), (1, .ref (gAd V t1)), (2, .int x2), (3, .ref (gAd V t3))]) (Nat.le_of_ble_eq_true rfl) rfl dX8_putParts_4 ?_
  refine g_iconst (v := 0) rfl dX8_putParts_6 ?_
  refine g_istore (ls' := [(6, .int (0 : Int32)), (5, .int (0 : Int32)), (4, .int x2), (0, .ref (gAd V 44)), (1, .ref (gAd V t1)), (2, .int x2), (3, .ref (gAd V t3))]) (Nat.le_of_ble_eq_true rfl) rfl dX8_putParts_7 ?_
  obtain ⟨w17, ew17, h⟩ := g_bnd h
  refine g_sub [3, 4, 6, 2, 1, 0] rfl ?_
  have KX : gG X V mX8_putParts gShC w17.2 0 0 120 [(5, .int w17.1)] [] := by
    refine g_iload 0 rfl dX8_putParts_120 ?_
    cases h
    exact g_iret O ⟨Nat.le_of_ble_eq_true rfl, Nat.le_of_ble_eq_true rfl⟩ rfl dX8_putParts_122
  exact gLoop_Q ew17 (fun z9 => gG X V mX8_putParts gShC z9.2.2.2 0 0 9 [(0, .ref (gAd V 44)), (1, .ref (gAd V t1)), (3, .ref (gAd V t3)), (4, .int z9.1), (5, .int z9.2.1), (6, .int z9.2.2.1)] []) (fun s9 o9 hb9 hc9 hx9 => tX8_putParts_l9 ht1 ht3 hb9 hc9 (fun e9 he9 => by cases hx9 _ he9; exact KX))
theorem kX8_putParts {l : Launch} {V : gEnv} {M0 : gMem} {t1 : Nat} {x2 : Int32} {t3 : Nat} (ht1 : gNet gShC t1) (ht3 : gShC[t3]? = some (.inl (0, 24))) {o : (Int32 × gMem)} (h : fX8_putParts t1 x2 t3 M0 = some o) : gM l yX8_putParts cX8_putParts 9 (some .int) rX8_putParts V gShC [.ref (gAd V 44), .ref (gAd V t1), .int x2, .ref (gAd V t3)] M0 (some (.int o.1)) o.2 :=
  gM.of (by decide) (Nat.le_of_ble_eq_true rfl) rfl (fun X _ O => tX8_putParts ht1 ht3 h O)
theorem dX8_lookBefore_0 : decode cX8_lookBefore 0 = .ok (.aload_n 0, 1) := by decide +kernel
theorem dX8_lookBefore_1 : decode cX8_lookBefore 1 = .ok (.getfield 22, 3) := by decide +kernel
theorem dX8_lookBefore_4 : decode cX8_lookBefore 4 = .ok (.iconst 0, 1) := by decide +kernel
theorem dX8_lookBefore_5 : decode cX8_lookBefore 5 = .ok (.invokestatic 58, 3) := by decide +kernel
theorem dX8_lookBefore_8 : decode cX8_lookBefore 8 = .ok (.iconst 0, 1) := by decide +kernel
theorem dX8_lookBefore_9 : decode cX8_lookBefore 9 = .ok (.istore 4, 2) := by decide +kernel
theorem dX8_lookBefore_11 : decode cX8_lookBefore 11 = .ok (.iload 4, 2) := by decide +kernel
theorem dX8_lookBefore_13 : decode cX8_lookBefore 13 = .ok (.aload_n 1, 1) := by decide +kernel
theorem dX8_lookBefore_14 : decode cX8_lookBefore 14 = .ok (.getfield 64, 3) := by decide +kernel
theorem dX8_lookBefore_17 : decode cX8_lookBefore 17 = .ok (.if_icmp .ge 82, 3) := by decide +kernel
theorem dX8_lookBefore_20 : decode cX8_lookBefore 20 = .ok (.aload_n 1, 1) := by decide +kernel
theorem dX8_lookBefore_21 : decode cX8_lookBefore 21 = .ok (.getfield 67, 3) := by decide +kernel
theorem dX8_lookBefore_24 : decode cX8_lookBefore 24 = .ok (.aload_n 1, 1) := by decide +kernel
theorem dX8_lookBefore_25 : decode cX8_lookBefore 25 = .ok (.getfield 70, 3) := by decide +kernel
theorem dX8_lookBefore_28 : decode cX8_lookBefore 28 = .ok (.iload 4, 2) := by decide +kernel
theorem dX8_lookBefore_30 : decode cX8_lookBefore 30 = .ok (.iaload, 1) := by decide +kernel
theorem dX8_lookBefore_31 : decode cX8_lookBefore 31 = .ok (.iaload, 1) := by decide +kernel
theorem dX8_lookBefore_32 : decode cX8_lookBefore 32 = .ok (.istore 5, 2) := by decide +kernel
theorem dX8_lookBefore_34 : decode cX8_lookBefore 34 = .ok (.aload_n 1, 1) := by decide +kernel
theorem dX8_lookBefore_35 : decode cX8_lookBefore 35 = .ok (.getfield 67, 3) := by decide +kernel
theorem dX8_lookBefore_38 : decode cX8_lookBefore 38 = .ok (.aload_n 1, 1) := by decide +kernel
theorem dX8_lookBefore_39 : decode cX8_lookBefore 39 = .ok (.getfield 73, 3) := by decide +kernel
theorem dX8_lookBefore_42 : decode cX8_lookBefore 42 = .ok (.iload 4, 2) := by decide +kernel
theorem dX8_lookBefore_44 : decode cX8_lookBefore 44 = .ok (.iaload, 1) := by decide +kernel
theorem dX8_lookBefore_45 : decode cX8_lookBefore 45 = .ok (.iaload, 1) := by decide +kernel
theorem dX8_lookBefore_46 : decode cX8_lookBefore 46 = .ok (.istore 6, 2) := by decide +kernel
theorem dX8_lookBefore_48 : decode cX8_lookBefore 48 = .ok (.iload 5, 2) := by decide +kernel
theorem dX8_lookBefore_50 : decode cX8_lookBefore 50 = .ok (.iload 6, 2) := by decide +kernel
theorem dX8_lookBefore_52 : decode cX8_lookBefore 52 = .ok (.if_icmp .eq 41, 3) := by decide +kernel
theorem dX8_lookBefore_55 : decode cX8_lookBefore 55 = .ok (.iload 5, 2) := by decide +kernel
theorem dX8_lookBefore_57 : decode cX8_lookBefore 57 = .ok (.iload_n 2, 1) := by decide +kernel
theorem dX8_lookBefore_58 : decode cX8_lookBefore 58 = .ok (.if_icmp .lt 35, 3) := by decide +kernel
theorem dX8_lookBefore_61 : decode cX8_lookBefore 61 = .ok (.iload 5, 2) := by decide +kernel
theorem dX8_lookBefore_63 : decode cX8_lookBefore 63 = .ok (.iload_n 3, 1) := by decide +kernel
theorem dX8_lookBefore_64 : decode cX8_lookBefore 64 = .ok (.if_icmp .ge 29, 3) := by decide +kernel
theorem dX8_lookBefore_67 : decode cX8_lookBefore 67 = .ok (.iload 6, 2) := by decide +kernel
theorem dX8_lookBefore_69 : decode cX8_lookBefore 69 = .ok (.iload_n 2, 1) := by decide +kernel
theorem dX8_lookBefore_70 : decode cX8_lookBefore 70 = .ok (.if_icmp .lt 23, 3) := by decide +kernel
theorem dX8_lookBefore_73 : decode cX8_lookBefore 73 = .ok (.iload 6, 2) := by decide +kernel
theorem dX8_lookBefore_75 : decode cX8_lookBefore 75 = .ok (.iload_n 3, 1) := by decide +kernel
theorem dX8_lookBefore_76 : decode cX8_lookBefore 76 = .ok (.if_icmp .ge 17, 3) := by decide +kernel
theorem dX8_lookBefore_79 : decode cX8_lookBefore 79 = .ok (.aload_n 0, 1) := by decide +kernel
theorem dX8_lookBefore_80 : decode cX8_lookBefore 80 = .ok (.getfield 22, 3) := by decide +kernel
theorem dX8_lookBefore_83 : decode cX8_lookBefore 83 = .ok (.iload 6, 2) := by decide +kernel
theorem dX8_lookBefore_85 : decode cX8_lookBefore 85 = .ok (.dup2, 1) := by decide +kernel
theorem dX8_lookBefore_86 : decode cX8_lookBefore 86 = .ok (.iaload, 1) := by decide +kernel
theorem dX8_lookBefore_87 : decode cX8_lookBefore 87 = .ok (.iconst 1, 1) := by decide +kernel
theorem dX8_lookBefore_88 : decode cX8_lookBefore 88 = .ok (.iload 5, 2) := by decide +kernel
theorem dX8_lookBefore_90 : decode cX8_lookBefore 90 = .ok (.ishl, 1) := by decide +kernel
theorem dX8_lookBefore_91 : decode cX8_lookBefore 91 = .ok (.ior, 1) := by decide +kernel
theorem dX8_lookBefore_92 : decode cX8_lookBefore 92 = .ok (.iastore, 1) := by decide +kernel
theorem dX8_lookBefore_93 : decode cX8_lookBefore 93 = .ok (.iinc 4 1, 3) := by decide +kernel
theorem dX8_lookBefore_96 : decode cX8_lookBefore 96 = .ok (.goto (-85), 3) := by decide +kernel
theorem dX8_lookBefore_99 : decode cX8_lookBefore 99 = .ok (.return_, 1) := by decide +kernel
abbrev rX8_lookBefore : Room := { frames := 1, cells := 0, slots := 0, locals := 23 }
abbrev mX8_lookBefore : gY := (cX8_lookBefore, RX8, 7, rX8_lookBefore)
def fX8_lookBefore_b93 (t1 : Nat) (x2 : Int32) (x3 : Int32) (x4 : Int32) (M0 : gMem) : Option ((Int32 × gMem) ⊕ gMem) :=
  some (.inl (x4 + (1 : Int32), M0))
set_option maxRecDepth 20000 in
theorem tX8_lookBefore_b93 {X : gX} {V : gEnv} {t1 : Nat} {x2 : Int32} {x3 : Int32} {x4 : Int32} {M0 : gMem} (ht1 : gNet gShC t1) {o : ((Int32 × gMem) ⊕ gMem)} (h : fX8_lookBefore_b93 t1 x2 x3 x4 M0 = some o) (Kc : ∀ s9, o = .inl s9 → gG X V mX8_lookBefore gShC s9.2 0 0 11 [(0, .ref (gAd V 44)), (1, .ref (gAd V t1)), (2, .int x2), (3, .int x3), (4, .int s9.1)] []) (Kx : ∀ e9, o = .inr e9 → gG X V mX8_lookBefore gShC e9 0 0 99 [] []) : gG X V mX8_lookBefore gShC M0 0 0 93 [(0, .ref (gAd V 44)), (1, .ref (gAd V t1)), (2, .int x2), (3, .int x3), (4, .int x4)] [] := by
  unfold fX8_lookBefore_b93 at h
  refine g_iinc (j := 4) (v := x4 + (1 : Int32)) (ls' := [(4, .int (x4 + (1 : Int32))), (0, .ref (gAd V 44)), (1, .ref (gAd V t1)), (2, .int x2), (3, .int x3)]) rfl rfl (Nat.le_of_ble_eq_true rfl) rfl dX8_lookBefore_93 ?_
  refine g_goto (tgt := 11) rfl dX8_lookBefore_96 ?_
  cases h
  refine g_sub [1, 2, 3, 4, 0] rfl ?_
  exact Kc (x4 + (1 : Int32), M0) rfl
def fX8_lookBefore_l11 (t1 : Nat) (x2 : Int32) (x3 : Int32) (x4 : Int32) (M0 : gMem) : Option ((Int32 × gMem) ⊕ gMem) :=
  if (M0.1 t1 10) ≤ x4 then (some (.inr M0)) else (rI M0 (t1 + 3) 60 x4).bind fun v3 => (rI M0 (t1 + 8) 24 v3).bind fun v4 => (rI M0 (t1 + 4) 60 x4).bind fun v5 => (rI M0 (t1 + 8) 24 v5).bind fun v6 => if v4 = v6 then (fX8_lookBefore_b93 t1 x2 x3 x4 M0) else if v4 < x2 then (fX8_lookBefore_b93 t1 x2 x3 x4 M0) else if x3 ≤ v4 then (fX8_lookBefore_b93 t1 x2 x3 x4 M0) else if v6 < x2 then (fX8_lookBefore_b93 t1 x2 x3 x4 M0) else if x3 ≤ v6 then (fX8_lookBefore_b93 t1 x2 x3 x4 M0) else (rI M0 48 24 v6).bind fun v12 => (wI M0 48 24 v6 (v12 ||| ((1 : Int32) <<< (v4 &&& 31)))).bind fun M13 => fX8_lookBefore_b93 t1 x2 x3 x4 M13
set_option maxRecDepth 20000 in
theorem tX8_lookBefore_l11 {X : gX} {V : gEnv} {t1 : Nat} {x2 : Int32} {x3 : Int32} {x4 : Int32} {M0 : gMem} (ht1 : gNet gShC t1) {o : ((Int32 × gMem) ⊕ gMem)} (h : fX8_lookBefore_l11 t1 x2 x3 x4 M0 = some o) (Kc : ∀ s9, o = .inl s9 → gG X V mX8_lookBefore gShC s9.2 0 0 11 [(0, .ref (gAd V 44)), (1, .ref (gAd V t1)), (2, .int x2), (3, .int x3), (4, .int s9.1)] []) (Kx : ∀ e9, o = .inr e9 → gG X V mX8_lookBefore gShC e9 0 0 99 [] []) : gG X V mX8_lookBefore gShC M0 0 0 11 [(0, .ref (gAd V 44)), (1, .ref (gAd V t1)), (2, .int x2), (3, .int x3), (4, .int x4)] [] := by
  unfold fX8_lookBefore_l11 at h
  refine g_iload 4 rfl dX8_lookBefore_11 ?_
  refine g_aload_n 1 rfl rfl dX8_lookBefore_13 ?_
  refine g_getI FX8_64 ht1.1 rfl dX8_lookBefore_14 ?_
  rcases g_ite h with ⟨c2, h⟩ | ⟨c2, h⟩
  · refine g_icmp_ge_t c2 (tgt := 99) rfl dX8_lookBefore_17 ?_
    cases h
    refine g_sub [] rfl ?_
    exact Kx M0 rfl
  · refine g_icmp_ge_f c2 (tgt := 99) rfl dX8_lookBefore_17 ?_
    refine g_aload_n 1 rfl rfl dX8_lookBefore_20 ?_
    refine g_getR FX8_67 ht1.1 rfl dX8_lookBefore_21 ?_
    refine g_aload_n 1 rfl rfl dX8_lookBefore_24 ?_
    refine g_getR FX8_70 ht1.1 rfl dX8_lookBefore_25 ?_
    refine g_iload 4 rfl dX8_lookBefore_28 ?_
    obtain ⟨v3, ev3, h⟩ := g_bnd h
    refine g_iald' ev3 ht1.2.2.2.1 dX8_lookBefore_30 ?_
    obtain ⟨v4, ev4, h⟩ := g_bnd h
    refine g_iald' ev4 ht1.2.2.2.2.2.2.2.2.1 dX8_lookBefore_31 ?_
    refine g_istore (ls' := [(5, .int v4), (0, .ref (gAd V 44)), (1, .ref (gAd V t1)), (2, .int x2), (3, .int x3), (4, .int x4)]) (Nat.le_of_ble_eq_true rfl) rfl dX8_lookBefore_32 ?_
    refine g_aload_n 2 rfl rfl dX8_lookBefore_34 ?_
    refine g_getR FX8_67 ht1.1 rfl dX8_lookBefore_35 ?_
    refine g_aload_n 2 rfl rfl dX8_lookBefore_38 ?_
    refine g_getR FX8_73 ht1.1 rfl dX8_lookBefore_39 ?_
    refine g_iload 5 rfl dX8_lookBefore_42 ?_
    obtain ⟨v5, ev5, h⟩ := g_bnd h
    refine g_iald' ev5 ht1.2.2.2.2.1 dX8_lookBefore_44 ?_
    obtain ⟨v6, ev6, h⟩ := g_bnd h
    refine g_iald' ev6 ht1.2.2.2.2.2.2.2.2.1 dX8_lookBefore_45 ?_
    refine g_istore (ls' := [(6, .int v6), (5, .int v4), (0, .ref (gAd V 44)), (1, .ref (gAd V t1)), (2, .int x2), (3, .int x3), (4, .int x4)]) (Nat.le_of_ble_eq_true rfl) rfl dX8_lookBefore_46 ?_
    refine g_iload 1 rfl dX8_lookBefore_48 ?_
    refine g_iload 0 rfl dX8_lookBefore_50 ?_
    rcases g_ite h with ⟨c7, h⟩ | ⟨c7, h⟩
    · refine g_icmp_eq_t c7 (tgt := 93) rfl dX8_lookBefore_52 ?_
      refine g_sub [2, 3, 4, 5, 6] rfl ?_
      exact tX8_lookBefore_b93 ht1 h Kc Kx
    · refine g_icmp_eq_f c7 (tgt := 93) rfl dX8_lookBefore_52 ?_
      refine g_iload 1 rfl dX8_lookBefore_55 ?_
      refine g_iload_n 4 rfl rfl dX8_lookBefore_57 ?_
      rcases g_ite h with ⟨c8, h⟩ | ⟨c8, h⟩
      · refine g_icmp_lt_t c8 (tgt := 93) rfl dX8_lookBefore_58 ?_
        refine g_sub [2, 3, 4, 5, 6] rfl ?_
        exact tX8_lookBefore_b93 ht1 h Kc Kx
      · refine g_icmp_lt_f c8 (tgt := 93) rfl dX8_lookBefore_58 ?_
        refine g_iload 1 rfl dX8_lookBefore_61 ?_
        refine g_iload_n 5 rfl rfl dX8_lookBefore_63 ?_
        rcases g_ite h with ⟨c9, h⟩ | ⟨c9, h⟩
        · refine g_icmp_ge_t c9 (tgt := 93) rfl dX8_lookBefore_64 ?_
          refine g_sub [2, 3, 4, 5, 6] rfl ?_
          exact tX8_lookBefore_b93 ht1 h Kc Kx
        · refine g_icmp_ge_f c9 (tgt := 93) rfl dX8_lookBefore_64 ?_
          refine g_iload 0 rfl dX8_lookBefore_67 ?_
          refine g_iload_n 4 rfl rfl dX8_lookBefore_69 ?_
          rcases g_ite h with ⟨c10, h⟩ | ⟨c10, h⟩
          · refine g_icmp_lt_t c10 (tgt := 93) rfl dX8_lookBefore_70 ?_
            refine g_sub [2, 3, 4, 5, 6] rfl ?_
            exact tX8_lookBefore_b93 ht1 h Kc Kx
          · refine g_icmp_lt_f c10 (tgt := 93) rfl dX8_lookBefore_70 ?_
            refine g_iload 0 rfl dX8_lookBefore_73 ?_
            refine g_iload_n 5 rfl rfl dX8_lookBefore_75 ?_
            rcases g_ite h with ⟨c11, h⟩ | ⟨c11, h⟩
            · refine g_icmp_ge_t c11 (tgt := 93) rfl dX8_lookBefore_76 ?_
              refine g_sub [2, 3, 4, 5, 6] rfl ?_
              exact tX8_lookBefore_b93 ht1 h Kc Kx
            · refine g_icmp_ge_f c11 (tgt := 93) rfl dX8_lookBefore_76 ?_
              refine g_aload_n 2 rfl rfl dX8_lookBefore_79 ?_
              refine g_getR FX8_22 sC_44 rfl dX8_lookBefore_80 ?_
              refine g_iload 0 rfl dX8_lookBefore_83 ?_
              refine g_dup2 rfl rfl dX8_lookBefore_85 ?_
              obtain ⟨v12, ev12, h⟩ := g_bnd h
              refine g_iald' ev12 sC_48 dX8_lookBefore_86 ?_
              refine g_iconst (v := 1) rfl dX8_lookBefore_87 ?_
              refine g_iload 1 rfl dX8_lookBefore_88 ?_
              refine g_ishl dX8_lookBefore_90 ?_
              refine g_ior dX8_lookBefore_91 ?_
              obtain ⟨M13, eM13, h⟩ := g_bnd h
              refine g_iast' eM13 sC_48 dX8_lookBefore_92 ?_
              refine g_sub [2, 3, 4, 5, 6] rfl ?_
              exact tX8_lookBefore_b93 ht1 h Kc Kx
def fX8_lookBefore (t1 : Nat) (x2 : Int32) (x3 : Int32) (M0 : gMem) : Option gMem :=
  (fJ7_fill_53178 48 24 (0 : Int32) M0).bind fun v1 => (gLoop (fun z9 => fX8_lookBefore_l11 t1 x2 x3 z9.1 z9.2) gFu ((0 : Int32), v1)).bind fun w14 => some w14
set_option maxRecDepth 20000 in
theorem tX8_lookBefore {X : gX} {V : gEnv} {t1 : Nat} {x2 : Int32} {x3 : Int32} {M0 : gMem} (ht1 : gNet gShC t1) {o : gMem} (h : fX8_lookBefore t1 x2 x3 M0 = some o) (O : gO X V mX8_lookBefore gShC none none o) : gG X V mX8_lookBefore gShC M0 0 0 0 [(0, .ref (gAd V 44)), (1, .ref (gAd V t1)), (2, .int x2), (3, .int x3)] [] := by
  unfold fX8_lookBefore at h
  refine g_aload_n 0 rfl rfl dX8_lookBefore_0 ?_
  refine g_getR FX8_22 sC_44 rfl dX8_lookBefore_1 ?_
  refine g_iconst (v := 0) rfl dX8_lookBefore_4 ?_
  obtain ⟨v1, ev1, h⟩ := g_bnd h
  refine g_callS LX8_58 (kJ7_fill_53178 sC_48 ev1) rfl rfl (Nat.le_of_ble_eq_true rfl) ⟨Nat.le_of_ble_eq_true rfl, Nat.le_of_ble_eq_true rfl⟩ ⟨Nat.le_of_ble_eq_true rfl, Nat.le_of_ble_eq_true rfl⟩ dX8_lookBefore_5 rfl ?_
  refine g_iconst (v := 0) rfl dX8_lookBefore_8 ?_
  refine g_istore (ls' := [(4, .int (0 : Int32)), (0, .ref (gAd V 44)), (1, .ref (gAd V t1)), (2, .int x2), (3, .int x3)]) (Nat.le_of_ble_eq_true rfl) rfl dX8_lookBefore_9 ?_
  obtain ⟨w14, ew14, h⟩ := g_bnd h
  refine g_sub [1, 2, 3, 4, 0] rfl ?_
  have KX : gG X V mX8_lookBefore gShC w14 0 0 99 [] [] := by
    cases h
    exact g_vret O ⟨Nat.le_of_ble_eq_true rfl, Nat.le_of_ble_eq_true rfl⟩ dX8_lookBefore_99
  exact gLoop_Q ew14 (fun z9 => gG X V mX8_lookBefore gShC z9.2 0 0 11 [(0, .ref (gAd V 44)), (1, .ref (gAd V t1)), (2, .int x2), (3, .int x3), (4, .int z9.1)] []) (fun s9 o9 hb9 hc9 hx9 => tX8_lookBefore_l11 ht1 hb9 hc9 (fun e9 he9 => by cases hx9 _ he9; exact KX))
theorem kX8_lookBefore {l : Launch} {V : gEnv} {M0 : gMem} {t1 : Nat} {x2 : Int32} {x3 : Int32} (ht1 : gNet gShC t1) {o : gMem} (h : fX8_lookBefore t1 x2 x3 M0 = some o) : gM l yX8_lookBefore cX8_lookBefore 7 none rX8_lookBefore V gShC [.ref (gAd V 44), .ref (gAd V t1), .int x2, .int x3] M0 none o :=
  gM.of (by decide) (Nat.le_of_ble_eq_true rfl) rfl (fun X _ O => tX8_lookBefore ht1 h O)
