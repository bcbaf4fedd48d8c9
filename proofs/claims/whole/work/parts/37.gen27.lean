/-! METHODS, by program: pure functions and contracts -/
theorem dX8_freePlace_0 : decode cX8_freePlace 0 = .ok (.iconst 0, 1) := by decide +kernel
theorem dX8_freePlace_1 : decode cX8_freePlace 1 = .ok (.istore_n 3, 1) := by decide +kernel
theorem dX8_freePlace_2 : decode cX8_freePlace 2 = .ok (.iload_n 3, 1) := by decide +kernel
theorem dX8_freePlace_3 : decode cX8_freePlace 3 = .ok (.aload_n 1, 1) := by decide +kernel
theorem dX8_freePlace_4 : decode cX8_freePlace 4 = .ok (.getfield 76, 3) := by decide +kernel
theorem dX8_freePlace_7 : decode cX8_freePlace 7 = .ok (.if_icmp .ge 41, 3) := by decide +kernel
theorem dX8_freePlace_10 : decode cX8_freePlace 10 = .ok (.aload_n 1, 1) := by decide +kernel
theorem dX8_freePlace_11 : decode cX8_freePlace 11 = .ok (.getfield 67, 3) := by decide +kernel
theorem dX8_freePlace_14 : decode cX8_freePlace 14 = .ok (.iload_n 3, 1) := by decide +kernel
theorem dX8_freePlace_15 : decode cX8_freePlace 15 = .ok (.iaload, 1) := by decide +kernel
theorem dX8_freePlace_16 : decode cX8_freePlace 16 = .ok (.istore 4, 2) := by decide +kernel
theorem dX8_freePlace_18 : decode cX8_freePlace 18 = .ok (.iload_n 2, 1) := by decide +kernel
theorem dX8_freePlace_19 : decode cX8_freePlace 19 = .ok (.iload 4, 2) := by decide +kernel
theorem dX8_freePlace_21 : decode cX8_freePlace 21 = .ok (.invokestatic 79, 3) := by decide +kernel
theorem dX8_freePlace_24 : decode cX8_freePlace 24 = .ok (.ifCond .eq 18, 3) := by decide +kernel
theorem dX8_freePlace_27 : decode cX8_freePlace 27 = .ok (.aload_n 0, 1) := by decide +kernel
theorem dX8_freePlace_28 : decode cX8_freePlace 28 = .ok (.getfield 22, 3) := by decide +kernel
theorem dX8_freePlace_31 : decode cX8_freePlace 31 = .ok (.iload 4, 2) := by decide +kernel
theorem dX8_freePlace_33 : decode cX8_freePlace 33 = .ok (.iaload, 1) := by decide +kernel
theorem dX8_freePlace_34 : decode cX8_freePlace 34 = .ok (.iload_n 2, 1) := by decide +kernel
theorem dX8_freePlace_35 : decode cX8_freePlace 35 = .ok (.iand, 1) := by decide +kernel
theorem dX8_freePlace_36 : decode cX8_freePlace 36 = .ok (.ifCond .ne 6, 3) := by decide +kernel
theorem dX8_freePlace_39 : decode cX8_freePlace 39 = .ok (.iload 4, 2) := by decide +kernel
theorem dX8_freePlace_41 : decode cX8_freePlace 41 = .ok (.ireturn, 1) := by decide +kernel
theorem dX8_freePlace_42 : decode cX8_freePlace 42 = .ok (.iinc 3 1, 3) := by decide +kernel
theorem dX8_freePlace_45 : decode cX8_freePlace 45 = .ok (.goto (-43), 3) := by decide +kernel
theorem dX8_freePlace_48 : decode cX8_freePlace 48 = .ok (.iconst (-1), 1) := by decide +kernel
theorem dX8_freePlace_49 : decode cX8_freePlace 49 = .ok (.ireturn, 1) := by decide +kernel
abbrev rX8_freePlace : Room := { frames := 1, cells := 0, slots := 0, locals := 21 }
abbrev mX8_freePlace : gY := (cX8_freePlace, RX8, 5, rX8_freePlace)
def fX8_freePlace_b42 (t1 : Nat) (x2 : Int32) (x3 : Int32) (M0 : gMem) : Option (Int32 ⊕ (Unit ⊕ Int32)) :=
  some (.inl (x3 + (1 : Int32)))
set_option maxRecDepth 20000 in
theorem tX8_freePlace_b42 {X : gX} {V : gEnv} {t1 : Nat} {x2 : Int32} {x3 : Int32} {M0 : gMem} (ht1 : gNet gShC t1) {o : (Int32 ⊕ (Unit ⊕ Int32))} (h : fX8_freePlace_b42 t1 x2 x3 M0 = some o) (Kc : ∀ s9, o = .inl s9 → gG X V mX8_freePlace gShC M0 0 0 2 [(0, .ref (gAd V 44)), (1, .ref (gAd V t1)), (2, .int x2), (3, .int s9)] []) (Kx : ∀ e9, o = .inr (.inl e9) → gG X V mX8_freePlace gShC M0 0 0 48 [] []) (Kr : ∀ r9, o = .inr (.inr r9) → gO X V mX8_freePlace gShC (some .int) (some (.int r9)) M0) : gG X V mX8_freePlace gShC M0 0 0 42 [(0, .ref (gAd V 44)), (1, .ref (gAd V t1)), (2, .int x2), (3, .int x3)] [] := by
  unfold fX8_freePlace_b42 at h
  refine g_iinc (j := 3) (v := x3 + (1 : Int32)) (ls' := [(3, .int (x3 + (1 : Int32))), (0, .ref (gAd V 44)), (1, .ref (gAd V t1)), (2, .int x2)]) rfl rfl (Nat.le_of_ble_eq_true rfl) rfl dX8_freePlace_42 ?_
  refine g_goto (tgt := 2) rfl dX8_freePlace_45 ?_
  cases h
  refine g_sub [1, 2, 3, 0] rfl ?_
  exact Kc (x3 + (1 : Int32)) rfl
def fX8_freePlace_l2 (t1 : Nat) (x2 : Int32) (M0 : gMem) (x3 : Int32) : Option (Int32 ⊕ (Unit ⊕ Int32)) :=
  if (M0.1 t1 9) ≤ x3 then (some (.inr (.inl ()))) else (rI M0 (t1 + 8) 24 x3).bind fun v2 => (fX10_has x2 v2).bind fun v3 => if v3 = 0 then (fX8_freePlace_b42 t1 x2 x3 M0) else (rI M0 48 24 v2).bind fun v5 => if (v5 &&& x2) = 0 then (some (.inr (.inr v2))) else fX8_freePlace_b42 t1 x2 x3 M0
set_option maxRecDepth 20000 in
theorem tX8_freePlace_l2 {X : gX} {V : gEnv} {t1 : Nat} {x2 : Int32} {M0 : gMem} {x3 : Int32} (ht1 : gNet gShC t1) {o : (Int32 ⊕ (Unit ⊕ Int32))} (h : fX8_freePlace_l2 t1 x2 M0 x3 = some o) (Kc : ∀ s9, o = .inl s9 → gG X V mX8_freePlace gShC M0 0 0 2 [(0, .ref (gAd V 44)), (1, .ref (gAd V t1)), (2, .int x2), (3, .int s9)] []) (Kx : ∀ e9, o = .inr (.inl e9) → gG X V mX8_freePlace gShC M0 0 0 48 [] []) (Kr : ∀ r9, o = .inr (.inr r9) → gO X V mX8_freePlace gShC (some .int) (some (.int r9)) M0) : gG X V mX8_freePlace gShC M0 0 0 2 [(0, .ref (gAd V 44)), (1, .ref (gAd V t1)), (2, .int x2), (3, .int x3)] [] := by
  unfold fX8_freePlace_l2 at h
  refine g_iload_n 3 rfl rfl dX8_freePlace_2 ?_
  refine g_aload_n 1 rfl rfl dX8_freePlace_3 ?_
  refine g_getI FX8_76 ht1.1 rfl dX8_freePlace_4 ?_
  rcases g_ite h with ⟨c1, h⟩ | ⟨c1, h⟩
  · refine g_icmp_ge_t c1 (tgt := 48) rfl dX8_freePlace_7 ?_
    cases h
    refine g_sub [] rfl ?_
    exact Kx () rfl
  · refine g_icmp_ge_f c1 (tgt := 48) rfl dX8_freePlace_7 ?_
    refine g_aload_n 1 rfl rfl dX8_freePlace_10 ?_
    refine g_getR FX8_67 ht1.1 rfl dX8_freePlace_11 ?_
    refine g_iload_n 3 rfl rfl dX8_freePlace_14 ?_
    obtain ⟨v2, ev2, h⟩ := g_bnd h
    refine g_iald' ev2 ht1.2.2.2.2.2.2.2.2.1 dX8_freePlace_15 ?_
    refine g_istore (ls' := [(4, .int v2), (0, .ref (gAd V 44)), (1, .ref (gAd V t1)), (2, .int x2), (3, .int x3)]) (Nat.le_of_ble_eq_true rfl) rfl dX8_freePlace_16 ?_
    refine g_iload_n 3 rfl rfl dX8_freePlace_18 ?_
    refine g_iload 0 rfl dX8_freePlace_19 ?_
    obtain ⟨v3, ev3, h⟩ := g_bnd h
    refine g_callN LX8_79 (kX10_has ev3) rfl rfl (Nat.le_of_ble_eq_true rfl) ⟨Nat.le_of_ble_eq_true rfl, Nat.le_of_ble_eq_true rfl⟩ ⟨Nat.le_of_ble_eq_true rfl, Nat.le_of_ble_eq_true rfl⟩ dX8_freePlace_21 rfl ?_
    rcases g_ite h with ⟨c4, h⟩ | ⟨c4, h⟩
    · refine g_if_eq_t c4 (tgt := 42) rfl dX8_freePlace_24 ?_
      refine g_sub [1, 2, 3, 4] rfl ?_
      exact tX8_freePlace_b42 ht1 h Kc Kx Kr
    · refine g_if_eq_f c4 (tgt := 42) rfl dX8_freePlace_24 ?_
      refine g_aload_n 1 rfl rfl dX8_freePlace_27 ?_
      refine g_getR FX8_22 sC_44 rfl dX8_freePlace_28 ?_
      refine g_iload 0 rfl dX8_freePlace_31 ?_
      obtain ⟨v5, ev5, h⟩ := g_bnd h
      refine g_iald' ev5 sC_48 dX8_freePlace_33 ?_
      refine g_iload_n 3 rfl rfl dX8_freePlace_34 ?_
      refine g_iand dX8_freePlace_35 ?_
      rcases g_ite h with ⟨c6, h⟩ | ⟨c6, h⟩
      · refine g_if_ne_f c6 (tgt := 42) rfl dX8_freePlace_36 ?_
        refine g_iload 0 rfl dX8_freePlace_39 ?_
        cases h
        exact g_iret (Kr v2 rfl) ⟨Nat.le_of_ble_eq_true rfl, Nat.le_of_ble_eq_true rfl⟩ rfl dX8_freePlace_41
      · refine g_if_ne_t c6 (tgt := 42) rfl dX8_freePlace_36 ?_
        refine g_sub [1, 2, 3, 4] rfl ?_
        exact tX8_freePlace_b42 ht1 h Kc Kx Kr
def fX8_freePlace (t1 : Nat) (x2 : Int32) (M0 : gMem) : Option Int32 :=
  (gLoop (fun z9 => fX8_freePlace_l2 t1 x2 M0 z9) gFu (0 : Int32)).bind fun w7 => gSE w7 (fun y8 => some (-1 : Int32)) (fun r9 => some r9)
set_option maxRecDepth 20000 in
theorem tX8_freePlace {X : gX} {V : gEnv} {t1 : Nat} {x2 : Int32} {M0 : gMem} (ht1 : gNet gShC t1) {o : Int32} (h : fX8_freePlace t1 x2 M0 = some o) (O : gO X V mX8_freePlace gShC (some .int) (some (.int o)) M0) : gG X V mX8_freePlace gShC M0 0 0 0 [(0, .ref (gAd V 44)), (1, .ref (gAd V t1)), (2, .int x2)] [] := by
  unfold fX8_freePlace at h
  refine g_iconst (v := 0) rfl dX8_freePlace_0 ?_
  refine g_istore_n (ls' := [(3, .int (0 : Int32)), (0, .ref (gAd V 44)), (1, .ref (gAd V t1)), (2, .int x2)]) rfl (Nat.le_of_ble_eq_true rfl) rfl dX8_freePlace_1 ?_
  obtain ⟨w7, ew7, h⟩ := g_bnd h
  refine g_sub [1, 2, 3, 0] rfl ?_
  rcases w7 with y8 | r9
  · have h := g_sl h
    have KX : gG X V mX8_freePlace gShC M0 0 0 48 [] [] := by
      refine g_iconst (v := -1) rfl dX8_freePlace_48 ?_
      cases h
      exact g_iret O ⟨Nat.le_of_ble_eq_true rfl, Nat.le_of_ble_eq_true rfl⟩ rfl dX8_freePlace_49
    exact gLoop_Q ew7 (fun z9 => gG X V mX8_freePlace gShC M0 0 0 2 [(0, .ref (gAd V 44)), (1, .ref (gAd V t1)), (2, .int x2), (3, .int z9)] []) (fun s9 o9 hb9 hc9 hx9 => tX8_freePlace_l2 ht1 hb9 hc9 (fun e9 he9 => by cases hx9 _ he9; exact KX) (fun r9 he9 => by cases hx9 _ he9))
  · have h := g_sr h
    cases h
    exact gLoop_Q ew7 (fun z9 => gG X V mX8_freePlace gShC M0 0 0 2 [(0, .ref (gAd V 44)), (1, .ref (gAd V t1)), (2, .int x2), (3, .int z9)] []) (fun s9 o9 hb9 hc9 hx9 => tX8_freePlace_l2 ht1 hb9 hc9 (fun e9 he9 => by cases hx9 _ he9) (fun r9 he9 => by cases hx9 _ he9; exact O))
theorem kX8_freePlace {l : Launch} {V : gEnv} {M0 : gMem} {t1 : Nat} {x2 : Int32} (ht1 : gNet gShC t1) {o : Int32} (h : fX8_freePlace t1 x2 M0 = some o) : gM l yX8_freePlace cX8_freePlace 5 (some .int) rX8_freePlace V gShC [.ref (gAd V 44), .ref (gAd V t1), .int x2] M0 (some (.int o)) M0 :=
  gM.of (by decide) (Nat.le_of_ble_eq_true rfl) rfl (fun X _ O => tX8_freePlace ht1 h O)
theorem dX8_sortPart_0 : decode cX8_sortPart 0 = .ok (.aload_n 0, 1) := by decide +kernel
theorem dX8_sortPart_1 : decode cX8_sortPart 1 = .ok (.getfield 12, 3) := by decide +kernel
theorem dX8_sortPart_4 : decode cX8_sortPart 4 = .ok (.iconst 0, 1) := by decide +kernel
theorem dX8_sortPart_5 : decode cX8_sortPart 5 = .ok (.putfield 38, 3) := by decide +kernel
theorem dX8_sortPart_8 : decode cX8_sortPart 8 = .ok (.aload_n 0, 1) := by decide +kernel
theorem dX8_sortPart_9 : decode cX8_sortPart 9 = .ok (.getfield 12, 3) := by decide +kernel
theorem dX8_sortPart_12 : decode cX8_sortPart 12 = .ok (.aload_n 1, 1) := by decide +kernel
theorem dX8_sortPart_13 : decode cX8_sortPart 13 = .ok (.iconst 0, 1) := by decide +kernel
theorem dX8_sortPart_14 : decode cX8_sortPart 14 = .ok (.iload_n 2, 1) := by decide +kernel
theorem dX8_sortPart_15 : decode cX8_sortPart 15 = .ok (.invokevirtual 41, 3) := by decide +kernel
theorem dX8_sortPart_18 : decode cX8_sortPart 18 = .ok (.aload_n 0, 1) := by decide +kernel
theorem dX8_sortPart_19 : decode cX8_sortPart 19 = .ok (.aload_n 1, 1) := by decide +kernel
theorem dX8_sortPart_20 : decode cX8_sortPart 20 = .ok (.iload_n 2, 1) := by decide +kernel
theorem dX8_sortPart_21 : decode cX8_sortPart 21 = .ok (.iload_n 3, 1) := by decide +kernel
theorem dX8_sortPart_22 : decode cX8_sortPart 22 = .ok (.invokevirtual 44, 3) := by decide +kernel
theorem dX8_sortPart_25 : decode cX8_sortPart 25 = .ok (.iconst 0, 1) := by decide +kernel
theorem dX8_sortPart_26 : decode cX8_sortPart 26 = .ok (.istore 4, 2) := by decide +kernel
theorem dX8_sortPart_28 : decode cX8_sortPart 28 = .ok (.iload_n 2, 1) := by decide +kernel
theorem dX8_sortPart_29 : decode cX8_sortPart 29 = .ok (.istore 5, 2) := by decide +kernel
theorem dX8_sortPart_31 : decode cX8_sortPart 31 = .ok (.iload 5, 2) := by decide +kernel
theorem dX8_sortPart_33 : decode cX8_sortPart 33 = .ok (.iload_n 3, 1) := by decide +kernel
theorem dX8_sortPart_34 : decode cX8_sortPart 34 = .ok (.if_icmp .ge 18, 3) := by decide +kernel
theorem dX8_sortPart_37 : decode cX8_sortPart 37 = .ok (.iload 4, 2) := by decide +kernel
theorem dX8_sortPart_39 : decode cX8_sortPart 39 = .ok (.iconst 1, 1) := by decide +kernel
theorem dX8_sortPart_40 : decode cX8_sortPart 40 = .ok (.iload 5, 2) := by decide +kernel
theorem dX8_sortPart_42 : decode cX8_sortPart 42 = .ok (.ishl, 1) := by decide +kernel
theorem dX8_sortPart_43 : decode cX8_sortPart 43 = .ok (.ior, 1) := by decide +kernel
theorem dX8_sortPart_44 : decode cX8_sortPart 44 = .ok (.istore 4, 2) := by decide +kernel
theorem dX8_sortPart_46 : decode cX8_sortPart 46 = .ok (.iinc 5 1, 3) := by decide +kernel
theorem dX8_sortPart_49 : decode cX8_sortPart 49 = .ok (.goto (-18), 3) := by decide +kernel
theorem dX8_sortPart_52 : decode cX8_sortPart 52 = .ok (.iload_n 2, 1) := by decide +kernel
theorem dX8_sortPart_53 : decode cX8_sortPart 53 = .ok (.istore 5, 2) := by decide +kernel
theorem dX8_sortPart_55 : decode cX8_sortPart 55 = .ok (.iload 5, 2) := by decide +kernel
theorem dX8_sortPart_57 : decode cX8_sortPart 57 = .ok (.iload_n 3, 1) := by decide +kernel
theorem dX8_sortPart_58 : decode cX8_sortPart 58 = .ok (.if_icmp .ge 58, 3) := by decide +kernel
theorem dX8_sortPart_61 : decode cX8_sortPart 61 = .ok (.aload_n 0, 1) := by decide +kernel
theorem dX8_sortPart_62 : decode cX8_sortPart 62 = .ok (.aload_n 1, 1) := by decide +kernel
theorem dX8_sortPart_63 : decode cX8_sortPart 63 = .ok (.iload 4, 2) := by decide +kernel
theorem dX8_sortPart_65 : decode cX8_sortPart 65 = .ok (.invokevirtual 47, 3) := by decide +kernel
theorem dX8_sortPart_68 : decode cX8_sortPart 68 = .ok (.istore 6, 2) := by decide +kernel
theorem dX8_sortPart_70 : decode cX8_sortPart 70 = .ok (.iload 6, 2) := by decide +kernel
theorem dX8_sortPart_72 : decode cX8_sortPart 72 = .ok (.iconst (-1), 1) := by decide +kernel
theorem dX8_sortPart_73 : decode cX8_sortPart 73 = .ok (.if_icmp .eq 37, 3) := by decide +kernel
theorem dX8_sortPart_76 : decode cX8_sortPart 76 = .ok (.aload_n 0, 1) := by decide +kernel
theorem dX8_sortPart_77 : decode cX8_sortPart 77 = .ok (.getfield 12, 3) := by decide +kernel
theorem dX8_sortPart_80 : decode cX8_sortPart 80 = .ok (.aload_n 1, 1) := by decide +kernel
theorem dX8_sortPart_81 : decode cX8_sortPart 81 = .ok (.getfield 51, 3) := by decide +kernel
theorem dX8_sortPart_84 : decode cX8_sortPart 84 = .ok (.iload 6, 2) := by decide +kernel
theorem dX8_sortPart_86 : decode cX8_sortPart 86 = .ok (.iaload, 1) := by decide +kernel
theorem dX8_sortPart_87 : decode cX8_sortPart 87 = .ok (.invokevirtual 54, 3) := by decide +kernel
theorem dX8_sortPart_90 : decode cX8_sortPart 90 = .ok (.aload_n 0, 1) := by decide +kernel
theorem dX8_sortPart_91 : decode cX8_sortPart 91 = .ok (.getfield 18, 3) := by decide +kernel
theorem dX8_sortPart_94 : decode cX8_sortPart 94 = .ok (.iload 5, 2) := by decide +kernel
theorem dX8_sortPart_96 : decode cX8_sortPart 96 = .ok (.iload 6, 2) := by decide +kernel
theorem dX8_sortPart_98 : decode cX8_sortPart 98 = .ok (.iastore, 1) := by decide +kernel
theorem dX8_sortPart_99 : decode cX8_sortPart 99 = .ok (.iload 4, 2) := by decide +kernel
theorem dX8_sortPart_101 : decode cX8_sortPart 101 = .ok (.iconst 1, 1) := by decide +kernel
theorem dX8_sortPart_102 : decode cX8_sortPart 102 = .ok (.iload 6, 2) := by decide +kernel
theorem dX8_sortPart_104 : decode cX8_sortPart 104 = .ok (.ishl, 1) := by decide +kernel
theorem dX8_sortPart_105 : decode cX8_sortPart 105 = .ok (.iconst (-1), 1) := by decide +kernel
theorem dX8_sortPart_106 : decode cX8_sortPart 106 = .ok (.ixor, 1) := by decide +kernel
theorem dX8_sortPart_107 : decode cX8_sortPart 107 = .ok (.iand, 1) := by decide +kernel
theorem dX8_sortPart_108 : decode cX8_sortPart 108 = .ok (.istore 4, 2) := by decide +kernel
theorem dX8_sortPart_110 : decode cX8_sortPart 110 = .ok (.iinc 5 1, 3) := by decide +kernel
theorem dX8_sortPart_113 : decode cX8_sortPart 113 = .ok (.goto (-58), 3) := by decide +kernel
theorem dX8_sortPart_116 : decode cX8_sortPart 116 = .ok (.aload_n 0, 1) := by decide +kernel
theorem dX8_sortPart_117 : decode cX8_sortPart 117 = .ok (.getfield 12, 3) := by decide +kernel
theorem dX8_sortPart_120 : decode cX8_sortPart 120 = .ok (.aload_n 1, 1) := by decide +kernel
theorem dX8_sortPart_121 : decode cX8_sortPart 121 = .ok (.iload_n 3, 1) := by decide +kernel
theorem dX8_sortPart_122 : decode cX8_sortPart 122 = .ok (.aload_n 1, 1) := by decide +kernel
theorem dX8_sortPart_123 : decode cX8_sortPart 123 = .ok (.getfield 28, 3) := by decide +kernel
theorem dX8_sortPart_126 : decode cX8_sortPart 126 = .ok (.invokevirtual 41, 3) := by decide +kernel
theorem dX8_sortPart_129 : decode cX8_sortPart 129 = .ok (.return_, 1) := by decide +kernel
abbrev rX8_sortPart : Room := { frames := 2, cells := 0, slots := 0, locals := 49 }
abbrev mX8_sortPart : gY := (cX8_sortPart, RX8, 7, rX8_sortPart)
def fX8_sortPart_l31 (t1 : Nat) (x2 : Int32) (x3 : Int32) (M0 : gMem) (x4 : Int32) (x5 : Int32) : Option ((Int32 × Int32) ⊕ Int32) :=
  if x3 ≤ x5 then (some (.inr x4)) else (nm (x4 ||| ((1 : Int32) <<< (x5 &&& 31)))).bind fun v5 => some (.inl (v5, x5 + (1 : Int32)))
set_option maxRecDepth 20000 in
theorem tX8_sortPart_l31 {X : gX} {V : gEnv} {t1 : Nat} {x2 : Int32} {x3 : Int32} {M0 : gMem} {x4 : Int32} {x5 : Int32} (ht1 : gNet gShC t1) {o : ((Int32 × Int32) ⊕ Int32)} (h : fX8_sortPart_l31 t1 x2 x3 M0 x4 x5 = some o) (Kc : ∀ s9, o = .inl s9 → gG X V mX8_sortPart gShC M0 0 0 31 [(0, .ref (gAd V 44)), (1, .ref (gAd V t1)), (2, .int x2), (3, .int x3), (4, .int s9.1), (5, .int s9.2)] []) (Kx : ∀ e9, o = .inr e9 → gG X V mX8_sortPart gShC M0 0 0 52 [(0, .ref (gAd V 44)), (1, .ref (gAd V t1)), (2, .int x2), (3, .int x3), (4, .int e9)] []) : gG X V mX8_sortPart gShC M0 0 0 31 [(0, .ref (gAd V 44)), (1, .ref (gAd V t1)), (2, .int x2), (3, .int x3), (4, .int x4), (5, .int x5)] [] := by
  unfold fX8_sortPart_l31 at h
  refine g_iload 5 rfl dX8_sortPart_31 ?_
  refine g_iload_n 3 rfl rfl dX8_sortPart_33 ?_
  rcases g_ite h with ⟨c4, h⟩ | ⟨c4, h⟩
  · refine g_icmp_ge_t c4 (tgt := 52) rfl dX8_sortPart_34 ?_
    cases h
    refine g_sub [0, 1, 2, 3, 4] rfl ?_
    exact Kx x4 rfl
  · refine g_icmp_ge_f c4 (tgt := 52) rfl dX8_sortPart_34 ?_
    refine g_iload 4 rfl dX8_sortPart_37 ?_
    refine g_iconst (v := 1) rfl dX8_sortPart_39 ?_
    refine g_iload 5 rfl dX8_sortPart_40 ?_
    refine g_ishl dX8_sortPart_42 ?_
    refine g_ior dX8_sortPart_43 ?_
    obtain ⟨v5, ev5, h⟩ := g_bnd h
    refine g_nmI ev5 ?_
    refine g_istore (ls' := [(4, .int v5), (0, .ref (gAd V 44)), (1, .ref (gAd V t1)), (2, .int x2), (3, .int x3), (5, .int x5)]) (Nat.le_of_ble_eq_true rfl) rfl dX8_sortPart_44 ?_
    refine g_iinc (j := 5) (v := x5 + (1 : Int32)) (ls' := [(5, .int (x5 + (1 : Int32))), (4, .int v5), (0, .ref (gAd V 44)), (1, .ref (gAd V t1)), (2, .int x2), (3, .int x3)]) rfl rfl (Nat.le_of_ble_eq_true rfl) rfl dX8_sortPart_46 ?_
    refine g_goto (tgt := 31) rfl dX8_sortPart_49 ?_
    cases h
    refine g_sub [2, 3, 4, 5, 1, 0] rfl ?_
    exact Kc (v5, x5 + (1 : Int32)) rfl
def fX8_sortPart_b110 (t1 : Nat) (x3 : Int32) (x4 : Int32) (x5 : Int32) (M0 : gMem) : Option ((Int32 × Int32 × gMem) ⊕ gMem) :=
  some (.inl (x4, x5 + (1 : Int32), M0))
set_option maxRecDepth 20000 in
theorem tX8_sortPart_b110 {X : gX} {V : gEnv} {t1 : Nat} {x3 : Int32} {x4 : Int32} {x5 : Int32} {M0 : gMem} (ht1 : gNet gShC t1) {o : ((Int32 × Int32 × gMem) ⊕ gMem)} (h : fX8_sortPart_b110 t1 x3 x4 x5 M0 = some o) (Kc : ∀ s9, o = .inl s9 → gG X V mX8_sortPart gShC s9.2.2 0 0 55 [(0, .ref (gAd V 44)), (1, .ref (gAd V t1)), (3, .int x3), (4, .int s9.1), (5, .int s9.2.1)] []) (Kx : ∀ e9, o = .inr e9 → gG X V mX8_sortPart gShC e9 0 0 116 [(0, .ref (gAd V 44)), (1, .ref (gAd V t1)), (3, .int x3)] []) : gG X V mX8_sortPart gShC M0 0 0 110 [(0, .ref (gAd V 44)), (1, .ref (gAd V t1)), (3, .int x3), (4, .int x4), (5, .int x5)] [] := by
  unfold fX8_sortPart_b110 at h
  refine g_iinc (j := 4) (v := x5 + (1 : Int32)) (ls' := [(5, .int (x5 + (1 : Int32))), (0, .ref (gAd V 44)), (1, .ref (gAd V t1)), (3, .int x3), (4, .int x4)]) rfl rfl (Nat.le_of_ble_eq_true rfl) rfl dX8_sortPart_110 ?_
  refine g_goto (tgt := 55) rfl dX8_sortPart_113 ?_
  cases h
  refine g_sub [1, 2, 3, 4, 0] rfl ?_
  exact Kc (x4, x5 + (1 : Int32), M0) rfl
def fX8_sortPart_l55 (t1 : Nat) (x3 : Int32) (x4 : Int32) (x5 : Int32) (M0 : gMem) : Option ((Int32 × Int32 × gMem) ⊕ gMem) :=
  if x3 ≤ x5 then (some (.inr M0)) else (fX8_freePlace t1 x4 M0).bind fun v8 => if v8 = (-1 : Int32) then (fX8_sortPart_b110 t1 x3 x4 x5 M0) else (rI M0 (t1 + 7) 24 v8).bind fun v10 => (fX7_put 45 v10 M0).bind fun v11 => (wI v11 47 24 x5 v8).bind fun M12 => (nm (x4 &&& (((1 : Int32) <<< (v8 &&& 31)) ^^^ (-1 : Int32)))).bind fun v13 => fX8_sortPart_b110 t1 x3 v13 x5 M12
set_option maxRecDepth 20000 in
theorem tX8_sortPart_l55 {X : gX} {V : gEnv} {t1 : Nat} {x3 : Int32} {x4 : Int32} {x5 : Int32} {M0 : gMem} (ht1 : gNet gShC t1) {o : ((Int32 × Int32 × gMem) ⊕ gMem)} (h : fX8_sortPart_l55 t1 x3 x4 x5 M0 = some o) (Kc : ∀ s9, o = .inl s9 → gG X V mX8_sortPart gShC s9.2.2 0 0 55 [(0, .ref (gAd V 44)), (1, .ref (gAd V t1)), (3, .int x3), (4, .int s9.1), (5, .int s9.2.1)] []) (Kx : ∀ e9, o = .inr e9 → gG X V mX8_sortPart gShC e9 0 0 116 [(0, .ref (gAd V 44)), (1, .ref (gAd V t1)), (3, .int x3)] []) : gG X V mX8_sortPart gShC M0 0 0 55 [(0, .ref (gAd V 44)), (1, .ref (gAd V t1)), (3, .int x3), (4, .int x4), (5, .int x5)] [] := by
  unfold fX8_sortPart_l55 at h
  refine g_iload 4 rfl dX8_sortPart_55 ?_
  refine g_iload_n 2 rfl rfl dX8_sortPart_57 ?_
  rcases g_ite h with ⟨c7, h⟩ | ⟨c7, h⟩
  · refine g_icmp_ge_t c7 (tgt := 116) rfl dX8_sortPart_58 ?_
    cases h
    refine g_sub [0, 1, 2] rfl ?_
    exact Kx M0 rfl
  · refine g_icmp_ge_f c7 (tgt := 116) rfl dX8_sortPart_58 ?_
    refine g_aload_n 0 rfl rfl dX8_sortPart_61 ?_
    refine g_aload_n 1 rfl rfl dX8_sortPart_62 ?_
    refine g_iload 3 rfl dX8_sortPart_63 ?_
    obtain ⟨v8, ev8, h⟩ := g_bnd h
    refine g_callV LX8_47 sC_44 rfl (kX8_freePlace ht1 ev8) rfl rfl (Nat.le_of_ble_eq_true rfl) ⟨Nat.le_of_ble_eq_true rfl, Nat.le_of_ble_eq_true rfl⟩ ⟨Nat.le_of_ble_eq_true rfl, Nat.le_of_ble_eq_true rfl⟩ dX8_sortPart_65 rfl ?_
    refine g_istore (ls' := [(6, .int v8), (0, .ref (gAd V 44)), (1, .ref (gAd V t1)), (3, .int x3), (4, .int x4), (5, .int x5)]) (Nat.le_of_ble_eq_true rfl) rfl dX8_sortPart_68 ?_
    refine g_iload 0 rfl dX8_sortPart_70 ?_
    refine g_iconst (v := -1) rfl dX8_sortPart_72 ?_
    rcases g_ite h with ⟨c9, h⟩ | ⟨c9, h⟩
    · refine g_icmp_eq_t c9 (tgt := 110) rfl dX8_sortPart_73 ?_
      refine g_sub [1, 2, 3, 4, 5] rfl ?_
      exact tX8_sortPart_b110 ht1 h Kc Kx
    · refine g_icmp_eq_f c9 (tgt := 110) rfl dX8_sortPart_73 ?_
      refine g_aload_n 1 rfl rfl dX8_sortPart_76 ?_
      refine g_getR FX8_12 sC_44 rfl dX8_sortPart_77 ?_
      refine g_aload_n 2 rfl rfl dX8_sortPart_80 ?_
      refine g_getR FX8_51 ht1.1 rfl dX8_sortPart_81 ?_
      refine g_iload 0 rfl dX8_sortPart_84 ?_
      obtain ⟨v10, ev10, h⟩ := g_bnd h
      refine g_iald' ev10 ht1.2.2.2.2.2.2.2.1 dX8_sortPart_86 ?_
      obtain ⟨v11, ev11, h⟩ := g_bnd h
      refine g_callV LX8_54 sC_45 rfl (kX7_put wC_45 ev11) rfl rfl (Nat.le_of_ble_eq_true rfl) ⟨Nat.le_of_ble_eq_true rfl, Nat.le_of_ble_eq_true rfl⟩ ⟨Nat.le_of_ble_eq_true rfl, Nat.le_of_ble_eq_true rfl⟩ dX8_sortPart_87 rfl ?_
      refine g_aload_n 1 rfl rfl dX8_sortPart_90 ?_
      refine g_getR FX8_18 sC_44 rfl dX8_sortPart_91 ?_
      refine g_iload 5 rfl dX8_sortPart_94 ?_
      refine g_iload 0 rfl dX8_sortPart_96 ?_
      obtain ⟨M12, eM12, h⟩ := g_bnd h
      refine g_iast' eM12 sC_47 dX8_sortPart_98 ?_
      refine g_iload 4 rfl dX8_sortPart_99 ?_
      refine g_iconst (v := 1) rfl dX8_sortPart_101 ?_
      refine g_iload 0 rfl dX8_sortPart_102 ?_
      refine g_ishl dX8_sortPart_104 ?_
      refine g_iconst (v := -1) rfl dX8_sortPart_105 ?_
      refine g_ixor dX8_sortPart_106 ?_
      refine g_iand dX8_sortPart_107 ?_
      obtain ⟨v13, ev13, h⟩ := g_bnd h
      refine g_nmI ev13 ?_
      refine g_istore (ls' := [(4, .int v13), (6, .int v8), (0, .ref (gAd V 44)), (1, .ref (gAd V t1)), (3, .int x3), (5, .int x5)]) (Nat.le_of_ble_eq_true rfl) rfl dX8_sortPart_108 ?_
      refine g_sub [2, 3, 4, 0, 5] rfl ?_
      exact tX8_sortPart_b110 ht1 h Kc Kx
def fX8_sortPart (t1 : Nat) (x2 : Int32) (x3 : Int32) (M0 : gMem) : Option gMem :=
  (wF M0 45 1 (0 : Int32)).bind fun M1 => (fX7_putPlaces 45 t1 (0 : Int32) x2 M1).bind fun v2 => (fX8_lookBefore t1 x2 x3 v2).bind fun v3 => (gLoop (fun z9 => fX8_sortPart_l31 t1 x2 x3 v3 z9.1 z9.2) gFu ((0 : Int32), x2)).bind fun w6 => (gLoop (fun z9 => fX8_sortPart_l55 t1 x3 z9.1 z9.2.1 z9.2.2) gFu (w6, x2, v3)).bind fun w14 => (fX7_putPlaces 45 t1 x3 (w14.1 t1 11) w14).bind fun v15 => some v15
set_option maxRecDepth 20000 in
theorem tX8_sortPart {X : gX} {V : gEnv} {t1 : Nat} {x2 : Int32} {x3 : Int32} {M0 : gMem} (ht1 : gNet gShC t1) {o : gMem} (h : fX8_sortPart t1 x2 x3 M0 = some o) (O : gO X V mX8_sortPart gShC none none o) : gG X V mX8_sortPart gShC M0 0 0 0 [(0, .ref (gAd V 44)), (1, .ref (gAd V t1)), (2, .int x2), (3, .int x3)] [] := by
  unfold fX8_sortPart at h
  refine g_aload_n 0 rfl rfl dX8_sortPart_0 ?_
  refine g_getR FX8_12 sC_44 rfl dX8_sortPart_1 ?_
  refine g_iconst (v := 0) rfl dX8_sortPart_4 ?_
  obtain ⟨M1, eM1, h⟩ := g_bnd h
  refine g_putI' eM1 FX8_38 jX7 sC_45 rfl rfl rfl dX8_sortPart_5 ?_
  refine g_aload_n 0 rfl rfl dX8_sortPart_8 ?_
  refine g_getR FX8_12 sC_44 rfl dX8_sortPart_9 ?_
  refine g_aload_n 1 rfl rfl dX8_sortPart_12 ?_
  refine g_iconst (v := 0) rfl dX8_sortPart_13 ?_
  refine g_iload_n 2 rfl rfl dX8_sortPart_14 ?_
  obtain ⟨v2, ev2, h⟩ := g_bnd h
  refine g_callV LX8_41 sC_45 rfl (kX7_putPlaces wC_45 ht1 ev2) rfl rfl (Nat.le_of_ble_eq_true rfl) ⟨Nat.le_of_ble_eq_true rfl, Nat.le_of_ble_eq_true rfl⟩ ⟨Nat.le_of_ble_eq_true rfl, Nat.le_of_ble_eq_true rfl⟩ dX8_sortPart_15 rfl ?_
  refine g_aload_n 0 rfl rfl dX8_sortPart_18 ?_
  refine g_aload_n 1 rfl rfl dX8_sortPart_19 ?_
  refine g_iload_n 2 rfl rfl dX8_sortPart_20 ?_
  refine g_iload_n 3 rfl rfl dX8_sortPart_21 ?_
  obtain ⟨v3, ev3, h⟩ := g_bnd h
  refine g_callV LX8_44 sC_44 rfl (kX8_lookBefore ht1 ev3) rfl rfl (Nat.le_of_ble_eq_true rfl) ⟨Nat.le_of_ble_eq_true rfl, Nat.le_of_ble_eq_true rfl⟩ ⟨Nat.le_of_ble_eq_true rfl, Nat.le_of_ble_eq_true rfl⟩ dX8_sortPart_22 rfl ?_
  refine g_iconst (v := 0) rfl dX8_sortPart_25 ?_
  refine g_istore (ls' := [(4, .int (0 : Int32)), (0, .ref (gAd V 44)), (1, .ref (gAd V t1)), (2, .int x2), (3, .int x3)]) (Nat.le_of_ble_eq_true rfl) rfl dX8_sortPart_26 ?_
  refine g_iload_n 3 rfl rfl dX8_sortPart_28 ?_
  refine g_istore (ls' := [(5, .int x2), (4, .int (0 : Int32)), (0, .ref (gAd V 44)), (1, .ref (gAd V t1)), (2, .int x2), (3, .int x3)]) (Nat.le_of_ble_eq_true rfl) rfl dX8_sortPart_29 ?_
  obtain ⟨w6, ew6, h⟩ := g_bnd h
  refine g_sub [2, 3, 4, 5, 1, 0] rfl ?_
  have KX : gG X V mX8_sortPart gShC v3 0 0 52 [(0, .ref (gAd V 44)), (1, .ref (gAd V t1)), (2, .int x2), (3, .int x3), (4, .int w6)] [] := by
    refine g_iload_n 2 rfl rfl dX8_sortPart_52 ?_
    refine g_istore (ls' := [(5, .int x2), (0, .ref (gAd V 44)), (1, .ref (gAd V t1)), (2, .int x2), (3, .int x3), (4, .int w6)]) (Nat.le_of_ble_eq_true rfl) rfl dX8_sortPart_53 ?_
    obtain ⟨w14, ew14, h⟩ := g_bnd h
    refine g_sub [1, 2, 4, 5, 0] rfl ?_
    have KX : gG X V mX8_sortPart gShC w14 0 0 116 [(0, .ref (gAd V 44)), (1, .ref (gAd V t1)), (3, .int x3)] [] := by
      refine g_aload_n 0 rfl rfl dX8_sortPart_116 ?_
      refine g_getR FX8_12 sC_44 rfl dX8_sortPart_117 ?_
      refine g_aload_n 1 rfl rfl dX8_sortPart_120 ?_
      refine g_iload_n 2 rfl rfl dX8_sortPart_121 ?_
      refine g_aload_n 1 rfl rfl dX8_sortPart_122 ?_
      refine g_getI FX8_28 ht1.1 rfl dX8_sortPart_123 ?_
      obtain ⟨v15, ev15, h⟩ := g_bnd h
      refine g_callV LX8_41 sC_45 rfl (kX7_putPlaces wC_45 ht1 ev15) rfl rfl (Nat.le_of_ble_eq_true rfl) ⟨Nat.le_of_ble_eq_true rfl, Nat.le_of_ble_eq_true rfl⟩ ⟨Nat.le_of_ble_eq_true rfl, Nat.le_of_ble_eq_true rfl⟩ dX8_sortPart_126 rfl ?_
      cases h
      exact g_vret O ⟨Nat.le_of_ble_eq_true rfl, Nat.le_of_ble_eq_true rfl⟩ dX8_sortPart_129
    exact gLoop_Q ew14 (fun z9 => gG X V mX8_sortPart gShC z9.2.2 0 0 55 [(0, .ref (gAd V 44)), (1, .ref (gAd V t1)), (3, .int x3), (4, .int z9.1), (5, .int z9.2.1)] []) (fun s9 o9 hb9 hc9 hx9 => tX8_sortPart_l55 ht1 hb9 hc9 (fun e9 he9 => by cases hx9 _ he9; exact KX))
  exact gLoop_Q ew6 (fun z9 => gG X V mX8_sortPart gShC v3 0 0 31 [(0, .ref (gAd V 44)), (1, .ref (gAd V t1)), (2, .int x2), (3, .int x3), (4, .int z9.1), (5, .int z9.2)] []) (fun s9 o9 hb9 hc9 hx9 => tX8_sortPart_l31 ht1 hb9 hc9 (fun e9 he9 => by cases hx9 _ he9; exact KX))
theorem kX8_sortPart {l : Launch} {V : gEnv} {M0 : gMem} {t1 : Nat} {x2 : Int32} {x3 : Int32} (ht1 : gNet gShC t1) {o : gMem} (h : fX8_sortPart t1 x2 x3 M0 = some o) : gM l yX8_sortPart cX8_sortPart 7 none rX8_sortPart V gShC [.ref (gAd V 44), .ref (gAd V t1), .int x2, .int x3] M0 none o :=
  gM.of (by decide) (Nat.le_of_ble_eq_true rfl) rfl (fun X _ O => tX8_sortPart ht1 h O)
theorem dX8_cutOff_0 : decode cX8_cutOff 0 = .ok (.aload_n 1, 1) := by decide +kernel
theorem dX8_cutOff_1 : decode cX8_cutOff 1 = .ok (.getfield 67, 3) := by decide +kernel
theorem dX8_cutOff_4 : decode cX8_cutOff 4 = .ok (.aload_n 1, 1) := by decide +kernel
theorem dX8_cutOff_5 : decode cX8_cutOff 5 = .ok (.getfield 70, 3) := by decide +kernel
theorem dX8_cutOff_8 : decode cX8_cutOff 8 = .ok (.iload_n 2, 1) := by decide +kernel
theorem dX8_cutOff_9 : decode cX8_cutOff 9 = .ok (.iaload, 1) := by decide +kernel
theorem dX8_cutOff_10 : decode cX8_cutOff 10 = .ok (.iaload, 1) := by decide +kernel
theorem dX8_cutOff_11 : decode cX8_cutOff 11 = .ok (.istore_n 3, 1) := by decide +kernel
theorem dX8_cutOff_12 : decode cX8_cutOff 12 = .ok (.aload_n 1, 1) := by decide +kernel
theorem dX8_cutOff_13 : decode cX8_cutOff 13 = .ok (.iload_n 2, 1) := by decide +kernel
theorem dX8_cutOff_14 : decode cX8_cutOff 14 = .ok (.invokevirtual 93, 3) := by decide +kernel
theorem dX8_cutOff_17 : decode cX8_cutOff 17 = .ok (.istore 4, 2) := by decide +kernel
theorem dX8_cutOff_19 : decode cX8_cutOff 19 = .ok (.aload_n 1, 1) := by decide +kernel
theorem dX8_cutOff_20 : decode cX8_cutOff 20 = .ok (.iload_n 2, 1) := by decide +kernel
theorem dX8_cutOff_21 : decode cX8_cutOff 21 = .ok (.invokevirtual 97, 3) := by decide +kernel
theorem dX8_cutOff_24 : decode cX8_cutOff 24 = .ok (.aload_n 1, 1) := by decide +kernel
theorem dX8_cutOff_25 : decode cX8_cutOff 25 = .ok (.getfield 100, 3) := by decide +kernel
theorem dX8_cutOff_28 : decode cX8_cutOff 28 = .ok (.iconst 1, 1) := by decide +kernel
theorem dX8_cutOff_29 : decode cX8_cutOff 29 = .ok (.dup2, 1) := by decide +kernel
theorem dX8_cutOff_30 : decode cX8_cutOff 30 = .ok (.laload, 1) := by decide +kernel
theorem dX8_cutOff_31 : decode cX8_cutOff 31 = .ok (.lconst 1, 1) := by decide +kernel
theorem dX8_cutOff_32 : decode cX8_cutOff 32 = .ok (.ladd, 1) := by decide +kernel
theorem dX8_cutOff_33 : decode cX8_cutOff 33 = .ok (.lastore, 1) := by decide +kernel
theorem dX8_cutOff_34 : decode cX8_cutOff 34 = .ok (.iload 4, 2) := by decide +kernel
theorem dX8_cutOff_36 : decode cX8_cutOff 36 = .ok (.ifCond .ne 5, 3) := by decide +kernel
theorem dX8_cutOff_39 : decode cX8_cutOff 39 = .ok (.iconst 0, 1) := by decide +kernel
theorem dX8_cutOff_40 : decode cX8_cutOff 40 = .ok (.ireturn, 1) := by decide +kernel
theorem dX8_cutOff_41 : decode cX8_cutOff 41 = .ok (.aload_n 0, 1) := by decide +kernel
theorem dX8_cutOff_42 : decode cX8_cutOff 42 = .ok (.getfield 12, 3) := by decide +kernel
theorem dX8_cutOff_45 : decode cX8_cutOff 45 = .ok (.iconst 0, 1) := by decide +kernel
theorem dX8_cutOff_46 : decode cX8_cutOff 46 = .ok (.putfield 38, 3) := by decide +kernel
theorem dX8_cutOff_49 : decode cX8_cutOff 49 = .ok (.aload_n 0, 1) := by decide +kernel
theorem dX8_cutOff_50 : decode cX8_cutOff 50 = .ok (.getfield 12, 3) := by decide +kernel
theorem dX8_cutOff_53 : decode cX8_cutOff 53 = .ok (.aload_n 1, 1) := by decide +kernel
theorem dX8_cutOff_54 : decode cX8_cutOff 54 = .ok (.iconst 0, 1) := by decide +kernel
theorem dX8_cutOff_55 : decode cX8_cutOff 55 = .ok (.iload_n 3, 1) := by decide +kernel
theorem dX8_cutOff_56 : decode cX8_cutOff 56 = .ok (.invokevirtual 41, 3) := by decide +kernel
theorem dX8_cutOff_59 : decode cX8_cutOff 59 = .ok (.aload_n 0, 1) := by decide +kernel
theorem dX8_cutOff_60 : decode cX8_cutOff 60 = .ok (.aload_n 1, 1) := by decide +kernel
theorem dX8_cutOff_61 : decode cX8_cutOff 61 = .ok (.aload_n 1, 1) := by decide +kernel
theorem dX8_cutOff_62 : decode cX8_cutOff 62 = .ok (.getfield 51, 3) := by decide +kernel
theorem dX8_cutOff_65 : decode cX8_cutOff 65 = .ok (.iload_n 3, 1) := by decide +kernel
theorem dX8_cutOff_66 : decode cX8_cutOff 66 = .ok (.iaload, 1) := by decide +kernel
theorem dX8_cutOff_67 : decode cX8_cutOff 67 = .ok (.aload_n 1, 1) := by decide +kernel
theorem dX8_cutOff_68 : decode cX8_cutOff 68 = .ok (.getfield 104, 3) := by decide +kernel
theorem dX8_cutOff_71 : decode cX8_cutOff 71 = .ok (.invokevirtual 105, 3) := by decide +kernel
theorem dX8_cutOff_74 : decode cX8_cutOff 74 = .ok (.istore 5, 2) := by decide +kernel
theorem dX8_cutOff_76 : decode cX8_cutOff 76 = .ok (.iload 5, 2) := by decide +kernel
theorem dX8_cutOff_78 : decode cX8_cutOff 78 = .ok (.iconst 1, 1) := by decide +kernel
theorem dX8_cutOff_79 : decode cX8_cutOff 79 = .ok (.if_icmp .le 57, 3) := by decide +kernel
theorem dX8_cutOff_82 : decode cX8_cutOff 82 = .ok (.aload_n 0, 1) := by decide +kernel
theorem dX8_cutOff_83 : decode cX8_cutOff 83 = .ok (.getfield 12, 3) := by decide +kernel
theorem dX8_cutOff_86 : decode cX8_cutOff 86 = .ok (.aload_n 1, 1) := by decide +kernel
theorem dX8_cutOff_87 : decode cX8_cutOff 87 = .ok (.iload_n 3, 1) := by decide +kernel
theorem dX8_cutOff_88 : decode cX8_cutOff 88 = .ok (.iconst 1, 1) := by decide +kernel
theorem dX8_cutOff_89 : decode cX8_cutOff 89 = .ok (.iadd, 1) := by decide +kernel
theorem dX8_cutOff_90 : decode cX8_cutOff 90 = .ok (.aload_n 1, 1) := by decide +kernel
theorem dX8_cutOff_91 : decode cX8_cutOff 91 = .ok (.getfield 28, 3) := by decide +kernel
theorem dX8_cutOff_94 : decode cX8_cutOff 94 = .ok (.invokevirtual 41, 3) := by decide +kernel
theorem dX8_cutOff_97 : decode cX8_cutOff 97 = .ok (.aload_n 1, 1) := by decide +kernel
theorem dX8_cutOff_98 : decode cX8_cutOff 98 = .ok (.aload_n 0, 1) := by decide +kernel
theorem dX8_cutOff_99 : decode cX8_cutOff 99 = .ok (.getfield 12, 3) := by decide +kernel
theorem dX8_cutOff_102 : decode cX8_cutOff 102 = .ok (.invokevirtual 89, 3) := by decide +kernel
theorem dX8_cutOff_105 : decode cX8_cutOff 105 = .ok (.aload_n 0, 1) := by decide +kernel
theorem dX8_cutOff_106 : decode cX8_cutOff 106 = .ok (.aload_n 1, 1) := by decide +kernel
theorem dX8_cutOff_107 : decode cX8_cutOff 107 = .ok (.iload_n 3, 1) := by decide +kernel
theorem dX8_cutOff_108 : decode cX8_cutOff 108 = .ok (.iload_n 3, 1) := by decide +kernel
theorem dX8_cutOff_109 : decode cX8_cutOff 109 = .ok (.iload 5, 2) := by decide +kernel
theorem dX8_cutOff_111 : decode cX8_cutOff 111 = .ok (.iadd, 1) := by decide +kernel
theorem dX8_cutOff_112 : decode cX8_cutOff 112 = .ok (.invokevirtual 34, 3) := by decide +kernel
theorem dX8_cutOff_115 : decode cX8_cutOff 115 = .ok (.aload_n 1, 1) := by decide +kernel
theorem dX8_cutOff_116 : decode cX8_cutOff 116 = .ok (.aload_n 0, 1) := by decide +kernel
theorem dX8_cutOff_117 : decode cX8_cutOff 117 = .ok (.getfield 12, 3) := by decide +kernel
theorem dX8_cutOff_120 : decode cX8_cutOff 120 = .ok (.invokevirtual 89, 3) := by decide +kernel
theorem dX8_cutOff_123 : decode cX8_cutOff 123 = .ok (.aload_n 1, 1) := by decide +kernel
theorem dX8_cutOff_124 : decode cX8_cutOff 124 = .ok (.getfield 100, 3) := by decide +kernel
theorem dX8_cutOff_127 : decode cX8_cutOff 127 = .ok (.bipush 7, 2) := by decide +kernel
theorem dX8_cutOff_129 : decode cX8_cutOff 129 = .ok (.dup2, 1) := by decide +kernel
theorem dX8_cutOff_130 : decode cX8_cutOff 130 = .ok (.laload, 1) := by decide +kernel
theorem dX8_cutOff_131 : decode cX8_cutOff 131 = .ok (.iload 5, 2) := by decide +kernel
theorem dX8_cutOff_133 : decode cX8_cutOff 133 = .ok (.i2l, 1) := by decide +kernel
theorem dX8_cutOff_134 : decode cX8_cutOff 134 = .ok (.ladd, 1) := by decide +kernel
theorem dX8_cutOff_135 : decode cX8_cutOff 135 = .ok (.lastore, 1) := by decide +kernel
theorem dX8_cutOff_136 : decode cX8_cutOff 136 = .ok (.iload 5, 2) := by decide +kernel
theorem dX8_cutOff_138 : decode cX8_cutOff 138 = .ok (.ireturn, 1) := by decide +kernel
abbrev rX8_cutOff : Room := { frames := 3, cells := 0, slots := 0, locals := 75 }
abbrev mX8_cutOff : gY := (cX8_cutOff, RX8, 6, rX8_cutOff)
def fX8_cutOff (t1 : Nat) (x2 : Int32) (M0 : gMem) : Option (Int32 × gMem) :=
  (rI M0 (t1 + 3) 60 x2).bind fun v1 => (rI M0 (t1 + 8) 24 v1).bind fun v2 => (fX2_isInner t1 x2 M0).bind fun v3 => (fX2_dropArrow t1 x2 M0).bind fun v4 => (rL v4 (t1 + 9) 9 (1 : Int32)).bind fun v5 => (wL v4 (t1 + 9) 9 (1 : Int32) (v5 + (1 : Int64))).bind fun M6 => if v3 = 0 then (some ((0 : Int32), M6)) else (wF M6 45 1 (0 : Int32)).bind fun M8 => (fX7_putPlaces 45 t1 (0 : Int32) v2 M8).bind fun v9 => (rI v9 (t1 + 7) 24 v2).bind fun v10 => (fX8_putParts t1 v10 (t1 + 6) v9).bind fun v11 => if v11.1 ≤ (1 : Int32) then (some (v11.1, v11.2)) else (fX7_putPlaces 45 t1 (v2 + (1 : Int32)) (v11.2.1 t1 11) v11.2).bind fun v13 => (fX2_takeOrder t1 45 v13).bind fun v14 => (fX8_sortPart t1 v2 (v2 + v11.1) v14).bind fun v15 => (fX2_takeOrder t1 45 v15).bind fun v16 => (rL v16 (t1 + 9) 9 (7 : Int32)).bind fun v17 => (wL v16 (t1 + 9) 9 (7 : Int32) (v17 + v11.1.toInt64)).bind fun M18 => some (v11.1, M18)
set_option maxRecDepth 20000 in
theorem tX8_cutOff {X : gX} {V : gEnv} {t1 : Nat} {x2 : Int32} {M0 : gMem} (ht1 : gNet gShC t1) {o : (Int32 × gMem)} (h : fX8_cutOff t1 x2 M0 = some o) (O : gO X V mX8_cutOff gShC (some .int) (some (.int o.1)) o.2) : gG X V mX8_cutOff gShC M0 0 0 0 [(0, .ref (gAd V 44)), (1, .ref (gAd V t1)), (2, .int x2)] [] := by
  unfold fX8_cutOff at h
  refine g_aload_n 1 rfl rfl dX8_cutOff_0 ?_
  refine g_getR FX8_67 ht1.1 rfl dX8_cutOff_1 ?_
  refine g_aload_n 1 rfl rfl dX8_cutOff_4 ?_
  refine g_getR FX8_70 ht1.1 rfl dX8_cutOff_5 ?_
  refine g_iload_n 2 rfl rfl dX8_cutOff_8 ?_
  obtain ⟨v1, ev1, h⟩ := g_bnd h
  refine g_iald' ev1 ht1.2.2.2.1 dX8_cutOff_9 ?_
  obtain ⟨v2, ev2, h⟩ := g_bnd h
  refine g_iald' ev2 ht1.2.2.2.2.2.2.2.2.1 dX8_cutOff_10 ?_
  refine g_istore_n (ls' := [(3, .int v2), (0, .ref (gAd V 44)), (1, .ref (gAd V t1)), (2, .int x2)]) rfl (Nat.le_of_ble_eq_true rfl) rfl dX8_cutOff_11 ?_
  refine g_aload_n 2 rfl rfl dX8_cutOff_12 ?_
  refine g_iload_n 3 rfl rfl dX8_cutOff_13 ?_
  obtain ⟨v3, ev3, h⟩ := g_bnd h
  refine g_callV LX8_93 ht1.1 rfl (kX2_isInner ht1 ev3) rfl rfl (Nat.le_of_ble_eq_true rfl) ⟨Nat.le_of_ble_eq_true rfl, Nat.le_of_ble_eq_true rfl⟩ ⟨Nat.le_of_ble_eq_true rfl, Nat.le_of_ble_eq_true rfl⟩ dX8_cutOff_14 rfl ?_
  refine g_istore (ls' := [(4, .int v3), (3, .int v2), (0, .ref (gAd V 44)), (1, .ref (gAd V t1)), (2, .int x2)]) (Nat.le_of_ble_eq_true rfl) rfl dX8_cutOff_17 ?_
  refine g_aload_n 3 rfl rfl dX8_cutOff_19 ?_
  refine g_iload_n 4 rfl rfl dX8_cutOff_20 ?_
  obtain ⟨v4, ev4, h⟩ := g_bnd h
  refine g_callV LX8_97 ht1.1 rfl (kX2_dropArrow ht1 ev4) rfl rfl (Nat.le_of_ble_eq_true rfl) ⟨Nat.le_of_ble_eq_true rfl, Nat.le_of_ble_eq_true rfl⟩ ⟨Nat.le_of_ble_eq_true rfl, Nat.le_of_ble_eq_true rfl⟩ dX8_cutOff_21 rfl ?_
  refine g_aload_n 3 rfl rfl dX8_cutOff_24 ?_
  refine g_getR FX8_100 ht1.1 rfl dX8_cutOff_25 ?_
  refine g_iconst (v := 1) rfl dX8_cutOff_28 ?_
  refine g_dup2 rfl rfl dX8_cutOff_29 ?_
  obtain ⟨v5, ev5, h⟩ := g_bnd h
  refine g_lald' ev5 ht1.2.2.2.2.2.2.2.2.2 dX8_cutOff_30 ?_
  refine g_lconst (v := 1) rfl dX8_cutOff_31 ?_
  refine g_ladd dX8_cutOff_32 ?_
  obtain ⟨M6, eM6, h⟩ := g_bnd h
  refine g_last' eM6 ht1.2.2.2.2.2.2.2.2.2 dX8_cutOff_33 ?_
  refine g_iload 0 rfl dX8_cutOff_34 ?_
  rcases g_ite h with ⟨c7, h⟩ | ⟨c7, h⟩
  · refine g_if_ne_f c7 (tgt := 41) rfl dX8_cutOff_36 ?_
    refine g_iconst (v := 0) rfl dX8_cutOff_39 ?_
    cases h
    exact g_iret O ⟨Nat.le_of_ble_eq_true rfl, Nat.le_of_ble_eq_true rfl⟩ rfl dX8_cutOff_40
  · refine g_if_ne_t c7 (tgt := 41) rfl dX8_cutOff_36 ?_
    refine g_aload_n 2 rfl rfl dX8_cutOff_41 ?_
    refine g_getR FX8_12 sC_44 rfl dX8_cutOff_42 ?_
    refine g_iconst (v := 0) rfl dX8_cutOff_45 ?_
    obtain ⟨M8, eM8, h⟩ := g_bnd h
    refine g_putI' eM8 FX8_38 jX7 sC_45 rfl rfl rfl dX8_cutOff_46 ?_
    refine g_aload_n 2 rfl rfl dX8_cutOff_49 ?_
    refine g_getR FX8_12 sC_44 rfl dX8_cutOff_50 ?_
    refine g_aload_n 3 rfl rfl dX8_cutOff_53 ?_
    refine g_iconst (v := 0) rfl dX8_cutOff_54 ?_
    refine g_iload_n 1 rfl rfl dX8_cutOff_55 ?_
    obtain ⟨v9, ev9, h⟩ := g_bnd h
    refine g_callV LX8_41 sC_45 rfl (kX7_putPlaces wC_45 ht1 ev9) rfl rfl (Nat.le_of_ble_eq_true rfl) ⟨Nat.le_of_ble_eq_true rfl, Nat.le_of_ble_eq_true rfl⟩ ⟨Nat.le_of_ble_eq_true rfl, Nat.le_of_ble_eq_true rfl⟩ dX8_cutOff_56 rfl ?_
    refine g_aload_n 2 rfl rfl dX8_cutOff_59 ?_
    refine g_aload_n 3 rfl rfl dX8_cutOff_60 ?_
    refine g_aload_n 3 rfl rfl dX8_cutOff_61 ?_
    refine g_getR FX8_51 ht1.1 rfl dX8_cutOff_62 ?_
    refine g_iload_n 1 rfl rfl dX8_cutOff_65 ?_
    obtain ⟨v10, ev10, h⟩ := g_bnd h
    refine g_iald' ev10 ht1.2.2.2.2.2.2.2.1 dX8_cutOff_66 ?_
    refine g_aload_n 3 rfl rfl dX8_cutOff_67 ?_
    refine g_getR FX8_104 ht1.1 rfl dX8_cutOff_68 ?_
    obtain ⟨v11, ev11, h⟩ := g_bnd h
    refine g_callV LX8_105 sC_44 rfl (kX8_putParts ht1 ht1.2.2.2.2.2.2.1 ev11) rfl rfl (Nat.le_of_ble_eq_true rfl) ⟨Nat.le_of_ble_eq_true rfl, Nat.le_of_ble_eq_true rfl⟩ ⟨Nat.le_of_ble_eq_true rfl, Nat.le_of_ble_eq_true rfl⟩ dX8_cutOff_71 rfl ?_
    refine g_istore (ls' := [(5, .int v11.1), (4, .int v3), (3, .int v2), (0, .ref (gAd V 44)), (1, .ref (gAd V t1)), (2, .int x2)]) (Nat.le_of_ble_eq_true rfl) rfl dX8_cutOff_74 ?_
    refine g_iload 0 rfl dX8_cutOff_76 ?_
    refine g_iconst (v := 1) rfl dX8_cutOff_78 ?_
    rcases g_ite h with ⟨c12, h⟩ | ⟨c12, h⟩
    · refine g_icmp_le_t c12 (tgt := 136) rfl dX8_cutOff_79 ?_
      refine g_iload 0 rfl dX8_cutOff_136 ?_
      cases h
      exact g_iret O ⟨Nat.le_of_ble_eq_true rfl, Nat.le_of_ble_eq_true rfl⟩ rfl dX8_cutOff_138
    · refine g_icmp_le_f c12 (tgt := 136) rfl dX8_cutOff_79 ?_
      refine g_aload_n 3 rfl rfl dX8_cutOff_82 ?_
      refine g_getR FX8_12 sC_44 rfl dX8_cutOff_83 ?_
      refine g_aload_n 4 rfl rfl dX8_cutOff_86 ?_
      refine g_iload_n 2 rfl rfl dX8_cutOff_87 ?_
      refine g_iconst (v := 1) rfl dX8_cutOff_88 ?_
      refine g_iadd dX8_cutOff_89 ?_
      refine g_aload_n 4 rfl rfl dX8_cutOff_90 ?_
      refine g_getI FX8_28 ht1.1 rfl dX8_cutOff_91 ?_
      obtain ⟨v13, ev13, h⟩ := g_bnd h
      refine g_callV LX8_41 sC_45 rfl (kX7_putPlaces wC_45 ht1 ev13) rfl rfl (Nat.le_of_ble_eq_true rfl) ⟨Nat.le_of_ble_eq_true rfl, Nat.le_of_ble_eq_true rfl⟩ ⟨Nat.le_of_ble_eq_true rfl, Nat.le_of_ble_eq_true rfl⟩ dX8_cutOff_94 rfl ?_
      refine g_aload_n 4 rfl rfl dX8_cutOff_97 ?_
      refine g_aload_n 3 rfl rfl dX8_cutOff_98 ?_
      refine g_getR FX8_12 sC_44 rfl dX8_cutOff_99 ?_
      obtain ⟨v14, ev14, h⟩ := g_bnd h
      refine g_callV LX8_89 ht1.1 rfl (kX2_takeOrder ht1 wC_45 ev14) rfl rfl (Nat.le_of_ble_eq_true rfl) ⟨Nat.le_of_ble_eq_true rfl, Nat.le_of_ble_eq_true rfl⟩ ⟨Nat.le_of_ble_eq_true rfl, Nat.le_of_ble_eq_true rfl⟩ dX8_cutOff_102 rfl ?_
      refine g_aload_n 3 rfl rfl dX8_cutOff_105 ?_
      refine g_aload_n 4 rfl rfl dX8_cutOff_106 ?_
      refine g_iload_n 2 rfl rfl dX8_cutOff_107 ?_
      refine g_iload_n 2 rfl rfl dX8_cutOff_108 ?_
      refine g_iload 0 rfl dX8_cutOff_109 ?_
      refine g_iadd dX8_cutOff_111 ?_
      obtain ⟨v15, ev15, h⟩ := g_bnd h
      refine g_callV LX8_34 sC_44 rfl (kX8_sortPart ht1 ev15) rfl rfl (Nat.le_of_ble_eq_true rfl) ⟨Nat.le_of_ble_eq_true rfl, Nat.le_of_ble_eq_true rfl⟩ ⟨Nat.le_of_ble_eq_true rfl, Nat.le_of_ble_eq_true rfl⟩ dX8_cutOff_112 rfl ?_
      refine g_aload_n 4 rfl rfl dX8_cutOff_115 ?_
      refine g_aload_n 3 rfl rfl dX8_cutOff_116 ?_
      refine g_getR FX8_12 sC_44 rfl dX8_cutOff_117 ?_
      obtain ⟨v16, ev16, h⟩ := g_bnd h
      refine g_callV LX8_89 ht1.1 rfl (kX2_takeOrder ht1 wC_45 ev16) rfl rfl (Nat.le_of_ble_eq_true rfl) ⟨Nat.le_of_ble_eq_true rfl, Nat.le_of_ble_eq_true rfl⟩ ⟨Nat.le_of_ble_eq_true rfl, Nat.le_of_ble_eq_true rfl⟩ dX8_cutOff_120 rfl ?_
      refine g_aload_n 4 rfl rfl dX8_cutOff_123 ?_
      refine g_getR FX8_100 ht1.1 rfl dX8_cutOff_124 ?_
      refine g_bipush (v := 7) rfl dX8_cutOff_127 ?_
      refine g_dup2 rfl rfl dX8_cutOff_129 ?_
      obtain ⟨v17, ev17, h⟩ := g_bnd h
      refine g_lald' ev17 ht1.2.2.2.2.2.2.2.2.2 dX8_cutOff_130 ?_
      refine g_iload 0 rfl dX8_cutOff_131 ?_
      refine g_i2l dX8_cutOff_133 ?_
      refine g_ladd dX8_cutOff_134 ?_
      obtain ⟨M18, eM18, h⟩ := g_bnd h
      refine g_last' eM18 ht1.2.2.2.2.2.2.2.2.2 dX8_cutOff_135 ?_
      refine g_iload 0 rfl dX8_cutOff_136 ?_
      cases h
      exact g_iret O ⟨Nat.le_of_ble_eq_true rfl, Nat.le_of_ble_eq_true rfl⟩ rfl dX8_cutOff_138
theorem kX8_cutOff {l : Launch} {V : gEnv} {M0 : gMem} {t1 : Nat} {x2 : Int32} (ht1 : gNet gShC t1) {o : (Int32 × gMem)} (h : fX8_cutOff t1 x2 M0 = some o) : gM l yX8_cutOff cX8_cutOff 6 (some .int) rX8_cutOff V gShC [.ref (gAd V 44), .ref (gAd V t1), .int x2] M0 (some (.int o.1)) o.2 :=
  gM.of (by decide) (Nat.le_of_ble_eq_true rfl) rfl (fun X _ O => tX8_cutOff ht1 h O)
theorem dX3_runCut_0 : decode cX3_runCut 0 = .ok (.aload_n 2, 1) := by decide +kernel
theorem dX3_runCut_1 : decode cX3_runCut 1 = .ok (.iload_n 0, 1) := by decide +kernel
theorem dX3_runCut_2 : decode cX3_runCut 2 = .ok (.iload_n 1, 1) := by decide +kernel
theorem dX3_runCut_3 : decode cX3_runCut 3 = .ok (.invokevirtual 130, 3) := by decide +kernel
theorem dX3_runCut_6 : decode cX3_runCut 6 = .ok (.istore 4, 2) := by decide +kernel
theorem dX3_runCut_8 : decode cX3_runCut 8 = .ok (.iload 4, 2) := by decide +kernel
theorem dX3_runCut_10 : decode cX3_runCut 10 = .ok (.iconst (-1), 1) := by decide +kernel
theorem dX3_runCut_11 : decode cX3_runCut 11 = .ok (.if_icmp .ne 5, 3) := by decide +kernel
theorem dX3_runCut_14 : decode cX3_runCut 14 = .ok (.iconst 0, 1) := by decide +kernel
theorem dX3_runCut_15 : decode cX3_runCut 15 = .ok (.ireturn, 1) := by decide +kernel
theorem dX3_runCut_16 : decode cX3_runCut 16 = .ok (.aload_n 3, 1) := by decide +kernel
theorem dX3_runCut_17 : decode cX3_runCut 17 = .ok (.aload_n 2, 1) := by decide +kernel
theorem dX3_runCut_18 : decode cX3_runCut 18 = .ok (.iload 4, 2) := by decide +kernel
theorem dX3_runCut_20 : decode cX3_runCut 20 = .ok (.invokevirtual 133, 3) := by decide +kernel
theorem dX3_runCut_23 : decode cX3_runCut 23 = .ok (.pop, 1) := by decide +kernel
theorem dX3_runCut_24 : decode cX3_runCut 24 = .ok (.iconst 1, 1) := by decide +kernel
theorem dX3_runCut_25 : decode cX3_runCut 25 = .ok (.ireturn, 1) := by decide +kernel
abbrev rX3_runCut : Room := { frames := 4, cells := 0, slots := 0, locals := 100 }
abbrev mX3_runCut : gY := (cX3_runCut, RX3, 5, rX3_runCut)
def fX3_runCut (x0 : Int32) (x1 : Int32) (t2 : Nat) (M0 : gMem) : Option (Int32 × gMem) :=
  (fX2_numberOf t2 x0 x1 M0).bind fun v1 => if v1 = (-1 : Int32) then (some ((0 : Int32), M0)) else (fX8_cutOff t2 v1 M0).bind fun v3 => some ((1 : Int32), v3.2)
set_option maxRecDepth 20000 in
theorem tX3_runCut {X : gX} {V : gEnv} {x0 : Int32} {x1 : Int32} {t2 : Nat} {M0 : gMem} (ht2 : gNet gShC t2) {o : (Int32 × gMem)} (h : fX3_runCut x0 x1 t2 M0 = some o) (O : gO X V mX3_runCut gShC (some .boolean) (some (.int o.1)) o.2) : gG X V mX3_runCut gShC M0 0 0 0 [(0, .int x0), (1, .int x1), (2, .ref (gAd V t2)), (3, .ref (gAd V 44))] [] := by
  unfold fX3_runCut at h
  refine g_aload_n 2 rfl rfl dX3_runCut_0 ?_
  refine g_iload_n 0 rfl rfl dX3_runCut_1 ?_
  refine g_iload_n 1 rfl rfl dX3_runCut_2 ?_
  obtain ⟨v1, ev1, h⟩ := g_bnd h
  refine g_callV LX3_130 ht2.1 rfl (kX2_numberOf ht2 ev1) rfl rfl (Nat.le_of_ble_eq_true rfl) ⟨Nat.le_of_ble_eq_true rfl, Nat.le_of_ble_eq_true rfl⟩ ⟨Nat.le_of_ble_eq_true rfl, Nat.le_of_ble_eq_true rfl⟩ dX3_runCut_3 rfl ?_
  refine g_istore (ls' := [(4, .int v1), (0, .int x0), (1, .int x1), (2, .ref (gAd V t2)), (3, .ref (gAd V 44))]) (Nat.le_of_ble_eq_true rfl) rfl dX3_runCut_6 ?_
  refine g_iload 0 rfl dX3_runCut_8 ?_
  refine g_iconst (v := -1) rfl dX3_runCut_10 ?_
  rcases g_ite h with ⟨c2, h⟩ | ⟨c2, h⟩
  · refine g_icmp_ne_f c2 (tgt := 16) rfl dX3_runCut_11 ?_
    refine g_iconst (v := 0) rfl dX3_runCut_14 ?_
    cases h
    exact g_iret O ⟨Nat.le_of_ble_eq_true rfl, Nat.le_of_ble_eq_true rfl⟩ rfl dX3_runCut_15
  · refine g_icmp_ne_t c2 (tgt := 16) rfl dX3_runCut_11 ?_
    refine g_aload_n 4 rfl rfl dX3_runCut_16 ?_
    refine g_aload_n 3 rfl rfl dX3_runCut_17 ?_
    refine g_iload 0 rfl dX3_runCut_18 ?_
    obtain ⟨v3, ev3, h⟩ := g_bnd h
    refine g_callV LX3_133 sC_44 rfl (kX8_cutOff ht2 ev3) rfl rfl (Nat.le_of_ble_eq_true rfl) ⟨Nat.le_of_ble_eq_true rfl, Nat.le_of_ble_eq_true rfl⟩ ⟨Nat.le_of_ble_eq_true rfl, Nat.le_of_ble_eq_true rfl⟩ dX3_runCut_20 rfl ?_
    refine g_pop rfl dX3_runCut_23 ?_
    refine g_iconst (v := 1) rfl dX3_runCut_24 ?_
    cases h
    exact g_iret O ⟨Nat.le_of_ble_eq_true rfl, Nat.le_of_ble_eq_true rfl⟩ rfl dX3_runCut_25
theorem kX3_runCut {l : Launch} {V : gEnv} {M0 : gMem} {x0 : Int32} {x1 : Int32} {t2 : Nat} (ht2 : gNet gShC t2) {o : (Int32 × gMem)} (h : fX3_runCut x0 x1 t2 M0 = some o) : gM l yX3_runCut cX3_runCut 5 (some .boolean) rX3_runCut V gShC [.int x0, .int x1, .ref (gAd V t2), .ref (gAd V 44)] M0 (some (.int o.1)) o.2 :=
  gM.of (by decide) (Nat.le_of_ble_eq_true rfl) rfl (fun X _ O => tX3_runCut ht2 h O)
theorem dX3_runSwap_0 : decode cX3_runSwap 0 = .ok (.iload_n 0, 1) := by decide +kernel
theorem dX3_runSwap_1 : decode cX3_runSwap 1 = .ok (.iconst 1, 1) := by decide +kernel
theorem dX3_runSwap_2 : decode cX3_runSwap 2 = .ok (.iadd, 1) := by decide +kernel
theorem dX3_runSwap_3 : decode cX3_runSwap 3 = .ok (.aload_n 1, 1) := by decide +kernel
theorem dX3_runSwap_4 : decode cX3_runSwap 4 = .ok (.getfield 137, 3) := by decide +kernel
theorem dX3_runSwap_7 : decode cX3_runSwap 7 = .ok (.if_icmp .ge 11, 3) := by decide +kernel
theorem dX3_runSwap_10 : decode cX3_runSwap 10 = .ok (.aload_n 1, 1) := by decide +kernel
theorem dX3_runSwap_11 : decode cX3_runSwap 11 = .ok (.iload_n 0, 1) := by decide +kernel
theorem dX3_runSwap_12 : decode cX3_runSwap 12 = .ok (.invokevirtual 140, 3) := by decide +kernel
theorem dX3_runSwap_15 : decode cX3_runSwap 15 = .ok (.ifCond .eq 5, 3) := by decide +kernel
theorem dX3_runSwap_18 : decode cX3_runSwap 18 = .ok (.iconst 0, 1) := by decide +kernel
theorem dX3_runSwap_19 : decode cX3_runSwap 19 = .ok (.ireturn, 1) := by decide +kernel
theorem dX3_runSwap_20 : decode cX3_runSwap 20 = .ok (.aload_n 1, 1) := by decide +kernel
theorem dX3_runSwap_21 : decode cX3_runSwap 21 = .ok (.iload_n 0, 1) := by decide +kernel
theorem dX3_runSwap_22 : decode cX3_runSwap 22 = .ok (.invokevirtual 144, 3) := by decide +kernel
theorem dX3_runSwap_25 : decode cX3_runSwap 25 = .ok (.iconst 1, 1) := by decide +kernel
theorem dX3_runSwap_26 : decode cX3_runSwap 26 = .ok (.ireturn, 1) := by decide +kernel
abbrev rX3_runSwap : Room := { frames := 3, cells := 0, slots := 0, locals := 65 }
abbrev mX3_runSwap : gY := (cX3_runSwap, RX3, 2, rX3_runSwap)
def fX3_runSwap (x0 : Int32) (t1 : Nat) (M0 : gMem) : Option (Int32 × gMem) :=
  if (M0.1 t1 11) ≤ (x0 + (1 : Int32)) then (some ((0 : Int32), M0)) else (fX2_leadsOn t1 x0 M0).bind fun v2 => if v2 = 0 then ((fX2_swapAt t1 x0 M0).bind fun v4 => some ((1 : Int32), v4)) else some ((0 : Int32), M0)
set_option maxRecDepth 20000 in
theorem tX3_runSwap {X : gX} {V : gEnv} {x0 : Int32} {t1 : Nat} {M0 : gMem} (ht1 : gNet gShC t1) {o : (Int32 × gMem)} (h : fX3_runSwap x0 t1 M0 = some o) (O : gO X V mX3_runSwap gShC (some .boolean) (some (.int o.1)) o.2) : gG X V mX3_runSwap gShC M0 0 0 0 [(0, .int x0), (1, .ref (gAd V t1))] [] := by
  unfold fX3_runSwap at h
  refine g_iload_n 0 rfl rfl dX3_runSwap_0 ?_
  refine g_iconst (v := 1) rfl dX3_runSwap_1 ?_
  refine g_iadd dX3_runSwap_2 ?_
  refine g_aload_n 1 rfl rfl dX3_runSwap_3 ?_
  refine g_getI FX3_137 ht1.1 rfl dX3_runSwap_4 ?_
  rcases g_ite h with ⟨c1, h⟩ | ⟨c1, h⟩
  · refine g_icmp_ge_t c1 (tgt := 18) rfl dX3_runSwap_7 ?_
    refine g_iconst (v := 0) rfl dX3_runSwap_18 ?_
    cases h
    exact g_iret O ⟨Nat.le_of_ble_eq_true rfl, Nat.le_of_ble_eq_true rfl⟩ rfl dX3_runSwap_19
  · refine g_icmp_ge_f c1 (tgt := 18) rfl dX3_runSwap_7 ?_
    refine g_aload_n 1 rfl rfl dX3_runSwap_10 ?_
    refine g_iload_n 0 rfl rfl dX3_runSwap_11 ?_
    obtain ⟨v2, ev2, h⟩ := g_bnd h
    refine g_callV LX3_140 ht1.1 rfl (kX2_leadsOn ht1 ev2) rfl rfl (Nat.le_of_ble_eq_true rfl) ⟨Nat.le_of_ble_eq_true rfl, Nat.le_of_ble_eq_true rfl⟩ ⟨Nat.le_of_ble_eq_true rfl, Nat.le_of_ble_eq_true rfl⟩ dX3_runSwap_12 rfl ?_
    rcases g_ite h with ⟨c3, h⟩ | ⟨c3, h⟩
    · refine g_if_eq_t c3 (tgt := 20) rfl dX3_runSwap_15 ?_
      refine g_aload_n 1 rfl rfl dX3_runSwap_20 ?_
      refine g_iload_n 0 rfl rfl dX3_runSwap_21 ?_
      obtain ⟨v4, ev4, h⟩ := g_bnd h
      refine g_callV LX3_144 ht1.1 rfl (kX2_swapAt ht1 ev4) rfl rfl (Nat.le_of_ble_eq_true rfl) ⟨Nat.le_of_ble_eq_true rfl, Nat.le_of_ble_eq_true rfl⟩ ⟨Nat.le_of_ble_eq_true rfl, Nat.le_of_ble_eq_true rfl⟩ dX3_runSwap_22 rfl ?_
      refine g_iconst (v := 1) rfl dX3_runSwap_25 ?_
      cases h
      exact g_iret O ⟨Nat.le_of_ble_eq_true rfl, Nat.le_of_ble_eq_true rfl⟩ rfl dX3_runSwap_26
    · refine g_if_eq_f c3 (tgt := 20) rfl dX3_runSwap_15 ?_
      refine g_iconst (v := 0) rfl dX3_runSwap_18 ?_
      cases h
      exact g_iret O ⟨Nat.le_of_ble_eq_true rfl, Nat.le_of_ble_eq_true rfl⟩ rfl dX3_runSwap_19
theorem kX3_runSwap {l : Launch} {V : gEnv} {M0 : gMem} {x0 : Int32} {t1 : Nat} (ht1 : gNet gShC t1) {o : (Int32 × gMem)} (h : fX3_runSwap x0 t1 M0 = some o) : gM l yX3_runSwap cX3_runSwap 2 (some .boolean) rX3_runSwap V gShC [.int x0, .ref (gAd V t1)] M0 (some (.int o.1)) o.2 :=
  gM.of (by decide) (Nat.le_of_ble_eq_true rfl) rfl (fun X _ O => tX3_runSwap ht1 h O)
theorem dX8_sortAll_0 : decode cX8_sortAll 0 = .ok (.aload_n 0, 1) := by decide +kernel
theorem dX8_sortAll_1 : decode cX8_sortAll 1 = .ok (.aload_n 1, 1) := by decide +kernel
theorem dX8_sortAll_2 : decode cX8_sortAll 2 = .ok (.iconst 0, 1) := by decide +kernel
theorem dX8_sortAll_3 : decode cX8_sortAll 3 = .ok (.aload_n 1, 1) := by decide +kernel
theorem dX8_sortAll_4 : decode cX8_sortAll 4 = .ok (.getfield 28, 3) := by decide +kernel
theorem dX8_sortAll_7 : decode cX8_sortAll 7 = .ok (.invokevirtual 34, 3) := by decide +kernel
theorem dX8_sortAll_10 : decode cX8_sortAll 10 = .ok (.return_, 1) := by decide +kernel
abbrev rX8_sortAll : Room := { frames := 3, cells := 0, slots := 0, locals := 75 }
abbrev mX8_sortAll : gY := (cX8_sortAll, RX8, 2, rX8_sortAll)
def fX8_sortAll (t1 : Nat) (M0 : gMem) : Option gMem :=
  (fX8_sortPart t1 (0 : Int32) (M0.1 t1 11) M0).bind fun v1 => some v1
set_option maxRecDepth 20000 in
theorem tX8_sortAll {X : gX} {V : gEnv} {t1 : Nat} {M0 : gMem} (ht1 : gNet gShC t1) {o : gMem} (h : fX8_sortAll t1 M0 = some o) (O : gO X V mX8_sortAll gShC none none o) : gG X V mX8_sortAll gShC M0 0 0 0 [(0, .ref (gAd V 44)), (1, .ref (gAd V t1))] [] := by
  unfold fX8_sortAll at h
  refine g_aload_n 0 rfl rfl dX8_sortAll_0 ?_
  refine g_aload_n 1 rfl rfl dX8_sortAll_1 ?_
  refine g_iconst (v := 0) rfl dX8_sortAll_2 ?_
  refine g_aload_n 1 rfl rfl dX8_sortAll_3 ?_
  refine g_getI FX8_28 ht1.1 rfl dX8_sortAll_4 ?_
  obtain ⟨v1, ev1, h⟩ := g_bnd h
  refine g_callV LX8_34 sC_44 rfl (kX8_sortPart ht1 ev1) rfl rfl (Nat.le_of_ble_eq_true rfl) ⟨Nat.le_of_ble_eq_true rfl, Nat.le_of_ble_eq_true rfl⟩ ⟨Nat.le_of_ble_eq_true rfl, Nat.le_of_ble_eq_true rfl⟩ dX8_sortAll_7 rfl ?_
  cases h
  exact g_vret O ⟨Nat.le_of_ble_eq_true rfl, Nat.le_of_ble_eq_true rfl⟩ dX8_sortAll_10
theorem kX8_sortAll {l : Launch} {V : gEnv} {M0 : gMem} {t1 : Nat} (ht1 : gNet gShC t1) {o : gMem} (h : fX8_sortAll t1 M0 = some o) : gM l yX8_sortAll cX8_sortAll 2 none rX8_sortAll V gShC [.ref (gAd V 44), .ref (gAd V t1)] M0 none o :=
  gM.of (by decide) (Nat.le_of_ble_eq_true rfl) rfl (fun X _ O => tX8_sortAll ht1 h O)
theorem dX8_renew_0 : decode cX8_renew 0 = .ok (.aload_n 0, 1) := by decide +kernel
theorem dX8_renew_1 : decode cX8_renew 1 = .ok (.aload_n 1, 1) := by decide +kernel
theorem dX8_renew_2 : decode cX8_renew 2 = .ok (.invokevirtual 83, 3) := by decide +kernel
theorem dX8_renew_5 : decode cX8_renew 5 = .ok (.iconst 0, 1) := by decide +kernel
theorem dX8_renew_6 : decode cX8_renew 6 = .ok (.istore_n 2, 1) := by decide +kernel
theorem dX8_renew_7 : decode cX8_renew 7 = .ok (.iconst 0, 1) := by decide +kernel
theorem dX8_renew_8 : decode cX8_renew 8 = .ok (.istore_n 3, 1) := by decide +kernel
theorem dX8_renew_9 : decode cX8_renew 9 = .ok (.iload_n 3, 1) := by decide +kernel
theorem dX8_renew_10 : decode cX8_renew 10 = .ok (.aload_n 1, 1) := by decide +kernel
theorem dX8_renew_11 : decode cX8_renew 11 = .ok (.getfield 28, 3) := by decide +kernel
theorem dX8_renew_14 : decode cX8_renew 14 = .ok (.if_icmp .ge 30, 3) := by decide +kernel
theorem dX8_renew_17 : decode cX8_renew 17 = .ok (.aload_n 0, 1) := by decide +kernel
theorem dX8_renew_18 : decode cX8_renew 18 = .ok (.getfield 12, 3) := by decide +kernel
theorem dX8_renew_21 : decode cX8_renew 21 = .ok (.getfield 87, 3) := by decide +kernel
theorem dX8_renew_24 : decode cX8_renew 24 = .ok (.iload_n 3, 1) := by decide +kernel
theorem dX8_renew_25 : decode cX8_renew 25 = .ok (.iaload, 1) := by decide +kernel
theorem dX8_renew_26 : decode cX8_renew 26 = .ok (.aload_n 1, 1) := by decide +kernel
theorem dX8_renew_27 : decode cX8_renew 27 = .ok (.getfield 51, 3) := by decide +kernel
theorem dX8_renew_30 : decode cX8_renew 30 = .ok (.iload_n 3, 1) := by decide +kernel
theorem dX8_renew_31 : decode cX8_renew 31 = .ok (.iaload, 1) := by decide +kernel
theorem dX8_renew_32 : decode cX8_renew 32 = .ok (.if_icmp .eq 6, 3) := by decide +kernel
theorem dX8_renew_35 : decode cX8_renew 35 = .ok (.iinc 2 1, 3) := by decide +kernel
theorem dX8_renew_38 : decode cX8_renew 38 = .ok (.iinc 3 1, 3) := by decide +kernel
theorem dX8_renew_41 : decode cX8_renew 41 = .ok (.goto (-32), 3) := by decide +kernel
theorem dX8_renew_44 : decode cX8_renew 44 = .ok (.aload_n 1, 1) := by decide +kernel
theorem dX8_renew_45 : decode cX8_renew 45 = .ok (.aload_n 0, 1) := by decide +kernel
theorem dX8_renew_46 : decode cX8_renew 46 = .ok (.getfield 12, 3) := by decide +kernel
theorem dX8_renew_49 : decode cX8_renew 49 = .ok (.invokevirtual 89, 3) := by decide +kernel
theorem dX8_renew_52 : decode cX8_renew 52 = .ok (.iload_n 2, 1) := by decide +kernel
theorem dX8_renew_53 : decode cX8_renew 53 = .ok (.ireturn, 1) := by decide +kernel
abbrev rX8_renew : Room := { frames := 4, cells := 0, slots := 0, locals := 96 }
abbrev mX8_renew : gY := (cX8_renew, RX8, 4, rX8_renew)
def fX8_renew_b38 (t1 : Nat) (x2 : Int32) (x3 : Int32) (M0 : gMem) : Option ((Int32 × Int32) ⊕ Int32) :=
  some (.inl (x2, x3 + (1 : Int32)))
set_option maxRecDepth 20000 in
theorem tX8_renew_b38 {X : gX} {V : gEnv} {t1 : Nat} {x2 : Int32} {x3 : Int32} {M0 : gMem} (ht1 : gNet gShC t1) {o : ((Int32 × Int32) ⊕ Int32)} (h : fX8_renew_b38 t1 x2 x3 M0 = some o) (Kc : ∀ s9, o = .inl s9 → gG X V mX8_renew gShC M0 0 0 9 [(0, .ref (gAd V 44)), (1, .ref (gAd V t1)), (2, .int s9.1), (3, .int s9.2)] []) (Kx : ∀ e9, o = .inr e9 → gG X V mX8_renew gShC M0 0 0 44 [(0, .ref (gAd V 44)), (1, .ref (gAd V t1)), (2, .int e9)] []) : gG X V mX8_renew gShC M0 0 0 38 [(0, .ref (gAd V 44)), (1, .ref (gAd V t1)), (2, .int x2), (3, .int x3)] [] := by
  unfold fX8_renew_b38 at h
  refine g_iinc (j := 3) (v := x3 + (1 : Int32)) (ls' := [(3, .int (x3 + (1 : Int32))), (0, .ref (gAd V 44)), (1, .ref (gAd V t1)), (2, .int x2)]) rfl rfl (Nat.le_of_ble_eq_true rfl) rfl dX8_renew_38 ?_
  refine g_goto (tgt := 9) rfl dX8_renew_41 ?_
  cases h
  refine g_sub [1, 2, 3, 0] rfl ?_
  exact Kc (x2, x3 + (1 : Int32)) rfl
def fX8_renew_l9 (t1 : Nat) (M0 : gMem) (x2 : Int32) (x3 : Int32) : Option ((Int32 × Int32) ⊕ Int32) :=
  if (M0.1 t1 11) ≤ x3 then (some (.inr x2)) else (rI M0 46 24 x3).bind fun v3 => (rI M0 (t1 + 7) 24 x3).bind fun v4 => if v3 = v4 then (fX8_renew_b38 t1 x2 x3 M0) else fX8_renew_b38 t1 (x2 + (1 : Int32)) x3 M0
set_option maxRecDepth 20000 in
theorem tX8_renew_l9 {X : gX} {V : gEnv} {t1 : Nat} {M0 : gMem} {x2 : Int32} {x3 : Int32} (ht1 : gNet gShC t1) {o : ((Int32 × Int32) ⊕ Int32)} (h : fX8_renew_l9 t1 M0 x2 x3 = some o) (Kc : ∀ s9, o = .inl s9 → gG X V mX8_renew gShC M0 0 0 9 [(0, .ref (gAd V 44)), (1, .ref (gAd V t1)), (2, .int s9.1), (3, .int s9.2)] []) (Kx : ∀ e9, o = .inr e9 → gG X V mX8_renew gShC M0 0 0 44 [(0, .ref (gAd V 44)), (1, .ref (gAd V t1)), (2, .int e9)] []) : gG X V mX8_renew gShC M0 0 0 9 [(0, .ref (gAd V 44)), (1, .ref (gAd V t1)), (2, .int x2), (3, .int x3)] [] := by
  unfold fX8_renew_l9 at h
  refine g_iload_n 3 rfl rfl dX8_renew_9 ?_
  refine g_aload_n 1 rfl rfl dX8_renew_10 ?_
  refine g_getI FX8_28 ht1.1 rfl dX8_renew_11 ?_
  rcases g_ite h with ⟨c2, h⟩ | ⟨c2, h⟩
  · refine g_icmp_ge_t c2 (tgt := 44) rfl dX8_renew_14 ?_
    cases h
    refine g_sub [0, 1, 2] rfl ?_
    exact Kx x2 rfl
  · refine g_icmp_ge_f c2 (tgt := 44) rfl dX8_renew_14 ?_
    refine g_aload_n 0 rfl rfl dX8_renew_17 ?_
    refine g_getR FX8_12 sC_44 rfl dX8_renew_18 ?_
    refine g_getR FX8_87 sC_45 rfl dX8_renew_21 ?_
    refine g_iload_n 3 rfl rfl dX8_renew_24 ?_
    obtain ⟨v3, ev3, h⟩ := g_bnd h
    refine g_iald' ev3 sC_46 dX8_renew_25 ?_
    refine g_aload_n 1 rfl rfl dX8_renew_26 ?_
    refine g_getR FX8_51 ht1.1 rfl dX8_renew_27 ?_
    refine g_iload_n 3 rfl rfl dX8_renew_30 ?_
    obtain ⟨v4, ev4, h⟩ := g_bnd h
    refine g_iald' ev4 ht1.2.2.2.2.2.2.2.1 dX8_renew_31 ?_
    rcases g_ite h with ⟨c5, h⟩ | ⟨c5, h⟩
    · refine g_icmp_eq_t c5 (tgt := 38) rfl dX8_renew_32 ?_
      exact tX8_renew_b38 ht1 h Kc Kx
    · refine g_icmp_eq_f c5 (tgt := 38) rfl dX8_renew_32 ?_
      refine g_iinc (j := 2) (v := x2 + (1 : Int32)) (ls' := [(2, .int (x2 + (1 : Int32))), (0, .ref (gAd V 44)), (1, .ref (gAd V t1)), (3, .int x3)]) rfl rfl (Nat.le_of_ble_eq_true rfl) rfl dX8_renew_35 ?_
      refine g_sub [1, 2, 0, 3] rfl ?_
      exact tX8_renew_b38 ht1 h Kc Kx
def fX8_renew (t1 : Nat) (M0 : gMem) : Option (Int32 × gMem) :=
  (fX8_sortAll t1 M0).bind fun v1 => (gLoop (fun z9 => fX8_renew_l9 t1 v1 z9.1 z9.2) gFu ((0 : Int32), (0 : Int32))).bind fun w6 => (fX2_takeOrder t1 45 v1).bind fun v7 => some (w6, v7)
set_option maxRecDepth 20000 in
theorem tX8_renew {X : gX} {V : gEnv} {t1 : Nat} {M0 : gMem} (ht1 : gNet gShC t1) {o : (Int32 × gMem)} (h : fX8_renew t1 M0 = some o) (O : gO X V mX8_renew gShC (some .int) (some (.int o.1)) o.2) : gG X V mX8_renew gShC M0 0 0 0 [(0, .ref (gAd V 44)), (1, .ref (gAd V t1))] [] := by
  unfold fX8_renew at h
  refine g_aload_n 0 rfl rfl dX8_renew_0 ?_
  refine g_aload_n 1 rfl rfl dX8_renew_1 ?_
  obtain ⟨v1, ev1, h⟩ := g_bnd h
  refine g_callV LX8_83 sC_44 rfl (kX8_sortAll ht1 ev1) rfl rfl (Nat.le_of_ble_eq_true rfl) ⟨Nat.le_of_ble_eq_true rfl, Nat.le_of_ble_eq_true rfl⟩ ⟨Nat.le_of_ble_eq_true rfl, Nat.le_of_ble_eq_true rfl⟩ dX8_renew_2 rfl ?_
  refine g_iconst (v := 0) rfl dX8_renew_5 ?_
  refine g_istore_n (ls' := [(2, .int (0 : Int32)), (0, .ref (gAd V 44)), (1, .ref (gAd V t1))]) rfl (Nat.le_of_ble_eq_true rfl) rfl dX8_renew_6 ?_
  refine g_iconst (v := 0) rfl dX8_renew_7 ?_
  refine g_istore_n (ls' := [(3, .int (0 : Int32)), (2, .int (0 : Int32)), (0, .ref (gAd V 44)), (1, .ref (gAd V t1))]) rfl (Nat.le_of_ble_eq_true rfl) rfl dX8_renew_8 ?_
  obtain ⟨w6, ew6, h⟩ := g_bnd h
  refine g_sub [2, 3, 1, 0] rfl ?_
  have KX : gG X V mX8_renew gShC v1 0 0 44 [(0, .ref (gAd V 44)), (1, .ref (gAd V t1)), (2, .int w6)] [] := by
    refine g_aload_n 1 rfl rfl dX8_renew_44 ?_
    refine g_aload_n 0 rfl rfl dX8_renew_45 ?_
    refine g_getR FX8_12 sC_44 rfl dX8_renew_46 ?_
    obtain ⟨v7, ev7, h⟩ := g_bnd h
    refine g_callV LX8_89 ht1.1 rfl (kX2_takeOrder ht1 wC_45 ev7) rfl rfl (Nat.le_of_ble_eq_true rfl) ⟨Nat.le_of_ble_eq_true rfl, Nat.le_of_ble_eq_true rfl⟩ ⟨Nat.le_of_ble_eq_true rfl, Nat.le_of_ble_eq_true rfl⟩ dX8_renew_49 rfl ?_
    refine g_iload_n 2 rfl rfl dX8_renew_52 ?_
    cases h
    exact g_iret O ⟨Nat.le_of_ble_eq_true rfl, Nat.le_of_ble_eq_true rfl⟩ rfl dX8_renew_53
  exact gLoop_Q ew6 (fun z9 => gG X V mX8_renew gShC v1 0 0 9 [(0, .ref (gAd V 44)), (1, .ref (gAd V t1)), (2, .int z9.1), (3, .int z9.2)] []) (fun s9 o9 hb9 hc9 hx9 => tX8_renew_l9 ht1 hb9 hc9 (fun e9 he9 => by cases hx9 _ he9; exact KX))
theorem kX8_renew {l : Launch} {V : gEnv} {M0 : gMem} {t1 : Nat} (ht1 : gNet gShC t1) {o : (Int32 × gMem)} (h : fX8_renew t1 M0 = some o) : gM l yX8_renew cX8_renew 4 (some .int) rX8_renew V gShC [.ref (gAd V 44), .ref (gAd V t1)] M0 (some (.int o.1)) o.2 :=
  gM.of (by decide) (Nat.le_of_ble_eq_true rfl) rfl (fun X _ O => tX8_renew ht1 h O)
theorem dX3_run_0 : decode cX3_run 0 = .ok (.aload_n 0, 1) := by decide +kernel
theorem dX3_run_1 : decode cX3_run 1 = .ok (.getfield 15, 3) := by decide +kernel
theorem dX3_run_4 : decode cX3_run 4 = .ok (.iload_n 1, 1) := by decide +kernel
theorem dX3_run_5 : decode cX3_run 5 = .ok (.iaload, 1) := by decide +kernel
theorem dX3_run_6 : decode cX3_run 6 = .ok (.istore 5, 2) := by decide +kernel
theorem dX3_run_8 : decode cX3_run 8 = .ok (.aload_n 0, 1) := by decide +kernel
theorem dX3_run_9 : decode cX3_run 9 = .ok (.getfield 18, 3) := by decide +kernel
theorem dX3_run_12 : decode cX3_run 12 = .ok (.iload_n 1, 1) := by decide +kernel
theorem dX3_run_13 : decode cX3_run 13 = .ok (.iaload, 1) := by decide +kernel
theorem dX3_run_14 : decode cX3_run 14 = .ok (.istore 6, 2) := by decide +kernel
theorem dX3_run_16 : decode cX3_run 16 = .ok (.aload_n 0, 1) := by decide +kernel
theorem dX3_run_17 : decode cX3_run 17 = .ok (.getfield 9, 3) := by decide +kernel
theorem dX3_run_20 : decode cX3_run 20 = .ok (.iload_n 1, 1) := by decide +kernel
theorem dX3_run_21 : decode cX3_run 21 = .ok (.iaload, 1) := by decide +kernel
theorem dX3_run_22 : decode cX3_run 22 = .ok (.tableswitch 93 1 6 #[38, 48, 59, 70, 77, 85], 38) := by decide +kernel
theorem dX3_run_60 : decode cX3_run 60 = .ok (.iload 5, 2) := by decide +kernel
theorem dX3_run_62 : decode cX3_run 62 = .ok (.iload 6, 2) := by decide +kernel
theorem dX3_run_64 : decode cX3_run 64 = .ok (.aload_n 2, 1) := by decide +kernel
theorem dX3_run_65 : decode cX3_run 65 = .ok (.aload_n 3, 1) := by decide +kernel
theorem dX3_run_66 : decode cX3_run 66 = .ok (.invokestatic 96, 3) := by decide +kernel
theorem dX3_run_69 : decode cX3_run 69 = .ok (.ireturn, 1) := by decide +kernel
theorem dX3_run_70 : decode cX3_run 70 = .ok (.iload 5, 2) := by decide +kernel
theorem dX3_run_72 : decode cX3_run 72 = .ok (.iload 6, 2) := by decide +kernel
theorem dX3_run_74 : decode cX3_run 74 = .ok (.aload_n 2, 1) := by decide +kernel
theorem dX3_run_75 : decode cX3_run 75 = .ok (.aload 4, 2) := by decide +kernel
theorem dX3_run_77 : decode cX3_run 77 = .ok (.invokestatic 100, 3) := by decide +kernel
theorem dX3_run_80 : decode cX3_run 80 = .ok (.ireturn, 1) := by decide +kernel
theorem dX3_run_81 : decode cX3_run 81 = .ok (.aload_n 2, 1) := by decide +kernel
theorem dX3_run_82 : decode cX3_run 82 = .ok (.getfield 104, 3) := by decide +kernel
theorem dX3_run_85 : decode cX3_run 85 = .ok (.iload 5, 2) := by decide +kernel
theorem dX3_run_87 : decode cX3_run 87 = .ok (.iload 6, 2) := by decide +kernel
theorem dX3_run_89 : decode cX3_run 89 = .ok (.iastore, 1) := by decide +kernel
theorem dX3_run_90 : decode cX3_run 90 = .ok (.iconst 1, 1) := by decide +kernel
theorem dX3_run_91 : decode cX3_run 91 = .ok (.ireturn, 1) := by decide +kernel
theorem dX3_run_92 : decode cX3_run 92 = .ok (.iload 5, 2) := by decide +kernel
theorem dX3_run_94 : decode cX3_run 94 = .ok (.aload_n 2, 1) := by decide +kernel
theorem dX3_run_95 : decode cX3_run 95 = .ok (.invokestatic 108, 3) := by decide +kernel
theorem dX3_run_98 : decode cX3_run 98 = .ok (.ireturn, 1) := by decide +kernel
theorem dX3_run_99 : decode cX3_run 99 = .ok (.aload_n 2, 1) := by decide +kernel
theorem dX3_run_100 : decode cX3_run 100 = .ok (.iload 5, 2) := by decide +kernel
theorem dX3_run_102 : decode cX3_run 102 = .ok (.putfield 112, 3) := by decide +kernel
theorem dX3_run_105 : decode cX3_run 105 = .ok (.iconst 1, 1) := by decide +kernel
theorem dX3_run_106 : decode cX3_run 106 = .ok (.ireturn, 1) := by decide +kernel
theorem dX3_run_107 : decode cX3_run 107 = .ok (.aload_n 2, 1) := by decide +kernel
theorem dX3_run_108 : decode cX3_run 108 = .ok (.iload 5, 2) := by decide +kernel
theorem dX3_run_110 : decode cX3_run 110 = .ok (.putfield 114, 3) := by decide +kernel
theorem dX3_run_113 : decode cX3_run 113 = .ok (.iconst 1, 1) := by decide +kernel
theorem dX3_run_114 : decode cX3_run 114 = .ok (.ireturn, 1) := by decide +kernel
theorem dX3_run_115 : decode cX3_run 115 = .ok (.aload 4, 2) := by decide +kernel
theorem dX3_run_117 : decode cX3_run 117 = .ok (.aload_n 2, 1) := by decide +kernel
theorem dX3_run_118 : decode cX3_run 118 = .ok (.invokevirtual 116, 3) := by decide +kernel
theorem dX3_run_121 : decode cX3_run 121 = .ok (.pop, 1) := by decide +kernel
theorem dX3_run_122 : decode cX3_run 122 = .ok (.iconst 1, 1) := by decide +kernel
theorem dX3_run_123 : decode cX3_run 123 = .ok (.ireturn, 1) := by decide +kernel
abbrev rX3_run : Room := { frames := 5, cells := 0, slots := 0, locals := 124 }
abbrev mX3_run : gY := (cX3_run, RX3, 7, rX3_run)
def fX3_run (x1 : Int32) (t2 : Nat) (M0 : gMem) : Option (Int32 × gMem) :=
  (rI M0 39 30 x1).bind fun v1 => (rI M0 40 30 x1).bind fun v2 => (rI M0 38 30 x1).bind fun v3 => if v3 = (1 : Int32) then ((fX3_runArrow v1 v2 t2 M0).bind fun v5 => (zv v5.1).bind fun v6 => some (v6, v5.2)) else if v3 = (2 : Int32) then ((fX3_runCut v1 v2 t2 M0).bind fun v8 => (zv v8.1).bind fun v9 => some (v9, v8.2)) else if v3 = (3 : Int32) then ((wI M0 (t2 + 2) 24 v1 v2).bind fun M11 => some ((1 : Int32), M11)) else if v3 = (4 : Int32) then ((fX3_runSwap v1 t2 M0).bind fun v13 => (zv v13.1).bind fun v14 => some (v14, v13.2)) else if v3 = (5 : Int32) then ((wF M0 t2 12 v1).bind fun M16 => some ((1 : Int32), M16)) else if v3 = (6 : Int32) then ((wF M0 t2 13 v1).bind fun M18 => some ((1 : Int32), M18)) else (fX8_renew t2 M0).bind fun v19 => some ((1 : Int32), v19.2)
set_option maxRecDepth 20000 in
theorem tX3_run {X : gX} {V : gEnv} {x1 : Int32} {t2 : Nat} {M0 : gMem} (ht2 : gNet gShC t2) {o : (Int32 × gMem)} (h : fX3_run x1 t2 M0 = some o) (O : gO X V mX3_run gShC (some .boolean) (some (.int o.1)) o.2) : gG X V mX3_run gShC M0 0 0 0 [(0, .ref (gAd V 37)), (1, .int x1), (2, .ref (gAd V t2)), (3, .ref (gAd V 41)), (4, .ref (gAd V 44))] [] := by
  unfold fX3_run at h
  refine g_aload_n 0 rfl rfl dX3_run_0 ?_
  refine g_getR FX3_15 sC_37 rfl dX3_run_1 ?_
  refine g_iload_n 1 rfl rfl dX3_run_4 ?_
  obtain ⟨v1, ev1, h⟩ := g_bnd h
  refine g_iald' ev1 sC_39 dX3_run_5 ?_
  refine g_istore (ls' := [(5, .int v1), (0, .ref (gAd V 37)), (1, .int x1), (2, .ref (gAd V t2)), (3, .ref (gAd V 41)), (4, .ref (gAd V 44))]) (Nat.le_of_ble_eq_true rfl) rfl dX3_run_6 ?_
  refine g_aload_n 1 rfl rfl dX3_run_8 ?_
  refine g_getR FX3_18 sC_37 rfl dX3_run_9 ?_
  refine g_iload_n 2 rfl rfl dX3_run_12 ?_
  obtain ⟨v2, ev2, h⟩ := g_bnd h
  refine g_iald' ev2 sC_40 dX3_run_13 ?_
  refine g_istore (ls' := [(6, .int v2), (5, .int v1), (0, .ref (gAd V 37)), (1, .int x1), (2, .ref (gAd V t2)), (3, .ref (gAd V 41)), (4, .ref (gAd V 44))]) (Nat.le_of_ble_eq_true rfl) rfl dX3_run_14 ?_
  refine g_aload_n 2 rfl rfl dX3_run_16 ?_
  refine g_getR FX3_9 sC_37 rfl dX3_run_17 ?_
  refine g_iload_n 3 rfl rfl dX3_run_20 ?_
  obtain ⟨v3, ev3, h⟩ := g_bnd h
  refine g_iald' ev3 sC_38 dX3_run_21 ?_
  rcases g_ite h with ⟨c4, h⟩ | ⟨c4, h⟩
  · refine g_tabIn (off := 38) (tgt := 60) (by rw [c4]; decide) (by rw [c4]; decide) (by rw [c4]; rfl) rfl dX3_run_22 ?_
    refine g_iload 1 rfl dX3_run_60 ?_
    refine g_iload 0 rfl dX3_run_62 ?_
    refine g_aload_n 4 rfl rfl dX3_run_64 ?_
    refine g_aload_n 5 rfl rfl dX3_run_65 ?_
    obtain ⟨v5, ev5, h⟩ := g_bnd h
    refine g_callS LX3_96 (kX3_runArrow ht2 ev5) rfl rfl (Nat.le_of_ble_eq_true rfl) ⟨Nat.le_of_ble_eq_true rfl, Nat.le_of_ble_eq_true rfl⟩ ⟨Nat.le_of_ble_eq_true rfl, Nat.le_of_ble_eq_true rfl⟩ dX3_run_66 rfl ?_
    obtain ⟨v6, ev6, h⟩ := g_bnd h
    refine g_zv ev6 ?_
    cases h
    exact g_iret O ⟨Nat.le_of_ble_eq_true rfl, Nat.le_of_ble_eq_true rfl⟩ (g_nz (zv_ok ev6)) dX3_run_69
  ·
    rcases g_ite h with ⟨c7, h⟩ | ⟨c7, h⟩
    · refine g_tabIn (off := 48) (tgt := 70) (by rw [c7]; decide) (by rw [c7]; decide) (by rw [c7]; rfl) rfl dX3_run_22 ?_
      refine g_iload 1 rfl dX3_run_70 ?_
      refine g_iload 0 rfl dX3_run_72 ?_
      refine g_aload_n 4 rfl rfl dX3_run_74 ?_
      refine g_aload 6 rfl dX3_run_75 ?_
      obtain ⟨v8, ev8, h⟩ := g_bnd h
      refine g_callS LX3_100 (kX3_runCut ht2 ev8) rfl rfl (Nat.le_of_ble_eq_true rfl) ⟨Nat.le_of_ble_eq_true rfl, Nat.le_of_ble_eq_true rfl⟩ ⟨Nat.le_of_ble_eq_true rfl, Nat.le_of_ble_eq_true rfl⟩ dX3_run_77 rfl ?_
      obtain ⟨v9, ev9, h⟩ := g_bnd h
      refine g_zv ev9 ?_
      cases h
      exact g_iret O ⟨Nat.le_of_ble_eq_true rfl, Nat.le_of_ble_eq_true rfl⟩ (g_nz (zv_ok ev9)) dX3_run_80
    ·
      rcases g_ite h with ⟨c10, h⟩ | ⟨c10, h⟩
      · refine g_tabIn (off := 59) (tgt := 81) (by rw [c10]; decide) (by rw [c10]; decide) (by rw [c10]; rfl) rfl dX3_run_22 ?_
        refine g_aload_n 4 rfl rfl dX3_run_81 ?_
        refine g_getR FX3_104 ht2.1 rfl dX3_run_82 ?_
        refine g_iload 1 rfl dX3_run_85 ?_
        refine g_iload 0 rfl dX3_run_87 ?_
        obtain ⟨M11, eM11, h⟩ := g_bnd h
        refine g_iast' eM11 ht2.2.2.1 dX3_run_89 ?_
        refine g_iconst (v := 1) rfl dX3_run_90 ?_
        cases h
        exact g_iret O ⟨Nat.le_of_ble_eq_true rfl, Nat.le_of_ble_eq_true rfl⟩ rfl dX3_run_91
      ·
        rcases g_ite h with ⟨c12, h⟩ | ⟨c12, h⟩
        · refine g_tabIn (off := 70) (tgt := 92) (by rw [c12]; decide) (by rw [c12]; decide) (by rw [c12]; rfl) rfl dX3_run_22 ?_
          refine g_iload 1 rfl dX3_run_92 ?_
          refine g_aload_n 4 rfl rfl dX3_run_94 ?_
          obtain ⟨v13, ev13, h⟩ := g_bnd h
          refine g_callS LX3_108 (kX3_runSwap ht2 ev13) rfl rfl (Nat.le_of_ble_eq_true rfl) ⟨Nat.le_of_ble_eq_true rfl, Nat.le_of_ble_eq_true rfl⟩ ⟨Nat.le_of_ble_eq_true rfl, Nat.le_of_ble_eq_true rfl⟩ dX3_run_95 rfl ?_
          obtain ⟨v14, ev14, h⟩ := g_bnd h
          refine g_zv ev14 ?_
          cases h
          exact g_iret O ⟨Nat.le_of_ble_eq_true rfl, Nat.le_of_ble_eq_true rfl⟩ (g_nz (zv_ok ev14)) dX3_run_98
        ·
          rcases g_ite h with ⟨c15, h⟩ | ⟨c15, h⟩
          · refine g_tabIn (off := 77) (tgt := 99) (by rw [c15]; decide) (by rw [c15]; decide) (by rw [c15]; rfl) rfl dX3_run_22 ?_
            refine g_aload_n 4 rfl rfl dX3_run_99 ?_
            refine g_iload 1 rfl dX3_run_100 ?_
            obtain ⟨M16, eM16, h⟩ := g_bnd h
            refine g_putI' eM16 FX3_112 jX2 ht2.1 rfl rfl rfl dX3_run_102 ?_
            refine g_iconst (v := 1) rfl dX3_run_105 ?_
            cases h
            exact g_iret O ⟨Nat.le_of_ble_eq_true rfl, Nat.le_of_ble_eq_true rfl⟩ rfl dX3_run_106
          ·
            rcases g_ite h with ⟨c17, h⟩ | ⟨c17, h⟩
            · refine g_tabIn (off := 85) (tgt := 107) (by rw [c17]; decide) (by rw [c17]; decide) (by rw [c17]; rfl) rfl dX3_run_22 ?_
              refine g_aload_n 4 rfl rfl dX3_run_107 ?_
              refine g_iload 1 rfl dX3_run_108 ?_
              obtain ⟨M18, eM18, h⟩ := g_bnd h
              refine g_putI' eM18 FX3_114 jX2 ht2.1 rfl rfl rfl dX3_run_110 ?_
              refine g_iconst (v := 1) rfl dX3_run_113 ?_
              cases h
              exact g_iret O ⟨Nat.le_of_ble_eq_true rfl, Nat.le_of_ble_eq_true rfl⟩ rfl dX3_run_114
            ·
              have nc4 := gne (1 : Int32) (j := 1) rfl c4
              have nc7 := gne (2 : Int32) (j := 2) rfl c7
              have nc10 := gne (3 : Int32) (j := 3) rfl c10
              have nc12 := gne (4 : Int32) (j := 4) rfl c12
              have nc15 := gne (5 : Int32) (j := 5) rfl c15
              have nc17 := gne (6 : Int32) (j := 6) rfl c17
              refine g_tabOut (tgt := 115) (by omega) rfl dX3_run_22 ?_
              refine g_aload 6 rfl dX3_run_115 ?_
              refine g_aload_n 4 rfl rfl dX3_run_117 ?_
              obtain ⟨v19, ev19, h⟩ := g_bnd h
              refine g_callV LX3_116 sC_44 rfl (kX8_renew ht2 ev19) rfl rfl (Nat.le_of_ble_eq_true rfl) ⟨Nat.le_of_ble_eq_true rfl, Nat.le_of_ble_eq_true rfl⟩ ⟨Nat.le_of_ble_eq_true rfl, Nat.le_of_ble_eq_true rfl⟩ dX3_run_118 rfl ?_
              refine g_pop rfl dX3_run_121 ?_
              refine g_iconst (v := 1) rfl dX3_run_122 ?_
              cases h
              exact g_iret O ⟨Nat.le_of_ble_eq_true rfl, Nat.le_of_ble_eq_true rfl⟩ rfl dX3_run_123
theorem kX3_run {l : Launch} {V : gEnv} {M0 : gMem} {x1 : Int32} {t2 : Nat} (ht2 : gNet gShC t2) {o : (Int32 × gMem)} (h : fX3_run x1 t2 M0 = some o) : gM l yX3_run cX3_run 7 (some .boolean) rX3_run V gShC [.ref (gAd V 37), .int x1, .ref (gAd V t2), .ref (gAd V 41), .ref (gAd V 44)] M0 (some (.int o.1)) o.2 :=
  gM.of (by decide) (Nat.le_of_ble_eq_true rfl) rfl (fun X _ O => tX3_run ht2 h O)
