/-! METHODS, by program: pure functions and contracts -/
theorem dX5_packed_0 : decode cX5_packed 0 = .ok (.lconst 0, 1) := by decide +kernel
theorem dX5_packed_1 : decode cX5_packed 1 = .ok (.lstore_n 3, 1) := by decide +kernel
theorem dX5_packed_2 : decode cX5_packed 2 = .ok (.iload_n 2, 1) := by decide +kernel
theorem dX5_packed_3 : decode cX5_packed 3 = .ok (.iconst 1, 1) := by decide +kernel
theorem dX5_packed_4 : decode cX5_packed 4 = .ok (.isub, 1) := by decide +kernel
theorem dX5_packed_5 : decode cX5_packed 5 = .ok (.istore 5, 2) := by decide +kernel
theorem dX5_packed_7 : decode cX5_packed 7 = .ok (.iload 5, 2) := by decide +kernel
theorem dX5_packed_9 : decode cX5_packed 9 = .ok (.iload_n 1, 1) := by decide +kernel
theorem dX5_packed_10 : decode cX5_packed 10 = .ok (.if_icmp .lt 23, 3) := by decide +kernel
theorem dX5_packed_13 : decode cX5_packed 13 = .ok (.lload_n 3, 1) := by decide +kernel
theorem dX5_packed_14 : decode cX5_packed 14 = .ok (.bipush 8, 2) := by decide +kernel
theorem dX5_packed_16 : decode cX5_packed 16 = .ok (.lshl, 1) := by decide +kernel
theorem dX5_packed_17 : decode cX5_packed 17 = .ok (.aload_n 0, 1) := by decide +kernel
theorem dX5_packed_18 : decode cX5_packed 18 = .ok (.getfield 9, 3) := by decide +kernel
theorem dX5_packed_21 : decode cX5_packed 21 = .ok (.iload 5, 2) := by decide +kernel
theorem dX5_packed_23 : decode cX5_packed 23 = .ok (.baload, 1) := by decide +kernel
theorem dX5_packed_24 : decode cX5_packed 24 = .ok (.i2l, 1) := by decide +kernel
theorem dX5_packed_25 : decode cX5_packed 25 = .ok (.lor, 1) := by decide +kernel
theorem dX5_packed_26 : decode cX5_packed 26 = .ok (.lstore_n 3, 1) := by decide +kernel
theorem dX5_packed_27 : decode cX5_packed 27 = .ok (.iinc 5 (-1), 3) := by decide +kernel
theorem dX5_packed_30 : decode cX5_packed 30 = .ok (.goto (-23), 3) := by decide +kernel
theorem dX5_packed_33 : decode cX5_packed 33 = .ok (.lload_n 3, 1) := by decide +kernel
theorem dX5_packed_34 : decode cX5_packed 34 = .ok (.lreturn, 1) := by decide +kernel
abbrev rX5_packed : Room := { frames := 0, cells := 0, slots := 0, locals := 0 }
abbrev mX5_packed : gY := (cX5_packed, RX5, 6, rX5_packed)
def fX5_packed_l7 (x1 : Int32) (M0 : gMem) (x3 : Int64) (x5 : Int32) : Option ((Int64 × Int32) ⊕ Int64) :=
  if x5 < x1 then (some (.inr x3)) else (rI M0 33 900 x5).bind fun v3 => (nm ((x3 <<< ((8 : Int32).toInt64 &&& 63)) ||| v3.toInt64)).bind fun v4 => some (.inl (v4, x5 + (-1 : Int32)))
set_option maxRecDepth 20000 in
theorem tX5_packed_l7 {X : gX} {V : gEnv} {x1 : Int32} {M0 : gMem} {x3 : Int64} {x5 : Int32}  {o : ((Int64 × Int32) ⊕ Int64)} (h : fX5_packed_l7 x1 M0 x3 x5 = some o) (Kc : ∀ s9, o = .inl s9 → gG X V mX5_packed gShC M0 0 0 7 [(0, .ref (gAd V 32)), (1, .int x1), (3, .long s9.1), (5, .int s9.2)] []) (Kx : ∀ e9, o = .inr e9 → gG X V mX5_packed gShC M0 0 0 33 [(3, .long e9)] []) : gG X V mX5_packed gShC M0 0 0 7 [(0, .ref (gAd V 32)), (1, .int x1), (3, .long x3), (5, .int x5)] [] := by
  unfold fX5_packed_l7 at h
  refine g_iload 3 rfl dX5_packed_7 ?_
  refine g_iload_n 1 rfl rfl dX5_packed_9 ?_
  rcases g_ite h with ⟨c2, h⟩ | ⟨c2, h⟩
  · refine g_icmp_lt_t c2 (tgt := 33) rfl dX5_packed_10 ?_
    cases h
    refine g_sub [2] rfl ?_
    exact Kx x3 rfl
  · refine g_icmp_lt_f c2 (tgt := 33) rfl dX5_packed_10 ?_
    refine g_lload_n 2 rfl rfl dX5_packed_13 ?_
    refine g_bipush (v := 8) rfl dX5_packed_14 ?_
    refine g_lshl dX5_packed_16 ?_
    refine g_aload_n 0 rfl rfl dX5_packed_17 ?_
    refine g_getR FX5_9 sC_32 rfl dX5_packed_18 ?_
    refine g_iload 3 rfl dX5_packed_21 ?_
    obtain ⟨v3, ev3, h⟩ := g_bnd h
    refine g_bald' ev3 sC_33 dX5_packed_23 ?_
    refine g_i2l dX5_packed_24 ?_
    refine g_lor dX5_packed_25 ?_
    obtain ⟨v4, ev4, h⟩ := g_bnd h
    refine g_nmJ ev4 ?_
    refine g_lstore_n (ls' := [(3, .long v4), (0, .ref (gAd V 32)), (1, .int x1), (5, .int x5)]) rfl (Nat.le_of_ble_eq_true rfl) rfl dX5_packed_26 ?_
    refine g_iinc (j := 3) (v := x5 + (-1 : Int32)) (ls' := [(5, .int (x5 + (-1 : Int32))), (3, .long v4), (0, .ref (gAd V 32)), (1, .int x1)]) rfl (congrArg (fun z => x5 + z) (by decide)) (Nat.le_of_ble_eq_true rfl) rfl dX5_packed_27 ?_
    refine g_goto (tgt := 7) rfl dX5_packed_30 ?_
    cases h
    refine g_sub [2, 3, 1, 0] rfl ?_
    exact Kc (v4, x5 + (-1 : Int32)) rfl
def fX5_packed (x1 : Int32) (x2 : Int32) (M0 : gMem) : Option Int64 :=
  (nm (x2 - (1 : Int32))).bind fun v1 => (gLoop (fun z9 => fX5_packed_l7 x1 M0 z9.1 z9.2) gFu ((0 : Int64), v1)).bind fun w5 => some w5
set_option maxRecDepth 20000 in
theorem tX5_packed {X : gX} {V : gEnv} {x1 : Int32} {x2 : Int32} {M0 : gMem}  {o : Int64} (h : fX5_packed x1 x2 M0 = some o) (O : gO X V mX5_packed gShC (some .long) (some (.long o)) M0) : gG X V mX5_packed gShC M0 0 0 0 [(0, .ref (gAd V 32)), (1, .int x1), (2, .int x2)] [] := by
  unfold fX5_packed at h
  refine g_lconst (v := 0) rfl dX5_packed_0 ?_
  refine g_lstore_n (ls' := [(3, .long (0 : Int64)), (0, .ref (gAd V 32)), (1, .int x1), (2, .int x2)]) rfl (Nat.le_of_ble_eq_true rfl) rfl dX5_packed_1 ?_
  refine g_iload_n 3 rfl rfl dX5_packed_2 ?_
  refine g_iconst (v := 1) rfl dX5_packed_3 ?_
  refine g_isub dX5_packed_4 ?_
  obtain ⟨v1, ev1, h⟩ := g_bnd h
  refine g_nmI ev1 ?_
  refine g_istore (ls' := [(5, .int v1), (3, .long (0 : Int64)), (0, .ref (gAd V 32)), (1, .int x1), (2, .int x2)]) (Nat.le_of_ble_eq_true rfl) rfl dX5_packed_5 ?_
  obtain ⟨w5, ew5, h⟩ := g_bnd h
  refine g_sub [2, 3, 1, 0] rfl ?_
  have KX : gG X V mX5_packed gShC M0 0 0 33 [(3, .long w5)] [] := by
    refine g_lload_n 0 rfl rfl dX5_packed_33 ?_
    cases h
    exact g_lret O ⟨Nat.le_of_ble_eq_true rfl, Nat.le_of_ble_eq_true rfl⟩ dX5_packed_34
  exact gLoop_Q ew5 (fun z9 => gG X V mX5_packed gShC M0 0 0 7 [(0, .ref (gAd V 32)), (1, .int x1), (3, .long z9.1), (5, .int z9.2)] []) (fun s9 o9 hb9 hc9 hx9 => tX5_packed_l7  hb9 hc9 (fun e9 he9 => by cases hx9 _ he9; exact KX))
theorem kX5_packed {l : Launch} {V : gEnv} {M0 : gMem} {x1 : Int32} {x2 : Int32}  {o : Int64} (h : fX5_packed x1 x2 M0 = some o) : gM l yX5_packed cX5_packed 6 (some .long) rX5_packed V gShC [.ref (gAd V 32), .int x1, .int x2] M0 (some (.long o)) M0 :=
  gM.of (by decide) (Nat.le_of_ble_eq_true rfl) rfl (fun X _ O => tX5_packed  h O)
theorem dX5_readName_0 : decode cX5_readName 0 = .ok (.aload_n 0, 1) := by decide +kernel
theorem dX5_readName_1 : decode cX5_readName 1 = .ok (.invokevirtual 52, 3) := by decide +kernel
theorem dX5_readName_4 : decode cX5_readName 4 = .ok (.ifCond .ne 5, 3) := by decide +kernel
theorem dX5_readName_7 : decode cX5_readName 7 = .ok (.lconst 0, 1) := by decide +kernel
theorem dX5_readName_8 : decode cX5_readName 8 = .ok (.lreturn, 1) := by decide +kernel
theorem dX5_readName_9 : decode cX5_readName 9 = .ok (.aload_n 0, 1) := by decide +kernel
theorem dX5_readName_10 : decode cX5_readName 10 = .ok (.getfield 19, 3) := by decide +kernel
theorem dX5_readName_13 : decode cX5_readName 13 = .ok (.aload_n 0, 1) := by decide +kernel
theorem dX5_readName_14 : decode cX5_readName 14 = .ok (.getfield 22, 3) := by decide +kernel
theorem dX5_readName_17 : decode cX5_readName 17 = .ok (.isub, 1) := by decide +kernel
theorem dX5_readName_18 : decode cX5_readName 18 = .ok (.bipush 6, 2) := by decide +kernel
theorem dX5_readName_20 : decode cX5_readName 20 = .ok (.if_icmp .le 15, 3) := by decide +kernel
theorem dX5_readName_23 : decode cX5_readName 23 = .ok (.aload_n 0, 1) := by decide +kernel
theorem dX5_readName_24 : decode cX5_readName 24 = .ok (.iconst 1, 1) := by decide +kernel
theorem dX5_readName_25 : decode cX5_readName 25 = .ok (.aload_n 0, 1) := by decide +kernel
theorem dX5_readName_26 : decode cX5_readName 26 = .ok (.getfield 22, 3) := by decide +kernel
theorem dX5_readName_29 : decode cX5_readName 29 = .ok (.invokevirtual 38, 3) := by decide +kernel
theorem dX5_readName_32 : decode cX5_readName 32 = .ok (.pop, 1) := by decide +kernel
theorem dX5_readName_33 : decode cX5_readName 33 = .ok (.lconst 0, 1) := by decide +kernel
theorem dX5_readName_34 : decode cX5_readName 34 = .ok (.lreturn, 1) := by decide +kernel
theorem dX5_readName_35 : decode cX5_readName 35 = .ok (.aload_n 0, 1) := by decide +kernel
theorem dX5_readName_36 : decode cX5_readName 36 = .ok (.aload_n 0, 1) := by decide +kernel
theorem dX5_readName_37 : decode cX5_readName 37 = .ok (.getfield 22, 3) := by decide +kernel
theorem dX5_readName_40 : decode cX5_readName 40 = .ok (.aload_n 0, 1) := by decide +kernel
theorem dX5_readName_41 : decode cX5_readName 41 = .ok (.getfield 19, 3) := by decide +kernel
theorem dX5_readName_44 : decode cX5_readName 44 = .ok (.invokevirtual 56, 3) := by decide +kernel
theorem dX5_readName_47 : decode cX5_readName 47 = .ok (.lreturn, 1) := by decide +kernel
abbrev rX5_readName : Room := { frames := 2, cells := 0, slots := 0, locals := 42 }
abbrev mX5_readName : gY := (cX5_readName, RX5, 1, rX5_readName)
def fX5_readName (M0 : gMem) : Option (Int64 × gMem) :=
  (fX5_readWord M0).bind fun v1 => if v1.1 = 0 then (some ((0 : Int64), v1.2)) else if ((v1.2.1 32 2) - (v1.2.1 32 3)) ≤ (6 : Int32) then ((fX5_packed (v1.2.1 32 3) (v1.2.1 32 2) v1.2).bind fun v4 => some (v4, v1.2)) else (fX5_fail (1 : Int32) (v1.2.1 32 3) v1.2).bind fun v5 => some ((0 : Int64), v5.2)
set_option maxRecDepth 20000 in
theorem tX5_readName {X : gX} {V : gEnv} {M0 : gMem}  {o : (Int64 × gMem)} (h : fX5_readName M0 = some o) (O : gO X V mX5_readName gShC (some .long) (some (.long o.1)) o.2) : gG X V mX5_readName gShC M0 0 0 0 [(0, .ref (gAd V 32))] [] := by
  unfold fX5_readName at h
  refine g_aload_n 0 rfl rfl dX5_readName_0 ?_
  obtain ⟨v1, ev1, h⟩ := g_bnd h
  refine g_callV LX5_52 sC_32 rfl (kX5_readWord ev1) rfl rfl (Nat.le_of_ble_eq_true rfl) ⟨Nat.le_of_ble_eq_true rfl, Nat.le_of_ble_eq_true rfl⟩ ⟨Nat.le_of_ble_eq_true rfl, Nat.le_of_ble_eq_true rfl⟩ dX5_readName_1 rfl ?_
  rcases g_ite h with ⟨c2, h⟩ | ⟨c2, h⟩
  · refine g_if_ne_f c2 (tgt := 9) rfl dX5_readName_4 ?_
    refine g_lconst (v := 0) rfl dX5_readName_7 ?_
    cases h
    exact g_lret O ⟨Nat.le_of_ble_eq_true rfl, Nat.le_of_ble_eq_true rfl⟩ dX5_readName_8
  · refine g_if_ne_t c2 (tgt := 9) rfl dX5_readName_4 ?_
    refine g_aload_n 0 rfl rfl dX5_readName_9 ?_
    refine g_getI FX5_19 sC_32 rfl dX5_readName_10 ?_
    refine g_aload_n 0 rfl rfl dX5_readName_13 ?_
    refine g_getI FX5_22 sC_32 rfl dX5_readName_14 ?_
    refine g_isub dX5_readName_17 ?_
    refine g_bipush (v := 6) rfl dX5_readName_18 ?_
    rcases g_ite h with ⟨c3, h⟩ | ⟨c3, h⟩
    · refine g_icmp_le_t c3 (tgt := 35) rfl dX5_readName_20 ?_
      refine g_aload_n 0 rfl rfl dX5_readName_35 ?_
      refine g_aload_n 0 rfl rfl dX5_readName_36 ?_
      refine g_getI FX5_22 sC_32 rfl dX5_readName_37 ?_
      refine g_aload_n 0 rfl rfl dX5_readName_40 ?_
      refine g_getI FX5_19 sC_32 rfl dX5_readName_41 ?_
      obtain ⟨v4, ev4, h⟩ := g_bnd h
      refine g_callV LX5_56 sC_32 rfl (kX5_packed ev4) rfl rfl (Nat.le_of_ble_eq_true rfl) ⟨Nat.le_of_ble_eq_true rfl, Nat.le_of_ble_eq_true rfl⟩ ⟨Nat.le_of_ble_eq_true rfl, Nat.le_of_ble_eq_true rfl⟩ dX5_readName_44 rfl ?_
      cases h
      exact g_lret O ⟨Nat.le_of_ble_eq_true rfl, Nat.le_of_ble_eq_true rfl⟩ dX5_readName_47
    · refine g_icmp_le_f c3 (tgt := 35) rfl dX5_readName_20 ?_
      refine g_aload_n 0 rfl rfl dX5_readName_23 ?_
      refine g_iconst (v := 1) rfl dX5_readName_24 ?_
      refine g_aload_n 0 rfl rfl dX5_readName_25 ?_
      refine g_getI FX5_22 sC_32 rfl dX5_readName_26 ?_
      obtain ⟨v5, ev5, h⟩ := g_bnd h
      refine g_callV LX5_38 sC_32 rfl (kX5_fail ev5) rfl rfl (Nat.le_of_ble_eq_true rfl) ⟨Nat.le_of_ble_eq_true rfl, Nat.le_of_ble_eq_true rfl⟩ ⟨Nat.le_of_ble_eq_true rfl, Nat.le_of_ble_eq_true rfl⟩ dX5_readName_29 rfl ?_
      refine g_pop rfl dX5_readName_32 ?_
      refine g_lconst (v := 0) rfl dX5_readName_33 ?_
      cases h
      exact g_lret O ⟨Nat.le_of_ble_eq_true rfl, Nat.le_of_ble_eq_true rfl⟩ dX5_readName_34
theorem kX5_readName {l : Launch} {V : gEnv} {M0 : gMem}   {o : (Int64 × gMem)} (h : fX5_readName M0 = some o) : gM l yX5_readName cX5_readName 1 (some .long) rX5_readName V gShC [.ref (gAd V 32)] M0 (some (.long o.1)) o.2 :=
  gM.of (by decide) (Nat.le_of_ble_eq_true rfl) rfl (fun X _ O => tX5_readName  h O)
theorem dX2_taskNamed_0 : decode cX2_taskNamed 0 = .ok (.iconst 0, 1) := by decide +kernel
theorem dX2_taskNamed_1 : decode cX2_taskNamed 1 = .ok (.istore_n 3, 1) := by decide +kernel
theorem dX2_taskNamed_2 : decode cX2_taskNamed 2 = .ok (.iload_n 3, 1) := by decide +kernel
theorem dX2_taskNamed_3 : decode cX2_taskNamed 3 = .ok (.aload_n 0, 1) := by decide +kernel
theorem dX2_taskNamed_4 : decode cX2_taskNamed 4 = .ok (.getfield 40, 3) := by decide +kernel
theorem dX2_taskNamed_7 : decode cX2_taskNamed 7 = .ok (.if_icmp .ge 22, 3) := by decide +kernel
theorem dX2_taskNamed_10 : decode cX2_taskNamed 10 = .ok (.aload_n 0, 1) := by decide +kernel
theorem dX2_taskNamed_11 : decode cX2_taskNamed 11 = .ok (.getfield 9, 3) := by decide +kernel
theorem dX2_taskNamed_14 : decode cX2_taskNamed 14 = .ok (.iload_n 3, 1) := by decide +kernel
theorem dX2_taskNamed_15 : decode cX2_taskNamed 15 = .ok (.laload, 1) := by decide +kernel
theorem dX2_taskNamed_16 : decode cX2_taskNamed 16 = .ok (.lload_n 1, 1) := by decide +kernel
theorem dX2_taskNamed_17 : decode cX2_taskNamed 17 = .ok (.lcmp, 1) := by decide +kernel
theorem dX2_taskNamed_18 : decode cX2_taskNamed 18 = .ok (.ifCond .ne 5, 3) := by decide +kernel
theorem dX2_taskNamed_21 : decode cX2_taskNamed 21 = .ok (.iload_n 3, 1) := by decide +kernel
theorem dX2_taskNamed_22 : decode cX2_taskNamed 22 = .ok (.ireturn, 1) := by decide +kernel
theorem dX2_taskNamed_23 : decode cX2_taskNamed 23 = .ok (.iinc 3 1, 3) := by decide +kernel
theorem dX2_taskNamed_26 : decode cX2_taskNamed 26 = .ok (.goto (-24), 3) := by decide +kernel
theorem dX2_taskNamed_29 : decode cX2_taskNamed 29 = .ok (.iconst (-1), 1) := by decide +kernel
theorem dX2_taskNamed_30 : decode cX2_taskNamed 30 = .ok (.ireturn, 1) := by decide +kernel
abbrev rX2_taskNamed : Room := { frames := 0, cells := 0, slots := 0, locals := 0 }
abbrev mX2_taskNamed : gY := (cX2_taskNamed, RX2, 4, rX2_taskNamed)
def fX2_taskNamed_l2 (t0 : Nat) (x1 : Int64) (M0 : gMem) (x3 : Int32) : Option (Int32 ⊕ (Unit ⊕ Int32)) :=
  if (M0.1 t0 9) ≤ x3 then (some (.inr (.inl ()))) else (rL M0 (t0 + 1) 24 x3).bind fun v2 => if (lg_cmp v2 x1) = 0 then (some (.inr (.inr x3))) else some (.inl (x3 + (1 : Int32)))
set_option maxRecDepth 20000 in
theorem tX2_taskNamed_l2 {X : gX} {V : gEnv} {t0 : Nat} {x1 : Int64} {M0 : gMem} {x3 : Int32} (ht0 : gNet gShC t0) {o : (Int32 ⊕ (Unit ⊕ Int32))} (h : fX2_taskNamed_l2 t0 x1 M0 x3 = some o) (Kc : ∀ s9, o = .inl s9 → gG X V mX2_taskNamed gShC M0 0 0 2 [(0, .ref (gAd V t0)), (1, .long x1), (3, .int s9)] []) (Kx : ∀ e9, o = .inr (.inl e9) → gG X V mX2_taskNamed gShC M0 0 0 29 [] []) (Kr : ∀ r9, o = .inr (.inr r9) → gO X V mX2_taskNamed gShC (some .int) (some (.int r9)) M0) : gG X V mX2_taskNamed gShC M0 0 0 2 [(0, .ref (gAd V t0)), (1, .long x1), (3, .int x3)] [] := by
  unfold fX2_taskNamed_l2 at h
  refine g_iload_n 2 rfl rfl dX2_taskNamed_2 ?_
  refine g_aload_n 0 rfl rfl dX2_taskNamed_3 ?_
  refine g_getI FX2_40 ht0.1 rfl dX2_taskNamed_4 ?_
  rcases g_ite h with ⟨c1, h⟩ | ⟨c1, h⟩
  · refine g_icmp_ge_t c1 (tgt := 29) rfl dX2_taskNamed_7 ?_
    cases h
    refine g_sub [] rfl ?_
    exact Kx () rfl
  · refine g_icmp_ge_f c1 (tgt := 29) rfl dX2_taskNamed_7 ?_
    refine g_aload_n 0 rfl rfl dX2_taskNamed_10 ?_
    refine g_getR FX2_9 ht0.1 rfl dX2_taskNamed_11 ?_
    refine g_iload_n 2 rfl rfl dX2_taskNamed_14 ?_
    obtain ⟨v2, ev2, h⟩ := g_bnd h
    refine g_lald' ev2 ht0.2.1 dX2_taskNamed_15 ?_
    refine g_lload_n 1 rfl rfl dX2_taskNamed_16 ?_
    refine g_lcmp dX2_taskNamed_17 ?_
    rcases g_ite h with ⟨c3, h⟩ | ⟨c3, h⟩
    · refine g_if_ne_f c3 (tgt := 23) rfl dX2_taskNamed_18 ?_
      refine g_iload_n 2 rfl rfl dX2_taskNamed_21 ?_
      cases h
      exact g_iret (Kr x3 rfl) ⟨Nat.le_of_ble_eq_true rfl, Nat.le_of_ble_eq_true rfl⟩ rfl dX2_taskNamed_22
    · refine g_if_ne_t c3 (tgt := 23) rfl dX2_taskNamed_18 ?_
      refine g_iinc (j := 2) (v := x3 + (1 : Int32)) (ls' := [(3, .int (x3 + (1 : Int32))), (0, .ref (gAd V t0)), (1, .long x1)]) rfl rfl (Nat.le_of_ble_eq_true rfl) rfl dX2_taskNamed_23 ?_
      refine g_goto (tgt := 2) rfl dX2_taskNamed_26 ?_
      cases h
      refine g_sub [1, 2, 0] rfl ?_
      exact Kc (x3 + (1 : Int32)) rfl
def fX2_taskNamed (t0 : Nat) (x1 : Int64) (M0 : gMem) : Option Int32 :=
  (gLoop (fun z9 => fX2_taskNamed_l2 t0 x1 M0 z9) gFu (0 : Int32)).bind fun w4 => gSE w4 (fun y5 => some (-1 : Int32)) (fun r6 => some r6)
set_option maxRecDepth 20000 in
theorem tX2_taskNamed {X : gX} {V : gEnv} {t0 : Nat} {x1 : Int64} {M0 : gMem} (ht0 : gNet gShC t0) {o : Int32} (h : fX2_taskNamed t0 x1 M0 = some o) (O : gO X V mX2_taskNamed gShC (some .int) (some (.int o)) M0) : gG X V mX2_taskNamed gShC M0 0 0 0 [(0, .ref (gAd V t0)), (1, .long x1)] [] := by
  unfold fX2_taskNamed at h
  refine g_iconst (v := 0) rfl dX2_taskNamed_0 ?_
  refine g_istore_n (ls' := [(3, .int (0 : Int32)), (0, .ref (gAd V t0)), (1, .long x1)]) rfl (Nat.le_of_ble_eq_true rfl) rfl dX2_taskNamed_1 ?_
  obtain ⟨w4, ew4, h⟩ := g_bnd h
  refine g_sub [1, 2, 0] rfl ?_
  rcases w4 with y5 | r6
  · have h := g_sl h
    have KX : gG X V mX2_taskNamed gShC M0 0 0 29 [] [] := by
      refine g_iconst (v := -1) rfl dX2_taskNamed_29 ?_
      cases h
      exact g_iret O ⟨Nat.le_of_ble_eq_true rfl, Nat.le_of_ble_eq_true rfl⟩ rfl dX2_taskNamed_30
    exact gLoop_Q ew4 (fun z9 => gG X V mX2_taskNamed gShC M0 0 0 2 [(0, .ref (gAd V t0)), (1, .long x1), (3, .int z9)] []) (fun s9 o9 hb9 hc9 hx9 => tX2_taskNamed_l2 ht0 hb9 hc9 (fun e9 he9 => by cases hx9 _ he9; exact KX) (fun r9 he9 => by cases hx9 _ he9))
  · have h := g_sr h
    cases h
    exact gLoop_Q ew4 (fun z9 => gG X V mX2_taskNamed gShC M0 0 0 2 [(0, .ref (gAd V t0)), (1, .long x1), (3, .int z9)] []) (fun s9 o9 hb9 hc9 hx9 => tX2_taskNamed_l2 ht0 hb9 hc9 (fun e9 he9 => by cases hx9 _ he9) (fun r9 he9 => by cases hx9 _ he9; exact O))
theorem kX2_taskNamed {l : Launch} {V : gEnv} {M0 : gMem} {t0 : Nat} {x1 : Int64} (ht0 : gNet gShC t0) {o : Int32} (h : fX2_taskNamed t0 x1 M0 = some o) : gM l yX2_taskNamed cX2_taskNamed 4 (some .int) rX2_taskNamed V gShC [.ref (gAd V t0), .long x1] M0 (some (.int o)) M0 :=
  gM.of (by decide) (Nat.le_of_ble_eq_true rfl) rfl (fun X _ O => tX2_taskNamed ht0 h O)
theorem dX5_isDigitAt_0 : decode cX5_isDigitAt 0 = .ok (.iload_n 1, 1) := by decide +kernel
theorem dX5_isDigitAt_1 : decode cX5_isDigitAt 1 = .ok (.aload_n 0, 1) := by decide +kernel
theorem dX5_isDigitAt_2 : decode cX5_isDigitAt 2 = .ok (.getfield 15, 3) := by decide +kernel
theorem dX5_isDigitAt_5 : decode cX5_isDigitAt 5 = .ok (.if_icmp .ge 29, 3) := by decide +kernel
theorem dX5_isDigitAt_8 : decode cX5_isDigitAt 8 = .ok (.aload_n 0, 1) := by decide +kernel
theorem dX5_isDigitAt_9 : decode cX5_isDigitAt 9 = .ok (.getfield 9, 3) := by decide +kernel
theorem dX5_isDigitAt_12 : decode cX5_isDigitAt 12 = .ok (.iload_n 1, 1) := by decide +kernel
theorem dX5_isDigitAt_13 : decode cX5_isDigitAt 13 = .ok (.baload, 1) := by decide +kernel
theorem dX5_isDigitAt_14 : decode cX5_isDigitAt 14 = .ok (.bipush 48, 2) := by decide +kernel
theorem dX5_isDigitAt_16 : decode cX5_isDigitAt 16 = .ok (.if_icmp .lt 18, 3) := by decide +kernel
theorem dX5_isDigitAt_19 : decode cX5_isDigitAt 19 = .ok (.aload_n 0, 1) := by decide +kernel
theorem dX5_isDigitAt_20 : decode cX5_isDigitAt 20 = .ok (.getfield 9, 3) := by decide +kernel
theorem dX5_isDigitAt_23 : decode cX5_isDigitAt 23 = .ok (.iload_n 1, 1) := by decide +kernel
theorem dX5_isDigitAt_24 : decode cX5_isDigitAt 24 = .ok (.baload, 1) := by decide +kernel
theorem dX5_isDigitAt_25 : decode cX5_isDigitAt 25 = .ok (.bipush 57, 2) := by decide +kernel
theorem dX5_isDigitAt_27 : decode cX5_isDigitAt 27 = .ok (.if_icmp .gt 7, 3) := by decide +kernel
theorem dX5_isDigitAt_30 : decode cX5_isDigitAt 30 = .ok (.iconst 1, 1) := by decide +kernel
theorem dX5_isDigitAt_31 : decode cX5_isDigitAt 31 = .ok (.goto 4, 3) := by decide +kernel
theorem dX5_isDigitAt_34 : decode cX5_isDigitAt 34 = .ok (.iconst 0, 1) := by decide +kernel
theorem dX5_isDigitAt_35 : decode cX5_isDigitAt 35 = .ok (.ireturn, 1) := by decide +kernel
abbrev rX5_isDigitAt : Room := { frames := 0, cells := 0, slots := 0, locals := 0 }
abbrev mX5_isDigitAt : gY := (cX5_isDigitAt, RX5, 2, rX5_isDigitAt)
def fX5_isDigitAt (x1 : Int32) (M0 : gMem) : Option Int32 :=
  if (M0.1 32 1) ≤ x1 then (some (0 : Int32)) else (rI M0 33 900 x1).bind fun v2 => if v2 < (48 : Int32) then (some (0 : Int32)) else (rI M0 33 900 x1).bind fun v4 => if (57 : Int32) < v4 then (some (0 : Int32)) else some (1 : Int32)
set_option maxRecDepth 20000 in
theorem tX5_isDigitAt {X : gX} {V : gEnv} {x1 : Int32} {M0 : gMem}  {o : Int32} (h : fX5_isDigitAt x1 M0 = some o) (O : gO X V mX5_isDigitAt gShC (some .boolean) (some (.int o)) M0) : gG X V mX5_isDigitAt gShC M0 0 0 0 [(0, .ref (gAd V 32)), (1, .int x1)] [] := by
  unfold fX5_isDigitAt at h
  refine g_iload_n 1 rfl rfl dX5_isDigitAt_0 ?_
  refine g_aload_n 0 rfl rfl dX5_isDigitAt_1 ?_
  refine g_getI FX5_15 sC_32 rfl dX5_isDigitAt_2 ?_
  rcases g_ite h with ⟨c1, h⟩ | ⟨c1, h⟩
  · refine g_icmp_ge_t c1 (tgt := 34) rfl dX5_isDigitAt_5 ?_
    refine g_iconst (v := 0) rfl dX5_isDigitAt_34 ?_
    cases h
    exact g_iret O ⟨Nat.le_of_ble_eq_true rfl, Nat.le_of_ble_eq_true rfl⟩ rfl dX5_isDigitAt_35
  · refine g_icmp_ge_f c1 (tgt := 34) rfl dX5_isDigitAt_5 ?_
    refine g_aload_n 0 rfl rfl dX5_isDigitAt_8 ?_
    refine g_getR FX5_9 sC_32 rfl dX5_isDigitAt_9 ?_
    refine g_iload_n 1 rfl rfl dX5_isDigitAt_12 ?_
    obtain ⟨v2, ev2, h⟩ := g_bnd h
    refine g_bald' ev2 sC_33 dX5_isDigitAt_13 ?_
    refine g_bipush (v := 48) rfl dX5_isDigitAt_14 ?_
    rcases g_ite h with ⟨c3, h⟩ | ⟨c3, h⟩
    · refine g_icmp_lt_t c3 (tgt := 34) rfl dX5_isDigitAt_16 ?_
      refine g_iconst (v := 0) rfl dX5_isDigitAt_34 ?_
      cases h
      exact g_iret O ⟨Nat.le_of_ble_eq_true rfl, Nat.le_of_ble_eq_true rfl⟩ rfl dX5_isDigitAt_35
    · refine g_icmp_lt_f c3 (tgt := 34) rfl dX5_isDigitAt_16 ?_
      refine g_aload_n 0 rfl rfl dX5_isDigitAt_19 ?_
      refine g_getR FX5_9 sC_32 rfl dX5_isDigitAt_20 ?_
      refine g_iload_n 1 rfl rfl dX5_isDigitAt_23 ?_
      obtain ⟨v4, ev4, h⟩ := g_bnd h
      refine g_bald' ev4 sC_33 dX5_isDigitAt_24 ?_
      refine g_bipush (v := 57) rfl dX5_isDigitAt_25 ?_
      rcases g_ite h with ⟨c5, h⟩ | ⟨c5, h⟩
      · refine g_icmp_gt_t c5 (tgt := 34) rfl dX5_isDigitAt_27 ?_
        refine g_iconst (v := 0) rfl dX5_isDigitAt_34 ?_
        cases h
        exact g_iret O ⟨Nat.le_of_ble_eq_true rfl, Nat.le_of_ble_eq_true rfl⟩ rfl dX5_isDigitAt_35
      · refine g_icmp_gt_f c5 (tgt := 34) rfl dX5_isDigitAt_27 ?_
        refine g_iconst (v := 1) rfl dX5_isDigitAt_30 ?_
        refine g_goto (tgt := 35) rfl dX5_isDigitAt_31 ?_
        cases h
        exact g_iret O ⟨Nat.le_of_ble_eq_true rfl, Nat.le_of_ble_eq_true rfl⟩ rfl dX5_isDigitAt_35
theorem kX5_isDigitAt {l : Launch} {V : gEnv} {M0 : gMem} {x1 : Int32}  {o : Int32} (h : fX5_isDigitAt x1 M0 = some o) : gM l yX5_isDigitAt cX5_isDigitAt 2 (some .boolean) rX5_isDigitAt V gShC [.ref (gAd V 32), .int x1] M0 (some (.int o)) M0 :=
  gM.of (by decide) (Nat.le_of_ble_eq_true rfl) rfl (fun X _ O => tX5_isDigitAt  h O)
theorem dX5_readNumber_0 : decode cX5_readNumber 0 = .ok (.aload_n 0, 1) := by decide +kernel
theorem dX5_readNumber_1 : decode cX5_readNumber 1 = .ok (.invokevirtual 31, 3) := by decide +kernel
theorem dX5_readNumber_4 : decode cX5_readNumber 4 = .ok (.aload_n 0, 1) := by decide +kernel
theorem dX5_readNumber_5 : decode cX5_readNumber 5 = .ok (.aload_n 0, 1) := by decide +kernel
theorem dX5_readNumber_6 : decode cX5_readNumber 6 = .ok (.getfield 19, 3) := by decide +kernel
theorem dX5_readNumber_9 : decode cX5_readNumber 9 = .ok (.putfield 22, 3) := by decide +kernel
theorem dX5_readNumber_12 : decode cX5_readNumber 12 = .ok (.iconst 0, 1) := by decide +kernel
theorem dX5_readNumber_13 : decode cX5_readNumber 13 = .ok (.istore_n 3, 1) := by decide +kernel
theorem dX5_readNumber_14 : decode cX5_readNumber 14 = .ok (.aload_n 0, 1) := by decide +kernel
theorem dX5_readNumber_15 : decode cX5_readNumber 15 = .ok (.getfield 19, 3) := by decide +kernel
theorem dX5_readNumber_18 : decode cX5_readNumber 18 = .ok (.sipush 900, 3) := by decide +kernel
theorem dX5_readNumber_21 : decode cX5_readNumber 21 = .ok (.if_icmp .ge 45, 3) := by decide +kernel
theorem dX5_readNumber_24 : decode cX5_readNumber 24 = .ok (.aload_n 0, 1) := by decide +kernel
theorem dX5_readNumber_25 : decode cX5_readNumber 25 = .ok (.aload_n 0, 1) := by decide +kernel
theorem dX5_readNumber_26 : decode cX5_readNumber 26 = .ok (.getfield 19, 3) := by decide +kernel
theorem dX5_readNumber_29 : decode cX5_readNumber 29 = .ok (.invokevirtual 70, 3) := by decide +kernel
theorem dX5_readNumber_32 : decode cX5_readNumber 32 = .ok (.ifCond .eq 34, 3) := by decide +kernel
theorem dX5_readNumber_35 : decode cX5_readNumber 35 = .ok (.iload_n 3, 1) := by decide +kernel
theorem dX5_readNumber_36 : decode cX5_readNumber 36 = .ok (.bipush 10, 2) := by decide +kernel
theorem dX5_readNumber_38 : decode cX5_readNumber 38 = .ok (.imul, 1) := by decide +kernel
theorem dX5_readNumber_39 : decode cX5_readNumber 39 = .ok (.aload_n 0, 1) := by decide +kernel
theorem dX5_readNumber_40 : decode cX5_readNumber 40 = .ok (.getfield 9, 3) := by decide +kernel
theorem dX5_readNumber_43 : decode cX5_readNumber 43 = .ok (.aload_n 0, 1) := by decide +kernel
theorem dX5_readNumber_44 : decode cX5_readNumber 44 = .ok (.getfield 19, 3) := by decide +kernel
theorem dX5_readNumber_47 : decode cX5_readNumber 47 = .ok (.baload, 1) := by decide +kernel
theorem dX5_readNumber_48 : decode cX5_readNumber 48 = .ok (.iadd, 1) := by decide +kernel
theorem dX5_readNumber_49 : decode cX5_readNumber 49 = .ok (.bipush 48, 2) := by decide +kernel
theorem dX5_readNumber_51 : decode cX5_readNumber 51 = .ok (.isub, 1) := by decide +kernel
theorem dX5_readNumber_52 : decode cX5_readNumber 52 = .ok (.istore_n 3, 1) := by decide +kernel
theorem dX5_readNumber_53 : decode cX5_readNumber 53 = .ok (.aload_n 0, 1) := by decide +kernel
theorem dX5_readNumber_54 : decode cX5_readNumber 54 = .ok (.dup, 1) := by decide +kernel
theorem dX5_readNumber_55 : decode cX5_readNumber 55 = .ok (.getfield 19, 3) := by decide +kernel
theorem dX5_readNumber_58 : decode cX5_readNumber 58 = .ok (.iconst 1, 1) := by decide +kernel
theorem dX5_readNumber_59 : decode cX5_readNumber 59 = .ok (.iadd, 1) := by decide +kernel
theorem dX5_readNumber_60 : decode cX5_readNumber 60 = .ok (.putfield 19, 3) := by decide +kernel
theorem dX5_readNumber_63 : decode cX5_readNumber 63 = .ok (.goto (-49), 3) := by decide +kernel
theorem dX5_readNumber_66 : decode cX5_readNumber 66 = .ok (.aload_n 0, 1) := by decide +kernel
theorem dX5_readNumber_67 : decode cX5_readNumber 67 = .ok (.getfield 19, 3) := by decide +kernel
theorem dX5_readNumber_70 : decode cX5_readNumber 70 = .ok (.aload_n 0, 1) := by decide +kernel
theorem dX5_readNumber_71 : decode cX5_readNumber 71 = .ok (.getfield 22, 3) := by decide +kernel
theorem dX5_readNumber_74 : decode cX5_readNumber 74 = .ok (.if_icmp .eq 16, 3) := by decide +kernel
theorem dX5_readNumber_77 : decode cX5_readNumber 77 = .ok (.aload_n 0, 1) := by decide +kernel
theorem dX5_readNumber_78 : decode cX5_readNumber 78 = .ok (.getfield 19, 3) := by decide +kernel
theorem dX5_readNumber_81 : decode cX5_readNumber 81 = .ok (.aload_n 0, 1) := by decide +kernel
theorem dX5_readNumber_82 : decode cX5_readNumber 82 = .ok (.getfield 22, 3) := by decide +kernel
theorem dX5_readNumber_85 : decode cX5_readNumber 85 = .ok (.isub, 1) := by decide +kernel
theorem dX5_readNumber_86 : decode cX5_readNumber 86 = .ok (.iconst 3, 1) := by decide +kernel
theorem dX5_readNumber_87 : decode cX5_readNumber 87 = .ok (.if_icmp .le 15, 3) := by decide +kernel
theorem dX5_readNumber_90 : decode cX5_readNumber 90 = .ok (.aload_n 0, 1) := by decide +kernel
theorem dX5_readNumber_91 : decode cX5_readNumber 91 = .ok (.iconst 1, 1) := by decide +kernel
theorem dX5_readNumber_92 : decode cX5_readNumber 92 = .ok (.aload_n 0, 1) := by decide +kernel
theorem dX5_readNumber_93 : decode cX5_readNumber 93 = .ok (.getfield 22, 3) := by decide +kernel
theorem dX5_readNumber_96 : decode cX5_readNumber 96 = .ok (.invokevirtual 38, 3) := by decide +kernel
theorem dX5_readNumber_99 : decode cX5_readNumber 99 = .ok (.pop, 1) := by decide +kernel
theorem dX5_readNumber_100 : decode cX5_readNumber 100 = .ok (.iconst (-1), 1) := by decide +kernel
theorem dX5_readNumber_101 : decode cX5_readNumber 101 = .ok (.ireturn, 1) := by decide +kernel
theorem dX5_readNumber_102 : decode cX5_readNumber 102 = .ok (.iload_n 3, 1) := by decide +kernel
theorem dX5_readNumber_103 : decode cX5_readNumber 103 = .ok (.iload_n 1, 1) := by decide +kernel
theorem dX5_readNumber_104 : decode cX5_readNumber 104 = .ok (.if_icmp .lt 8, 3) := by decide +kernel
theorem dX5_readNumber_107 : decode cX5_readNumber 107 = .ok (.iload_n 3, 1) := by decide +kernel
theorem dX5_readNumber_108 : decode cX5_readNumber 108 = .ok (.iload_n 2, 1) := by decide +kernel
theorem dX5_readNumber_109 : decode cX5_readNumber 109 = .ok (.if_icmp .le 15, 3) := by decide +kernel
theorem dX5_readNumber_112 : decode cX5_readNumber 112 = .ok (.aload_n 0, 1) := by decide +kernel
theorem dX5_readNumber_113 : decode cX5_readNumber 113 = .ok (.iconst 2, 1) := by decide +kernel
theorem dX5_readNumber_114 : decode cX5_readNumber 114 = .ok (.aload_n 0, 1) := by decide +kernel
theorem dX5_readNumber_115 : decode cX5_readNumber 115 = .ok (.getfield 22, 3) := by decide +kernel
theorem dX5_readNumber_118 : decode cX5_readNumber 118 = .ok (.invokevirtual 38, 3) := by decide +kernel
theorem dX5_readNumber_121 : decode cX5_readNumber 121 = .ok (.pop, 1) := by decide +kernel
theorem dX5_readNumber_122 : decode cX5_readNumber 122 = .ok (.iconst (-1), 1) := by decide +kernel
theorem dX5_readNumber_123 : decode cX5_readNumber 123 = .ok (.ireturn, 1) := by decide +kernel
theorem dX5_readNumber_124 : decode cX5_readNumber 124 = .ok (.iload_n 3, 1) := by decide +kernel
theorem dX5_readNumber_125 : decode cX5_readNumber 125 = .ok (.ireturn, 1) := by decide +kernel
abbrev rX5_readNumber : Room := { frames := 1, cells := 0, slots := 0, locals := 22 }
abbrev mX5_readNumber : gY := (cX5_readNumber, RX5, 4, rX5_readNumber)
def fX5_readNumber_l14 (x1 : Int32) (x2 : Int32) (x3 : Int32) (M0 : gMem) : Option ((Int32 × gMem) ⊕ (Int32 × gMem)) :=
  if (900 : Int32) ≤ (M0.1 32 2) then (some (.inr (x3, M0))) else (fX5_isDigitAt (M0.1 32 2) M0).bind fun v4 => if v4 = 0 then (some (.inr (x3, M0))) else (rI M0 33 900 (M0.1 32 2)).bind fun v6 => (nm (((x3 * (10 : Int32)) + v6) - (48 : Int32))).bind fun v7 => (wF M0 32 2 ((M0.1 32 2) + (1 : Int32))).bind fun M8 => some (.inl (v7, M8))
set_option maxRecDepth 20000 in
theorem tX5_readNumber_l14 {X : gX} {V : gEnv} {x1 : Int32} {x2 : Int32} {x3 : Int32} {M0 : gMem}  {o : ((Int32 × gMem) ⊕ (Int32 × gMem))} (h : fX5_readNumber_l14 x1 x2 x3 M0 = some o) (Kc : ∀ s9, o = .inl s9 → gG X V mX5_readNumber gShC s9.2 0 0 14 [(0, .ref (gAd V 32)), (1, .int x1), (2, .int x2), (3, .int s9.1)] []) (Kx : ∀ e9, o = .inr e9 → gG X V mX5_readNumber gShC e9.2 0 0 66 [(0, .ref (gAd V 32)), (1, .int x1), (2, .int x2), (3, .int e9.1)] []) : gG X V mX5_readNumber gShC M0 0 0 14 [(0, .ref (gAd V 32)), (1, .int x1), (2, .int x2), (3, .int x3)] [] := by
  unfold fX5_readNumber_l14 at h
  refine g_aload_n 0 rfl rfl dX5_readNumber_14 ?_
  refine g_getI FX5_19 sC_32 rfl dX5_readNumber_15 ?_
  refine g_sipush (v := 900) rfl dX5_readNumber_18 ?_
  rcases g_ite h with ⟨c3, h⟩ | ⟨c3, h⟩
  · refine g_icmp_ge_t c3 (tgt := 66) rfl dX5_readNumber_21 ?_
    cases h
    exact Kx (x3, M0) rfl
  · refine g_icmp_ge_f c3 (tgt := 66) rfl dX5_readNumber_21 ?_
    refine g_aload_n 0 rfl rfl dX5_readNumber_24 ?_
    refine g_aload_n 0 rfl rfl dX5_readNumber_25 ?_
    refine g_getI FX5_19 sC_32 rfl dX5_readNumber_26 ?_
    obtain ⟨v4, ev4, h⟩ := g_bnd h
    refine g_callV LX5_70 sC_32 rfl (kX5_isDigitAt ev4) rfl rfl (Nat.le_of_ble_eq_true rfl) ⟨Nat.le_of_ble_eq_true rfl, Nat.le_of_ble_eq_true rfl⟩ ⟨Nat.le_of_ble_eq_true rfl, Nat.le_of_ble_eq_true rfl⟩ dX5_readNumber_29 rfl ?_
    rcases g_ite h with ⟨c5, h⟩ | ⟨c5, h⟩
    · refine g_if_eq_t c5 (tgt := 66) rfl dX5_readNumber_32 ?_
      cases h
      exact Kx (x3, M0) rfl
    · refine g_if_eq_f c5 (tgt := 66) rfl dX5_readNumber_32 ?_
      refine g_iload_n 3 rfl rfl dX5_readNumber_35 ?_
      refine g_bipush (v := 10) rfl dX5_readNumber_36 ?_
      refine g_imul dX5_readNumber_38 ?_
      refine g_aload_n 0 rfl rfl dX5_readNumber_39 ?_
      refine g_getR FX5_9 sC_32 rfl dX5_readNumber_40 ?_
      refine g_aload_n 0 rfl rfl dX5_readNumber_43 ?_
      refine g_getI FX5_19 sC_32 rfl dX5_readNumber_44 ?_
      obtain ⟨v6, ev6, h⟩ := g_bnd h
      refine g_bald' ev6 sC_33 dX5_readNumber_47 ?_
      refine g_iadd dX5_readNumber_48 ?_
      refine g_bipush (v := 48) rfl dX5_readNumber_49 ?_
      refine g_isub dX5_readNumber_51 ?_
      obtain ⟨v7, ev7, h⟩ := g_bnd h
      refine g_nmI ev7 ?_
      refine g_istore_n (ls' := [(3, .int v7), (0, .ref (gAd V 32)), (1, .int x1), (2, .int x2)]) rfl (Nat.le_of_ble_eq_true rfl) rfl dX5_readNumber_52 ?_
      refine g_aload_n 1 rfl rfl dX5_readNumber_53 ?_
      refine g_dup rfl dX5_readNumber_54 ?_
      refine g_getI FX5_19 sC_32 rfl dX5_readNumber_55 ?_
      refine g_iconst (v := 1) rfl dX5_readNumber_58 ?_
      refine g_iadd dX5_readNumber_59 ?_
      obtain ⟨M8, eM8, h⟩ := g_bnd h
      refine g_putI' eM8 FX5_19 jX5 sC_32 rfl rfl rfl dX5_readNumber_60 ?_
      refine g_goto (tgt := 14) rfl dX5_readNumber_63 ?_
      cases h
      refine g_sub [1, 2, 3, 0] rfl ?_
      exact Kc (v7, M8) rfl
def fX5_readNumber_b90 (M0 : gMem) : Option (Int32 × gMem) :=
  (fX5_fail (1 : Int32) (M0.1 32 3) M0).bind fun v11 => some ((-1 : Int32), v11.2)
set_option maxRecDepth 20000 in
theorem tX5_readNumber_b90 {X : gX} {V : gEnv} {M0 : gMem}  {o : (Int32 × gMem)} (h : fX5_readNumber_b90 M0 = some o) (O : gO X V mX5_readNumber gShC (some .int) (some (.int o.1)) o.2) : gG X V mX5_readNumber gShC M0 0 0 90 [(0, .ref (gAd V 32))] [] := by
  unfold fX5_readNumber_b90 at h
  refine g_aload_n 0 rfl rfl dX5_readNumber_90 ?_
  refine g_iconst (v := 1) rfl dX5_readNumber_91 ?_
  refine g_aload_n 0 rfl rfl dX5_readNumber_92 ?_
  refine g_getI FX5_22 sC_32 rfl dX5_readNumber_93 ?_
  obtain ⟨v11, ev11, h⟩ := g_bnd h
  refine g_callV LX5_38 sC_32 rfl (kX5_fail ev11) rfl rfl (Nat.le_of_ble_eq_true rfl) ⟨Nat.le_of_ble_eq_true rfl, Nat.le_of_ble_eq_true rfl⟩ ⟨Nat.le_of_ble_eq_true rfl, Nat.le_of_ble_eq_true rfl⟩ dX5_readNumber_96 rfl ?_
  refine g_pop rfl dX5_readNumber_99 ?_
  refine g_iconst (v := -1) rfl dX5_readNumber_100 ?_
  cases h
  exact g_iret O ⟨Nat.le_of_ble_eq_true rfl, Nat.le_of_ble_eq_true rfl⟩ rfl dX5_readNumber_101
def fX5_readNumber_b112 (M0 : gMem) : Option (Int32 × gMem) :=
  (fX5_fail (2 : Int32) (M0.1 32 3) M0).bind fun v14 => some ((-1 : Int32), v14.2)
set_option maxRecDepth 20000 in
theorem tX5_readNumber_b112 {X : gX} {V : gEnv} {M0 : gMem}  {o : (Int32 × gMem)} (h : fX5_readNumber_b112 M0 = some o) (O : gO X V mX5_readNumber gShC (some .int) (some (.int o.1)) o.2) : gG X V mX5_readNumber gShC M0 0 0 112 [(0, .ref (gAd V 32))] [] := by
  unfold fX5_readNumber_b112 at h
  refine g_aload_n 0 rfl rfl dX5_readNumber_112 ?_
  refine g_iconst (v := 2) rfl dX5_readNumber_113 ?_
  refine g_aload_n 0 rfl rfl dX5_readNumber_114 ?_
  refine g_getI FX5_22 sC_32 rfl dX5_readNumber_115 ?_
  obtain ⟨v14, ev14, h⟩ := g_bnd h
  refine g_callV LX5_38 sC_32 rfl (kX5_fail ev14) rfl rfl (Nat.le_of_ble_eq_true rfl) ⟨Nat.le_of_ble_eq_true rfl, Nat.le_of_ble_eq_true rfl⟩ ⟨Nat.le_of_ble_eq_true rfl, Nat.le_of_ble_eq_true rfl⟩ dX5_readNumber_118 rfl ?_
  refine g_pop rfl dX5_readNumber_121 ?_
  refine g_iconst (v := -1) rfl dX5_readNumber_122 ?_
  cases h
  exact g_iret O ⟨Nat.le_of_ble_eq_true rfl, Nat.le_of_ble_eq_true rfl⟩ rfl dX5_readNumber_123
def fX5_readNumber_b66 (x1 : Int32) (x2 : Int32) (x3 : Int32) (M0 : gMem) : Option (Int32 × gMem) :=
  if (M0.1 32 2) = (M0.1 32 3) then (fX5_readNumber_b90 M0) else if ((M0.1 32 2) - (M0.1 32 3)) ≤ (3 : Int32) then (if x3 < x1 then (fX5_readNumber_b112 M0) else if x3 ≤ x2 then (some (x3, M0)) else fX5_readNumber_b112 M0) else fX5_readNumber_b90 M0
set_option maxRecDepth 20000 in
theorem tX5_readNumber_b66 {X : gX} {V : gEnv} {x1 : Int32} {x2 : Int32} {x3 : Int32} {M0 : gMem}  {o : (Int32 × gMem)} (h : fX5_readNumber_b66 x1 x2 x3 M0 = some o) (O : gO X V mX5_readNumber gShC (some .int) (some (.int o.1)) o.2) : gG X V mX5_readNumber gShC M0 0 0 66 [(0, .ref (gAd V 32)), (1, .int x1), (2, .int x2), (3, .int x3)] [] := by
  unfold fX5_readNumber_b66 at h
  refine g_aload_n 0 rfl rfl dX5_readNumber_66 ?_
  refine g_getI FX5_19 sC_32 rfl dX5_readNumber_67 ?_
  refine g_aload_n 0 rfl rfl dX5_readNumber_70 ?_
  refine g_getI FX5_22 sC_32 rfl dX5_readNumber_71 ?_
  rcases g_ite h with ⟨c10, h⟩ | ⟨c10, h⟩
  · refine g_icmp_eq_t c10 (tgt := 90) rfl dX5_readNumber_74 ?_
    refine g_sub [0] rfl ?_
    exact tX5_readNumber_b90  h O
  · refine g_icmp_eq_f c10 (tgt := 90) rfl dX5_readNumber_74 ?_
    refine g_aload_n 0 rfl rfl dX5_readNumber_77 ?_
    refine g_getI FX5_19 sC_32 rfl dX5_readNumber_78 ?_
    refine g_aload_n 0 rfl rfl dX5_readNumber_81 ?_
    refine g_getI FX5_22 sC_32 rfl dX5_readNumber_82 ?_
    refine g_isub dX5_readNumber_85 ?_
    refine g_iconst (v := 3) rfl dX5_readNumber_86 ?_
    rcases g_ite h with ⟨c12, h⟩ | ⟨c12, h⟩
    · refine g_icmp_le_t c12 (tgt := 102) rfl dX5_readNumber_87 ?_
      refine g_iload_n 3 rfl rfl dX5_readNumber_102 ?_
      refine g_iload_n 1 rfl rfl dX5_readNumber_103 ?_
      rcases g_ite h with ⟨c13, h⟩ | ⟨c13, h⟩
      · refine g_icmp_lt_t c13 (tgt := 112) rfl dX5_readNumber_104 ?_
        refine g_sub [0] rfl ?_
        exact tX5_readNumber_b112  h O
      · refine g_icmp_lt_f c13 (tgt := 112) rfl dX5_readNumber_104 ?_
        refine g_iload_n 3 rfl rfl dX5_readNumber_107 ?_
        refine g_iload_n 2 rfl rfl dX5_readNumber_108 ?_
        rcases g_ite h with ⟨c15, h⟩ | ⟨c15, h⟩
        · refine g_icmp_le_t c15 (tgt := 124) rfl dX5_readNumber_109 ?_
          refine g_iload_n 3 rfl rfl dX5_readNumber_124 ?_
          cases h
          exact g_iret O ⟨Nat.le_of_ble_eq_true rfl, Nat.le_of_ble_eq_true rfl⟩ rfl dX5_readNumber_125
        · refine g_icmp_le_f c15 (tgt := 124) rfl dX5_readNumber_109 ?_
          refine g_sub [0] rfl ?_
          exact tX5_readNumber_b112  h O
    · refine g_icmp_le_f c12 (tgt := 102) rfl dX5_readNumber_87 ?_
      refine g_sub [0] rfl ?_
      exact tX5_readNumber_b90  h O
def fX5_readNumber (x1 : Int32) (x2 : Int32) (M0 : gMem) : Option (Int32 × gMem) :=
  (fX5_skipSpaces M0).bind fun v1 => (wF v1 32 3 (v1.1 32 2)).bind fun M2 => (gLoop (fun z9 => fX5_readNumber_l14 x1 x2 z9.1 z9.2) gFu ((0 : Int32), M2)).bind fun w9 => fX5_readNumber_b66 x1 x2 w9.1 w9.2
set_option maxRecDepth 20000 in
theorem tX5_readNumber {X : gX} {V : gEnv} {x1 : Int32} {x2 : Int32} {M0 : gMem}  {o : (Int32 × gMem)} (h : fX5_readNumber x1 x2 M0 = some o) (O : gO X V mX5_readNumber gShC (some .int) (some (.int o.1)) o.2) : gG X V mX5_readNumber gShC M0 0 0 0 [(0, .ref (gAd V 32)), (1, .int x1), (2, .int x2)] [] := by
  unfold fX5_readNumber at h
  refine g_aload_n 0 rfl rfl dX5_readNumber_0 ?_
  obtain ⟨v1, ev1, h⟩ := g_bnd h
  refine g_callV LX5_31 sC_32 rfl (kX5_skipSpaces ev1) rfl rfl (Nat.le_of_ble_eq_true rfl) ⟨Nat.le_of_ble_eq_true rfl, Nat.le_of_ble_eq_true rfl⟩ ⟨Nat.le_of_ble_eq_true rfl, Nat.le_of_ble_eq_true rfl⟩ dX5_readNumber_1 rfl ?_
  refine g_aload_n 0 rfl rfl dX5_readNumber_4 ?_
  refine g_aload_n 0 rfl rfl dX5_readNumber_5 ?_
  refine g_getI FX5_19 sC_32 rfl dX5_readNumber_6 ?_
  obtain ⟨M2, eM2, h⟩ := g_bnd h
  refine g_putI' eM2 FX5_22 jX5 sC_32 rfl rfl rfl dX5_readNumber_9 ?_
  refine g_iconst (v := 0) rfl dX5_readNumber_12 ?_
  refine g_istore_n (ls' := [(3, .int (0 : Int32)), (0, .ref (gAd V 32)), (1, .int x1), (2, .int x2)]) rfl (Nat.le_of_ble_eq_true rfl) rfl dX5_readNumber_13 ?_
  obtain ⟨w9, ew9, h⟩ := g_bnd h
  refine g_sub [1, 2, 3, 0] rfl ?_
  have KX : gG X V mX5_readNumber gShC w9.2 0 0 66 [(0, .ref (gAd V 32)), (1, .int x1), (2, .int x2), (3, .int w9.1)] [] := by
    exact tX5_readNumber_b66  h O
  exact gLoop_Q ew9 (fun z9 => gG X V mX5_readNumber gShC z9.2 0 0 14 [(0, .ref (gAd V 32)), (1, .int x1), (2, .int x2), (3, .int z9.1)] []) (fun s9 o9 hb9 hc9 hx9 => tX5_readNumber_l14  hb9 hc9 (fun e9 he9 => by cases hx9 _ he9; exact KX))
theorem kX5_readNumber {l : Launch} {V : gEnv} {M0 : gMem} {x1 : Int32} {x2 : Int32}  {o : (Int32 × gMem)} (h : fX5_readNumber x1 x2 M0 = some o) : gM l yX5_readNumber cX5_readNumber 4 (some .int) rX5_readNumber V gShC [.ref (gAd V 32), .int x1, .int x2] M0 (some (.int o.1)) o.2 :=
  gM.of (by decide) (Nat.le_of_ble_eq_true rfl) rfl (fun X _ O => tX5_readNumber  h O)
theorem dX2_addTask_0 : decode cX2_addTask 0 = .ok (.aload_n 0, 1) := by decide +kernel
theorem dX2_addTask_1 : decode cX2_addTask 1 = .ok (.getfield 40, 3) := by decide +kernel
theorem dX2_addTask_4 : decode cX2_addTask 4 = .ok (.bipush 24, 2) := by decide +kernel
theorem dX2_addTask_6 : decode cX2_addTask 6 = .ok (.if_icmp .ge 12, 3) := by decide +kernel
theorem dX2_addTask_9 : decode cX2_addTask 9 = .ok (.aload_n 0, 1) := by decide +kernel
theorem dX2_addTask_10 : decode cX2_addTask 10 = .ok (.getfield 47, 3) := by decide +kernel
theorem dX2_addTask_13 : decode cX2_addTask 13 = .ok (.bipush 24, 2) := by decide +kernel
theorem dX2_addTask_15 : decode cX2_addTask 15 = .ok (.if_icmp .lt 4, 3) := by decide +kernel
theorem dX2_addTask_18 : decode cX2_addTask 18 = .ok (.return_, 1) := by decide +kernel
theorem dX2_addTask_19 : decode cX2_addTask 19 = .ok (.aload_n 0, 1) := by decide +kernel
theorem dX2_addTask_20 : decode cX2_addTask 20 = .ok (.getfield 9, 3) := by decide +kernel
theorem dX2_addTask_23 : decode cX2_addTask 23 = .ok (.aload_n 0, 1) := by decide +kernel
theorem dX2_addTask_24 : decode cX2_addTask 24 = .ok (.getfield 40, 3) := by decide +kernel
theorem dX2_addTask_27 : decode cX2_addTask 27 = .ok (.lload_n 1, 1) := by decide +kernel
theorem dX2_addTask_28 : decode cX2_addTask 28 = .ok (.lastore, 1) := by decide +kernel
theorem dX2_addTask_29 : decode cX2_addTask 29 = .ok (.aload_n 0, 1) := by decide +kernel
theorem dX2_addTask_30 : decode cX2_addTask 30 = .ok (.getfield 15, 3) := by decide +kernel
theorem dX2_addTask_33 : decode cX2_addTask 33 = .ok (.aload_n 0, 1) := by decide +kernel
theorem dX2_addTask_34 : decode cX2_addTask 34 = .ok (.getfield 40, 3) := by decide +kernel
theorem dX2_addTask_37 : decode cX2_addTask 37 = .ok (.iload_n 3, 1) := by decide +kernel
theorem dX2_addTask_38 : decode cX2_addTask 38 = .ok (.iastore, 1) := by decide +kernel
theorem dX2_addTask_39 : decode cX2_addTask 39 = .ok (.aload_n 0, 1) := by decide +kernel
theorem dX2_addTask_40 : decode cX2_addTask 40 = .ok (.getfield 25, 3) := by decide +kernel
theorem dX2_addTask_43 : decode cX2_addTask 43 = .ok (.aload_n 0, 1) := by decide +kernel
theorem dX2_addTask_44 : decode cX2_addTask 44 = .ok (.getfield 40, 3) := by decide +kernel
theorem dX2_addTask_47 : decode cX2_addTask 47 = .ok (.iconst 0, 1) := by decide +kernel
theorem dX2_addTask_48 : decode cX2_addTask 48 = .ok (.iastore, 1) := by decide +kernel
theorem dX2_addTask_49 : decode cX2_addTask 49 = .ok (.aload_n 0, 1) := by decide +kernel
theorem dX2_addTask_50 : decode cX2_addTask 50 = .ok (.getfield 28, 3) := by decide +kernel
theorem dX2_addTask_53 : decode cX2_addTask 53 = .ok (.aload_n 0, 1) := by decide +kernel
theorem dX2_addTask_54 : decode cX2_addTask 54 = .ok (.getfield 40, 3) := by decide +kernel
theorem dX2_addTask_57 : decode cX2_addTask 57 = .ok (.iconst 1, 1) := by decide +kernel
theorem dX2_addTask_58 : decode cX2_addTask 58 = .ok (.aload_n 0, 1) := by decide +kernel
theorem dX2_addTask_59 : decode cX2_addTask 59 = .ok (.getfield 40, 3) := by decide +kernel
theorem dX2_addTask_62 : decode cX2_addTask 62 = .ok (.ishl, 1) := by decide +kernel
theorem dX2_addTask_63 : decode cX2_addTask 63 = .ok (.iastore, 1) := by decide +kernel
theorem dX2_addTask_64 : decode cX2_addTask 64 = .ok (.aload_n 0, 1) := by decide +kernel
theorem dX2_addTask_65 : decode cX2_addTask 65 = .ok (.getfield 34, 3) := by decide +kernel
theorem dX2_addTask_68 : decode cX2_addTask 68 = .ok (.aload_n 0, 1) := by decide +kernel
theorem dX2_addTask_69 : decode cX2_addTask 69 = .ok (.getfield 40, 3) := by decide +kernel
theorem dX2_addTask_72 : decode cX2_addTask 72 = .ok (.aload_n 0, 1) := by decide +kernel
theorem dX2_addTask_73 : decode cX2_addTask 73 = .ok (.getfield 47, 3) := by decide +kernel
theorem dX2_addTask_76 : decode cX2_addTask 76 = .ok (.iastore, 1) := by decide +kernel
theorem dX2_addTask_77 : decode cX2_addTask 77 = .ok (.aload_n 0, 1) := by decide +kernel
theorem dX2_addTask_78 : decode cX2_addTask 78 = .ok (.getfield 31, 3) := by decide +kernel
theorem dX2_addTask_81 : decode cX2_addTask 81 = .ok (.aload_n 0, 1) := by decide +kernel
theorem dX2_addTask_82 : decode cX2_addTask 82 = .ok (.getfield 47, 3) := by decide +kernel
theorem dX2_addTask_85 : decode cX2_addTask 85 = .ok (.iconst 1, 1) := by decide +kernel
theorem dX2_addTask_86 : decode cX2_addTask 86 = .ok (.aload_n 0, 1) := by decide +kernel
theorem dX2_addTask_87 : decode cX2_addTask 87 = .ok (.getfield 40, 3) := by decide +kernel
theorem dX2_addTask_90 : decode cX2_addTask 90 = .ok (.ishl, 1) := by decide +kernel
theorem dX2_addTask_91 : decode cX2_addTask 91 = .ok (.iastore, 1) := by decide +kernel
theorem dX2_addTask_92 : decode cX2_addTask 92 = .ok (.aload_n 0, 1) := by decide +kernel
theorem dX2_addTask_93 : decode cX2_addTask 93 = .ok (.dup, 1) := by decide +kernel
theorem dX2_addTask_94 : decode cX2_addTask 94 = .ok (.getfield 40, 3) := by decide +kernel
theorem dX2_addTask_97 : decode cX2_addTask 97 = .ok (.iconst 1, 1) := by decide +kernel
theorem dX2_addTask_98 : decode cX2_addTask 98 = .ok (.iadd, 1) := by decide +kernel
theorem dX2_addTask_99 : decode cX2_addTask 99 = .ok (.putfield 40, 3) := by decide +kernel
theorem dX2_addTask_102 : decode cX2_addTask 102 = .ok (.aload_n 0, 1) := by decide +kernel
theorem dX2_addTask_103 : decode cX2_addTask 103 = .ok (.dup, 1) := by decide +kernel
theorem dX2_addTask_104 : decode cX2_addTask 104 = .ok (.getfield 47, 3) := by decide +kernel
theorem dX2_addTask_107 : decode cX2_addTask 107 = .ok (.iconst 1, 1) := by decide +kernel
theorem dX2_addTask_108 : decode cX2_addTask 108 = .ok (.iadd, 1) := by decide +kernel
theorem dX2_addTask_109 : decode cX2_addTask 109 = .ok (.putfield 47, 3) := by decide +kernel
theorem dX2_addTask_112 : decode cX2_addTask 112 = .ok (.return_, 1) := by decide +kernel
abbrev rX2_addTask : Room := { frames := 0, cells := 0, slots := 0, locals := 0 }
abbrev mX2_addTask : gY := (cX2_addTask, RX2, 4, rX2_addTask)
def fX2_addTask (t0 : Nat) (x1 : Int64) (x3 : Int32) (M0 : gMem) : Option gMem :=
  if (24 : Int32) ≤ (M0.1 t0 9) then (some M0) else if (M0.1 t0 11) < (24 : Int32) then ((wL M0 (t0 + 1) 24 (M0.1 t0 9) x1).bind fun M3 => (wI M3 (t0 + 2) 24 (M3.1 t0 9) x3).bind fun M4 => (wI M4 (t0 + 5) 24 (M4.1 t0 9) (0 : Int32)).bind fun M5 => (wI M5 (t0 + 6) 24 (M5.1 t0 9) ((1 : Int32) <<< ((M5.1 t0 9) &&& 31))).bind fun M6 => (wI M6 (t0 + 8) 24 (M6.1 t0 9) (M6.1 t0 11)).bind fun M7 => (wI M7 (t0 + 7) 24 (M7.1 t0 11) ((1 : Int32) <<< ((M7.1 t0 9) &&& 31))).bind fun M8 => (wF M8 t0 9 ((M8.1 t0 9) + (1 : Int32))).bind fun M9 => (wF M9 t0 11 ((M9.1 t0 11) + (1 : Int32))).bind fun M10 => some M10) else some M0
set_option maxRecDepth 20000 in
theorem tX2_addTask {X : gX} {V : gEnv} {t0 : Nat} {x1 : Int64} {x3 : Int32} {M0 : gMem} (ht0 : gNet gShC t0) {o : gMem} (h : fX2_addTask t0 x1 x3 M0 = some o) (O : gO X V mX2_addTask gShC none none o) : gG X V mX2_addTask gShC M0 0 0 0 [(0, .ref (gAd V t0)), (1, .long x1), (3, .int x3)] [] := by
  unfold fX2_addTask at h
  refine g_aload_n 0 rfl rfl dX2_addTask_0 ?_
  refine g_getI FX2_40 ht0.1 rfl dX2_addTask_1 ?_
  refine g_bipush (v := 24) rfl dX2_addTask_4 ?_
  rcases g_ite h with ⟨c1, h⟩ | ⟨c1, h⟩
  · refine g_icmp_ge_t c1 (tgt := 18) rfl dX2_addTask_6 ?_
    cases h
    exact g_vret O ⟨Nat.le_of_ble_eq_true rfl, Nat.le_of_ble_eq_true rfl⟩ dX2_addTask_18
  · refine g_icmp_ge_f c1 (tgt := 18) rfl dX2_addTask_6 ?_
    refine g_aload_n 0 rfl rfl dX2_addTask_9 ?_
    refine g_getI FX2_47 ht0.1 rfl dX2_addTask_10 ?_
    refine g_bipush (v := 24) rfl dX2_addTask_13 ?_
    rcases g_ite h with ⟨c2, h⟩ | ⟨c2, h⟩
    · refine g_icmp_lt_t c2 (tgt := 19) rfl dX2_addTask_15 ?_
      refine g_aload_n 0 rfl rfl dX2_addTask_19 ?_
      refine g_getR FX2_9 ht0.1 rfl dX2_addTask_20 ?_
      refine g_aload_n 0 rfl rfl dX2_addTask_23 ?_
      refine g_getI FX2_40 ht0.1 rfl dX2_addTask_24 ?_
      refine g_lload_n 1 rfl rfl dX2_addTask_27 ?_
      obtain ⟨M3, eM3, h⟩ := g_bnd h
      refine g_last' eM3 ht0.2.1 dX2_addTask_28 ?_
      refine g_aload_n 0 rfl rfl dX2_addTask_29 ?_
      refine g_getR FX2_15 ht0.1 rfl dX2_addTask_30 ?_
      refine g_aload_n 0 rfl rfl dX2_addTask_33 ?_
      refine g_getI FX2_40 ht0.1 rfl dX2_addTask_34 ?_
      refine g_iload_n 2 rfl rfl dX2_addTask_37 ?_
      obtain ⟨M4, eM4, h⟩ := g_bnd h
      refine g_iast' eM4 ht0.2.2.1 dX2_addTask_38 ?_
      refine g_aload_n 0 rfl rfl dX2_addTask_39 ?_
      refine g_getR FX2_25 ht0.1 rfl dX2_addTask_40 ?_
      refine g_aload_n 0 rfl rfl dX2_addTask_43 ?_
      refine g_getI FX2_40 ht0.1 rfl dX2_addTask_44 ?_
      refine g_iconst (v := 0) rfl dX2_addTask_47 ?_
      obtain ⟨M5, eM5, h⟩ := g_bnd h
      refine g_iast' eM5 ht0.2.2.2.2.2.1 dX2_addTask_48 ?_
      refine g_aload_n 0 rfl rfl dX2_addTask_49 ?_
      refine g_getR FX2_28 ht0.1 rfl dX2_addTask_50 ?_
      refine g_aload_n 0 rfl rfl dX2_addTask_53 ?_
      refine g_getI FX2_40 ht0.1 rfl dX2_addTask_54 ?_
      refine g_iconst (v := 1) rfl dX2_addTask_57 ?_
      refine g_aload_n 0 rfl rfl dX2_addTask_58 ?_
      refine g_getI FX2_40 ht0.1 rfl dX2_addTask_59 ?_
      refine g_ishl dX2_addTask_62 ?_
      obtain ⟨M6, eM6, h⟩ := g_bnd h
      refine g_iast' eM6 ht0.2.2.2.2.2.2.1 dX2_addTask_63 ?_
      refine g_aload_n 0 rfl rfl dX2_addTask_64 ?_
      refine g_getR FX2_34 ht0.1 rfl dX2_addTask_65 ?_
      refine g_aload_n 0 rfl rfl dX2_addTask_68 ?_
      refine g_getI FX2_40 ht0.1 rfl dX2_addTask_69 ?_
      refine g_aload_n 0 rfl rfl dX2_addTask_72 ?_
      refine g_getI FX2_47 ht0.1 rfl dX2_addTask_73 ?_
      obtain ⟨M7, eM7, h⟩ := g_bnd h
      refine g_iast' eM7 ht0.2.2.2.2.2.2.2.2.1 dX2_addTask_76 ?_
      refine g_aload_n 0 rfl rfl dX2_addTask_77 ?_
      refine g_getR FX2_31 ht0.1 rfl dX2_addTask_78 ?_
      refine g_aload_n 0 rfl rfl dX2_addTask_81 ?_
      refine g_getI FX2_47 ht0.1 rfl dX2_addTask_82 ?_
      refine g_iconst (v := 1) rfl dX2_addTask_85 ?_
      refine g_aload_n 0 rfl rfl dX2_addTask_86 ?_
      refine g_getI FX2_40 ht0.1 rfl dX2_addTask_87 ?_
      refine g_ishl dX2_addTask_90 ?_
      obtain ⟨M8, eM8, h⟩ := g_bnd h
      refine g_iast' eM8 ht0.2.2.2.2.2.2.2.1 dX2_addTask_91 ?_
      refine g_aload_n 0 rfl rfl dX2_addTask_92 ?_
      refine g_dup rfl dX2_addTask_93 ?_
      refine g_getI FX2_40 ht0.1 rfl dX2_addTask_94 ?_
      refine g_iconst (v := 1) rfl dX2_addTask_97 ?_
      refine g_iadd dX2_addTask_98 ?_
      obtain ⟨M9, eM9, h⟩ := g_bnd h
      refine g_putI' eM9 FX2_40 jX2 ht0.1 rfl rfl rfl dX2_addTask_99 ?_
      refine g_aload_n 0 rfl rfl dX2_addTask_102 ?_
      refine g_dup rfl dX2_addTask_103 ?_
      refine g_getI FX2_47 ht0.1 rfl dX2_addTask_104 ?_
      refine g_iconst (v := 1) rfl dX2_addTask_107 ?_
      refine g_iadd dX2_addTask_108 ?_
      obtain ⟨M10, eM10, h⟩ := g_bnd h
      refine g_putI' eM10 FX2_47 jX2 ht0.1 rfl rfl rfl dX2_addTask_109 ?_
      cases h
      exact g_vret O ⟨Nat.le_of_ble_eq_true rfl, Nat.le_of_ble_eq_true rfl⟩ dX2_addTask_112
    · refine g_icmp_lt_f c2 (tgt := 19) rfl dX2_addTask_15 ?_
      cases h
      exact g_vret O ⟨Nat.le_of_ble_eq_true rfl, Nat.le_of_ble_eq_true rfl⟩ dX2_addTask_18
theorem kX2_addTask {l : Launch} {V : gEnv} {M0 : gMem} {t0 : Nat} {x1 : Int64} {x3 : Int32} (ht0 : gNet gShC t0) {o : gMem} (h : fX2_addTask t0 x1 x3 M0 = some o) : gM l yX2_addTask cX2_addTask 4 none rX2_addTask V gShC [.ref (gAd V t0), .long x1, .int x3] M0 none o :=
  gM.of (by decide) (Nat.le_of_ble_eq_true rfl) rfl (fun X _ O => tX2_addTask ht0 h O)
theorem dX1_readNewTask_0 : decode cX1_readNewTask 0 = .ok (.aload_n 2, 1) := by decide +kernel
theorem dX1_readNewTask_1 : decode cX1_readNewTask 1 = .ok (.getfield 58, 3) := by decide +kernel
theorem dX1_readNewTask_4 : decode cX1_readNewTask 4 = .ok (.bipush 24, 2) := by decide +kernel
theorem dX1_readNewTask_6 : decode cX1_readNewTask 6 = .ok (.if_icmp .lt 13, 3) := by decide +kernel
theorem dX1_readNewTask_9 : decode cX1_readNewTask 9 = .ok (.aload_n 1, 1) := by decide +kernel
theorem dX1_readNewTask_10 : decode cX1_readNewTask 10 = .ok (.iconst 4, 1) := by decide +kernel
theorem dX1_readNewTask_11 : decode cX1_readNewTask 11 = .ok (.aload_n 1, 1) := by decide +kernel
theorem dX1_readNewTask_12 : decode cX1_readNewTask 12 = .ok (.getfield 62, 3) := by decide +kernel
theorem dX1_readNewTask_15 : decode cX1_readNewTask 15 = .ok (.invokevirtual 65, 3) := by decide +kernel
theorem dX1_readNewTask_18 : decode cX1_readNewTask 18 = .ok (.ireturn, 1) := by decide +kernel
theorem dX1_readNewTask_19 : decode cX1_readNewTask 19 = .ok (.aload_n 1, 1) := by decide +kernel
theorem dX1_readNewTask_20 : decode cX1_readNewTask 20 = .ok (.invokevirtual 84, 3) := by decide +kernel
theorem dX1_readNewTask_23 : decode cX1_readNewTask 23 = .ok (.lstore_n 3, 1) := by decide +kernel
theorem dX1_readNewTask_24 : decode cX1_readNewTask 24 = .ok (.lload_n 3, 1) := by decide +kernel
theorem dX1_readNewTask_25 : decode cX1_readNewTask 25 = .ok (.lconst 0, 1) := by decide +kernel
theorem dX1_readNewTask_26 : decode cX1_readNewTask 26 = .ok (.lcmp, 1) := by decide +kernel
theorem dX1_readNewTask_27 : decode cX1_readNewTask 27 = .ok (.ifCond .ne 5, 3) := by decide +kernel
theorem dX1_readNewTask_30 : decode cX1_readNewTask 30 = .ok (.iconst 0, 1) := by decide +kernel
theorem dX1_readNewTask_31 : decode cX1_readNewTask 31 = .ok (.ireturn, 1) := by decide +kernel
theorem dX1_readNewTask_32 : decode cX1_readNewTask 32 = .ok (.aload_n 2, 1) := by decide +kernel
theorem dX1_readNewTask_33 : decode cX1_readNewTask 33 = .ok (.lload_n 3, 1) := by decide +kernel
theorem dX1_readNewTask_34 : decode cX1_readNewTask 34 = .ok (.invokevirtual 88, 3) := by decide +kernel
theorem dX1_readNewTask_37 : decode cX1_readNewTask 37 = .ok (.iconst (-1), 1) := by decide +kernel
theorem dX1_readNewTask_38 : decode cX1_readNewTask 38 = .ok (.if_icmp .eq 13, 3) := by decide +kernel
theorem dX1_readNewTask_41 : decode cX1_readNewTask 41 = .ok (.aload_n 1, 1) := by decide +kernel
theorem dX1_readNewTask_42 : decode cX1_readNewTask 42 = .ok (.iconst 3, 1) := by decide +kernel
theorem dX1_readNewTask_43 : decode cX1_readNewTask 43 = .ok (.aload_n 1, 1) := by decide +kernel
theorem dX1_readNewTask_44 : decode cX1_readNewTask 44 = .ok (.getfield 62, 3) := by decide +kernel
theorem dX1_readNewTask_47 : decode cX1_readNewTask 47 = .ok (.invokevirtual 65, 3) := by decide +kernel
theorem dX1_readNewTask_50 : decode cX1_readNewTask 50 = .ok (.ireturn, 1) := by decide +kernel
theorem dX1_readNewTask_51 : decode cX1_readNewTask 51 = .ok (.aload_n 1, 1) := by decide +kernel
theorem dX1_readNewTask_52 : decode cX1_readNewTask 52 = .ok (.iconst 1, 1) := by decide +kernel
theorem dX1_readNewTask_53 : decode cX1_readNewTask 53 = .ok (.bipush 9, 2) := by decide +kernel
theorem dX1_readNewTask_55 : decode cX1_readNewTask 55 = .ok (.invokevirtual 92, 3) := by decide +kernel
theorem dX1_readNewTask_58 : decode cX1_readNewTask 58 = .ok (.istore 5, 2) := by decide +kernel
theorem dX1_readNewTask_60 : decode cX1_readNewTask 60 = .ok (.iload 5, 2) := by decide +kernel
theorem dX1_readNewTask_62 : decode cX1_readNewTask 62 = .ok (.iconst (-1), 1) := by decide +kernel
theorem dX1_readNewTask_63 : decode cX1_readNewTask 63 = .ok (.if_icmp .ne 5, 3) := by decide +kernel
theorem dX1_readNewTask_66 : decode cX1_readNewTask 66 = .ok (.iconst 0, 1) := by decide +kernel
theorem dX1_readNewTask_67 : decode cX1_readNewTask 67 = .ok (.ireturn, 1) := by decide +kernel
theorem dX1_readNewTask_68 : decode cX1_readNewTask 68 = .ok (.aload_n 2, 1) := by decide +kernel
theorem dX1_readNewTask_69 : decode cX1_readNewTask 69 = .ok (.lload_n 3, 1) := by decide +kernel
theorem dX1_readNewTask_70 : decode cX1_readNewTask 70 = .ok (.iload 5, 2) := by decide +kernel
theorem dX1_readNewTask_72 : decode cX1_readNewTask 72 = .ok (.invokevirtual 96, 3) := by decide +kernel
theorem dX1_readNewTask_75 : decode cX1_readNewTask 75 = .ok (.iconst 1, 1) := by decide +kernel
theorem dX1_readNewTask_76 : decode cX1_readNewTask 76 = .ok (.ireturn, 1) := by decide +kernel
abbrev rX1_readNewTask : Room := { frames := 3, cells := 0, slots := 0, locals := 62 }
abbrev mX1_readNewTask : gY := (cX1_readNewTask, RX1, 6, rX1_readNewTask)
def fX1_readNewTask (t2 : Nat) (M0 : gMem) : Option (Int32 × gMem) :=
  if (M0.1 t2 9) < (24 : Int32) then ((fX5_readName M0).bind fun v2 => if (lg_cmp v2.1 (0 : Int64)) = 0 then (some ((0 : Int32), v2.2)) else (fX2_taskNamed t2 v2.1 v2.2).bind fun v4 => if v4 = (-1 : Int32) then ((fX5_readNumber (1 : Int32) (9 : Int32) v2.2).bind fun v6 => if v6.1 = (-1 : Int32) then (some ((0 : Int32), v6.2)) else (fX2_addTask t2 v2.1 v6.1 v6.2).bind fun v8 => some ((1 : Int32), v8)) else (fX5_fail (3 : Int32) (v2.2.1 32 3) v2.2).bind fun v9 => (zv v9.1).bind fun v10 => some (v10, v9.2)) else (fX5_fail (4 : Int32) (M0.1 32 3) M0).bind fun v11 => (zv v11.1).bind fun v12 => some (v12, v11.2)
set_option maxRecDepth 20000 in
theorem tX1_readNewTask {X : gX} {V : gEnv} {t2 : Nat} {M0 : gMem} (ht2 : gNet gShC t2) {o : (Int32 × gMem)} (h : fX1_readNewTask t2 M0 = some o) (O : gO X V mX1_readNewTask gShC (some .boolean) (some (.int o.1)) o.2) : gG X V mX1_readNewTask gShC M0 0 0 0 [(0, .ref (gAd V 36)), (1, .ref (gAd V 32)), (2, .ref (gAd V t2))] [] := by
  unfold fX1_readNewTask at h
  refine g_aload_n 2 rfl rfl dX1_readNewTask_0 ?_
  refine g_getI FX1_58 ht2.1 rfl dX1_readNewTask_1 ?_
  refine g_bipush (v := 24) rfl dX1_readNewTask_4 ?_
  rcases g_ite h with ⟨c1, h⟩ | ⟨c1, h⟩
  · refine g_icmp_lt_t c1 (tgt := 19) rfl dX1_readNewTask_6 ?_
    refine g_aload_n 1 rfl rfl dX1_readNewTask_19 ?_
    obtain ⟨v2, ev2, h⟩ := g_bnd h
    refine g_callV LX1_84 sC_32 rfl (kX5_readName ev2) rfl rfl (Nat.le_of_ble_eq_true rfl) ⟨Nat.le_of_ble_eq_true rfl, Nat.le_of_ble_eq_true rfl⟩ ⟨Nat.le_of_ble_eq_true rfl, Nat.le_of_ble_eq_true rfl⟩ dX1_readNewTask_20 rfl ?_
    refine g_lstore_n (ls' := [(3, .long v2.1), (0, .ref (gAd V 36)), (1, .ref (gAd V 32)), (2, .ref (gAd V t2))]) rfl (Nat.le_of_ble_eq_true rfl) rfl dX1_readNewTask_23 ?_
    refine g_lload_n 0 rfl rfl dX1_readNewTask_24 ?_
    refine g_lconst (v := 0) rfl dX1_readNewTask_25 ?_
    refine g_lcmp dX1_readNewTask_26 ?_
    rcases g_ite h with ⟨c3, h⟩ | ⟨c3, h⟩
    · refine g_if_ne_f c3 (tgt := 32) rfl dX1_readNewTask_27 ?_
      refine g_iconst (v := 0) rfl dX1_readNewTask_30 ?_
      cases h
      exact g_iret O ⟨Nat.le_of_ble_eq_true rfl, Nat.le_of_ble_eq_true rfl⟩ rfl dX1_readNewTask_31
    · refine g_if_ne_t c3 (tgt := 32) rfl dX1_readNewTask_27 ?_
      refine g_aload_n 3 rfl rfl dX1_readNewTask_32 ?_
      refine g_lload_n 0 rfl rfl dX1_readNewTask_33 ?_
      obtain ⟨v4, ev4, h⟩ := g_bnd h
      refine g_callV LX1_88 ht2.1 rfl (kX2_taskNamed ht2 ev4) rfl rfl (Nat.le_of_ble_eq_true rfl) ⟨Nat.le_of_ble_eq_true rfl, Nat.le_of_ble_eq_true rfl⟩ ⟨Nat.le_of_ble_eq_true rfl, Nat.le_of_ble_eq_true rfl⟩ dX1_readNewTask_34 rfl ?_
      refine g_iconst (v := -1) rfl dX1_readNewTask_37 ?_
      rcases g_ite h with ⟨c5, h⟩ | ⟨c5, h⟩
      · refine g_icmp_eq_t c5 (tgt := 51) rfl dX1_readNewTask_38 ?_
        refine g_aload_n 2 rfl rfl dX1_readNewTask_51 ?_
        refine g_iconst (v := 1) rfl dX1_readNewTask_52 ?_
        refine g_bipush (v := 9) rfl dX1_readNewTask_53 ?_
        obtain ⟨v6, ev6, h⟩ := g_bnd h
        refine g_callV LX1_92 sC_32 rfl (kX5_readNumber ev6) rfl rfl (Nat.le_of_ble_eq_true rfl) ⟨Nat.le_of_ble_eq_true rfl, Nat.le_of_ble_eq_true rfl⟩ ⟨Nat.le_of_ble_eq_true rfl, Nat.le_of_ble_eq_true rfl⟩ dX1_readNewTask_55 rfl ?_
        refine g_istore (ls' := [(5, .int v6.1), (3, .long v2.1), (0, .ref (gAd V 36)), (1, .ref (gAd V 32)), (2, .ref (gAd V t2))]) (Nat.le_of_ble_eq_true rfl) rfl dX1_readNewTask_58 ?_
        refine g_iload 0 rfl dX1_readNewTask_60 ?_
        refine g_iconst (v := -1) rfl dX1_readNewTask_62 ?_
        rcases g_ite h with ⟨c7, h⟩ | ⟨c7, h⟩
        · refine g_icmp_ne_f c7 (tgt := 68) rfl dX1_readNewTask_63 ?_
          refine g_iconst (v := 0) rfl dX1_readNewTask_66 ?_
          cases h
          exact g_iret O ⟨Nat.le_of_ble_eq_true rfl, Nat.le_of_ble_eq_true rfl⟩ rfl dX1_readNewTask_67
        · refine g_icmp_ne_t c7 (tgt := 68) rfl dX1_readNewTask_63 ?_
          refine g_aload_n 4 rfl rfl dX1_readNewTask_68 ?_
          refine g_lload_n 1 rfl rfl dX1_readNewTask_69 ?_
          refine g_iload 0 rfl dX1_readNewTask_70 ?_
          obtain ⟨v8, ev8, h⟩ := g_bnd h
          refine g_callV LX1_96 ht2.1 rfl (kX2_addTask ht2 ev8) rfl rfl (Nat.le_of_ble_eq_true rfl) ⟨Nat.le_of_ble_eq_true rfl, Nat.le_of_ble_eq_true rfl⟩ ⟨Nat.le_of_ble_eq_true rfl, Nat.le_of_ble_eq_true rfl⟩ dX1_readNewTask_72 rfl ?_
          refine g_iconst (v := 1) rfl dX1_readNewTask_75 ?_
          cases h
          exact g_iret O ⟨Nat.le_of_ble_eq_true rfl, Nat.le_of_ble_eq_true rfl⟩ rfl dX1_readNewTask_76
      · refine g_icmp_eq_f c5 (tgt := 51) rfl dX1_readNewTask_38 ?_
        refine g_aload_n 2 rfl rfl dX1_readNewTask_41 ?_
        refine g_iconst (v := 3) rfl dX1_readNewTask_42 ?_
        refine g_aload_n 2 rfl rfl dX1_readNewTask_43 ?_
        refine g_getI FX1_62 sC_32 rfl dX1_readNewTask_44 ?_
        obtain ⟨v9, ev9, h⟩ := g_bnd h
        refine g_callV LX1_65 sC_32 rfl (kX5_fail ev9) rfl rfl (Nat.le_of_ble_eq_true rfl) ⟨Nat.le_of_ble_eq_true rfl, Nat.le_of_ble_eq_true rfl⟩ ⟨Nat.le_of_ble_eq_true rfl, Nat.le_of_ble_eq_true rfl⟩ dX1_readNewTask_47 rfl ?_
        obtain ⟨v10, ev10, h⟩ := g_bnd h
        refine g_zv ev10 ?_
        cases h
        exact g_iret O ⟨Nat.le_of_ble_eq_true rfl, Nat.le_of_ble_eq_true rfl⟩ (g_nz (zv_ok ev10)) dX1_readNewTask_50
  · refine g_icmp_lt_f c1 (tgt := 19) rfl dX1_readNewTask_6 ?_
    refine g_aload_n 1 rfl rfl dX1_readNewTask_9 ?_
    refine g_iconst (v := 4) rfl dX1_readNewTask_10 ?_
    refine g_aload_n 1 rfl rfl dX1_readNewTask_11 ?_
    refine g_getI FX1_62 sC_32 rfl dX1_readNewTask_12 ?_
    obtain ⟨v11, ev11, h⟩ := g_bnd h
    refine g_callV LX1_65 sC_32 rfl (kX5_fail ev11) rfl rfl (Nat.le_of_ble_eq_true rfl) ⟨Nat.le_of_ble_eq_true rfl, Nat.le_of_ble_eq_true rfl⟩ ⟨Nat.le_of_ble_eq_true rfl, Nat.le_of_ble_eq_true rfl⟩ dX1_readNewTask_15 rfl ?_
    obtain ⟨v12, ev12, h⟩ := g_bnd h
    refine g_zv ev12 ?_
    cases h
    exact g_iret O ⟨Nat.le_of_ble_eq_true rfl, Nat.le_of_ble_eq_true rfl⟩ (g_nz (zv_ok ev12)) dX1_readNewTask_18
theorem kX1_readNewTask {l : Launch} {V : gEnv} {M0 : gMem} {t2 : Nat} (ht2 : gNet gShC t2) {o : (Int32 × gMem)} (h : fX1_readNewTask t2 M0 = some o) : gM l yX1_readNewTask cX1_readNewTask 6 (some .boolean) rX1_readNewTask V gShC [.ref (gAd V 36), .ref (gAd V 32), .ref (gAd V t2)] M0 (some (.int o.1)) o.2 :=
  gM.of (by decide) (Nat.le_of_ble_eq_true rfl) rfl (fun X _ O => tX1_readNewTask ht2 h O)
theorem dX5_readTask_0 : decode cX5_readTask 0 = .ok (.aload_n 0, 1) := by decide +kernel
theorem dX5_readTask_1 : decode cX5_readTask 1 = .ok (.invokevirtual 60, 3) := by decide +kernel
theorem dX5_readTask_4 : decode cX5_readTask 4 = .ok (.lstore_n 2, 1) := by decide +kernel
theorem dX5_readTask_5 : decode cX5_readTask 5 = .ok (.lload_n 2, 1) := by decide +kernel
theorem dX5_readTask_6 : decode cX5_readTask 6 = .ok (.lconst 0, 1) := by decide +kernel
theorem dX5_readTask_7 : decode cX5_readTask 7 = .ok (.lcmp, 1) := by decide +kernel
theorem dX5_readTask_8 : decode cX5_readTask 8 = .ok (.ifCond .ne 5, 3) := by decide +kernel
theorem dX5_readTask_11 : decode cX5_readTask 11 = .ok (.iconst (-1), 1) := by decide +kernel
theorem dX5_readTask_12 : decode cX5_readTask 12 = .ok (.ireturn, 1) := by decide +kernel
theorem dX5_readTask_13 : decode cX5_readTask 13 = .ok (.aload_n 1, 1) := by decide +kernel
theorem dX5_readTask_14 : decode cX5_readTask 14 = .ok (.lload_n 2, 1) := by decide +kernel
theorem dX5_readTask_15 : decode cX5_readTask 15 = .ok (.invokevirtual 64, 3) := by decide +kernel
theorem dX5_readTask_18 : decode cX5_readTask 18 = .ok (.istore 4, 2) := by decide +kernel
theorem dX5_readTask_20 : decode cX5_readTask 20 = .ok (.iload 4, 2) := by decide +kernel
theorem dX5_readTask_22 : decode cX5_readTask 22 = .ok (.iconst (-1), 1) := by decide +kernel
theorem dX5_readTask_23 : decode cX5_readTask 23 = .ok (.if_icmp .ne 13, 3) := by decide +kernel
theorem dX5_readTask_26 : decode cX5_readTask 26 = .ok (.aload_n 0, 1) := by decide +kernel
theorem dX5_readTask_27 : decode cX5_readTask 27 = .ok (.iconst 3, 1) := by decide +kernel
theorem dX5_readTask_28 : decode cX5_readTask 28 = .ok (.aload_n 0, 1) := by decide +kernel
theorem dX5_readTask_29 : decode cX5_readTask 29 = .ok (.getfield 22, 3) := by decide +kernel
theorem dX5_readTask_32 : decode cX5_readTask 32 = .ok (.invokevirtual 38, 3) := by decide +kernel
theorem dX5_readTask_35 : decode cX5_readTask 35 = .ok (.pop, 1) := by decide +kernel
theorem dX5_readTask_36 : decode cX5_readTask 36 = .ok (.iload 4, 2) := by decide +kernel
theorem dX5_readTask_38 : decode cX5_readTask 38 = .ok (.ireturn, 1) := by decide +kernel
abbrev rX5_readTask : Room := { frames := 3, cells := 0, slots := 0, locals := 62 }
abbrev mX5_readTask : gY := (cX5_readTask, RX5, 5, rX5_readTask)
def fX5_readTask (t1 : Nat) (M0 : gMem) : Option (Int32 × gMem) :=
  (fX5_readName M0).bind fun v1 => if (lg_cmp v1.1 (0 : Int64)) = 0 then (some ((-1 : Int32), v1.2)) else (fX2_taskNamed t1 v1.1 v1.2).bind fun v3 => if v3 = (-1 : Int32) then ((fX5_fail (3 : Int32) (v1.2.1 32 3) v1.2).bind fun v5 => some (v3, v5.2)) else some (v3, v1.2)
set_option maxRecDepth 20000 in
theorem tX5_readTask {X : gX} {V : gEnv} {t1 : Nat} {M0 : gMem} (ht1 : gNet gShC t1) {o : (Int32 × gMem)} (h : fX5_readTask t1 M0 = some o) (O : gO X V mX5_readTask gShC (some .int) (some (.int o.1)) o.2) : gG X V mX5_readTask gShC M0 0 0 0 [(0, .ref (gAd V 32)), (1, .ref (gAd V t1))] [] := by
  unfold fX5_readTask at h
  refine g_aload_n 0 rfl rfl dX5_readTask_0 ?_
  obtain ⟨v1, ev1, h⟩ := g_bnd h
  refine g_callV LX5_60 sC_32 rfl (kX5_readName ev1) rfl rfl (Nat.le_of_ble_eq_true rfl) ⟨Nat.le_of_ble_eq_true rfl, Nat.le_of_ble_eq_true rfl⟩ ⟨Nat.le_of_ble_eq_true rfl, Nat.le_of_ble_eq_true rfl⟩ dX5_readTask_1 rfl ?_
  refine g_lstore_n (ls' := [(2, .long v1.1), (0, .ref (gAd V 32)), (1, .ref (gAd V t1))]) rfl (Nat.le_of_ble_eq_true rfl) rfl dX5_readTask_4 ?_
  refine g_lload_n 0 rfl rfl dX5_readTask_5 ?_
  refine g_lconst (v := 0) rfl dX5_readTask_6 ?_
  refine g_lcmp dX5_readTask_7 ?_
  rcases g_ite h with ⟨c2, h⟩ | ⟨c2, h⟩
  · refine g_if_ne_f c2 (tgt := 13) rfl dX5_readTask_8 ?_
    refine g_iconst (v := -1) rfl dX5_readTask_11 ?_
    cases h
    exact g_iret O ⟨Nat.le_of_ble_eq_true rfl, Nat.le_of_ble_eq_true rfl⟩ rfl dX5_readTask_12
  · refine g_if_ne_t c2 (tgt := 13) rfl dX5_readTask_8 ?_
    refine g_aload_n 2 rfl rfl dX5_readTask_13 ?_
    refine g_lload_n 0 rfl rfl dX5_readTask_14 ?_
    obtain ⟨v3, ev3, h⟩ := g_bnd h
    refine g_callV LX5_64 ht1.1 rfl (kX2_taskNamed ht1 ev3) rfl rfl (Nat.le_of_ble_eq_true rfl) ⟨Nat.le_of_ble_eq_true rfl, Nat.le_of_ble_eq_true rfl⟩ ⟨Nat.le_of_ble_eq_true rfl, Nat.le_of_ble_eq_true rfl⟩ dX5_readTask_15 rfl ?_
    refine g_istore (ls' := [(4, .int v3), (2, .long v1.1), (0, .ref (gAd V 32)), (1, .ref (gAd V t1))]) (Nat.le_of_ble_eq_true rfl) rfl dX5_readTask_18 ?_
    refine g_iload 0 rfl dX5_readTask_20 ?_
    refine g_iconst (v := -1) rfl dX5_readTask_22 ?_
    rcases g_ite h with ⟨c4, h⟩ | ⟨c4, h⟩
    · refine g_icmp_ne_f c4 (tgt := 36) rfl dX5_readTask_23 ?_
      refine g_aload_n 2 rfl rfl dX5_readTask_26 ?_
      refine g_iconst (v := 3) rfl dX5_readTask_27 ?_
      refine g_aload_n 2 rfl rfl dX5_readTask_28 ?_
      refine g_getI FX5_22 sC_32 rfl dX5_readTask_29 ?_
      obtain ⟨v5, ev5, h⟩ := g_bnd h
      refine g_callV LX5_38 sC_32 rfl (kX5_fail ev5) rfl rfl (Nat.le_of_ble_eq_true rfl) ⟨Nat.le_of_ble_eq_true rfl, Nat.le_of_ble_eq_true rfl⟩ ⟨Nat.le_of_ble_eq_true rfl, Nat.le_of_ble_eq_true rfl⟩ dX5_readTask_32 rfl ?_
      refine g_pop rfl dX5_readTask_35 ?_
      refine g_iload 0 rfl dX5_readTask_36 ?_
      cases h
      exact g_iret O ⟨Nat.le_of_ble_eq_true rfl, Nat.le_of_ble_eq_true rfl⟩ rfl dX5_readTask_38
    · refine g_icmp_ne_t c4 (tgt := 36) rfl dX5_readTask_23 ?_
      refine g_iload 0 rfl dX5_readTask_36 ?_
      cases h
      exact g_iret O ⟨Nat.le_of_ble_eq_true rfl, Nat.le_of_ble_eq_true rfl⟩ rfl dX5_readTask_38
theorem kX5_readTask {l : Launch} {V : gEnv} {M0 : gMem} {t1 : Nat} (ht1 : gNet gShC t1) {o : (Int32 × gMem)} (h : fX5_readTask t1 M0 = some o) : gM l yX5_readTask cX5_readTask 5 (some .int) rX5_readTask V gShC [.ref (gAd V 32), .ref (gAd V t1)] M0 (some (.int o.1)) o.2 :=
  gM.of (by decide) (Nat.le_of_ble_eq_true rfl) rfl (fun X _ O => tX5_readTask ht1 h O)
theorem dX10_has_0 : decode cX10_has 0 = .ok (.iload_n 0, 1) := by decide +kernel
theorem dX10_has_1 : decode cX10_has 1 = .ok (.iload_n 1, 1) := by decide +kernel
theorem dX10_has_2 : decode cX10_has 2 = .ok (.ishr, 1) := by decide +kernel
theorem dX10_has_3 : decode cX10_has 3 = .ok (.iconst 1, 1) := by decide +kernel
theorem dX10_has_4 : decode cX10_has 4 = .ok (.iand, 1) := by decide +kernel
theorem dX10_has_5 : decode cX10_has 5 = .ok (.iconst 1, 1) := by decide +kernel
theorem dX10_has_6 : decode cX10_has 6 = .ok (.if_icmp .ne 7, 3) := by decide +kernel
theorem dX10_has_9 : decode cX10_has 9 = .ok (.iconst 1, 1) := by decide +kernel
theorem dX10_has_10 : decode cX10_has 10 = .ok (.goto 4, 3) := by decide +kernel
theorem dX10_has_13 : decode cX10_has 13 = .ok (.iconst 0, 1) := by decide +kernel
theorem dX10_has_14 : decode cX10_has 14 = .ok (.ireturn, 1) := by decide +kernel
abbrev rX10_has : Room := { frames := 0, cells := 0, slots := 0, locals := 0 }
abbrev mX10_has : gY := (cX10_has, RX10, 2, rX10_has)
def fX10_has (x0 : Int32) (x1 : Int32) : Option Int32 :=
  some (if ((x0 >>> (x1 &&& 31)) &&& (1 : Int32)) = (1 : Int32) then (1 : Int32) else (0 : Int32))
set_option maxRecDepth 20000 in
theorem tX10_has {X : gX} {V : gEnv} {Sh : List gShp} {M0 : gMem} {x0 : Int32} {x1 : Int32}  {o : Int32} (h : fX10_has x0 x1 = some o) (O : gO X V mX10_has Sh (some .boolean) (some (.int o)) M0) : gG X V mX10_has Sh M0 0 0 0 [(0, .int x0), (1, .int x1)] [] := by
  unfold fX10_has at h
  refine g_iload_n 0 rfl rfl dX10_has_0 ?_
  refine g_iload_n 1 rfl rfl dX10_has_1 ?_
  refine g_ishr dX10_has_2 ?_
  refine g_iconst (v := 1) rfl dX10_has_3 ?_
  refine g_iand dX10_has_4 ?_
  refine g_iconst (v := 1) rfl dX10_has_5 ?_
  have KJ : gG X V mX10_has Sh M0 0 0 14 [(0, .int x0), (1, .int x1)] [.int (if ((x0 >>> (x1 &&& 31)) &&& (1 : Int32)) = (1 : Int32) then (1 : Int32) else (0 : Int32))] := by
    cases h
    exact g_iret O ⟨Nat.le_of_ble_eq_true rfl, Nat.le_of_ble_eq_true rfl⟩ (by split <;> rfl) dX10_has_14
  by_cases c1 : ((x0 >>> (x1 &&& 31)) &&& (1 : Int32)) = (1 : Int32)
  · rw [if_pos c1] at KJ
    refine g_icmp_ne_f c1 (tgt := 13) rfl dX10_has_6 ?_
    refine g_iconst (v := 1) rfl dX10_has_9 ?_
    refine g_goto (tgt := 14) rfl dX10_has_10 ?_
    exact KJ
  · rw [if_neg c1] at KJ
    refine g_icmp_ne_t c1 (tgt := 13) rfl dX10_has_6 ?_
    refine g_iconst (v := 0) rfl dX10_has_13 ?_
    exact KJ
theorem kX10_has {l : Launch} {V : gEnv} {Sh : List gShp} {M0 : gMem} {x0 : Int32} {x1 : Int32}  {o : Int32} (h : fX10_has x0 x1 = some o) : gM l yX10_has cX10_has 2 (some .boolean) rX10_has V Sh [.int x0, .int x1] M0 (some (.int o)) M0 :=
  gM.of (by decide) (Nat.le_of_ble_eq_true rfl) rfl (fun X _ O => tX10_has  h O)
