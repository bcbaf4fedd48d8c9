/-! METHODS, by program: pure functions and contracts -/
theorem dX3_runAll_0 : decode cX3_runAll 0 = .ok (.iconst 0, 1) := by decide +kernel
theorem dX3_runAll_1 : decode cX3_runAll 1 = .ok (.istore 4, 2) := by decide +kernel
theorem dX3_runAll_3 : decode cX3_runAll 3 = .ok (.iload 4, 2) := by decide +kernel
theorem dX3_runAll_5 : decode cX3_runAll 5 = .ok (.aload_n 0, 1) := by decide +kernel
theorem dX3_runAll_6 : decode cX3_runAll 6 = .ok (.getfield 21, 3) := by decide +kernel
theorem dX3_runAll_9 : decode cX3_runAll 9 = .ok (.if_icmp .ge 21, 3) := by decide +kernel
theorem dX3_runAll_12 : decode cX3_runAll 12 = .ok (.aload_n 0, 1) := by decide +kernel
theorem dX3_runAll_13 : decode cX3_runAll 13 = .ok (.iload 4, 2) := by decide +kernel
theorem dX3_runAll_15 : decode cX3_runAll 15 = .ok (.aload_n 1, 1) := by decide +kernel
theorem dX3_runAll_16 : decode cX3_runAll 16 = .ok (.aload_n 2, 1) := by decide +kernel
theorem dX3_runAll_17 : decode cX3_runAll 17 = .ok (.aload_n 3, 1) := by decide +kernel
theorem dX3_runAll_18 : decode cX3_runAll 18 = .ok (.invokevirtual 92, 3) := by decide +kernel
theorem dX3_runAll_21 : decode cX3_runAll 21 = .ok (.ifCond .eq 9, 3) := by decide +kernel
theorem dX3_runAll_24 : decode cX3_runAll 24 = .ok (.iinc 4 1, 3) := by decide +kernel
theorem dX3_runAll_27 : decode cX3_runAll 27 = .ok (.goto (-24), 3) := by decide +kernel
theorem dX3_runAll_30 : decode cX3_runAll 30 = .ok (.iload 4, 2) := by decide +kernel
theorem dX3_runAll_32 : decode cX3_runAll 32 = .ok (.ireturn, 1) := by decide +kernel
abbrev rX3_runAll : Room := { frames := 6, cells := 0, slots := 0, locals := 150 }
abbrev mX3_runAll : gY := (cX3_runAll, RX3, 5, rX3_runAll)
def fX3_runAll_l3 (t1 : Nat) (x4 : Int32) (M0 : gMem) : Option ((Int32 × gMem) ⊕ (Int32 × gMem)) :=
  if (M0.1 37 3) ≤ x4 then (some (.inr (x4, M0))) else (fX3_run x4 t1 M0).bind fun v2 => if v2.1 = 0 then (some (.inr (x4, v2.2))) else some (.inl (x4 + (1 : Int32), v2.2))
set_option maxRecDepth 20000 in
theorem tX3_runAll_l3 {X : gX} {V : gEnv} {t1 : Nat} {x4 : Int32} {M0 : gMem} (ht1 : gNet gShC t1) {o : ((Int32 × gMem) ⊕ (Int32 × gMem))} (h : fX3_runAll_l3 t1 x4 M0 = some o) (Kc : ∀ s9, o = .inl s9 → gG X V mX3_runAll gShC s9.2 0 0 3 [(0, .ref (gAd V 37)), (1, .ref (gAd V t1)), (2, .ref (gAd V 41)), (3, .ref (gAd V 44)), (4, .int s9.1)] []) (Kx : ∀ e9, o = .inr e9 → gG X V mX3_runAll gShC e9.2 0 0 30 [(4, .int e9.1)] []) : gG X V mX3_runAll gShC M0 0 0 3 [(0, .ref (gAd V 37)), (1, .ref (gAd V t1)), (2, .ref (gAd V 41)), (3, .ref (gAd V 44)), (4, .int x4)] [] := by
  unfold fX3_runAll_l3 at h
  refine g_iload 4 rfl dX3_runAll_3 ?_
  refine g_aload_n 0 rfl rfl dX3_runAll_5 ?_
  refine g_getI FX3_21 sC_37 rfl dX3_runAll_6 ?_
  rcases g_ite h with ⟨c1, h⟩ | ⟨c1, h⟩
  · refine g_icmp_ge_t c1 (tgt := 30) rfl dX3_runAll_9 ?_
    cases h
    refine g_sub [4] rfl ?_
    exact Kx (x4, M0) rfl
  · refine g_icmp_ge_f c1 (tgt := 30) rfl dX3_runAll_9 ?_
    refine g_aload_n 0 rfl rfl dX3_runAll_12 ?_
    refine g_iload 4 rfl dX3_runAll_13 ?_
    refine g_aload_n 1 rfl rfl dX3_runAll_15 ?_
    refine g_aload_n 2 rfl rfl dX3_runAll_16 ?_
    refine g_aload_n 3 rfl rfl dX3_runAll_17 ?_
    obtain ⟨v2, ev2, h⟩ := g_bnd h
    refine g_callV LX3_92 sC_37 rfl (kX3_run ht1 ev2) rfl rfl (Nat.le_of_ble_eq_true rfl) ⟨Nat.le_of_ble_eq_true rfl, Nat.le_of_ble_eq_true rfl⟩ ⟨Nat.le_of_ble_eq_true rfl, Nat.le_of_ble_eq_true rfl⟩ dX3_runAll_18 rfl ?_
    rcases g_ite h with ⟨c3, h⟩ | ⟨c3, h⟩
    · refine g_if_eq_t c3 (tgt := 30) rfl dX3_runAll_21 ?_
      cases h
      refine g_sub [4] rfl ?_
      exact Kx (x4, v2.2) rfl
    · refine g_if_eq_f c3 (tgt := 30) rfl dX3_runAll_21 ?_
      refine g_iinc (j := 4) (v := x4 + (1 : Int32)) (ls' := [(4, .int (x4 + (1 : Int32))), (0, .ref (gAd V 37)), (1, .ref (gAd V t1)), (2, .ref (gAd V 41)), (3, .ref (gAd V 44))]) rfl rfl (Nat.le_of_ble_eq_true rfl) rfl dX3_runAll_24 ?_
      refine g_goto (tgt := 3) rfl dX3_runAll_27 ?_
      cases h
      refine g_sub [1, 2, 3, 4, 0] rfl ?_
      exact Kc (x4 + (1 : Int32), v2.2) rfl
def fX3_runAll (t1 : Nat) (M0 : gMem) : Option (Int32 × gMem) :=
  (gLoop (fun z9 => fX3_runAll_l3 t1 z9.1 z9.2) gFu ((0 : Int32), M0)).bind fun w4 => some (w4.1, w4.2)
set_option maxRecDepth 20000 in
theorem tX3_runAll {X : gX} {V : gEnv} {t1 : Nat} {M0 : gMem} (ht1 : gNet gShC t1) {o : (Int32 × gMem)} (h : fX3_runAll t1 M0 = some o) (O : gO X V mX3_runAll gShC (some .int) (some (.int o.1)) o.2) : gG X V mX3_runAll gShC M0 0 0 0 [(0, .ref (gAd V 37)), (1, .ref (gAd V t1)), (2, .ref (gAd V 41)), (3, .ref (gAd V 44))] [] := by
  unfold fX3_runAll at h
  refine g_iconst (v := 0) rfl dX3_runAll_0 ?_
  refine g_istore (ls' := [(4, .int (0 : Int32)), (0, .ref (gAd V 37)), (1, .ref (gAd V t1)), (2, .ref (gAd V 41)), (3, .ref (gAd V 44))]) (Nat.le_of_ble_eq_true rfl) rfl dX3_runAll_1 ?_
  obtain ⟨w4, ew4, h⟩ := g_bnd h
  refine g_sub [1, 2, 3, 4, 0] rfl ?_
  have KX : gG X V mX3_runAll gShC w4.2 0 0 30 [(4, .int w4.1)] [] := by
    refine g_iload 0 rfl dX3_runAll_30 ?_
    cases h
    exact g_iret O ⟨Nat.le_of_ble_eq_true rfl, Nat.le_of_ble_eq_true rfl⟩ rfl dX3_runAll_32
  exact gLoop_Q ew4 (fun z9 => gG X V mX3_runAll gShC z9.2 0 0 3 [(0, .ref (gAd V 37)), (1, .ref (gAd V t1)), (2, .ref (gAd V 41)), (3, .ref (gAd V 44)), (4, .int z9.1)] []) (fun s9 o9 hb9 hc9 hx9 => tX3_runAll_l3 ht1 hb9 hc9 (fun e9 he9 => by cases hx9 _ he9; exact KX))
theorem kX3_runAll {l : Launch} {V : gEnv} {M0 : gMem} {t1 : Nat} (ht1 : gNet gShC t1) {o : (Int32 × gMem)} (h : fX3_runAll t1 M0 = some o) : gM l yX3_runAll cX3_runAll 5 (some .int) rX3_runAll V gShC [.ref (gAd V 37), .ref (gAd V t1), .ref (gAd V 41), .ref (gAd V 44)] M0 (some (.int o.1)) o.2 :=
  gM.of (by decide) (Nat.le_of_ble_eq_true rfl) rfl (fun X _ O => tX3_runAll ht1 h O)
theorem dX4_put_0 : decode cX4_put 0 = .ok (.aload_n 0, 1) := by decide +kernel
theorem dX4_put_1 : decode cX4_put 1 = .ok (.getfield 15, 3) := by decide +kernel
theorem dX4_put_4 : decode cX4_put 4 = .ok (.sipush 256, 3) := by decide +kernel
theorem dX4_put_7 : decode cX4_put 7 = .ok (.if_icmp .ge 24, 3) := by decide +kernel
theorem dX4_put_10 : decode cX4_put 10 = .ok (.aload_n 0, 1) := by decide +kernel
theorem dX4_put_11 : decode cX4_put 11 = .ok (.getfield 9, 3) := by decide +kernel
theorem dX4_put_14 : decode cX4_put 14 = .ok (.aload_n 0, 1) := by decide +kernel
theorem dX4_put_15 : decode cX4_put 15 = .ok (.getfield 15, 3) := by decide +kernel
theorem dX4_put_18 : decode cX4_put 18 = .ok (.iload_n 1, 1) := by decide +kernel
theorem dX4_put_19 : decode cX4_put 19 = .ok (.i2b, 1) := by decide +kernel
theorem dX4_put_20 : decode cX4_put 20 = .ok (.bastore, 1) := by decide +kernel
theorem dX4_put_21 : decode cX4_put 21 = .ok (.aload_n 0, 1) := by decide +kernel
theorem dX4_put_22 : decode cX4_put 22 = .ok (.dup, 1) := by decide +kernel
theorem dX4_put_23 : decode cX4_put 23 = .ok (.getfield 15, 3) := by decide +kernel
theorem dX4_put_26 : decode cX4_put 26 = .ok (.iconst 1, 1) := by decide +kernel
theorem dX4_put_27 : decode cX4_put 27 = .ok (.iadd, 1) := by decide +kernel
theorem dX4_put_28 : decode cX4_put 28 = .ok (.putfield 15, 3) := by decide +kernel
theorem dX4_put_31 : decode cX4_put 31 = .ok (.return_, 1) := by decide +kernel
abbrev rX4_put : Room := { frames := 0, cells := 0, slots := 0, locals := 0 }
abbrev mX4_put : gY := (cX4_put, RX4, 2, rX4_put)
def fX4_put (x1 : Int32) (M0 : gMem) : Option gMem :=
  if (256 : Int32) ≤ (M0.1 34 1) then (some M0) else (wI M0 35 256 (M0.1 34 1) x1.toInt8.toInt32.toInt8.toInt32).bind fun M2 => (wF M2 34 1 ((M2.1 34 1) + (1 : Int32))).bind fun M3 => some M3
set_option maxRecDepth 20000 in
theorem tX4_put {X : gX} {V : gEnv} {x1 : Int32} {M0 : gMem}  {o : gMem} (h : fX4_put x1 M0 = some o) (O : gO X V mX4_put gShC none none o) : gG X V mX4_put gShC M0 0 0 0 [(0, .ref (gAd V 34)), (1, .int x1)] [] := by
  unfold fX4_put at h
  refine g_aload_n 0 rfl rfl dX4_put_0 ?_
  refine g_getI FX4_15 sC_34 rfl dX4_put_1 ?_
  refine g_sipush (v := 256) rfl dX4_put_4 ?_
  rcases g_ite h with ⟨c1, h⟩ | ⟨c1, h⟩
  · refine g_icmp_ge_t c1 (tgt := 31) rfl dX4_put_7 ?_
    cases h
    exact g_vret O ⟨Nat.le_of_ble_eq_true rfl, Nat.le_of_ble_eq_true rfl⟩ dX4_put_31
  · refine g_icmp_ge_f c1 (tgt := 31) rfl dX4_put_7 ?_
    refine g_aload_n 0 rfl rfl dX4_put_10 ?_
    refine g_getR FX4_9 sC_34 rfl dX4_put_11 ?_
    refine g_aload_n 0 rfl rfl dX4_put_14 ?_
    refine g_getI FX4_15 sC_34 rfl dX4_put_15 ?_
    refine g_iload_n 1 rfl rfl dX4_put_18 ?_
    refine g_i2b dX4_put_19 ?_
    obtain ⟨M2, eM2, h⟩ := g_bnd h
    refine g_bast' eM2 sC_35 dX4_put_20 ?_
    refine g_aload_n 0 rfl rfl dX4_put_21 ?_
    refine g_dup rfl dX4_put_22 ?_
    refine g_getI FX4_15 sC_34 rfl dX4_put_23 ?_
    refine g_iconst (v := 1) rfl dX4_put_26 ?_
    refine g_iadd dX4_put_27 ?_
    obtain ⟨M3, eM3, h⟩ := g_bnd h
    refine g_putI' eM3 FX4_15 jX4 sC_34 rfl rfl rfl dX4_put_28 ?_
    cases h
    exact g_vret O ⟨Nat.le_of_ble_eq_true rfl, Nat.le_of_ble_eq_true rfl⟩ dX4_put_31
theorem kX4_put {l : Launch} {V : gEnv} {M0 : gMem} {x1 : Int32}  {o : gMem} (h : fX4_put x1 M0 = some o) : gM l yX4_put cX4_put 2 none rX4_put V gShC [.ref (gAd V 34), .int x1] M0 none o :=
  gM.of (by decide) (Nat.le_of_ble_eq_true rfl) rfl (fun X _ O => tX4_put  h O)
theorem dX10_letterOf_0 : decode cX10_letterOf 0 = .ok (.iload_n 2, 1) := by decide +kernel
theorem dX10_letterOf_1 : decode cX10_letterOf 1 = .ok (.ifCond .lt 9, 3) := by decide +kernel
theorem dX10_letterOf_4 : decode cX10_letterOf 4 = .ok (.iload_n 2, 1) := by decide +kernel
theorem dX10_letterOf_5 : decode cX10_letterOf 5 = .ok (.bipush 6, 2) := by decide +kernel
theorem dX10_letterOf_7 : decode cX10_letterOf 7 = .ok (.if_icmp .lt 7, 3) := by decide +kernel
theorem dX10_letterOf_10 : decode cX10_letterOf 10 = .ok (.iconst 0, 1) := by decide +kernel
theorem dX10_letterOf_11 : decode cX10_letterOf 11 = .ok (.goto 14, 3) := by decide +kernel
theorem dX10_letterOf_14 : decode cX10_letterOf 14 = .ok (.lload_n 0, 1) := by decide +kernel
theorem dX10_letterOf_15 : decode cX10_letterOf 15 = .ok (.bipush 8, 2) := by decide +kernel
theorem dX10_letterOf_17 : decode cX10_letterOf 17 = .ok (.iload_n 2, 1) := by decide +kernel
theorem dX10_letterOf_18 : decode cX10_letterOf 18 = .ok (.imul, 1) := by decide +kernel
theorem dX10_letterOf_19 : decode cX10_letterOf 19 = .ok (.lshr, 1) := by decide +kernel
theorem dX10_letterOf_20 : decode cX10_letterOf 20 = .ok (.l2i, 1) := by decide +kernel
theorem dX10_letterOf_21 : decode cX10_letterOf 21 = .ok (.sipush 255, 3) := by decide +kernel
theorem dX10_letterOf_24 : decode cX10_letterOf 24 = .ok (.iand, 1) := by decide +kernel
theorem dX10_letterOf_25 : decode cX10_letterOf 25 = .ok (.ireturn, 1) := by decide +kernel
abbrev rX10_letterOf : Room := { frames := 0, cells := 0, slots := 0, locals := 0 }
abbrev mX10_letterOf : gY := (cX10_letterOf, RX10, 3, rX10_letterOf)
def fX10_letterOf_b10  : Option Int32 :=
  some (0 : Int32)
set_option maxRecDepth 20000 in
theorem tX10_letterOf_b10 {X : gX} {V : gEnv} {Sh : List gShp} {M0 : gMem}   {o : Int32} (h : fX10_letterOf_b10  = some o) (O : gO X V mX10_letterOf Sh (some .int) (some (.int o)) M0) : gG X V mX10_letterOf Sh M0 0 0 10 [] [] := by
  unfold fX10_letterOf_b10 at h
  refine g_iconst (v := 0) rfl dX10_letterOf_10 ?_
  refine g_goto (tgt := 25) rfl dX10_letterOf_11 ?_
  cases h
  exact g_iret O ⟨Nat.le_of_ble_eq_true rfl, Nat.le_of_ble_eq_true rfl⟩ rfl dX10_letterOf_25
def fX10_letterOf (x0 : Int64) (x2 : Int32) : Option Int32 :=
  if x2 < 0 then (fX10_letterOf_b10 ) else if x2 < (6 : Int32) then (some (((x0 >>> (((8 : Int32) * x2).toInt64 &&& 63)).toInt32) &&& (255 : Int32))) else fX10_letterOf_b10 
set_option maxRecDepth 20000 in
theorem tX10_letterOf {X : gX} {V : gEnv} {Sh : List gShp} {M0 : gMem} {x0 : Int64} {x2 : Int32}  {o : Int32} (h : fX10_letterOf x0 x2 = some o) (O : gO X V mX10_letterOf Sh (some .int) (some (.int o)) M0) : gG X V mX10_letterOf Sh M0 0 0 0 [(0, .long x0), (2, .int x2)] [] := by
  unfold fX10_letterOf at h
  refine g_iload_n 1 rfl rfl dX10_letterOf_0 ?_
  rcases g_ite h with ⟨c1, h⟩ | ⟨c1, h⟩
  · refine g_if_lt_t c1 (tgt := 10) rfl dX10_letterOf_1 ?_
    refine g_sub [] rfl ?_
    exact tX10_letterOf_b10  h O
  · refine g_if_lt_f c1 (tgt := 10) rfl dX10_letterOf_1 ?_
    refine g_iload_n 1 rfl rfl dX10_letterOf_4 ?_
    refine g_bipush (v := 6) rfl dX10_letterOf_5 ?_
    rcases g_ite h with ⟨c2, h⟩ | ⟨c2, h⟩
    · refine g_icmp_lt_t c2 (tgt := 14) rfl dX10_letterOf_7 ?_
      refine g_lload_n 0 rfl rfl dX10_letterOf_14 ?_
      refine g_bipush (v := 8) rfl dX10_letterOf_15 ?_
      refine g_iload_n 1 rfl rfl dX10_letterOf_17 ?_
      refine g_imul dX10_letterOf_18 ?_
      refine g_lshr dX10_letterOf_19 ?_
      refine g_l2i dX10_letterOf_20 ?_
      refine g_sipush (v := 255) rfl dX10_letterOf_21 ?_
      refine g_iand dX10_letterOf_24 ?_
      cases h
      exact g_iret O ⟨Nat.le_of_ble_eq_true rfl, Nat.le_of_ble_eq_true rfl⟩ rfl dX10_letterOf_25
    · refine g_icmp_lt_f c2 (tgt := 14) rfl dX10_letterOf_7 ?_
      refine g_sub [] rfl ?_
      exact tX10_letterOf_b10  h O
theorem kX10_letterOf {l : Launch} {V : gEnv} {Sh : List gShp} {M0 : gMem} {x0 : Int64} {x2 : Int32}  {o : Int32} (h : fX10_letterOf x0 x2 = some o) : gM l yX10_letterOf cX10_letterOf 3 (some .int) rX10_letterOf V Sh [.long x0, .int x2] M0 (some (.int o)) M0 :=
  gM.of (by decide) (Nat.le_of_ble_eq_true rfl) rfl (fun X _ O => tX10_letterOf  h O)
theorem dX4_putName_0 : decode cX4_putName 0 = .ok (.iconst 0, 1) := by decide +kernel
theorem dX4_putName_1 : decode cX4_putName 1 = .ok (.istore_n 3, 1) := by decide +kernel
theorem dX4_putName_2 : decode cX4_putName 2 = .ok (.iload_n 3, 1) := by decide +kernel
theorem dX4_putName_3 : decode cX4_putName 3 = .ok (.bipush 6, 2) := by decide +kernel
theorem dX4_putName_5 : decode cX4_putName 5 = .ok (.if_icmp .ge 27, 3) := by decide +kernel
theorem dX4_putName_8 : decode cX4_putName 8 = .ok (.lload_n 1, 1) := by decide +kernel
theorem dX4_putName_9 : decode cX4_putName 9 = .ok (.iload_n 3, 1) := by decide +kernel
theorem dX4_putName_10 : decode cX4_putName 10 = .ok (.invokestatic 19, 3) := by decide +kernel
theorem dX4_putName_13 : decode cX4_putName 13 = .ok (.istore 4, 2) := by decide +kernel
theorem dX4_putName_15 : decode cX4_putName 15 = .ok (.iload 4, 2) := by decide +kernel
theorem dX4_putName_17 : decode cX4_putName 17 = .ok (.ifCond .eq 9, 3) := by decide +kernel
theorem dX4_putName_20 : decode cX4_putName 20 = .ok (.aload_n 0, 1) := by decide +kernel
theorem dX4_putName_21 : decode cX4_putName 21 = .ok (.iload 4, 2) := by decide +kernel
theorem dX4_putName_23 : decode cX4_putName 23 = .ok (.invokevirtual 23, 3) := by decide +kernel
theorem dX4_putName_26 : decode cX4_putName 26 = .ok (.iinc 3 1, 3) := by decide +kernel
theorem dX4_putName_29 : decode cX4_putName 29 = .ok (.goto (-27), 3) := by decide +kernel
theorem dX4_putName_32 : decode cX4_putName 32 = .ok (.return_, 1) := by decide +kernel
abbrev rX4_putName : Room := { frames := 1, cells := 0, slots := 0, locals := 22 }
abbrev mX4_putName : gY := (cX4_putName, RX4, 5, rX4_putName)
def fX4_putName_b26 (x1 : Int64) (x3 : Int32) (M0 : gMem) : Option ((Int32 × gMem) ⊕ gMem) :=
  some (.inl (x3 + (1 : Int32), M0))
set_option maxRecDepth 20000 in
theorem tX4_putName_b26 {X : gX} {V : gEnv} {x1 : Int64} {x3 : Int32} {M0 : gMem}  {o : ((Int32 × gMem) ⊕ gMem)} (h : fX4_putName_b26 x1 x3 M0 = some o) (Kc : ∀ s9, o = .inl s9 → gG X V mX4_putName gShC s9.2 0 0 2 [(0, .ref (gAd V 34)), (1, .long x1), (3, .int s9.1)] []) (Kx : ∀ e9, o = .inr e9 → gG X V mX4_putName gShC e9 0 0 32 [] []) : gG X V mX4_putName gShC M0 0 0 26 [(0, .ref (gAd V 34)), (1, .long x1), (3, .int x3)] [] := by
  unfold fX4_putName_b26 at h
  refine g_iinc (j := 2) (v := x3 + (1 : Int32)) (ls' := [(3, .int (x3 + (1 : Int32))), (0, .ref (gAd V 34)), (1, .long x1)]) rfl rfl (Nat.le_of_ble_eq_true rfl) rfl dX4_putName_26 ?_
  refine g_goto (tgt := 2) rfl dX4_putName_29 ?_
  cases h
  refine g_sub [1, 2, 0] rfl ?_
  exact Kc (x3 + (1 : Int32), M0) rfl
def fX4_putName_l2 (x1 : Int64) (x3 : Int32) (M0 : gMem) : Option ((Int32 × gMem) ⊕ gMem) :=
  if (6 : Int32) ≤ x3 then (some (.inr M0)) else (fX10_letterOf x1 x3).bind fun v2 => if v2 = 0 then (fX4_putName_b26 x1 x3 M0) else (fX4_put v2 M0).bind fun v4 => fX4_putName_b26 x1 x3 v4
set_option maxRecDepth 20000 in
theorem tX4_putName_l2 {X : gX} {V : gEnv} {x1 : Int64} {x3 : Int32} {M0 : gMem}  {o : ((Int32 × gMem) ⊕ gMem)} (h : fX4_putName_l2 x1 x3 M0 = some o) (Kc : ∀ s9, o = .inl s9 → gG X V mX4_putName gShC s9.2 0 0 2 [(0, .ref (gAd V 34)), (1, .long x1), (3, .int s9.1)] []) (Kx : ∀ e9, o = .inr e9 → gG X V mX4_putName gShC e9 0 0 32 [] []) : gG X V mX4_putName gShC M0 0 0 2 [(0, .ref (gAd V 34)), (1, .long x1), (3, .int x3)] [] := by
  unfold fX4_putName_l2 at h
  refine g_iload_n 2 rfl rfl dX4_putName_2 ?_
  refine g_bipush (v := 6) rfl dX4_putName_3 ?_
  rcases g_ite h with ⟨c1, h⟩ | ⟨c1, h⟩
  · refine g_icmp_ge_t c1 (tgt := 32) rfl dX4_putName_5 ?_
    cases h
    refine g_sub [] rfl ?_
    exact Kx M0 rfl
  · refine g_icmp_ge_f c1 (tgt := 32) rfl dX4_putName_5 ?_
    refine g_lload_n 1 rfl rfl dX4_putName_8 ?_
    refine g_iload_n 2 rfl rfl dX4_putName_9 ?_
    obtain ⟨v2, ev2, h⟩ := g_bnd h
    refine g_callN LX4_19 (kX10_letterOf ev2) rfl rfl (Nat.le_of_ble_eq_true rfl) ⟨Nat.le_of_ble_eq_true rfl, Nat.le_of_ble_eq_true rfl⟩ ⟨Nat.le_of_ble_eq_true rfl, Nat.le_of_ble_eq_true rfl⟩ dX4_putName_10 rfl ?_
    refine g_istore (ls' := [(4, .int v2), (0, .ref (gAd V 34)), (1, .long x1), (3, .int x3)]) (Nat.le_of_ble_eq_true rfl) rfl dX4_putName_13 ?_
    refine g_iload 0 rfl dX4_putName_15 ?_
    rcases g_ite h with ⟨c3, h⟩ | ⟨c3, h⟩
    · refine g_if_eq_t c3 (tgt := 26) rfl dX4_putName_17 ?_
      refine g_sub [1, 2, 3] rfl ?_
      exact tX4_putName_b26  h Kc Kx
    · refine g_if_eq_f c3 (tgt := 26) rfl dX4_putName_17 ?_
      refine g_aload_n 1 rfl rfl dX4_putName_20 ?_
      refine g_iload 0 rfl dX4_putName_21 ?_
      obtain ⟨v4, ev4, h⟩ := g_bnd h
      refine g_callV LX4_23 sC_34 rfl (kX4_put ev4) rfl rfl (Nat.le_of_ble_eq_true rfl) ⟨Nat.le_of_ble_eq_true rfl, Nat.le_of_ble_eq_true rfl⟩ ⟨Nat.le_of_ble_eq_true rfl, Nat.le_of_ble_eq_true rfl⟩ dX4_putName_23 rfl ?_
      refine g_sub [1, 2, 3] rfl ?_
      exact tX4_putName_b26  h Kc Kx
def fX4_putName (x1 : Int64) (M0 : gMem) : Option gMem :=
  (gLoop (fun z9 => fX4_putName_l2 x1 z9.1 z9.2) gFu ((0 : Int32), M0)).bind fun w5 => some w5
set_option maxRecDepth 20000 in
theorem tX4_putName {X : gX} {V : gEnv} {x1 : Int64} {M0 : gMem}  {o : gMem} (h : fX4_putName x1 M0 = some o) (O : gO X V mX4_putName gShC none none o) : gG X V mX4_putName gShC M0 0 0 0 [(0, .ref (gAd V 34)), (1, .long x1)] [] := by
  unfold fX4_putName at h
  refine g_iconst (v := 0) rfl dX4_putName_0 ?_
  refine g_istore_n (ls' := [(3, .int (0 : Int32)), (0, .ref (gAd V 34)), (1, .long x1)]) rfl (Nat.le_of_ble_eq_true rfl) rfl dX4_putName_1 ?_
  obtain ⟨w5, ew5, h⟩ := g_bnd h
  refine g_sub [1, 2, 0] rfl ?_
  have KX : gG X V mX4_putName gShC w5 0 0 32 [] [] := by
    cases h
    exact g_vret O ⟨Nat.le_of_ble_eq_true rfl, Nat.le_of_ble_eq_true rfl⟩ dX4_putName_32
  exact gLoop_Q ew5 (fun z9 => gG X V mX4_putName gShC z9.2 0 0 2 [(0, .ref (gAd V 34)), (1, .long x1), (3, .int z9.1)] []) (fun s9 o9 hb9 hc9 hx9 => tX4_putName_l2  hb9 hc9 (fun e9 he9 => by cases hx9 _ he9; exact KX))
theorem kX4_putName {l : Launch} {V : gEnv} {M0 : gMem} {x1 : Int64}  {o : gMem} (h : fX4_putName x1 M0 = some o) : gM l yX4_putName cX4_putName 5 none rX4_putName V gShC [.ref (gAd V 34), .long x1] M0 none o :=
  gM.of (by decide) (Nat.le_of_ble_eq_true rfl) rfl (fun X _ O => tX4_putName  h O)
theorem dX10_headOf_0 : decode cX10_headOf 0 = .ok (.iload_n 0, 1) := by decide +kernel
theorem dX10_headOf_1 : decode cX10_headOf 1 = .ok (.invokestatic 398, 3) := by decide +kernel
theorem dX10_headOf_4 : decode cX10_headOf 4 = .ok (.ireturn, 1) := by decide +kernel
abbrev rX10_headOf : Room := { frames := 1, cells := 0, slots := 0, locals := 21 }
abbrev mX10_headOf : gY := (cX10_headOf, RX10, 1, rX10_headOf)
def fX10_headOf (x0 : Int32) : Option Int32 :=
  (fJ6_numberOfTrailingZeros_0f7a4 x0).bind fun v1 => some v1
set_option maxRecDepth 20000 in
theorem tX10_headOf {X : gX} {V : gEnv} {Sh : List gShp} {M0 : gMem} {x0 : Int32}  {o : Int32} (h : fX10_headOf x0 = some o) (O : gO X V mX10_headOf Sh (some .int) (some (.int o)) M0) : gG X V mX10_headOf Sh M0 0 0 0 [(0, .int x0)] [] := by
  unfold fX10_headOf at h
  refine g_iload_n 0 rfl rfl dX10_headOf_0 ?_
  obtain ⟨v1, ev1, h⟩ := g_bnd h
  refine g_callS LX10_398 (kJ6_numberOfTrailingZeros_0f7a4 ev1) rfl rfl (Nat.le_of_ble_eq_true rfl) ⟨Nat.le_of_ble_eq_true rfl, Nat.le_of_ble_eq_true rfl⟩ ⟨Nat.le_of_ble_eq_true rfl, Nat.le_of_ble_eq_true rfl⟩ dX10_headOf_1 rfl ?_
  cases h
  exact g_iret O ⟨Nat.le_of_ble_eq_true rfl, Nat.le_of_ble_eq_true rfl⟩ rfl dX10_headOf_4
theorem kX10_headOf {l : Launch} {V : gEnv} {Sh : List gShp} {M0 : gMem} {x0 : Int32}  {o : Int32} (h : fX10_headOf x0 = some o) : gM l yX10_headOf cX10_headOf 1 (some .int) rX10_headOf V Sh [.int x0] M0 (some (.int o)) M0 :=
  gM.of (by decide) (Nat.le_of_ble_eq_true rfl) rfl (fun X _ O => tX10_headOf  h O)
theorem dX4_putGroup_0 : decode cX4_putGroup 0 = .ok (.iload_n 2, 1) := by decide +kernel
theorem dX4_putGroup_1 : decode cX4_putGroup 1 = .ok (.invokestatic 27, 3) := by decide +kernel
theorem dX4_putGroup_4 : decode cX4_putGroup 4 = .ok (.iconst 1, 1) := by decide +kernel
theorem dX4_putGroup_5 : decode cX4_putGroup 5 = .ok (.if_icmp .le 7, 3) := by decide +kernel
theorem dX4_putGroup_8 : decode cX4_putGroup 8 = .ok (.iconst 1, 1) := by decide +kernel
theorem dX4_putGroup_9 : decode cX4_putGroup 9 = .ok (.goto 4, 3) := by decide +kernel
theorem dX4_putGroup_12 : decode cX4_putGroup 12 = .ok (.iconst 0, 1) := by decide +kernel
theorem dX4_putGroup_13 : decode cX4_putGroup 13 = .ok (.istore_n 3, 1) := by decide +kernel
theorem dX4_putGroup_14 : decode cX4_putGroup 14 = .ok (.iload_n 3, 1) := by decide +kernel
theorem dX4_putGroup_15 : decode cX4_putGroup 15 = .ok (.ifCond .eq 9, 3) := by decide +kernel
theorem dX4_putGroup_18 : decode cX4_putGroup 18 = .ok (.aload_n 0, 1) := by decide +kernel
theorem dX4_putGroup_19 : decode cX4_putGroup 19 = .ok (.bipush 40, 2) := by decide +kernel
theorem dX4_putGroup_21 : decode cX4_putGroup 21 = .ok (.invokevirtual 23, 3) := by decide +kernel
theorem dX4_putGroup_24 : decode cX4_putGroup 24 = .ok (.iconst 0, 1) := by decide +kernel
theorem dX4_putGroup_25 : decode cX4_putGroup 25 = .ok (.istore 4, 2) := by decide +kernel
theorem dX4_putGroup_27 : decode cX4_putGroup 27 = .ok (.iload 4, 2) := by decide +kernel
theorem dX4_putGroup_29 : decode cX4_putGroup 29 = .ok (.aload_n 1, 1) := by decide +kernel
theorem dX4_putGroup_30 : decode cX4_putGroup 30 = .ok (.getfield 33, 3) := by decide +kernel
theorem dX4_putGroup_33 : decode cX4_putGroup 33 = .ok (.if_icmp .ge 44, 3) := by decide +kernel
theorem dX4_putGroup_36 : decode cX4_putGroup 36 = .ok (.iload_n 2, 1) := by decide +kernel
theorem dX4_putGroup_37 : decode cX4_putGroup 37 = .ok (.iload 4, 2) := by decide +kernel
theorem dX4_putGroup_39 : decode cX4_putGroup 39 = .ok (.invokestatic 38, 3) := by decide +kernel
theorem dX4_putGroup_42 : decode cX4_putGroup 42 = .ok (.ifCond .eq 29, 3) := by decide +kernel
theorem dX4_putGroup_45 : decode cX4_putGroup 45 = .ok (.iload 4, 2) := by decide +kernel
theorem dX4_putGroup_47 : decode cX4_putGroup 47 = .ok (.iload_n 2, 1) := by decide +kernel
theorem dX4_putGroup_48 : decode cX4_putGroup 48 = .ok (.invokestatic 42, 3) := by decide +kernel
theorem dX4_putGroup_51 : decode cX4_putGroup 51 = .ok (.if_icmp .eq 9, 3) := by decide +kernel
theorem dX4_putGroup_54 : decode cX4_putGroup 54 = .ok (.aload_n 0, 1) := by decide +kernel
theorem dX4_putGroup_55 : decode cX4_putGroup 55 = .ok (.bipush 43, 2) := by decide +kernel
theorem dX4_putGroup_57 : decode cX4_putGroup 57 = .ok (.invokevirtual 23, 3) := by decide +kernel
theorem dX4_putGroup_60 : decode cX4_putGroup 60 = .ok (.aload_n 0, 1) := by decide +kernel
theorem dX4_putGroup_61 : decode cX4_putGroup 61 = .ok (.aload_n 1, 1) := by decide +kernel
theorem dX4_putGroup_62 : decode cX4_putGroup 62 = .ok (.getfield 45, 3) := by decide +kernel
theorem dX4_putGroup_65 : decode cX4_putGroup 65 = .ok (.iload 4, 2) := by decide +kernel
theorem dX4_putGroup_67 : decode cX4_putGroup 67 = .ok (.laload, 1) := by decide +kernel
theorem dX4_putGroup_68 : decode cX4_putGroup 68 = .ok (.invokevirtual 49, 3) := by decide +kernel
theorem dX4_putGroup_71 : decode cX4_putGroup 71 = .ok (.iinc 4 1, 3) := by decide +kernel
theorem dX4_putGroup_74 : decode cX4_putGroup 74 = .ok (.goto (-47), 3) := by decide +kernel
theorem dX4_putGroup_77 : decode cX4_putGroup 77 = .ok (.iload_n 3, 1) := by decide +kernel
theorem dX4_putGroup_78 : decode cX4_putGroup 78 = .ok (.ifCond .eq 9, 3) := by decide +kernel
theorem dX4_putGroup_81 : decode cX4_putGroup 81 = .ok (.aload_n 0, 1) := by decide +kernel
theorem dX4_putGroup_82 : decode cX4_putGroup 82 = .ok (.bipush 41, 2) := by decide +kernel
theorem dX4_putGroup_84 : decode cX4_putGroup 84 = .ok (.invokevirtual 23, 3) := by decide +kernel
theorem dX4_putGroup_87 : decode cX4_putGroup 87 = .ok (.return_, 1) := by decide +kernel
abbrev rX4_putGroup : Room := { frames := 2, cells := 0, slots := 0, locals := 46 }
abbrev mX4_putGroup : gY := (cX4_putGroup, RX4, 5, rX4_putGroup)
def fX4_putGroup_b71 (t1 : Nat) (x2 : Int32) (x3 : Int32) (x4 : Int32) (M0 : gMem) : Option ((Int32 × gMem) ⊕ gMem) :=
  some (.inl (x4 + (1 : Int32), M0))
set_option maxRecDepth 20000 in
theorem tX4_putGroup_b71 {X : gX} {V : gEnv} {t1 : Nat} {x2 : Int32} {x3 : Int32} {x4 : Int32} {M0 : gMem} (ht1 : gNet gShC t1) {o : ((Int32 × gMem) ⊕ gMem)} (h : fX4_putGroup_b71 t1 x2 x3 x4 M0 = some o) (Kc : ∀ s9, o = .inl s9 → gG X V mX4_putGroup gShC s9.2 0 0 27 [(0, .ref (gAd V 34)), (1, .ref (gAd V t1)), (2, .int x2), (3, .int x3), (4, .int s9.1)] []) (Kx : ∀ e9, o = .inr e9 → gG X V mX4_putGroup gShC e9 0 0 77 [(0, .ref (gAd V 34)), (3, .int x3)] []) : gG X V mX4_putGroup gShC M0 0 0 71 [(0, .ref (gAd V 34)), (1, .ref (gAd V t1)), (2, .int x2), (3, .int x3), (4, .int x4)] [] := by
  unfold fX4_putGroup_b71 at h
  refine g_iinc (j := 4) (v := x4 + (1 : Int32)) (ls' := [(4, .int (x4 + (1 : Int32))), (0, .ref (gAd V 34)), (1, .ref (gAd V t1)), (2, .int x2), (3, .int x3)]) rfl rfl (Nat.le_of_ble_eq_true rfl) rfl dX4_putGroup_71 ?_
  refine g_goto (tgt := 27) rfl dX4_putGroup_74 ?_
  cases h
  refine g_sub [1, 2, 3, 4, 0] rfl ?_
  exact Kc (x4 + (1 : Int32), M0) rfl
def fX4_putGroup_b60 (t1 : Nat) (x2 : Int32) (x3 : Int32) (x4 : Int32) (M0 : gMem) : Option ((Int32 × gMem) ⊕ gMem) :=
  (rL M0 (t1 + 1) 24 x4).bind fun v10 => (fX4_putName v10 M0).bind fun v11 => fX4_putGroup_b71 t1 x2 x3 x4 v11
set_option maxRecDepth 20000 in
theorem tX4_putGroup_b60 {X : gX} {V : gEnv} {t1 : Nat} {x2 : Int32} {x3 : Int32} {x4 : Int32} {M0 : gMem} (ht1 : gNet gShC t1) {o : ((Int32 × gMem) ⊕ gMem)} (h : fX4_putGroup_b60 t1 x2 x3 x4 M0 = some o) (Kc : ∀ s9, o = .inl s9 → gG X V mX4_putGroup gShC s9.2 0 0 27 [(0, .ref (gAd V 34)), (1, .ref (gAd V t1)), (2, .int x2), (3, .int x3), (4, .int s9.1)] []) (Kx : ∀ e9, o = .inr e9 → gG X V mX4_putGroup gShC e9 0 0 77 [(0, .ref (gAd V 34)), (3, .int x3)] []) : gG X V mX4_putGroup gShC M0 0 0 60 [(0, .ref (gAd V 34)), (1, .ref (gAd V t1)), (2, .int x2), (3, .int x3), (4, .int x4)] [] := by
  unfold fX4_putGroup_b60 at h
  refine g_aload_n 0 rfl rfl dX4_putGroup_60 ?_
  refine g_aload_n 1 rfl rfl dX4_putGroup_61 ?_
  refine g_getR FX4_45 ht1.1 rfl dX4_putGroup_62 ?_
  refine g_iload 4 rfl dX4_putGroup_65 ?_
  obtain ⟨v10, ev10, h⟩ := g_bnd h
  refine g_lald' ev10 ht1.2.1 dX4_putGroup_67 ?_
  obtain ⟨v11, ev11, h⟩ := g_bnd h
  refine g_callV LX4_49 sC_34 rfl (kX4_putName ev11) rfl rfl (Nat.le_of_ble_eq_true rfl) ⟨Nat.le_of_ble_eq_true rfl, Nat.le_of_ble_eq_true rfl⟩ ⟨Nat.le_of_ble_eq_true rfl, Nat.le_of_ble_eq_true rfl⟩ dX4_putGroup_68 rfl ?_
  exact tX4_putGroup_b71 ht1 h Kc Kx
def fX4_putGroup_l27 (t1 : Nat) (x2 : Int32) (x3 : Int32) (x4 : Int32) (M0 : gMem) : Option ((Int32 × gMem) ⊕ gMem) :=
  if (M0.1 t1 9) ≤ x4 then (some (.inr M0)) else (fX10_has x2 x4).bind fun v6 => if v6 = 0 then (fX4_putGroup_b71 t1 x2 x3 x4 M0) else (fX10_headOf x2).bind fun v8 => if x4 = v8 then (fX4_putGroup_b60 t1 x2 x3 x4 M0) else (fX4_put (43 : Int32) M0).bind fun v12 => fX4_putGroup_b60 t1 x2 x3 x4 v12
set_option maxRecDepth 20000 in
theorem tX4_putGroup_l27 {X : gX} {V : gEnv} {t1 : Nat} {x2 : Int32} {x3 : Int32} {x4 : Int32} {M0 : gMem} (ht1 : gNet gShC t1) {o : ((Int32 × gMem) ⊕ gMem)} (h : fX4_putGroup_l27 t1 x2 x3 x4 M0 = some o) (Kc : ∀ s9, o = .inl s9 → gG X V mX4_putGroup gShC s9.2 0 0 27 [(0, .ref (gAd V 34)), (1, .ref (gAd V t1)), (2, .int x2), (3, .int x3), (4, .int s9.1)] []) (Kx : ∀ e9, o = .inr e9 → gG X V mX4_putGroup gShC e9 0 0 77 [(0, .ref (gAd V 34)), (3, .int x3)] []) : gG X V mX4_putGroup gShC M0 0 0 27 [(0, .ref (gAd V 34)), (1, .ref (gAd V t1)), (2, .int x2), (3, .int x3), (4, .int x4)] [] := by
  unfold fX4_putGroup_l27 at h
  refine g_iload 4 rfl dX4_putGroup_27 ?_
  refine g_aload_n 1 rfl rfl dX4_putGroup_29 ?_
  refine g_getI FX4_33 ht1.1 rfl dX4_putGroup_30 ?_
  rcases g_ite h with ⟨c5, h⟩ | ⟨c5, h⟩
  · refine g_icmp_ge_t c5 (tgt := 77) rfl dX4_putGroup_33 ?_
    cases h
    refine g_sub [0, 3] rfl ?_
    exact Kx M0 rfl
  · refine g_icmp_ge_f c5 (tgt := 77) rfl dX4_putGroup_33 ?_
    refine g_iload_n 2 rfl rfl dX4_putGroup_36 ?_
    refine g_iload 4 rfl dX4_putGroup_37 ?_
    obtain ⟨v6, ev6, h⟩ := g_bnd h
    refine g_callN LX4_38 (kX10_has ev6) rfl rfl (Nat.le_of_ble_eq_true rfl) ⟨Nat.le_of_ble_eq_true rfl, Nat.le_of_ble_eq_true rfl⟩ ⟨Nat.le_of_ble_eq_true rfl, Nat.le_of_ble_eq_true rfl⟩ dX4_putGroup_39 rfl ?_
    rcases g_ite h with ⟨c7, h⟩ | ⟨c7, h⟩
    · refine g_if_eq_t c7 (tgt := 71) rfl dX4_putGroup_42 ?_
      exact tX4_putGroup_b71 ht1 h Kc Kx
    · refine g_if_eq_f c7 (tgt := 71) rfl dX4_putGroup_42 ?_
      refine g_iload 4 rfl dX4_putGroup_45 ?_
      refine g_iload_n 2 rfl rfl dX4_putGroup_47 ?_
      obtain ⟨v8, ev8, h⟩ := g_bnd h
      refine g_callN LX4_42 (kX10_headOf ev8) rfl rfl (Nat.le_of_ble_eq_true rfl) ⟨Nat.le_of_ble_eq_true rfl, Nat.le_of_ble_eq_true rfl⟩ ⟨Nat.le_of_ble_eq_true rfl, Nat.le_of_ble_eq_true rfl⟩ dX4_putGroup_48 rfl ?_
      rcases g_ite h with ⟨c9, h⟩ | ⟨c9, h⟩
      · refine g_icmp_eq_t c9 (tgt := 60) rfl dX4_putGroup_51 ?_
        exact tX4_putGroup_b60 ht1 h Kc Kx
      · refine g_icmp_eq_f c9 (tgt := 60) rfl dX4_putGroup_51 ?_
        refine g_aload_n 0 rfl rfl dX4_putGroup_54 ?_
        refine g_bipush (v := 43) rfl dX4_putGroup_55 ?_
        obtain ⟨v12, ev12, h⟩ := g_bnd h
        refine g_callV LX4_23 sC_34 rfl (kX4_put ev12) rfl rfl (Nat.le_of_ble_eq_true rfl) ⟨Nat.le_of_ble_eq_true rfl, Nat.le_of_ble_eq_true rfl⟩ ⟨Nat.le_of_ble_eq_true rfl, Nat.le_of_ble_eq_true rfl⟩ dX4_putGroup_57 rfl ?_
        exact tX4_putGroup_b60 ht1 h Kc Kx
def fX4_putGroup_b24 (t1 : Nat) (x2 : Int32) (x3 : Int32) (M0 : gMem) : Option gMem :=
  (gLoop (fun z9 => fX4_putGroup_l27 t1 x2 x3 z9.1 z9.2) gFu ((0 : Int32), M0)).bind fun w13 => if x3 = 0 then (some w13) else (fX4_put (41 : Int32) w13).bind fun v15 => some v15
set_option maxRecDepth 20000 in
theorem tX4_putGroup_b24 {X : gX} {V : gEnv} {t1 : Nat} {x2 : Int32} {x3 : Int32} {M0 : gMem} (ht1 : gNet gShC t1) {o : gMem} (h : fX4_putGroup_b24 t1 x2 x3 M0 = some o) (O : gO X V mX4_putGroup gShC none none o) : gG X V mX4_putGroup gShC M0 0 0 24 [(0, .ref (gAd V 34)), (1, .ref (gAd V t1)), (2, .int x2), (3, .int x3)] [] := by
  unfold fX4_putGroup_b24 at h
  refine g_iconst (v := 0) rfl dX4_putGroup_24 ?_
  refine g_istore (ls' := [(4, .int (0 : Int32)), (0, .ref (gAd V 34)), (1, .ref (gAd V t1)), (2, .int x2), (3, .int x3)]) (Nat.le_of_ble_eq_true rfl) rfl dX4_putGroup_25 ?_
  obtain ⟨w13, ew13, h⟩ := g_bnd h
  refine g_sub [1, 2, 3, 4, 0] rfl ?_
  have KX : gG X V mX4_putGroup gShC w13 0 0 77 [(0, .ref (gAd V 34)), (3, .int x3)] [] := by
    refine g_iload_n 1 rfl rfl dX4_putGroup_77 ?_
    rcases g_ite h with ⟨c14, h⟩ | ⟨c14, h⟩
    · refine g_if_eq_t c14 (tgt := 87) rfl dX4_putGroup_78 ?_
      cases h
      exact g_vret O ⟨Nat.le_of_ble_eq_true rfl, Nat.le_of_ble_eq_true rfl⟩ dX4_putGroup_87
    · refine g_if_eq_f c14 (tgt := 87) rfl dX4_putGroup_78 ?_
      refine g_aload_n 0 rfl rfl dX4_putGroup_81 ?_
      refine g_bipush (v := 41) rfl dX4_putGroup_82 ?_
      obtain ⟨v15, ev15, h⟩ := g_bnd h
      refine g_callV LX4_23 sC_34 rfl (kX4_put ev15) rfl rfl (Nat.le_of_ble_eq_true rfl) ⟨Nat.le_of_ble_eq_true rfl, Nat.le_of_ble_eq_true rfl⟩ ⟨Nat.le_of_ble_eq_true rfl, Nat.le_of_ble_eq_true rfl⟩ dX4_putGroup_84 rfl ?_
      cases h
      exact g_vret O ⟨Nat.le_of_ble_eq_true rfl, Nat.le_of_ble_eq_true rfl⟩ dX4_putGroup_87
  exact gLoop_Q ew13 (fun z9 => gG X V mX4_putGroup gShC z9.2 0 0 27 [(0, .ref (gAd V 34)), (1, .ref (gAd V t1)), (2, .int x2), (3, .int x3), (4, .int z9.1)] []) (fun s9 o9 hb9 hc9 hx9 => tX4_putGroup_l27 ht1 hb9 hc9 (fun e9 he9 => by cases hx9 _ he9; exact KX))
def fX4_putGroup (t1 : Nat) (x2 : Int32) (M0 : gMem) : Option gMem :=
  (fJ6_bitCount_0f7a4 x2).bind fun v1 => (nm (if v1 ≤ (1 : Int32) then (0 : Int32) else (1 : Int32))).bind fun v3 => if v3 = 0 then (fX4_putGroup_b24 t1 x2 v3 M0) else (fX4_put (40 : Int32) M0).bind fun v16 => fX4_putGroup_b24 t1 x2 v3 v16
set_option maxRecDepth 20000 in
theorem tX4_putGroup {X : gX} {V : gEnv} {t1 : Nat} {x2 : Int32} {M0 : gMem} (ht1 : gNet gShC t1) {o : gMem} (h : fX4_putGroup t1 x2 M0 = some o) (O : gO X V mX4_putGroup gShC none none o) : gG X V mX4_putGroup gShC M0 0 0 0 [(0, .ref (gAd V 34)), (1, .ref (gAd V t1)), (2, .int x2)] [] := by
  unfold fX4_putGroup at h
  refine g_iload_n 2 rfl rfl dX4_putGroup_0 ?_
  obtain ⟨v1, ev1, h⟩ := g_bnd h
  refine g_callS LX4_27 (kJ6_bitCount_0f7a4 ev1) rfl rfl (Nat.le_of_ble_eq_true rfl) ⟨Nat.le_of_ble_eq_true rfl, Nat.le_of_ble_eq_true rfl⟩ ⟨Nat.le_of_ble_eq_true rfl, Nat.le_of_ble_eq_true rfl⟩ dX4_putGroup_1 rfl ?_
  refine g_iconst (v := 1) rfl dX4_putGroup_4 ?_
  have KJ : gG X V mX4_putGroup gShC M0 0 0 13 [(0, .ref (gAd V 34)), (1, .ref (gAd V t1)), (2, .int x2)] [.int (if v1 ≤ (1 : Int32) then (0 : Int32) else (1 : Int32))] := by
    obtain ⟨v3, ev3, h⟩ := g_bnd h
    refine g_nmI ev3 ?_
    refine g_istore_n (ls' := [(3, .int v3), (0, .ref (gAd V 34)), (1, .ref (gAd V t1)), (2, .int x2)]) rfl (Nat.le_of_ble_eq_true rfl) rfl dX4_putGroup_13 ?_
    refine g_iload_n 0 rfl rfl dX4_putGroup_14 ?_
    rcases g_ite h with ⟨c4, h⟩ | ⟨c4, h⟩
    · refine g_if_eq_t c4 (tgt := 24) rfl dX4_putGroup_15 ?_
      refine g_sub [1, 2, 3, 0] rfl ?_
      exact tX4_putGroup_b24 ht1 h O
    · refine g_if_eq_f c4 (tgt := 24) rfl dX4_putGroup_15 ?_
      refine g_aload_n 1 rfl rfl dX4_putGroup_18 ?_
      refine g_bipush (v := 40) rfl dX4_putGroup_19 ?_
      obtain ⟨v16, ev16, h⟩ := g_bnd h
      refine g_callV LX4_23 sC_34 rfl (kX4_put ev16) rfl rfl (Nat.le_of_ble_eq_true rfl) ⟨Nat.le_of_ble_eq_true rfl, Nat.le_of_ble_eq_true rfl⟩ ⟨Nat.le_of_ble_eq_true rfl, Nat.le_of_ble_eq_true rfl⟩ dX4_putGroup_21 rfl ?_
      refine g_sub [1, 2, 3, 0] rfl ?_
      exact tX4_putGroup_b24 ht1 h O
  by_cases c2 : v1 ≤ (1 : Int32)
  · rw [if_pos c2] at KJ
    refine g_icmp_le_t c2 (tgt := 12) rfl dX4_putGroup_5 ?_
    refine g_iconst (v := 0) rfl dX4_putGroup_12 ?_
    exact KJ
  · rw [if_neg c2] at KJ
    refine g_icmp_le_f c2 (tgt := 12) rfl dX4_putGroup_5 ?_
    refine g_iconst (v := 1) rfl dX4_putGroup_8 ?_
    refine g_goto (tgt := 13) rfl dX4_putGroup_9 ?_
    exact KJ
theorem kX4_putGroup {l : Launch} {V : gEnv} {M0 : gMem} {t1 : Nat} {x2 : Int32} (ht1 : gNet gShC t1) {o : gMem} (h : fX4_putGroup t1 x2 M0 = some o) : gM l yX4_putGroup cX4_putGroup 5 none rX4_putGroup V gShC [.ref (gAd V 34), .ref (gAd V t1), .int x2] M0 none o :=
  gM.of (by decide) (Nat.le_of_ble_eq_true rfl) rfl (fun X _ O => tX4_putGroup ht1 h O)
theorem dX5_putNumber_0 : decode cX5_putNumber 0 = .ok (.bipush 24, 2) := by decide +kernel
theorem dX5_putNumber_2 : decode cX5_putNumber 2 = .ok (.istore_n 2, 1) := by decide +kernel
theorem dX5_putNumber_3 : decode cX5_putNumber 3 = .ok (.iload_n 2, 1) := by decide +kernel
theorem dX5_putNumber_4 : decode cX5_putNumber 4 = .ok (.ifCond .lt 42, 3) := by decide +kernel
theorem dX5_putNumber_7 : decode cX5_putNumber 7 = .ok (.aload_n 0, 1) := by decide +kernel
theorem dX5_putNumber_8 : decode cX5_putNumber 8 = .ok (.getfield 15, 3) := by decide +kernel
theorem dX5_putNumber_11 : decode cX5_putNumber 11 = .ok (.sipush 900, 3) := by decide +kernel
theorem dX5_putNumber_14 : decode cX5_putNumber 14 = .ok (.if_icmp .ge 26, 3) := by decide +kernel
theorem dX5_putNumber_17 : decode cX5_putNumber 17 = .ok (.aload_n 0, 1) := by decide +kernel
theorem dX5_putNumber_18 : decode cX5_putNumber 18 = .ok (.getfield 9, 3) := by decide +kernel
theorem dX5_putNumber_21 : decode cX5_putNumber 21 = .ok (.aload_n 0, 1) := by decide +kernel
theorem dX5_putNumber_22 : decode cX5_putNumber 22 = .ok (.getfield 15, 3) := by decide +kernel
theorem dX5_putNumber_25 : decode cX5_putNumber 25 = .ok (.iload_n 1, 1) := by decide +kernel
theorem dX5_putNumber_26 : decode cX5_putNumber 26 = .ok (.iload_n 2, 1) := by decide +kernel
theorem dX5_putNumber_27 : decode cX5_putNumber 27 = .ok (.ishr, 1) := by decide +kernel
theorem dX5_putNumber_28 : decode cX5_putNumber 28 = .ok (.i2b, 1) := by decide +kernel
theorem dX5_putNumber_29 : decode cX5_putNumber 29 = .ok (.bastore, 1) := by decide +kernel
theorem dX5_putNumber_30 : decode cX5_putNumber 30 = .ok (.aload_n 0, 1) := by decide +kernel
theorem dX5_putNumber_31 : decode cX5_putNumber 31 = .ok (.dup, 1) := by decide +kernel
theorem dX5_putNumber_32 : decode cX5_putNumber 32 = .ok (.getfield 15, 3) := by decide +kernel
theorem dX5_putNumber_35 : decode cX5_putNumber 35 = .ok (.iconst 1, 1) := by decide +kernel
theorem dX5_putNumber_36 : decode cX5_putNumber 36 = .ok (.iadd, 1) := by decide +kernel
theorem dX5_putNumber_37 : decode cX5_putNumber 37 = .ok (.putfield 15, 3) := by decide +kernel
theorem dX5_putNumber_40 : decode cX5_putNumber 40 = .ok (.iinc 2 (-8), 3) := by decide +kernel
theorem dX5_putNumber_43 : decode cX5_putNumber 43 = .ok (.goto (-40), 3) := by decide +kernel
theorem dX5_putNumber_46 : decode cX5_putNumber 46 = .ok (.return_, 1) := by decide +kernel
abbrev rX5_putNumber : Room := { frames := 0, cells := 0, slots := 0, locals := 0 }
abbrev mX5_putNumber : gY := (cX5_putNumber, RX5, 3, rX5_putNumber)
def fX5_putNumber_b40 (x1 : Int32) (x2 : Int32) (M0 : gMem) : Option ((Int32 × gMem) ⊕ gMem) :=
  some (.inl (x2 + (-8 : Int32), M0))
set_option maxRecDepth 20000 in
theorem tX5_putNumber_b40 {X : gX} {V : gEnv} {x1 : Int32} {x2 : Int32} {M0 : gMem}  {o : ((Int32 × gMem) ⊕ gMem)} (h : fX5_putNumber_b40 x1 x2 M0 = some o) (Kc : ∀ s9, o = .inl s9 → gG X V mX5_putNumber gShC s9.2 0 0 3 [(0, .ref (gAd V 32)), (1, .int x1), (2, .int s9.1)] []) (Kx : ∀ e9, o = .inr e9 → gG X V mX5_putNumber gShC e9 0 0 46 [] []) : gG X V mX5_putNumber gShC M0 0 0 40 [(0, .ref (gAd V 32)), (1, .int x1), (2, .int x2)] [] := by
  unfold fX5_putNumber_b40 at h
  refine g_iinc (j := 2) (v := x2 + (-8 : Int32)) (ls' := [(2, .int (x2 + (-8 : Int32))), (0, .ref (gAd V 32)), (1, .int x1)]) rfl (congrArg (fun z => x2 + z) (by decide)) (Nat.le_of_ble_eq_true rfl) rfl dX5_putNumber_40 ?_
  refine g_goto (tgt := 3) rfl dX5_putNumber_43 ?_
  cases h
  refine g_sub [1, 2, 0] rfl ?_
  exact Kc (x2 + (-8 : Int32), M0) rfl
def fX5_putNumber_l3 (x1 : Int32) (x2 : Int32) (M0 : gMem) : Option ((Int32 × gMem) ⊕ gMem) :=
  if x2 < 0 then (some (.inr M0)) else if (900 : Int32) ≤ (M0.1 32 1) then (fX5_putNumber_b40 x1 x2 M0) else (wI M0 33 900 (M0.1 32 1) (((x1 >>> (x2 &&& 31)).toInt8.toInt32).toInt8.toInt32)).bind fun M3 => (wF M3 32 1 ((M3.1 32 1) + (1 : Int32))).bind fun M4 => fX5_putNumber_b40 x1 x2 M4
set_option maxRecDepth 20000 in
theorem tX5_putNumber_l3 {X : gX} {V : gEnv} {x1 : Int32} {x2 : Int32} {M0 : gMem}  {o : ((Int32 × gMem) ⊕ gMem)} (h : fX5_putNumber_l3 x1 x2 M0 = some o) (Kc : ∀ s9, o = .inl s9 → gG X V mX5_putNumber gShC s9.2 0 0 3 [(0, .ref (gAd V 32)), (1, .int x1), (2, .int s9.1)] []) (Kx : ∀ e9, o = .inr e9 → gG X V mX5_putNumber gShC e9 0 0 46 [] []) : gG X V mX5_putNumber gShC M0 0 0 3 [(0, .ref (gAd V 32)), (1, .int x1), (2, .int x2)] [] := by
  unfold fX5_putNumber_l3 at h
  refine g_iload_n 2 rfl rfl dX5_putNumber_3 ?_
  rcases g_ite h with ⟨c1, h⟩ | ⟨c1, h⟩
  · refine g_if_lt_t c1 (tgt := 46) rfl dX5_putNumber_4 ?_
    cases h
    refine g_sub [] rfl ?_
    exact Kx M0 rfl
  · refine g_if_lt_f c1 (tgt := 46) rfl dX5_putNumber_4 ?_
    refine g_aload_n 0 rfl rfl dX5_putNumber_7 ?_
    refine g_getI FX5_15 sC_32 rfl dX5_putNumber_8 ?_
    refine g_sipush (v := 900) rfl dX5_putNumber_11 ?_
    rcases g_ite h with ⟨c2, h⟩ | ⟨c2, h⟩
    · refine g_icmp_ge_t c2 (tgt := 40) rfl dX5_putNumber_14 ?_
      exact tX5_putNumber_b40  h Kc Kx
    · refine g_icmp_ge_f c2 (tgt := 40) rfl dX5_putNumber_14 ?_
      refine g_aload_n 0 rfl rfl dX5_putNumber_17 ?_
      refine g_getR FX5_9 sC_32 rfl dX5_putNumber_18 ?_
      refine g_aload_n 0 rfl rfl dX5_putNumber_21 ?_
      refine g_getI FX5_15 sC_32 rfl dX5_putNumber_22 ?_
      refine g_iload_n 1 rfl rfl dX5_putNumber_25 ?_
      refine g_iload_n 2 rfl rfl dX5_putNumber_26 ?_
      refine g_ishr dX5_putNumber_27 ?_
      refine g_i2b dX5_putNumber_28 ?_
      obtain ⟨M3, eM3, h⟩ := g_bnd h
      refine g_bast' eM3 sC_33 dX5_putNumber_29 ?_
      refine g_aload_n 0 rfl rfl dX5_putNumber_30 ?_
      refine g_dup rfl dX5_putNumber_31 ?_
      refine g_getI FX5_15 sC_32 rfl dX5_putNumber_32 ?_
      refine g_iconst (v := 1) rfl dX5_putNumber_35 ?_
      refine g_iadd dX5_putNumber_36 ?_
      obtain ⟨M4, eM4, h⟩ := g_bnd h
      refine g_putI' eM4 FX5_15 jX5 sC_32 rfl rfl rfl dX5_putNumber_37 ?_
      exact tX5_putNumber_b40  h Kc Kx
def fX5_putNumber (x1 : Int32) (M0 : gMem) : Option gMem :=
  (gLoop (fun z9 => fX5_putNumber_l3 x1 z9.1 z9.2) gFu ((24 : Int32), M0)).bind fun w5 => some w5
set_option maxRecDepth 20000 in
theorem tX5_putNumber {X : gX} {V : gEnv} {x1 : Int32} {M0 : gMem}  {o : gMem} (h : fX5_putNumber x1 M0 = some o) (O : gO X V mX5_putNumber gShC none none o) : gG X V mX5_putNumber gShC M0 0 0 0 [(0, .ref (gAd V 32)), (1, .int x1)] [] := by
  unfold fX5_putNumber at h
  refine g_bipush (v := 24) rfl dX5_putNumber_0 ?_
  refine g_istore_n (ls' := [(2, .int (24 : Int32)), (0, .ref (gAd V 32)), (1, .int x1)]) rfl (Nat.le_of_ble_eq_true rfl) rfl dX5_putNumber_2 ?_
  obtain ⟨w5, ew5, h⟩ := g_bnd h
  refine g_sub [1, 2, 0] rfl ?_
  have KX : gG X V mX5_putNumber gShC w5 0 0 46 [] [] := by
    cases h
    exact g_vret O ⟨Nat.le_of_ble_eq_true rfl, Nat.le_of_ble_eq_true rfl⟩ dX5_putNumber_46
  exact gLoop_Q ew5 (fun z9 => gG X V mX5_putNumber gShC z9.2 0 0 3 [(0, .ref (gAd V 32)), (1, .int x1), (2, .int z9.1)] []) (fun s9 o9 hb9 hc9 hx9 => tX5_putNumber_l3  hb9 hc9 (fun e9 he9 => by cases hx9 _ he9; exact KX))
theorem kX5_putNumber {l : Launch} {V : gEnv} {M0 : gMem} {x1 : Int32}  {o : gMem} (h : fX5_putNumber x1 M0 = some o) : gM l yX5_putNumber cX5_putNumber 3 none rX5_putNumber V gShC [.ref (gAd V 32), .int x1] M0 none o :=
  gM.of (by decide) (Nat.le_of_ble_eq_true rfl) rfl (fun X _ O => tX5_putNumber  h O)
theorem dX5_wholeName_0 : decode cX5_wholeName 0 = .ok (.aload_n 0, 1) := by decide +kernel
theorem dX5_wholeName_1 : decode cX5_wholeName 1 = .ok (.getfield 15, 3) := by decide +kernel
theorem dX5_wholeName_4 : decode cX5_wholeName 4 = .ok (.bipush 6, 2) := by decide +kernel
theorem dX5_wholeName_6 : decode cX5_wholeName 6 = .ok (.if_icmp .le 5, 3) := by decide +kernel
theorem dX5_wholeName_9 : decode cX5_wholeName 9 = .ok (.lconst 0, 1) := by decide +kernel
theorem dX5_wholeName_10 : decode cX5_wholeName 10 = .ok (.lreturn, 1) := by decide +kernel
theorem dX5_wholeName_11 : decode cX5_wholeName 11 = .ok (.iconst 0, 1) := by decide +kernel
theorem dX5_wholeName_12 : decode cX5_wholeName 12 = .ok (.istore_n 1, 1) := by decide +kernel
theorem dX5_wholeName_13 : decode cX5_wholeName 13 = .ok (.iload_n 1, 1) := by decide +kernel
theorem dX5_wholeName_14 : decode cX5_wholeName 14 = .ok (.aload_n 0, 1) := by decide +kernel
theorem dX5_wholeName_15 : decode cX5_wholeName 15 = .ok (.getfield 15, 3) := by decide +kernel
theorem dX5_wholeName_18 : decode cX5_wholeName 18 = .ok (.if_icmp .ge 19, 3) := by decide +kernel
theorem dX5_wholeName_21 : decode cX5_wholeName 21 = .ok (.aload_n 0, 1) := by decide +kernel
theorem dX5_wholeName_22 : decode cX5_wholeName 22 = .ok (.iload_n 1, 1) := by decide +kernel
theorem dX5_wholeName_23 : decode cX5_wholeName 23 = .ok (.invokevirtual 34, 3) := by decide +kernel
theorem dX5_wholeName_26 : decode cX5_wholeName 26 = .ok (.ifCond .ne 5, 3) := by decide +kernel
theorem dX5_wholeName_29 : decode cX5_wholeName 29 = .ok (.lconst 0, 1) := by decide +kernel
theorem dX5_wholeName_30 : decode cX5_wholeName 30 = .ok (.lreturn, 1) := by decide +kernel
theorem dX5_wholeName_31 : decode cX5_wholeName 31 = .ok (.iinc 1 1, 3) := by decide +kernel
theorem dX5_wholeName_34 : decode cX5_wholeName 34 = .ok (.goto (-21), 3) := by decide +kernel
theorem dX5_wholeName_37 : decode cX5_wholeName 37 = .ok (.aload_n 0, 1) := by decide +kernel
theorem dX5_wholeName_38 : decode cX5_wholeName 38 = .ok (.iconst 0, 1) := by decide +kernel
theorem dX5_wholeName_39 : decode cX5_wholeName 39 = .ok (.aload_n 0, 1) := by decide +kernel
theorem dX5_wholeName_40 : decode cX5_wholeName 40 = .ok (.getfield 15, 3) := by decide +kernel
theorem dX5_wholeName_43 : decode cX5_wholeName 43 = .ok (.invokevirtual 56, 3) := by decide +kernel
theorem dX5_wholeName_46 : decode cX5_wholeName 46 = .ok (.lreturn, 1) := by decide +kernel
abbrev rX5_wholeName : Room := { frames := 1, cells := 0, slots := 0, locals := 25 }
abbrev mX5_wholeName : gY := (cX5_wholeName, RX5, 2, rX5_wholeName)
def fX5_wholeName_l13 (M0 : gMem) (x1 : Int32) : Option (Int32 ⊕ (Unit ⊕ Int64)) :=
  if (M0.1 32 1) ≤ x1 then (some (.inr (.inl ()))) else (fX5_isLetterAt x1 M0).bind fun v3 => if v3 = 0 then (some (.inr (.inr (0 : Int64)))) else some (.inl (x1 + (1 : Int32)))
set_option maxRecDepth 20000 in
theorem tX5_wholeName_l13 {X : gX} {V : gEnv} {M0 : gMem} {x1 : Int32}  {o : (Int32 ⊕ (Unit ⊕ Int64))} (h : fX5_wholeName_l13 M0 x1 = some o) (Kc : ∀ s9, o = .inl s9 → gG X V mX5_wholeName gShC M0 0 0 13 [(0, .ref (gAd V 32)), (1, .int s9)] []) (Kx : ∀ e9, o = .inr (.inl e9) → gG X V mX5_wholeName gShC M0 0 0 37 [(0, .ref (gAd V 32))] []) (Kr : ∀ r9, o = .inr (.inr r9) → gO X V mX5_wholeName gShC (some .long) (some (.long r9)) M0) : gG X V mX5_wholeName gShC M0 0 0 13 [(0, .ref (gAd V 32)), (1, .int x1)] [] := by
  unfold fX5_wholeName_l13 at h
  refine g_iload_n 1 rfl rfl dX5_wholeName_13 ?_
  refine g_aload_n 0 rfl rfl dX5_wholeName_14 ?_
  refine g_getI FX5_15 sC_32 rfl dX5_wholeName_15 ?_
  rcases g_ite h with ⟨c2, h⟩ | ⟨c2, h⟩
  · refine g_icmp_ge_t c2 (tgt := 37) rfl dX5_wholeName_18 ?_
    cases h
    refine g_sub [0] rfl ?_
    exact Kx () rfl
  · refine g_icmp_ge_f c2 (tgt := 37) rfl dX5_wholeName_18 ?_
    refine g_aload_n 0 rfl rfl dX5_wholeName_21 ?_
    refine g_iload_n 1 rfl rfl dX5_wholeName_22 ?_
    obtain ⟨v3, ev3, h⟩ := g_bnd h
    refine g_callV LX5_34 sC_32 rfl (kX5_isLetterAt ev3) rfl rfl (Nat.le_of_ble_eq_true rfl) ⟨Nat.le_of_ble_eq_true rfl, Nat.le_of_ble_eq_true rfl⟩ ⟨Nat.le_of_ble_eq_true rfl, Nat.le_of_ble_eq_true rfl⟩ dX5_wholeName_23 rfl ?_
    rcases g_ite h with ⟨c4, h⟩ | ⟨c4, h⟩
    · refine g_if_ne_f c4 (tgt := 31) rfl dX5_wholeName_26 ?_
      refine g_lconst (v := 0) rfl dX5_wholeName_29 ?_
      cases h
      exact g_lret (Kr (0 : Int64) rfl) ⟨Nat.le_of_ble_eq_true rfl, Nat.le_of_ble_eq_true rfl⟩ dX5_wholeName_30
    · refine g_if_ne_t c4 (tgt := 31) rfl dX5_wholeName_26 ?_
      refine g_iinc (j := 1) (v := x1 + (1 : Int32)) (ls' := [(1, .int (x1 + (1 : Int32))), (0, .ref (gAd V 32))]) rfl rfl (Nat.le_of_ble_eq_true rfl) rfl dX5_wholeName_31 ?_
      refine g_goto (tgt := 13) rfl dX5_wholeName_34 ?_
      cases h
      refine g_sub [1, 0] rfl ?_
      exact Kc (x1 + (1 : Int32)) rfl
def fX5_wholeName (M0 : gMem) : Option Int64 :=
  if (M0.1 32 1) ≤ (6 : Int32) then ((gLoop (fun z9 => fX5_wholeName_l13 M0 z9) gFu (0 : Int32)).bind fun w5 => gSE w5 (fun y6 => (fX5_packed (0 : Int32) (M0.1 32 1) M0).bind fun v7 => some v7) (fun r8 => some r8)) else some (0 : Int64)
set_option maxRecDepth 20000 in
theorem tX5_wholeName {X : gX} {V : gEnv} {M0 : gMem}  {o : Int64} (h : fX5_wholeName M0 = some o) (O : gO X V mX5_wholeName gShC (some .long) (some (.long o)) M0) : gG X V mX5_wholeName gShC M0 0 0 0 [(0, .ref (gAd V 32))] [] := by
  unfold fX5_wholeName at h
  refine g_aload_n 0 rfl rfl dX5_wholeName_0 ?_
  refine g_getI FX5_15 sC_32 rfl dX5_wholeName_1 ?_
  refine g_bipush (v := 6) rfl dX5_wholeName_4 ?_
  rcases g_ite h with ⟨c1, h⟩ | ⟨c1, h⟩
  · refine g_icmp_le_t c1 (tgt := 11) rfl dX5_wholeName_6 ?_
    refine g_iconst (v := 0) rfl dX5_wholeName_11 ?_
    refine g_istore_n (ls' := [(1, .int (0 : Int32)), (0, .ref (gAd V 32))]) rfl (Nat.le_of_ble_eq_true rfl) rfl dX5_wholeName_12 ?_
    obtain ⟨w5, ew5, h⟩ := g_bnd h
    refine g_sub [1, 0] rfl ?_
    rcases w5 with y6 | r8
    · have h := g_sl h
      have KX : gG X V mX5_wholeName gShC M0 0 0 37 [(0, .ref (gAd V 32))] [] := by
        refine g_aload_n 0 rfl rfl dX5_wholeName_37 ?_
        refine g_iconst (v := 0) rfl dX5_wholeName_38 ?_
        refine g_aload_n 0 rfl rfl dX5_wholeName_39 ?_
        refine g_getI FX5_15 sC_32 rfl dX5_wholeName_40 ?_
        obtain ⟨v7, ev7, h⟩ := g_bnd h
        refine g_callV LX5_56 sC_32 rfl (kX5_packed ev7) rfl rfl (Nat.le_of_ble_eq_true rfl) ⟨Nat.le_of_ble_eq_true rfl, Nat.le_of_ble_eq_true rfl⟩ ⟨Nat.le_of_ble_eq_true rfl, Nat.le_of_ble_eq_true rfl⟩ dX5_wholeName_43 rfl ?_
        cases h
        exact g_lret O ⟨Nat.le_of_ble_eq_true rfl, Nat.le_of_ble_eq_true rfl⟩ dX5_wholeName_46
      exact gLoop_Q ew5 (fun z9 => gG X V mX5_wholeName gShC M0 0 0 13 [(0, .ref (gAd V 32)), (1, .int z9)] []) (fun s9 o9 hb9 hc9 hx9 => tX5_wholeName_l13  hb9 hc9 (fun e9 he9 => by cases hx9 _ he9; exact KX) (fun r9 he9 => by cases hx9 _ he9))
    · have h := g_sr h
      cases h
      exact gLoop_Q ew5 (fun z9 => gG X V mX5_wholeName gShC M0 0 0 13 [(0, .ref (gAd V 32)), (1, .int z9)] []) (fun s9 o9 hb9 hc9 hx9 => tX5_wholeName_l13  hb9 hc9 (fun e9 he9 => by cases hx9 _ he9) (fun r9 he9 => by cases hx9 _ he9; exact O))
  · refine g_icmp_le_f c1 (tgt := 11) rfl dX5_wholeName_6 ?_
    refine g_lconst (v := 0) rfl dX5_wholeName_9 ?_
    cases h
    exact g_lret O ⟨Nat.le_of_ble_eq_true rfl, Nat.le_of_ble_eq_true rfl⟩ dX5_wholeName_10
theorem kX5_wholeName {l : Launch} {V : gEnv} {M0 : gMem}   {o : Int64} (h : fX5_wholeName M0 = some o) : gM l yX5_wholeName cX5_wholeName 2 (some .long) rX5_wholeName V gShC [.ref (gAd V 32)] M0 (some (.long o)) M0 :=
  gM.of (by decide) (Nat.le_of_ble_eq_true rfl) rfl (fun X _ O => tX5_wholeName  h O)
theorem dX8_turnedPairs_0 : decode cX8_turnedPairs 0 = .ok (.iconst 0, 1) := by decide +kernel
theorem dX8_turnedPairs_1 : decode cX8_turnedPairs 1 = .ok (.istore_n 2, 1) := by decide +kernel
theorem dX8_turnedPairs_2 : decode cX8_turnedPairs 2 = .ok (.iconst 0, 1) := by decide +kernel
theorem dX8_turnedPairs_3 : decode cX8_turnedPairs 3 = .ok (.istore_n 3, 1) := by decide +kernel
theorem dX8_turnedPairs_4 : decode cX8_turnedPairs 4 = .ok (.iload_n 3, 1) := by decide +kernel
theorem dX8_turnedPairs_5 : decode cX8_turnedPairs 5 = .ok (.aload_n 1, 1) := by decide +kernel
theorem dX8_turnedPairs_6 : decode cX8_turnedPairs 6 = .ok (.getfield 28, 3) := by decide +kernel
theorem dX8_turnedPairs_9 : decode cX8_turnedPairs 9 = .ok (.if_icmp .ge 43, 3) := by decide +kernel
theorem dX8_turnedPairs_12 : decode cX8_turnedPairs 12 = .ok (.iconst 0, 1) := by decide +kernel
theorem dX8_turnedPairs_13 : decode cX8_turnedPairs 13 = .ok (.istore 4, 2) := by decide +kernel
theorem dX8_turnedPairs_15 : decode cX8_turnedPairs 15 = .ok (.iload 4, 2) := by decide +kernel
theorem dX8_turnedPairs_17 : decode cX8_turnedPairs 17 = .ok (.iload_n 3, 1) := by decide +kernel
theorem dX8_turnedPairs_18 : decode cX8_turnedPairs 18 = .ok (.if_icmp .ge 28, 3) := by decide +kernel
theorem dX8_turnedPairs_21 : decode cX8_turnedPairs 21 = .ok (.aload_n 0, 1) := by decide +kernel
theorem dX8_turnedPairs_22 : decode cX8_turnedPairs 22 = .ok (.getfield 18, 3) := by decide +kernel
theorem dX8_turnedPairs_25 : decode cX8_turnedPairs 25 = .ok (.iload 4, 2) := by decide +kernel
theorem dX8_turnedPairs_27 : decode cX8_turnedPairs 27 = .ok (.iaload, 1) := by decide +kernel
theorem dX8_turnedPairs_28 : decode cX8_turnedPairs 28 = .ok (.aload_n 0, 1) := by decide +kernel
theorem dX8_turnedPairs_29 : decode cX8_turnedPairs 29 = .ok (.getfield 18, 3) := by decide +kernel
theorem dX8_turnedPairs_32 : decode cX8_turnedPairs 32 = .ok (.iload_n 3, 1) := by decide +kernel
theorem dX8_turnedPairs_33 : decode cX8_turnedPairs 33 = .ok (.iaload, 1) := by decide +kernel
theorem dX8_turnedPairs_34 : decode cX8_turnedPairs 34 = .ok (.if_icmp .le 6, 3) := by decide +kernel
theorem dX8_turnedPairs_37 : decode cX8_turnedPairs 37 = .ok (.iinc 2 1, 3) := by decide +kernel
theorem dX8_turnedPairs_40 : decode cX8_turnedPairs 40 = .ok (.iinc 4 1, 3) := by decide +kernel
theorem dX8_turnedPairs_43 : decode cX8_turnedPairs 43 = .ok (.goto (-28), 3) := by decide +kernel
theorem dX8_turnedPairs_46 : decode cX8_turnedPairs 46 = .ok (.iinc 3 1, 3) := by decide +kernel
theorem dX8_turnedPairs_49 : decode cX8_turnedPairs 49 = .ok (.goto (-45), 3) := by decide +kernel
theorem dX8_turnedPairs_52 : decode cX8_turnedPairs 52 = .ok (.iload_n 2, 1) := by decide +kernel
theorem dX8_turnedPairs_53 : decode cX8_turnedPairs 53 = .ok (.ireturn, 1) := by decide +kernel
abbrev rX8_turnedPairs : Room := { frames := 0, cells := 0, slots := 0, locals := 0 }
abbrev mX8_turnedPairs : gY := (cX8_turnedPairs, RX8, 5, rX8_turnedPairs)
def fX8_turnedPairs_b40 (t1 : Nat) (x2 : Int32) (x3 : Int32) (x4 : Int32) (M0 : gMem) : Option ((Int32 × Int32) ⊕ Int32) :=
  some (.inl (x2, x4 + (1 : Int32)))
set_option maxRecDepth 20000 in
theorem tX8_turnedPairs_b40 {X : gX} {V : gEnv} {t1 : Nat} {x2 : Int32} {x3 : Int32} {x4 : Int32} {M0 : gMem} (ht1 : gNet gShC t1) {o : ((Int32 × Int32) ⊕ Int32)} (h : fX8_turnedPairs_b40 t1 x2 x3 x4 M0 = some o) (Kc : ∀ s9, o = .inl s9 → gG X V mX8_turnedPairs gShC M0 0 0 15 [(0, .ref (gAd V 44)), (1, .ref (gAd V t1)), (2, .int s9.1), (3, .int x3), (4, .int s9.2)] []) (Kx : ∀ e9, o = .inr e9 → gG X V mX8_turnedPairs gShC M0 0 0 46 [(0, .ref (gAd V 44)), (1, .ref (gAd V t1)), (2, .int e9), (3, .int x3)] []) : gG X V mX8_turnedPairs gShC M0 0 0 40 [(0, .ref (gAd V 44)), (1, .ref (gAd V t1)), (2, .int x2), (3, .int x3), (4, .int x4)] [] := by
  unfold fX8_turnedPairs_b40 at h
  refine g_iinc (j := 4) (v := x4 + (1 : Int32)) (ls' := [(4, .int (x4 + (1 : Int32))), (0, .ref (gAd V 44)), (1, .ref (gAd V t1)), (2, .int x2), (3, .int x3)]) rfl rfl (Nat.le_of_ble_eq_true rfl) rfl dX8_turnedPairs_40 ?_
  refine g_goto (tgt := 15) rfl dX8_turnedPairs_43 ?_
  cases h
  refine g_sub [1, 2, 3, 4, 0] rfl ?_
  exact Kc (x2, x4 + (1 : Int32)) rfl
def fX8_turnedPairs_l15 (t1 : Nat) (x3 : Int32) (M0 : gMem) (x2 : Int32) (x4 : Int32) : Option ((Int32 × Int32) ⊕ Int32) :=
  if x3 ≤ x4 then (some (.inr x2)) else (rI M0 47 24 x4).bind fun v3 => (rI M0 47 24 x3).bind fun v4 => if v3 ≤ v4 then (fX8_turnedPairs_b40 t1 x2 x3 x4 M0) else fX8_turnedPairs_b40 t1 (x2 + (1 : Int32)) x3 x4 M0
set_option maxRecDepth 20000 in
theorem tX8_turnedPairs_l15 {X : gX} {V : gEnv} {t1 : Nat} {x3 : Int32} {M0 : gMem} {x2 : Int32} {x4 : Int32} (ht1 : gNet gShC t1) {o : ((Int32 × Int32) ⊕ Int32)} (h : fX8_turnedPairs_l15 t1 x3 M0 x2 x4 = some o) (Kc : ∀ s9, o = .inl s9 → gG X V mX8_turnedPairs gShC M0 0 0 15 [(0, .ref (gAd V 44)), (1, .ref (gAd V t1)), (2, .int s9.1), (3, .int x3), (4, .int s9.2)] []) (Kx : ∀ e9, o = .inr e9 → gG X V mX8_turnedPairs gShC M0 0 0 46 [(0, .ref (gAd V 44)), (1, .ref (gAd V t1)), (2, .int e9), (3, .int x3)] []) : gG X V mX8_turnedPairs gShC M0 0 0 15 [(0, .ref (gAd V 44)), (1, .ref (gAd V t1)), (2, .int x2), (3, .int x3), (4, .int x4)] [] := by
  unfold fX8_turnedPairs_l15 at h
  refine g_iload 4 rfl dX8_turnedPairs_15 ?_
  refine g_iload_n 3 rfl rfl dX8_turnedPairs_17 ?_
  rcases g_ite h with ⟨c2, h⟩ | ⟨c2, h⟩
  · refine g_icmp_ge_t c2 (tgt := 46) rfl dX8_turnedPairs_18 ?_
    cases h
    refine g_sub [0, 1, 2, 3] rfl ?_
    exact Kx x2 rfl
  · refine g_icmp_ge_f c2 (tgt := 46) rfl dX8_turnedPairs_18 ?_
    refine g_aload_n 0 rfl rfl dX8_turnedPairs_21 ?_
    refine g_getR FX8_18 sC_44 rfl dX8_turnedPairs_22 ?_
    refine g_iload 4 rfl dX8_turnedPairs_25 ?_
    obtain ⟨v3, ev3, h⟩ := g_bnd h
    refine g_iald' ev3 sC_47 dX8_turnedPairs_27 ?_
    refine g_aload_n 0 rfl rfl dX8_turnedPairs_28 ?_
    refine g_getR FX8_18 sC_44 rfl dX8_turnedPairs_29 ?_
    refine g_iload_n 3 rfl rfl dX8_turnedPairs_32 ?_
    obtain ⟨v4, ev4, h⟩ := g_bnd h
    refine g_iald' ev4 sC_47 dX8_turnedPairs_33 ?_
    rcases g_ite h with ⟨c5, h⟩ | ⟨c5, h⟩
    · refine g_icmp_le_t c5 (tgt := 40) rfl dX8_turnedPairs_34 ?_
      exact tX8_turnedPairs_b40 ht1 h Kc Kx
    · refine g_icmp_le_f c5 (tgt := 40) rfl dX8_turnedPairs_34 ?_
      refine g_iinc (j := 2) (v := x2 + (1 : Int32)) (ls' := [(2, .int (x2 + (1 : Int32))), (0, .ref (gAd V 44)), (1, .ref (gAd V t1)), (3, .int x3), (4, .int x4)]) rfl rfl (Nat.le_of_ble_eq_true rfl) rfl dX8_turnedPairs_37 ?_
      refine g_sub [1, 2, 0, 3, 4] rfl ?_
      exact tX8_turnedPairs_b40 ht1 h Kc Kx
def fX8_turnedPairs_l4 (t1 : Nat) (M0 : gMem) (x2 : Int32) (x3 : Int32) : Option ((Int32 × Int32) ⊕ Int32) :=
  if (M0.1 t1 11) ≤ x3 then (some (.inr x2)) else (gLoop (fun z9 => fX8_turnedPairs_l15 t1 x3 M0 z9.1 z9.2) gFu (x2, (0 : Int32))).bind fun w6 => some (.inl (w6, x3 + (1 : Int32)))
set_option maxRecDepth 20000 in
theorem tX8_turnedPairs_l4 {X : gX} {V : gEnv} {t1 : Nat} {M0 : gMem} {x2 : Int32} {x3 : Int32} (ht1 : gNet gShC t1) {o : ((Int32 × Int32) ⊕ Int32)} (h : fX8_turnedPairs_l4 t1 M0 x2 x3 = some o) (Kc : ∀ s9, o = .inl s9 → gG X V mX8_turnedPairs gShC M0 0 0 4 [(0, .ref (gAd V 44)), (1, .ref (gAd V t1)), (2, .int s9.1), (3, .int s9.2)] []) (Kx : ∀ e9, o = .inr e9 → gG X V mX8_turnedPairs gShC M0 0 0 52 [(2, .int e9)] []) : gG X V mX8_turnedPairs gShC M0 0 0 4 [(0, .ref (gAd V 44)), (1, .ref (gAd V t1)), (2, .int x2), (3, .int x3)] [] := by
  unfold fX8_turnedPairs_l4 at h
  refine g_iload_n 3 rfl rfl dX8_turnedPairs_4 ?_
  refine g_aload_n 1 rfl rfl dX8_turnedPairs_5 ?_
  refine g_getI FX8_28 ht1.1 rfl dX8_turnedPairs_6 ?_
  rcases g_ite h with ⟨c1, h⟩ | ⟨c1, h⟩
  · refine g_icmp_ge_t c1 (tgt := 52) rfl dX8_turnedPairs_9 ?_
    cases h
    refine g_sub [2] rfl ?_
    exact Kx x2 rfl
  · refine g_icmp_ge_f c1 (tgt := 52) rfl dX8_turnedPairs_9 ?_
    refine g_iconst (v := 0) rfl dX8_turnedPairs_12 ?_
    refine g_istore (ls' := [(4, .int (0 : Int32)), (0, .ref (gAd V 44)), (1, .ref (gAd V t1)), (2, .int x2), (3, .int x3)]) (Nat.le_of_ble_eq_true rfl) rfl dX8_turnedPairs_13 ?_
    obtain ⟨w6, ew6, h⟩ := g_bnd h
    refine g_sub [1, 2, 3, 4, 0] rfl ?_
    have KX : gG X V mX8_turnedPairs gShC M0 0 0 46 [(0, .ref (gAd V 44)), (1, .ref (gAd V t1)), (2, .int w6), (3, .int x3)] [] := by
      refine g_iinc (j := 3) (v := x3 + (1 : Int32)) (ls' := [(3, .int (x3 + (1 : Int32))), (0, .ref (gAd V 44)), (1, .ref (gAd V t1)), (2, .int w6)]) rfl rfl (Nat.le_of_ble_eq_true rfl) rfl dX8_turnedPairs_46 ?_
      refine g_goto (tgt := 4) rfl dX8_turnedPairs_49 ?_
      cases h
      refine g_sub [1, 2, 3, 0] rfl ?_
      exact Kc (w6, x3 + (1 : Int32)) rfl
    exact gLoop_Q ew6 (fun z9 => gG X V mX8_turnedPairs gShC M0 0 0 15 [(0, .ref (gAd V 44)), (1, .ref (gAd V t1)), (2, .int z9.1), (3, .int x3), (4, .int z9.2)] []) (fun s9 o9 hb9 hc9 hx9 => tX8_turnedPairs_l15 ht1 hb9 hc9 (fun e9 he9 => by cases hx9 _ he9; exact KX))
def fX8_turnedPairs (t1 : Nat) (M0 : gMem) : Option Int32 :=
  (gLoop (fun z9 => fX8_turnedPairs_l4 t1 M0 z9.1 z9.2) gFu ((0 : Int32), (0 : Int32))).bind fun w7 => some w7
set_option maxRecDepth 20000 in
theorem tX8_turnedPairs {X : gX} {V : gEnv} {t1 : Nat} {M0 : gMem} (ht1 : gNet gShC t1) {o : Int32} (h : fX8_turnedPairs t1 M0 = some o) (O : gO X V mX8_turnedPairs gShC (some .int) (some (.int o)) M0) : gG X V mX8_turnedPairs gShC M0 0 0 0 [(0, .ref (gAd V 44)), (1, .ref (gAd V t1))] [] := by
  unfold fX8_turnedPairs at h
  refine g_iconst (v := 0) rfl dX8_turnedPairs_0 ?_
  refine g_istore_n (ls' := [(2, .int (0 : Int32)), (0, .ref (gAd V 44)), (1, .ref (gAd V t1))]) rfl (Nat.le_of_ble_eq_true rfl) rfl dX8_turnedPairs_1 ?_
  refine g_iconst (v := 0) rfl dX8_turnedPairs_2 ?_
  refine g_istore_n (ls' := [(3, .int (0 : Int32)), (2, .int (0 : Int32)), (0, .ref (gAd V 44)), (1, .ref (gAd V t1))]) rfl (Nat.le_of_ble_eq_true rfl) rfl dX8_turnedPairs_3 ?_
  obtain ⟨w7, ew7, h⟩ := g_bnd h
  refine g_sub [2, 3, 1, 0] rfl ?_
  have KX : gG X V mX8_turnedPairs gShC M0 0 0 52 [(2, .int w7)] [] := by
    refine g_iload_n 0 rfl rfl dX8_turnedPairs_52 ?_
    cases h
    exact g_iret O ⟨Nat.le_of_ble_eq_true rfl, Nat.le_of_ble_eq_true rfl⟩ rfl dX8_turnedPairs_53
  exact gLoop_Q ew7 (fun z9 => gG X V mX8_turnedPairs gShC M0 0 0 4 [(0, .ref (gAd V 44)), (1, .ref (gAd V t1)), (2, .int z9.1), (3, .int z9.2)] []) (fun s9 o9 hb9 hc9 hx9 => tX8_turnedPairs_l4 ht1 hb9 hc9 (fun e9 he9 => by cases hx9 _ he9; exact KX))
theorem kX8_turnedPairs {l : Launch} {V : gEnv} {M0 : gMem} {t1 : Nat} (ht1 : gNet gShC t1) {o : Int32} (h : fX8_turnedPairs t1 M0 = some o) : gM l yX8_turnedPairs cX8_turnedPairs 5 (some .int) rX8_turnedPairs V gShC [.ref (gAd V 44), .ref (gAd V t1)] M0 (some (.int o)) M0 :=
  gM.of (by decide) (Nat.le_of_ble_eq_true rfl) rfl (fun X _ O => tX8_turnedPairs ht1 h O)
theorem dX8_partsWithout_0 : decode cX8_partsWithout 0 = .ok (.aload_n 1, 1) := by decide +kernel
theorem dX8_partsWithout_1 : decode cX8_partsWithout 1 = .ok (.iload_n 2, 1) := by decide +kernel
theorem dX8_partsWithout_2 : decode cX8_partsWithout 2 = .ok (.aload_n 0, 1) := by decide +kernel
theorem dX8_partsWithout_3 : decode cX8_partsWithout 3 = .ok (.getfield 25, 3) := by decide +kernel
theorem dX8_partsWithout_6 : decode cX8_partsWithout 6 = .ok (.invokevirtual 109, 3) := by decide +kernel
theorem dX8_partsWithout_9 : decode cX8_partsWithout 9 = .ok (.aload_n 0, 1) := by decide +kernel
theorem dX8_partsWithout_10 : decode cX8_partsWithout 10 = .ok (.getfield 12, 3) := by decide +kernel
theorem dX8_partsWithout_13 : decode cX8_partsWithout 13 = .ok (.iconst 0, 1) := by decide +kernel
theorem dX8_partsWithout_14 : decode cX8_partsWithout 14 = .ok (.putfield 38, 3) := by decide +kernel
theorem dX8_partsWithout_17 : decode cX8_partsWithout 17 = .ok (.aload_n 0, 1) := by decide +kernel
theorem dX8_partsWithout_18 : decode cX8_partsWithout 18 = .ok (.aload_n 1, 1) := by decide +kernel
theorem dX8_partsWithout_19 : decode cX8_partsWithout 19 = .ok (.aload_n 1, 1) := by decide +kernel
theorem dX8_partsWithout_20 : decode cX8_partsWithout 20 = .ok (.getfield 51, 3) := by decide +kernel
theorem dX8_partsWithout_23 : decode cX8_partsWithout 23 = .ok (.aload_n 1, 1) := by decide +kernel
theorem dX8_partsWithout_24 : decode cX8_partsWithout 24 = .ok (.getfield 67, 3) := by decide +kernel
theorem dX8_partsWithout_27 : decode cX8_partsWithout 27 = .ok (.aload_n 1, 1) := by decide +kernel
theorem dX8_partsWithout_28 : decode cX8_partsWithout 28 = .ok (.getfield 70, 3) := by decide +kernel
theorem dX8_partsWithout_31 : decode cX8_partsWithout 31 = .ok (.iload_n 2, 1) := by decide +kernel
theorem dX8_partsWithout_32 : decode cX8_partsWithout 32 = .ok (.iaload, 1) := by decide +kernel
theorem dX8_partsWithout_33 : decode cX8_partsWithout 33 = .ok (.iaload, 1) := by decide +kernel
theorem dX8_partsWithout_34 : decode cX8_partsWithout 34 = .ok (.iaload, 1) := by decide +kernel
theorem dX8_partsWithout_35 : decode cX8_partsWithout 35 = .ok (.aload_n 0, 1) := by decide +kernel
theorem dX8_partsWithout_36 : decode cX8_partsWithout 36 = .ok (.getfield 25, 3) := by decide +kernel
theorem dX8_partsWithout_39 : decode cX8_partsWithout 39 = .ok (.invokevirtual 105, 3) := by decide +kernel
theorem dX8_partsWithout_42 : decode cX8_partsWithout 42 = .ok (.ireturn, 1) := by decide +kernel
abbrev rX8_partsWithout : Room := { frames := 2, cells := 0, slots := 0, locals := 49 }
abbrev mX8_partsWithout : gY := (cX8_partsWithout, RX8, 3, rX8_partsWithout)
def fX8_partsWithout (t1 : Nat) (x2 : Int32) (M0 : gMem) : Option (Int32 × gMem) :=
  (fX2_closeWithout t1 x2 49 M0).bind fun v1 => (wF v1 45 1 (0 : Int32)).bind fun M2 => (rI M2 (t1 + 3) 60 x2).bind fun v3 => (rI M2 (t1 + 8) 24 v3).bind fun v4 => (rI M2 (t1 + 7) 24 v4).bind fun v5 => (fX8_putParts t1 v5 49 M2).bind fun v6 => some (v6.1, v6.2)
set_option maxRecDepth 20000 in
theorem tX8_partsWithout {X : gX} {V : gEnv} {t1 : Nat} {x2 : Int32} {M0 : gMem} (ht1 : gNet gShC t1) {o : (Int32 × gMem)} (h : fX8_partsWithout t1 x2 M0 = some o) (O : gO X V mX8_partsWithout gShC (some .int) (some (.int o.1)) o.2) : gG X V mX8_partsWithout gShC M0 0 0 0 [(0, .ref (gAd V 44)), (1, .ref (gAd V t1)), (2, .int x2)] [] := by
  unfold fX8_partsWithout at h
  refine g_aload_n 1 rfl rfl dX8_partsWithout_0 ?_
  refine g_iload_n 2 rfl rfl dX8_partsWithout_1 ?_
  refine g_aload_n 0 rfl rfl dX8_partsWithout_2 ?_
  refine g_getR FX8_25 sC_44 rfl dX8_partsWithout_3 ?_
  obtain ⟨v1, ev1, h⟩ := g_bnd h
  refine g_callV LX8_109 ht1.1 rfl (kX2_closeWithout ht1 sC_49 ev1) rfl rfl (Nat.le_of_ble_eq_true rfl) ⟨Nat.le_of_ble_eq_true rfl, Nat.le_of_ble_eq_true rfl⟩ ⟨Nat.le_of_ble_eq_true rfl, Nat.le_of_ble_eq_true rfl⟩ dX8_partsWithout_6 rfl ?_
  refine g_aload_n 0 rfl rfl dX8_partsWithout_9 ?_
  refine g_getR FX8_12 sC_44 rfl dX8_partsWithout_10 ?_
  refine g_iconst (v := 0) rfl dX8_partsWithout_13 ?_
  obtain ⟨M2, eM2, h⟩ := g_bnd h
  refine g_putI' eM2 FX8_38 jX7 sC_45 rfl rfl rfl dX8_partsWithout_14 ?_
  refine g_aload_n 0 rfl rfl dX8_partsWithout_17 ?_
  refine g_aload_n 1 rfl rfl dX8_partsWithout_18 ?_
  refine g_aload_n 1 rfl rfl dX8_partsWithout_19 ?_
  refine g_getR FX8_51 ht1.1 rfl dX8_partsWithout_20 ?_
  refine g_aload_n 1 rfl rfl dX8_partsWithout_23 ?_
  refine g_getR FX8_67 ht1.1 rfl dX8_partsWithout_24 ?_
  refine g_aload_n 1 rfl rfl dX8_partsWithout_27 ?_
  refine g_getR FX8_70 ht1.1 rfl dX8_partsWithout_28 ?_
  refine g_iload_n 2 rfl rfl dX8_partsWithout_31 ?_
  obtain ⟨v3, ev3, h⟩ := g_bnd h
  refine g_iald' ev3 ht1.2.2.2.1 dX8_partsWithout_32 ?_
  obtain ⟨v4, ev4, h⟩ := g_bnd h
  refine g_iald' ev4 ht1.2.2.2.2.2.2.2.2.1 dX8_partsWithout_33 ?_
  obtain ⟨v5, ev5, h⟩ := g_bnd h
  refine g_iald' ev5 ht1.2.2.2.2.2.2.2.1 dX8_partsWithout_34 ?_
  refine g_aload_n 0 rfl rfl dX8_partsWithout_35 ?_
  refine g_getR FX8_25 sC_44 rfl dX8_partsWithout_36 ?_
  obtain ⟨v6, ev6, h⟩ := g_bnd h
  refine g_callV LX8_105 sC_44 rfl (kX8_putParts ht1 sC_49 ev6) rfl rfl (Nat.le_of_ble_eq_true rfl) ⟨Nat.le_of_ble_eq_true rfl, Nat.le_of_ble_eq_true rfl⟩ ⟨Nat.le_of_ble_eq_true rfl, Nat.le_of_ble_eq_true rfl⟩ dX8_partsWithout_39 rfl ?_
  cases h
  exact g_iret O ⟨Nat.le_of_ble_eq_true rfl, Nat.le_of_ble_eq_true rfl⟩ rfl dX8_partsWithout_42
theorem kX8_partsWithout {l : Launch} {V : gEnv} {M0 : gMem} {t1 : Nat} {x2 : Int32} (ht1 : gNet gShC t1) {o : (Int32 × gMem)} (h : fX8_partsWithout t1 x2 M0 = some o) : gM l yX8_partsWithout cX8_partsWithout 3 (some .int) rX8_partsWithout V gShC [.ref (gAd V 44), .ref (gAd V t1), .int x2] M0 (some (.int o.1)) o.2 :=
  gM.of (by decide) (Nat.le_of_ble_eq_true rfl) rfl (fun X _ O => tX8_partsWithout ht1 h O)
