/-! METHODS, by program: pure functions and contracts -/
theorem dX10_checkTask_0 : decode cX10_checkTask 0 = .ok (.iload_n 1, 1) := by decide +kernel
theorem dX10_checkTask_1 : decode cX10_checkTask 1 = .ok (.ifCond .lt 14, 3) := by decide +kernel
theorem dX10_checkTask_4 : decode cX10_checkTask 4 = .ok (.iload_n 1, 1) := by decide +kernel
theorem dX10_checkTask_5 : decode cX10_checkTask 5 = .ok (.aload_n 0, 1) := by decide +kernel
theorem dX10_checkTask_6 : decode cX10_checkTask 6 = .ok (.getfield 12, 3) := by decide +kernel
theorem dX10_checkTask_9 : decode cX10_checkTask 9 = .ok (.getfield 125, 3) := by decide +kernel
theorem dX10_checkTask_12 : decode cX10_checkTask 12 = .ok (.if_icmp .lt 14, 3) := by decide +kernel
theorem dX10_checkTask_15 : decode cX10_checkTask 15 = .ok (.new 387, 3) := by decide +kernel
theorem dX10_checkTask_18 : decode cX10_checkTask 18 = .ok (.dup, 1) := by decide +kernel
theorem dX10_checkTask_19 : decode cX10_checkTask 19 = .ok (.ldc_w 389, 3) := by decide +kernel
theorem dX10_checkTask_22 : decode cX10_checkTask 22 = .ok (.invokespecial 391, 3) := by decide +kernel
theorem dX10_checkTask_25 : decode cX10_checkTask 25 = .ok (.athrow, 1) := by decide +kernel
theorem dX10_checkTask_26 : decode cX10_checkTask 26 = .ok (.return_, 1) := by decide +kernel
abbrev rX10_checkTask : Room := { frames := 6, cells := 1, slots := 6, locals := 90 }
abbrev mX10_checkTask : gY := (cX10_checkTask, RX10, 2, rX10_checkTask)
def fX10_checkTask_b15 (M0 : gMem) : Option (Unit ⊕ Nat) :=
  some (.inr 2)
set_option maxRecDepth 20000 in
theorem tX10_checkTask_b15 {X : gX} {V : gEnv} {M0 : gMem}  {o : (Unit ⊕ Nat)} (h : fX10_checkTask_b15 M0 = some o) (O : gOX X V mX10_checkTask gShC none (gOV o) M0) : gG X V mX10_checkTask gShC M0 0 0 15 [] [] := by
  unfold fX10_checkTask_b15 at h
  cases h
  exact g_throwW O U_2 SX10_389 ⟨Nat.le_of_ble_eq_true rfl, Nat.le_of_ble_eq_true rfl⟩ ⟨Nat.le_of_ble_eq_true rfl, Nat.le_of_ble_eq_true rfl⟩ dX10_checkTask_15 dX10_checkTask_18 dX10_checkTask_19 dX10_checkTask_22 dX10_checkTask_25
def fX10_checkTask (x1 : Int32) (M0 : gMem) : Option (Unit ⊕ Nat) :=
  if x1 < 0 then (fX10_checkTask_b15 M0) else if x1 < (M0.1 1 9) then (some (.inl ())) else fX10_checkTask_b15 M0
set_option maxRecDepth 20000 in
theorem tX10_checkTask {X : gX} {V : gEnv} {x1 : Int32} {M0 : gMem}  {o : (Unit ⊕ Nat)} (h : fX10_checkTask x1 M0 = some o) (O : gOX X V mX10_checkTask gShC none (gOV o) M0) : gG X V mX10_checkTask gShC M0 0 0 0 [(0, .ref (gAd V 0)), (1, .int x1)] [] := by
  unfold fX10_checkTask at h
  refine g_iload_n 1 rfl rfl dX10_checkTask_0 ?_
  rcases g_ite h with ⟨c1, h⟩ | ⟨c1, h⟩
  · refine g_if_lt_t c1 (tgt := 15) rfl dX10_checkTask_1 ?_
    refine g_sub [] rfl ?_
    exact tX10_checkTask_b15  h O
  · refine g_if_lt_f c1 (tgt := 15) rfl dX10_checkTask_1 ?_
    refine g_iload_n 1 rfl rfl dX10_checkTask_4 ?_
    refine g_aload_n 0 rfl rfl dX10_checkTask_5 ?_
    refine g_getR FX10_12 sC_0 rfl dX10_checkTask_6 ?_
    refine g_getI FX10_125 sC_1 rfl dX10_checkTask_9 ?_
    rcases g_ite h with ⟨c2, h⟩ | ⟨c2, h⟩
    · refine g_icmp_lt_t c2 (tgt := 26) rfl dX10_checkTask_12 ?_
      cases h
      exact g_vretX O ⟨Nat.le_of_ble_eq_true rfl, Nat.le_of_ble_eq_true rfl⟩ dX10_checkTask_26
    · refine g_icmp_lt_f c2 (tgt := 26) rfl dX10_checkTask_12 ?_
      refine g_sub [] rfl ?_
      exact tX10_checkTask_b15  h O
theorem kX10_checkTask {l : Launch} {V : gEnv} {M0 : gMem} {x1 : Int32} (hst : l.stackTraces = false)  {o : (Unit ⊕ Nat)} (h : fX10_checkTask x1 M0 = some o) : gMX l yX10_checkTask cX10_checkTask 2 none rX10_checkTask V gShC [.ref (gAd V 0), .int x1] M0 (gOV o) M0 :=
  gMX.of hst (by decide) (Nat.le_of_ble_eq_true rfl) rfl (fun X _ O => tX10_checkTask  h O)
theorem dX10_lettersOf_0 : decode cX10_lettersOf 0 = .ok (.iconst 0, 1) := by decide +kernel
theorem dX10_lettersOf_1 : decode cX10_lettersOf 1 = .ok (.istore_n 2, 1) := by decide +kernel
theorem dX10_lettersOf_2 : decode cX10_lettersOf 2 = .ok (.iconst 0, 1) := by decide +kernel
theorem dX10_lettersOf_3 : decode cX10_lettersOf 3 = .ok (.istore_n 3, 1) := by decide +kernel
theorem dX10_lettersOf_4 : decode cX10_lettersOf 4 = .ok (.iload_n 3, 1) := by decide +kernel
theorem dX10_lettersOf_5 : decode cX10_lettersOf 5 = .ok (.bipush 6, 2) := by decide +kernel
theorem dX10_lettersOf_7 : decode cX10_lettersOf 7 = .ok (.if_icmp .ge 20, 3) := by decide +kernel
theorem dX10_lettersOf_10 : decode cX10_lettersOf 10 = .ok (.lload_n 0, 1) := by decide +kernel
theorem dX10_lettersOf_11 : decode cX10_lettersOf 11 = .ok (.iload_n 3, 1) := by decide +kernel
theorem dX10_lettersOf_12 : decode cX10_lettersOf 12 = .ok (.invokestatic 214, 3) := by decide +kernel
theorem dX10_lettersOf_15 : decode cX10_lettersOf 15 = .ok (.ifCond .eq 6, 3) := by decide +kernel
theorem dX10_lettersOf_18 : decode cX10_lettersOf 18 = .ok (.iinc 2 1, 3) := by decide +kernel
theorem dX10_lettersOf_21 : decode cX10_lettersOf 21 = .ok (.iinc 3 1, 3) := by decide +kernel
theorem dX10_lettersOf_24 : decode cX10_lettersOf 24 = .ok (.goto (-20), 3) := by decide +kernel
theorem dX10_lettersOf_27 : decode cX10_lettersOf 27 = .ok (.iload_n 2, 1) := by decide +kernel
theorem dX10_lettersOf_28 : decode cX10_lettersOf 28 = .ok (.ireturn, 1) := by decide +kernel
abbrev rX10_lettersOf : Room := { frames := 1, cells := 0, slots := 0, locals := 22 }
abbrev mX10_lettersOf : gY := (cX10_lettersOf, RX10, 4, rX10_lettersOf)
def fX10_lettersOf_b21 (x0 : Int64) (x2 : Int32) (x3 : Int32) : Option ((Int32 × Int32) ⊕ Int32) :=
  some (.inl (x2, x3 + (1 : Int32)))
set_option maxRecDepth 20000 in
theorem tX10_lettersOf_b21 {X : gX} {V : gEnv} {Sh : List gShp} {M0 : gMem} {x0 : Int64} {x2 : Int32} {x3 : Int32}  {o : ((Int32 × Int32) ⊕ Int32)} (h : fX10_lettersOf_b21 x0 x2 x3 = some o) (Kc : ∀ s9, o = .inl s9 → gG X V mX10_lettersOf Sh M0 0 0 4 [(0, .long x0), (2, .int s9.1), (3, .int s9.2)] []) (Kx : ∀ e9, o = .inr e9 → gG X V mX10_lettersOf Sh M0 0 0 27 [(2, .int e9)] []) : gG X V mX10_lettersOf Sh M0 0 0 21 [(0, .long x0), (2, .int x2), (3, .int x3)] [] := by
  unfold fX10_lettersOf_b21 at h
  refine g_iinc (j := 2) (v := x3 + (1 : Int32)) (ls' := [(3, .int (x3 + (1 : Int32))), (0, .long x0), (2, .int x2)]) rfl rfl (Nat.le_of_ble_eq_true rfl) rfl dX10_lettersOf_21 ?_
  refine g_goto (tgt := 4) rfl dX10_lettersOf_24 ?_
  cases h
  refine g_sub [1, 2, 0] rfl ?_
  exact Kc (x2, x3 + (1 : Int32)) rfl
def fX10_lettersOf_l4 (x0 : Int64) (x2 : Int32) (x3 : Int32) : Option ((Int32 × Int32) ⊕ Int32) :=
  if (6 : Int32) ≤ x3 then (some (.inr x2)) else (fX10_letterOf x0 x3).bind fun v2 => if v2 = 0 then (fX10_lettersOf_b21 x0 x2 x3) else fX10_lettersOf_b21 x0 (x2 + (1 : Int32)) x3
set_option maxRecDepth 20000 in
theorem tX10_lettersOf_l4 {X : gX} {V : gEnv} {Sh : List gShp} {M0 : gMem} {x0 : Int64} {x2 : Int32} {x3 : Int32}  {o : ((Int32 × Int32) ⊕ Int32)} (h : fX10_lettersOf_l4 x0 x2 x3 = some o) (Kc : ∀ s9, o = .inl s9 → gG X V mX10_lettersOf Sh M0 0 0 4 [(0, .long x0), (2, .int s9.1), (3, .int s9.2)] []) (Kx : ∀ e9, o = .inr e9 → gG X V mX10_lettersOf Sh M0 0 0 27 [(2, .int e9)] []) : gG X V mX10_lettersOf Sh M0 0 0 4 [(0, .long x0), (2, .int x2), (3, .int x3)] [] := by
  unfold fX10_lettersOf_l4 at h
  refine g_iload_n 2 rfl rfl dX10_lettersOf_4 ?_
  refine g_bipush (v := 6) rfl dX10_lettersOf_5 ?_
  rcases g_ite h with ⟨c1, h⟩ | ⟨c1, h⟩
  · refine g_icmp_ge_t c1 (tgt := 27) rfl dX10_lettersOf_7 ?_
    cases h
    refine g_sub [1] rfl ?_
    exact Kx x2 rfl
  · refine g_icmp_ge_f c1 (tgt := 27) rfl dX10_lettersOf_7 ?_
    refine g_lload_n 0 rfl rfl dX10_lettersOf_10 ?_
    refine g_iload_n 2 rfl rfl dX10_lettersOf_11 ?_
    obtain ⟨v2, ev2, h⟩ := g_bnd h
    refine g_callS LX10_214 (kX10_letterOf ev2) rfl rfl (Nat.le_of_ble_eq_true rfl) ⟨Nat.le_of_ble_eq_true rfl, Nat.le_of_ble_eq_true rfl⟩ ⟨Nat.le_of_ble_eq_true rfl, Nat.le_of_ble_eq_true rfl⟩ dX10_lettersOf_12 rfl ?_
    rcases g_ite h with ⟨c3, h⟩ | ⟨c3, h⟩
    · refine g_if_eq_t c3 (tgt := 21) rfl dX10_lettersOf_15 ?_
      exact tX10_lettersOf_b21  h Kc Kx
    · refine g_if_eq_f c3 (tgt := 21) rfl dX10_lettersOf_15 ?_
      refine g_iinc (j := 1) (v := x2 + (1 : Int32)) (ls' := [(2, .int (x2 + (1 : Int32))), (0, .long x0), (3, .int x3)]) rfl rfl (Nat.le_of_ble_eq_true rfl) rfl dX10_lettersOf_18 ?_
      refine g_sub [1, 0, 2] rfl ?_
      exact tX10_lettersOf_b21  h Kc Kx
def fX10_lettersOf (x0 : Int64) : Option Int32 :=
  (gLoop (fun z9 => fX10_lettersOf_l4 x0 z9.1 z9.2) gFu ((0 : Int32), (0 : Int32))).bind fun w4 => some w4
set_option maxRecDepth 20000 in
theorem tX10_lettersOf {X : gX} {V : gEnv} {Sh : List gShp} {M0 : gMem} {x0 : Int64}  {o : Int32} (h : fX10_lettersOf x0 = some o) (O : gO X V mX10_lettersOf Sh (some .int) (some (.int o)) M0) : gG X V mX10_lettersOf Sh M0 0 0 0 [(0, .long x0)] [] := by
  unfold fX10_lettersOf at h
  refine g_iconst (v := 0) rfl dX10_lettersOf_0 ?_
  refine g_istore_n (ls' := [(2, .int (0 : Int32)), (0, .long x0)]) rfl (Nat.le_of_ble_eq_true rfl) rfl dX10_lettersOf_1 ?_
  refine g_iconst (v := 0) rfl dX10_lettersOf_2 ?_
  refine g_istore_n (ls' := [(3, .int (0 : Int32)), (2, .int (0 : Int32)), (0, .long x0)]) rfl (Nat.le_of_ble_eq_true rfl) rfl dX10_lettersOf_3 ?_
  obtain ⟨w4, ew4, h⟩ := g_bnd h
  refine g_sub [2, 1, 0] rfl ?_
  have KX : gG X V mX10_lettersOf Sh M0 0 0 27 [(2, .int w4)] [] := by
    refine g_iload_n 0 rfl rfl dX10_lettersOf_27 ?_
    cases h
    exact g_iret O ⟨Nat.le_of_ble_eq_true rfl, Nat.le_of_ble_eq_true rfl⟩ rfl dX10_lettersOf_28
  exact gLoop_Q ew4 (fun z9 => gG X V mX10_lettersOf Sh M0 0 0 4 [(0, .long x0), (2, .int z9.1), (3, .int z9.2)] []) (fun s9 o9 hb9 hc9 hx9 => tX10_lettersOf_l4  hb9 hc9 (fun e9 he9 => by cases hx9 _ he9; exact KX))
theorem kX10_lettersOf {l : Launch} {V : gEnv} {Sh : List gShp} {M0 : gMem} {x0 : Int64}  {o : Int32} (h : fX10_lettersOf x0 = some o) : gM l yX10_lettersOf cX10_lettersOf 4 (some .int) rX10_lettersOf V Sh [.long x0] M0 (some (.int o)) M0 :=
  gM.of (by decide) (Nat.le_of_ble_eq_true rfl) rfl (fun X _ O => tX10_lettersOf  h O)
theorem dX10_task_0 : decode cX10_task 0 = .ok (.aload_n 0, 1) := by decide +kernel
theorem dX10_task_1 : decode cX10_task 1 = .ok (.iload_n 1, 1) := by decide +kernel
theorem dX10_task_2 : decode cX10_task 2 = .ok (.invokevirtual 170, 3) := by decide +kernel
theorem dX10_task_5 : decode cX10_task 5 = .ok (.iload_n 2, 1) := by decide +kernel
theorem dX10_task_6 : decode cX10_task 6 = .ok (.tableswitch 151 0 7 #[46, 56, 77, 87, 100, 109, 124, 138], 46) := by decide +kernel
theorem dX10_task_52 : decode cX10_task 52 = .ok (.aload_n 0, 1) := by decide +kernel
theorem dX10_task_53 : decode cX10_task 53 = .ok (.getfield 12, 3) := by decide +kernel
theorem dX10_task_56 : decode cX10_task 56 = .ok (.getfield 173, 3) := by decide +kernel
theorem dX10_task_59 : decode cX10_task 59 = .ok (.iload_n 1, 1) := by decide +kernel
theorem dX10_task_60 : decode cX10_task 60 = .ok (.iaload, 1) := by decide +kernel
theorem dX10_task_61 : decode cX10_task 61 = .ok (.ireturn, 1) := by decide +kernel
theorem dX10_task_62 : decode cX10_task 62 = .ok (.aload_n 0, 1) := by decide +kernel
theorem dX10_task_63 : decode cX10_task 63 = .ok (.getfield 12, 3) := by decide +kernel
theorem dX10_task_66 : decode cX10_task 66 = .ok (.getfield 177, 3) := by decide +kernel
theorem dX10_task_69 : decode cX10_task 69 = .ok (.aload_n 0, 1) := by decide +kernel
theorem dX10_task_70 : decode cX10_task 70 = .ok (.getfield 12, 3) := by decide +kernel
theorem dX10_task_73 : decode cX10_task 73 = .ok (.getfield 180, 3) := by decide +kernel
theorem dX10_task_76 : decode cX10_task 76 = .ok (.iload_n 1, 1) := by decide +kernel
theorem dX10_task_77 : decode cX10_task 77 = .ok (.iaload, 1) := by decide +kernel
theorem dX10_task_78 : decode cX10_task 78 = .ok (.iaload, 1) := by decide +kernel
theorem dX10_task_79 : decode cX10_task 79 = .ok (.invokestatic 183, 3) := by decide +kernel
theorem dX10_task_82 : decode cX10_task 82 = .ok (.ireturn, 1) := by decide +kernel
theorem dX10_task_83 : decode cX10_task 83 = .ok (.aload_n 0, 1) := by decide +kernel
theorem dX10_task_84 : decode cX10_task 84 = .ok (.getfield 12, 3) := by decide +kernel
theorem dX10_task_87 : decode cX10_task 87 = .ok (.getfield 180, 3) := by decide +kernel
theorem dX10_task_90 : decode cX10_task 90 = .ok (.iload_n 1, 1) := by decide +kernel
theorem dX10_task_91 : decode cX10_task 91 = .ok (.iaload, 1) := by decide +kernel
theorem dX10_task_92 : decode cX10_task 92 = .ok (.ireturn, 1) := by decide +kernel
theorem dX10_task_93 : decode cX10_task 93 = .ok (.aload_n 0, 1) := by decide +kernel
theorem dX10_task_94 : decode cX10_task 94 = .ok (.getfield 12, 3) := by decide +kernel
theorem dX10_task_97 : decode cX10_task 97 = .ok (.getfield 187, 3) := by decide +kernel
theorem dX10_task_100 : decode cX10_task 100 = .ok (.iload_n 1, 1) := by decide +kernel
theorem dX10_task_101 : decode cX10_task 101 = .ok (.iaload, 1) := by decide +kernel
theorem dX10_task_102 : decode cX10_task 102 = .ok (.invokestatic 190, 3) := by decide +kernel
theorem dX10_task_105 : decode cX10_task 105 = .ok (.ireturn, 1) := by decide +kernel
theorem dX10_task_106 : decode cX10_task 106 = .ok (.aload_n 0, 1) := by decide +kernel
theorem dX10_task_107 : decode cX10_task 107 = .ok (.getfield 12, 3) := by decide +kernel
theorem dX10_task_110 : decode cX10_task 110 = .ok (.iload_n 1, 1) := by decide +kernel
theorem dX10_task_111 : decode cX10_task 111 = .ok (.invokevirtual 195, 3) := by decide +kernel
theorem dX10_task_114 : decode cX10_task 114 = .ok (.ireturn, 1) := by decide +kernel
theorem dX10_task_115 : decode cX10_task 115 = .ok (.aload_n 0, 1) := by decide +kernel
theorem dX10_task_116 : decode cX10_task 116 = .ok (.getfield 12, 3) := by decide +kernel
theorem dX10_task_119 : decode cX10_task 119 = .ok (.getfield 198, 3) := by decide +kernel
theorem dX10_task_122 : decode cX10_task 122 = .ok (.iload_n 1, 1) := by decide +kernel
theorem dX10_task_123 : decode cX10_task 123 = .ok (.iaload, 1) := by decide +kernel
theorem dX10_task_124 : decode cX10_task 124 = .ok (.invokestatic 190, 3) := by decide +kernel
theorem dX10_task_127 : decode cX10_task 127 = .ok (.iconst 1, 1) := by decide +kernel
theorem dX10_task_128 : decode cX10_task 128 = .ok (.isub, 1) := by decide +kernel
theorem dX10_task_129 : decode cX10_task 129 = .ok (.ireturn, 1) := by decide +kernel
theorem dX10_task_130 : decode cX10_task 130 = .ok (.aload_n 0, 1) := by decide +kernel
theorem dX10_task_131 : decode cX10_task 131 = .ok (.getfield 12, 3) := by decide +kernel
theorem dX10_task_134 : decode cX10_task 134 = .ok (.iload_n 1, 1) := by decide +kernel
theorem dX10_task_135 : decode cX10_task 135 = .ok (.invokevirtual 201, 3) := by decide +kernel
theorem dX10_task_138 : decode cX10_task 138 = .ok (.invokestatic 190, 3) := by decide +kernel
theorem dX10_task_141 : decode cX10_task 141 = .ok (.iconst 1, 1) := by decide +kernel
theorem dX10_task_142 : decode cX10_task 142 = .ok (.isub, 1) := by decide +kernel
theorem dX10_task_143 : decode cX10_task 143 = .ok (.ireturn, 1) := by decide +kernel
theorem dX10_task_144 : decode cX10_task 144 = .ok (.aload_n 0, 1) := by decide +kernel
theorem dX10_task_145 : decode cX10_task 145 = .ok (.getfield 12, 3) := by decide +kernel
theorem dX10_task_148 : decode cX10_task 148 = .ok (.getfield 204, 3) := by decide +kernel
theorem dX10_task_151 : decode cX10_task 151 = .ok (.iload_n 1, 1) := by decide +kernel
theorem dX10_task_152 : decode cX10_task 152 = .ok (.laload, 1) := by decide +kernel
theorem dX10_task_153 : decode cX10_task 153 = .ok (.invokestatic 208, 3) := by decide +kernel
theorem dX10_task_156 : decode cX10_task 156 = .ok (.ireturn, 1) := by decide +kernel
theorem dX10_task_157 : decode cX10_task 157 = .ok (.new 110, 3) := by decide +kernel
theorem dX10_task_160 : decode cX10_task 160 = .ok (.dup, 1) := by decide +kernel
theorem dX10_task_161 : decode cX10_task 161 = .ok (.ldc 212, 2) := by decide +kernel
theorem dX10_task_163 : decode cX10_task 163 = .ok (.invokespecial 114, 3) := by decide +kernel
theorem dX10_task_166 : decode cX10_task 166 = .ok (.athrow, 1) := by decide +kernel
abbrev rX10_task : Room := { frames := 7, cells := 2, slots := 12, locals := 111 }
abbrev mX10_task : gY := (cX10_task, RX10, 3, rX10_task)
def fX10_task (x1 : Int32) (x2 : Int32) (M0 : gMem) : Option (Int32 ⊕ Nat) :=
  (fX10_checkTask x1 M0).bind fun v1 => gSE v1 (fun u2 => if x2 = (0 : Int32) then ((rI M0 3 24 x1).bind fun v5 => some (.inl v5)) else if x2 = (1 : Int32) then ((rI M0 9 24 x1).bind fun v7 => (rI M0 8 24 v7).bind fun v8 => (fX10_headOf v8).bind fun v9 => some (.inl v9)) else if x2 = (2 : Int32) then ((rI M0 9 24 x1).bind fun v11 => some (.inl v11)) else if x2 = (3 : Int32) then ((rI M0 6 24 x1).bind fun v13 => (fJ6_bitCount_0f7a4 v13).bind fun v14 => some (.inl v14)) else if x2 = (4 : Int32) then ((fX2_arrowsTo 1 x1 M0).bind fun v16 => some (.inl v16)) else if x2 = (5 : Int32) then ((rI M0 7 24 x1).bind fun v18 => (fJ6_bitCount_0f7a4 v18).bind fun v19 => some (.inl (v19 - (1 : Int32)))) else if x2 = (6 : Int32) then ((fX2_reachedBy 1 x1 M0).bind fun v21 => (fJ6_bitCount_0f7a4 v21).bind fun v22 => some (.inl (v22 - (1 : Int32)))) else if x2 = (7 : Int32) then ((rL M0 2 24 x1).bind fun v24 => (fX10_lettersOf v24).bind fun v25 => some (.inl v25)) else some (.inr 1)) (fun x3 => some (.inr x3))
set_option maxRecDepth 20000 in
theorem tX10_task {X : gX} {V : gEnv} {x1 : Int32} {x2 : Int32} {M0 : gMem}  {o : (Int32 ⊕ Nat)} (h : fX10_task x1 x2 M0 = some o) (O : gOX X V mX10_task gShC (some .int) (gOI o) M0) : gG X V mX10_task gShC M0 0 0 0 [(0, .ref (gAd V 0)), (1, .int x1), (2, .int x2)] [] := by
  unfold fX10_task at h
  refine g_aload_n 0 rfl rfl dX10_task_0 ?_
  refine g_iload_n 1 rfl rfl dX10_task_1 ?_
  obtain ⟨v1, ev1, h⟩ := g_bnd h
  rcases v1 with u2 | x3
  · have h := g_sl h
    refine g_callVX LX10_170 sC_0 rfl (kX10_checkTask O.2.2.1 ev1) rfl rfl (Nat.le_of_ble_eq_true rfl) ⟨Nat.le_of_ble_eq_true rfl, Nat.le_of_ble_eq_true rfl⟩ ⟨Nat.le_of_ble_eq_true rfl, Nat.le_of_ble_eq_true rfl⟩ dX10_task_2 rfl ?_
    refine g_iload_n 2 rfl rfl dX10_task_5 ?_
    rcases g_ite h with ⟨c4, h⟩ | ⟨c4, h⟩
    · refine g_tabIn (off := 46) (tgt := 52) (by rw [c4]; decide) (by rw [c4]; decide) (by rw [c4]; rfl) rfl dX10_task_6 ?_
      refine g_aload_n 0 rfl rfl dX10_task_52 ?_
      refine g_getR FX10_12 sC_0 rfl dX10_task_53 ?_
      refine g_getR FX10_173 sC_1 rfl dX10_task_56 ?_
      refine g_iload_n 1 rfl rfl dX10_task_59 ?_
      obtain ⟨v5, ev5, h⟩ := g_bnd h
      refine g_iald' ev5 sC_3 dX10_task_60 ?_
      cases h
      exact g_iretX O ⟨Nat.le_of_ble_eq_true rfl, Nat.le_of_ble_eq_true rfl⟩ rfl dX10_task_61
    ·
      rcases g_ite h with ⟨c6, h⟩ | ⟨c6, h⟩
      · refine g_tabIn (off := 56) (tgt := 62) (by rw [c6]; decide) (by rw [c6]; decide) (by rw [c6]; rfl) rfl dX10_task_6 ?_
        refine g_aload_n 0 rfl rfl dX10_task_62 ?_
        refine g_getR FX10_12 sC_0 rfl dX10_task_63 ?_
        refine g_getR FX10_177 sC_1 rfl dX10_task_66 ?_
        refine g_aload_n 0 rfl rfl dX10_task_69 ?_
        refine g_getR FX10_12 sC_0 rfl dX10_task_70 ?_
        refine g_getR FX10_180 sC_1 rfl dX10_task_73 ?_
        refine g_iload_n 1 rfl rfl dX10_task_76 ?_
        obtain ⟨v7, ev7, h⟩ := g_bnd h
        refine g_iald' ev7 sC_9 dX10_task_77 ?_
        obtain ⟨v8, ev8, h⟩ := g_bnd h
        refine g_iald' ev8 sC_8 dX10_task_78 ?_
        obtain ⟨v9, ev9, h⟩ := g_bnd h
        refine g_callS LX10_183 (kX10_headOf ev9) rfl rfl (Nat.le_of_ble_eq_true rfl) ⟨Nat.le_of_ble_eq_true rfl, Nat.le_of_ble_eq_true rfl⟩ ⟨Nat.le_of_ble_eq_true rfl, Nat.le_of_ble_eq_true rfl⟩ dX10_task_79 rfl ?_
        cases h
        exact g_iretX O ⟨Nat.le_of_ble_eq_true rfl, Nat.le_of_ble_eq_true rfl⟩ rfl dX10_task_82
      ·
        rcases g_ite h with ⟨c10, h⟩ | ⟨c10, h⟩
        · refine g_tabIn (off := 77) (tgt := 83) (by rw [c10]; decide) (by rw [c10]; decide) (by rw [c10]; rfl) rfl dX10_task_6 ?_
          refine g_aload_n 0 rfl rfl dX10_task_83 ?_
          refine g_getR FX10_12 sC_0 rfl dX10_task_84 ?_
          refine g_getR FX10_180 sC_1 rfl dX10_task_87 ?_
          refine g_iload_n 1 rfl rfl dX10_task_90 ?_
          obtain ⟨v11, ev11, h⟩ := g_bnd h
          refine g_iald' ev11 sC_9 dX10_task_91 ?_
          cases h
          exact g_iretX O ⟨Nat.le_of_ble_eq_true rfl, Nat.le_of_ble_eq_true rfl⟩ rfl dX10_task_92
        ·
          rcases g_ite h with ⟨c12, h⟩ | ⟨c12, h⟩
          · refine g_tabIn (off := 87) (tgt := 93) (by rw [c12]; decide) (by rw [c12]; decide) (by rw [c12]; rfl) rfl dX10_task_6 ?_
            refine g_aload_n 0 rfl rfl dX10_task_93 ?_
            refine g_getR FX10_12 sC_0 rfl dX10_task_94 ?_
            refine g_getR FX10_187 sC_1 rfl dX10_task_97 ?_
            refine g_iload_n 1 rfl rfl dX10_task_100 ?_
            obtain ⟨v13, ev13, h⟩ := g_bnd h
            refine g_iald' ev13 sC_6 dX10_task_101 ?_
            obtain ⟨v14, ev14, h⟩ := g_bnd h
            refine g_callS LX10_190 (kJ6_bitCount_0f7a4 ev14) rfl rfl (Nat.le_of_ble_eq_true rfl) ⟨Nat.le_of_ble_eq_true rfl, Nat.le_of_ble_eq_true rfl⟩ ⟨Nat.le_of_ble_eq_true rfl, Nat.le_of_ble_eq_true rfl⟩ dX10_task_102 rfl ?_
            cases h
            exact g_iretX O ⟨Nat.le_of_ble_eq_true rfl, Nat.le_of_ble_eq_true rfl⟩ rfl dX10_task_105
          ·
            rcases g_ite h with ⟨c15, h⟩ | ⟨c15, h⟩
            · refine g_tabIn (off := 100) (tgt := 106) (by rw [c15]; decide) (by rw [c15]; decide) (by rw [c15]; rfl) rfl dX10_task_6 ?_
              refine g_aload_n 0 rfl rfl dX10_task_106 ?_
              refine g_getR FX10_12 sC_0 rfl dX10_task_107 ?_
              refine g_iload_n 1 rfl rfl dX10_task_110 ?_
              obtain ⟨v16, ev16, h⟩ := g_bnd h
              refine g_callV LX10_195 sC_1 rfl (kX2_arrowsTo nC_1 ev16) rfl rfl (Nat.le_of_ble_eq_true rfl) ⟨Nat.le_of_ble_eq_true rfl, Nat.le_of_ble_eq_true rfl⟩ ⟨Nat.le_of_ble_eq_true rfl, Nat.le_of_ble_eq_true rfl⟩ dX10_task_111 rfl ?_
              cases h
              exact g_iretX O ⟨Nat.le_of_ble_eq_true rfl, Nat.le_of_ble_eq_true rfl⟩ rfl dX10_task_114
            ·
              rcases g_ite h with ⟨c17, h⟩ | ⟨c17, h⟩
              · refine g_tabIn (off := 109) (tgt := 115) (by rw [c17]; decide) (by rw [c17]; decide) (by rw [c17]; rfl) rfl dX10_task_6 ?_
                refine g_aload_n 0 rfl rfl dX10_task_115 ?_
                refine g_getR FX10_12 sC_0 rfl dX10_task_116 ?_
                refine g_getR FX10_198 sC_1 rfl dX10_task_119 ?_
                refine g_iload_n 1 rfl rfl dX10_task_122 ?_
                obtain ⟨v18, ev18, h⟩ := g_bnd h
                refine g_iald' ev18 sC_7 dX10_task_123 ?_
                obtain ⟨v19, ev19, h⟩ := g_bnd h
                refine g_callS LX10_190 (kJ6_bitCount_0f7a4 ev19) rfl rfl (Nat.le_of_ble_eq_true rfl) ⟨Nat.le_of_ble_eq_true rfl, Nat.le_of_ble_eq_true rfl⟩ ⟨Nat.le_of_ble_eq_true rfl, Nat.le_of_ble_eq_true rfl⟩ dX10_task_124 rfl ?_
                refine g_iconst (v := 1) rfl dX10_task_127 ?_
                refine g_isub dX10_task_128 ?_
                cases h
                exact g_iretX O ⟨Nat.le_of_ble_eq_true rfl, Nat.le_of_ble_eq_true rfl⟩ rfl dX10_task_129
              ·
                rcases g_ite h with ⟨c20, h⟩ | ⟨c20, h⟩
                · refine g_tabIn (off := 124) (tgt := 130) (by rw [c20]; decide) (by rw [c20]; decide) (by rw [c20]; rfl) rfl dX10_task_6 ?_
                  refine g_aload_n 0 rfl rfl dX10_task_130 ?_
                  refine g_getR FX10_12 sC_0 rfl dX10_task_131 ?_
                  refine g_iload_n 1 rfl rfl dX10_task_134 ?_
                  obtain ⟨v21, ev21, h⟩ := g_bnd h
                  refine g_callV LX10_201 sC_1 rfl (kX2_reachedBy nC_1 ev21) rfl rfl (Nat.le_of_ble_eq_true rfl) ⟨Nat.le_of_ble_eq_true rfl, Nat.le_of_ble_eq_true rfl⟩ ⟨Nat.le_of_ble_eq_true rfl, Nat.le_of_ble_eq_true rfl⟩ dX10_task_135 rfl ?_
                  obtain ⟨v22, ev22, h⟩ := g_bnd h
                  refine g_callS LX10_190 (kJ6_bitCount_0f7a4 ev22) rfl rfl (Nat.le_of_ble_eq_true rfl) ⟨Nat.le_of_ble_eq_true rfl, Nat.le_of_ble_eq_true rfl⟩ ⟨Nat.le_of_ble_eq_true rfl, Nat.le_of_ble_eq_true rfl⟩ dX10_task_138 rfl ?_
                  refine g_iconst (v := 1) rfl dX10_task_141 ?_
                  refine g_isub dX10_task_142 ?_
                  cases h
                  exact g_iretX O ⟨Nat.le_of_ble_eq_true rfl, Nat.le_of_ble_eq_true rfl⟩ rfl dX10_task_143
                ·
                  rcases g_ite h with ⟨c23, h⟩ | ⟨c23, h⟩
                  · refine g_tabIn (off := 138) (tgt := 144) (by rw [c23]; decide) (by rw [c23]; decide) (by rw [c23]; rfl) rfl dX10_task_6 ?_
                    refine g_aload_n 0 rfl rfl dX10_task_144 ?_
                    refine g_getR FX10_12 sC_0 rfl dX10_task_145 ?_
                    refine g_getR FX10_204 sC_1 rfl dX10_task_148 ?_
                    refine g_iload_n 1 rfl rfl dX10_task_151 ?_
                    obtain ⟨v24, ev24, h⟩ := g_bnd h
                    refine g_lald' ev24 sC_2 dX10_task_152 ?_
                    obtain ⟨v25, ev25, h⟩ := g_bnd h
                    refine g_callS LX10_208 (kX10_lettersOf ev25) rfl rfl (Nat.le_of_ble_eq_true rfl) ⟨Nat.le_of_ble_eq_true rfl, Nat.le_of_ble_eq_true rfl⟩ ⟨Nat.le_of_ble_eq_true rfl, Nat.le_of_ble_eq_true rfl⟩ dX10_task_153 rfl ?_
                    cases h
                    exact g_iretX O ⟨Nat.le_of_ble_eq_true rfl, Nat.le_of_ble_eq_true rfl⟩ rfl dX10_task_156
                  ·
                    have nc4 := gne (0 : Int32) (j := 0) rfl c4
                    have nc6 := gne (1 : Int32) (j := 1) rfl c6
                    have nc10 := gne (2 : Int32) (j := 2) rfl c10
                    have nc12 := gne (3 : Int32) (j := 3) rfl c12
                    have nc15 := gne (4 : Int32) (j := 4) rfl c15
                    have nc17 := gne (5 : Int32) (j := 5) rfl c17
                    have nc20 := gne (6 : Int32) (j := 6) rfl c20
                    have nc23 := gne (7 : Int32) (j := 7) rfl c23
                    refine g_tabOut (tgt := 157) (by omega) rfl dX10_task_6 ?_
                    cases h
                    exact g_throw O U_1 SX10_212 ⟨Nat.le_of_ble_eq_true rfl, Nat.le_of_ble_eq_true rfl⟩ ⟨Nat.le_of_ble_eq_true rfl, Nat.le_of_ble_eq_true rfl⟩ dX10_task_157 dX10_task_160 dX10_task_161 dX10_task_163 dX10_task_166
  · have h := g_sr h
    cases h
    exact g_callVT LX10_170 sC_0 rfl O (kX10_checkTask O.2.2.1 ev1) rfl rfl (Nat.le_of_ble_eq_true rfl) ⟨Nat.le_of_ble_eq_true rfl, Nat.le_of_ble_eq_true rfl⟩ ⟨Nat.le_of_ble_eq_true rfl, Nat.le_of_ble_eq_true rfl⟩ dX10_task_2
theorem kX10_task {l : Launch} {V : gEnv} {M0 : gMem} {x1 : Int32} {x2 : Int32} (hst : l.stackTraces = false)  {o : (Int32 ⊕ Nat)} (h : fX10_task x1 x2 M0 = some o) : gMX l yX10_task cX10_task 3 (some .int) rX10_task V gShC [.ref (gAd V 0), .int x1, .int x2] M0 (gOI o) M0 :=
  gMX.of hst (by decide) (Nat.le_of_ble_eq_true rfl) rfl (fun X _ O => tX10_task  h O)
theorem dX10_letter_0 : decode cX10_letter 0 = .ok (.aload_n 0, 1) := by decide +kernel
theorem dX10_letter_1 : decode cX10_letter 1 = .ok (.iload_n 1, 1) := by decide +kernel
theorem dX10_letter_2 : decode cX10_letter 2 = .ok (.invokevirtual 170, 3) := by decide +kernel
theorem dX10_letter_5 : decode cX10_letter 5 = .ok (.aload_n 0, 1) := by decide +kernel
theorem dX10_letter_6 : decode cX10_letter 6 = .ok (.getfield 12, 3) := by decide +kernel
theorem dX10_letter_9 : decode cX10_letter 9 = .ok (.getfield 204, 3) := by decide +kernel
theorem dX10_letter_12 : decode cX10_letter 12 = .ok (.iload_n 1, 1) := by decide +kernel
theorem dX10_letter_13 : decode cX10_letter 13 = .ok (.laload, 1) := by decide +kernel
theorem dX10_letter_14 : decode cX10_letter 14 = .ok (.iload_n 2, 1) := by decide +kernel
theorem dX10_letter_15 : decode cX10_letter 15 = .ok (.invokestatic 214, 3) := by decide +kernel
theorem dX10_letter_18 : decode cX10_letter 18 = .ok (.istore_n 3, 1) := by decide +kernel
theorem dX10_letter_19 : decode cX10_letter 19 = .ok (.iload_n 3, 1) := by decide +kernel
theorem dX10_letter_20 : decode cX10_letter 20 = .ok (.ifCond .ne 7, 3) := by decide +kernel
theorem dX10_letter_23 : decode cX10_letter 23 = .ok (.iconst (-1), 1) := by decide +kernel
theorem dX10_letter_24 : decode cX10_letter 24 = .ok (.goto 4, 3) := by decide +kernel
theorem dX10_letter_27 : decode cX10_letter 27 = .ok (.iload_n 3, 1) := by decide +kernel
theorem dX10_letter_28 : decode cX10_letter 28 = .ok (.ireturn, 1) := by decide +kernel
abbrev rX10_letter : Room := { frames := 7, cells := 1, slots := 6, locals := 111 }
abbrev mX10_letter : gY := (cX10_letter, RX10, 4, rX10_letter)
def fX10_letter (x1 : Int32) (x2 : Int32) (M0 : gMem) : Option (Int32 ⊕ Nat) :=
  (fX10_checkTask x1 M0).bind fun v1 => gSE v1 (fun u2 => (rL M0 2 24 x1).bind fun v4 => (fX10_letterOf v4 x2).bind fun v5 => some (.inl (if v5 = 0 then (-1 : Int32) else v5))) (fun x3 => some (.inr x3))
set_option maxRecDepth 20000 in
theorem tX10_letter {X : gX} {V : gEnv} {x1 : Int32} {x2 : Int32} {M0 : gMem}  {o : (Int32 ⊕ Nat)} (h : fX10_letter x1 x2 M0 = some o) (O : gOX X V mX10_letter gShC (some .int) (gOI o) M0) : gG X V mX10_letter gShC M0 0 0 0 [(0, .ref (gAd V 0)), (1, .int x1), (2, .int x2)] [] := by
  unfold fX10_letter at h
  refine g_aload_n 0 rfl rfl dX10_letter_0 ?_
  refine g_iload_n 1 rfl rfl dX10_letter_1 ?_
  obtain ⟨v1, ev1, h⟩ := g_bnd h
  rcases v1 with u2 | x3
  · have h := g_sl h
    refine g_callVX LX10_170 sC_0 rfl (kX10_checkTask O.2.2.1 ev1) rfl rfl (Nat.le_of_ble_eq_true rfl) ⟨Nat.le_of_ble_eq_true rfl, Nat.le_of_ble_eq_true rfl⟩ ⟨Nat.le_of_ble_eq_true rfl, Nat.le_of_ble_eq_true rfl⟩ dX10_letter_2 rfl ?_
    refine g_aload_n 0 rfl rfl dX10_letter_5 ?_
    refine g_getR FX10_12 sC_0 rfl dX10_letter_6 ?_
    refine g_getR FX10_204 sC_1 rfl dX10_letter_9 ?_
    refine g_iload_n 1 rfl rfl dX10_letter_12 ?_
    obtain ⟨v4, ev4, h⟩ := g_bnd h
    refine g_lald' ev4 sC_2 dX10_letter_13 ?_
    refine g_iload_n 2 rfl rfl dX10_letter_14 ?_
    obtain ⟨v5, ev5, h⟩ := g_bnd h
    refine g_callS LX10_214 (kX10_letterOf ev5) rfl rfl (Nat.le_of_ble_eq_true rfl) ⟨Nat.le_of_ble_eq_true rfl, Nat.le_of_ble_eq_true rfl⟩ ⟨Nat.le_of_ble_eq_true rfl, Nat.le_of_ble_eq_true rfl⟩ dX10_letter_15 rfl ?_
    refine g_istore_n (ls' := [(3, .int v5), (0, .ref (gAd V 0)), (1, .int x1), (2, .int x2)]) rfl (Nat.le_of_ble_eq_true rfl) rfl dX10_letter_18 ?_
    refine g_iload_n 0 rfl rfl dX10_letter_19 ?_
    have KJ : gG X V mX10_letter gShC M0 1 6 28 [(3, .int v5), (0, .ref (gAd V 0)), (1, .int x1), (2, .int x2)] [.int (if v5 = 0 then (-1 : Int32) else v5)] := by
      cases h
      exact g_iretX O ⟨Nat.le_of_ble_eq_true rfl, Nat.le_of_ble_eq_true rfl⟩ rfl dX10_letter_28
    by_cases c6 : v5 = 0
    · rw [if_pos c6] at KJ
      refine g_if_ne_f c6 (tgt := 27) rfl dX10_letter_20 ?_
      refine g_iconst (v := -1) rfl dX10_letter_23 ?_
      refine g_goto (tgt := 28) rfl dX10_letter_24 ?_
      exact KJ
    · rw [if_neg c6] at KJ
      refine g_if_ne_t c6 (tgt := 27) rfl dX10_letter_20 ?_
      refine g_iload_n 0 rfl rfl dX10_letter_27 ?_
      exact KJ
  · have h := g_sr h
    cases h
    exact g_callVT LX10_170 sC_0 rfl O (kX10_checkTask O.2.2.1 ev1) rfl rfl (Nat.le_of_ble_eq_true rfl) ⟨Nat.le_of_ble_eq_true rfl, Nat.le_of_ble_eq_true rfl⟩ ⟨Nat.le_of_ble_eq_true rfl, Nat.le_of_ble_eq_true rfl⟩ dX10_letter_2
theorem kX10_letter {l : Launch} {V : gEnv} {M0 : gMem} {x1 : Int32} {x2 : Int32} (hst : l.stackTraces = false)  {o : (Int32 ⊕ Nat)} (h : fX10_letter x1 x2 M0 = some o) : gMX l yX10_letter cX10_letter 4 (some .int) rX10_letter V gShC [.ref (gAd V 0), .int x1, .int x2] M0 (gOI o) M0 :=
  gMX.of hst (by decide) (Nat.le_of_ble_eq_true rfl) rfl (fun X _ O => tX10_letter  h O)
theorem dX10_checkPlace_0 : decode cX10_checkPlace 0 = .ok (.iload_n 0, 1) := by decide +kernel
theorem dX10_checkPlace_1 : decode cX10_checkPlace 1 = .ok (.ifCond .lt 8, 3) := by decide +kernel
theorem dX10_checkPlace_4 : decode cX10_checkPlace 4 = .ok (.iload_n 0, 1) := by decide +kernel
theorem dX10_checkPlace_5 : decode cX10_checkPlace 5 = .ok (.iload_n 1, 1) := by decide +kernel
theorem dX10_checkPlace_6 : decode cX10_checkPlace 6 = .ok (.if_icmp .lt 14, 3) := by decide +kernel
theorem dX10_checkPlace_9 : decode cX10_checkPlace 9 = .ok (.new 387, 3) := by decide +kernel
theorem dX10_checkPlace_12 : decode cX10_checkPlace 12 = .ok (.dup, 1) := by decide +kernel
theorem dX10_checkPlace_13 : decode cX10_checkPlace 13 = .ok (.ldc_w 394, 3) := by decide +kernel
theorem dX10_checkPlace_16 : decode cX10_checkPlace 16 = .ok (.invokespecial 391, 3) := by decide +kernel
theorem dX10_checkPlace_19 : decode cX10_checkPlace 19 = .ok (.athrow, 1) := by decide +kernel
theorem dX10_checkPlace_20 : decode cX10_checkPlace 20 = .ok (.return_, 1) := by decide +kernel
abbrev rX10_checkPlace : Room := { frames := 6, cells := 1, slots := 6, locals := 90 }
abbrev mX10_checkPlace : gY := (cX10_checkPlace, RX10, 2, rX10_checkPlace)
def fX10_checkPlace_b9  : Option (Unit ⊕ Nat) :=
  some (.inr 2)
set_option maxRecDepth 20000 in
theorem tX10_checkPlace_b9 {X : gX} {V : gEnv} {M0 : gMem}   {o : (Unit ⊕ Nat)} (h : fX10_checkPlace_b9  = some o) (O : gOX X V mX10_checkPlace gShC none (gOV o) M0) : gG X V mX10_checkPlace gShC M0 0 0 9 [] [] := by
  unfold fX10_checkPlace_b9 at h
  cases h
  exact g_throwW O U_2 SX10_394 ⟨Nat.le_of_ble_eq_true rfl, Nat.le_of_ble_eq_true rfl⟩ ⟨Nat.le_of_ble_eq_true rfl, Nat.le_of_ble_eq_true rfl⟩ dX10_checkPlace_9 dX10_checkPlace_12 dX10_checkPlace_13 dX10_checkPlace_16 dX10_checkPlace_19
def fX10_checkPlace (x0 : Int32) (x1 : Int32) : Option (Unit ⊕ Nat) :=
  if x0 < 0 then (fX10_checkPlace_b9 ) else if x0 < x1 then (some (.inl ())) else fX10_checkPlace_b9 
set_option maxRecDepth 20000 in
theorem tX10_checkPlace {X : gX} {V : gEnv} {M0 : gMem} {x0 : Int32} {x1 : Int32}  {o : (Unit ⊕ Nat)} (h : fX10_checkPlace x0 x1 = some o) (O : gOX X V mX10_checkPlace gShC none (gOV o) M0) : gG X V mX10_checkPlace gShC M0 0 0 0 [(0, .int x0), (1, .int x1)] [] := by
  unfold fX10_checkPlace at h
  refine g_iload_n 0 rfl rfl dX10_checkPlace_0 ?_
  rcases g_ite h with ⟨c1, h⟩ | ⟨c1, h⟩
  · refine g_if_lt_t c1 (tgt := 9) rfl dX10_checkPlace_1 ?_
    refine g_sub [] rfl ?_
    exact tX10_checkPlace_b9  h O
  · refine g_if_lt_f c1 (tgt := 9) rfl dX10_checkPlace_1 ?_
    refine g_iload_n 0 rfl rfl dX10_checkPlace_4 ?_
    refine g_iload_n 1 rfl rfl dX10_checkPlace_5 ?_
    rcases g_ite h with ⟨c2, h⟩ | ⟨c2, h⟩
    · refine g_icmp_lt_t c2 (tgt := 20) rfl dX10_checkPlace_6 ?_
      cases h
      exact g_vretX O ⟨Nat.le_of_ble_eq_true rfl, Nat.le_of_ble_eq_true rfl⟩ dX10_checkPlace_20
    · refine g_icmp_lt_f c2 (tgt := 20) rfl dX10_checkPlace_6 ?_
      refine g_sub [] rfl ?_
      exact tX10_checkPlace_b9  h O
theorem kX10_checkPlace {l : Launch} {V : gEnv} {M0 : gMem} {x0 : Int32} {x1 : Int32} (hst : l.stackTraces = false)  {o : (Unit ⊕ Nat)} (h : fX10_checkPlace x0 x1 = some o) : gMX l yX10_checkPlace cX10_checkPlace 2 none rX10_checkPlace V gShC [.int x0, .int x1] M0 (gOV o) M0 :=
  gMX.of hst (by decide) (Nat.le_of_ble_eq_true rfl) rfl (fun X _ O => tX10_checkPlace  h O)
theorem dX10_group_0 : decode cX10_group 0 = .ok (.iload_n 1, 1) := by decide +kernel
theorem dX10_group_1 : decode cX10_group 1 = .ok (.aload_n 0, 1) := by decide +kernel
theorem dX10_group_2 : decode cX10_group 2 = .ok (.getfield 12, 3) := by decide +kernel
theorem dX10_group_5 : decode cX10_group 5 = .ok (.getfield 149, 3) := by decide +kernel
theorem dX10_group_8 : decode cX10_group 8 = .ok (.invokestatic 218, 3) := by decide +kernel
theorem dX10_group_11 : decode cX10_group 11 = .ok (.iload_n 2, 1) := by decide +kernel
theorem dX10_group_12 : decode cX10_group 12 = .ok (.ifCond .lt 9, 3) := by decide +kernel
theorem dX10_group_15 : decode cX10_group 15 = .ok (.iload_n 2, 1) := by decide +kernel
theorem dX10_group_16 : decode cX10_group 16 = .ok (.bipush 7, 2) := by decide +kernel
theorem dX10_group_18 : decode cX10_group 18 = .ok (.if_icmp .le 13, 3) := by decide +kernel
theorem dX10_group_21 : decode cX10_group 21 = .ok (.new 110, 3) := by decide +kernel
theorem dX10_group_24 : decode cX10_group 24 = .ok (.dup, 1) := by decide +kernel
theorem dX10_group_25 : decode cX10_group 25 = .ok (.ldc 222, 2) := by decide +kernel
theorem dX10_group_27 : decode cX10_group 27 = .ok (.invokespecial 114, 3) := by decide +kernel
theorem dX10_group_30 : decode cX10_group 30 = .ok (.athrow, 1) := by decide +kernel
theorem dX10_group_31 : decode cX10_group 31 = .ok (.aload_n 0, 1) := by decide +kernel
theorem dX10_group_32 : decode cX10_group 32 = .ok (.getfield 12, 3) := by decide +kernel
theorem dX10_group_35 : decode cX10_group 35 = .ok (.getfield 177, 3) := by decide +kernel
theorem dX10_group_38 : decode cX10_group 38 = .ok (.iload_n 1, 1) := by decide +kernel
theorem dX10_group_39 : decode cX10_group 39 = .ok (.iaload, 1) := by decide +kernel
theorem dX10_group_40 : decode cX10_group 40 = .ok (.istore_n 3, 1) := by decide +kernel
theorem dX10_group_41 : decode cX10_group 41 = .ok (.iload_n 2, 1) := by decide +kernel
theorem dX10_group_42 : decode cX10_group 42 = .ok (.tableswitch 55 0 4 #[34, 39, 55, 44, 53], 34) := by decide +kernel
theorem dX10_group_76 : decode cX10_group 76 = .ok (.iload_n 3, 1) := by decide +kernel
theorem dX10_group_77 : decode cX10_group 77 = .ok (.invokestatic 183, 3) := by decide +kernel
theorem dX10_group_80 : decode cX10_group 80 = .ok (.ireturn, 1) := by decide +kernel
theorem dX10_group_81 : decode cX10_group 81 = .ok (.iload_n 3, 1) := by decide +kernel
theorem dX10_group_82 : decode cX10_group 82 = .ok (.invokestatic 190, 3) := by decide +kernel
theorem dX10_group_85 : decode cX10_group 85 = .ok (.ireturn, 1) := by decide +kernel
theorem dX10_group_86 : decode cX10_group 86 = .ok (.aload_n 0, 1) := by decide +kernel
theorem dX10_group_87 : decode cX10_group 87 = .ok (.getfield 12, 3) := by decide +kernel
theorem dX10_group_90 : decode cX10_group 90 = .ok (.iload_n 1, 1) := by decide +kernel
theorem dX10_group_91 : decode cX10_group 91 = .ok (.invokevirtual 224, 3) := by decide +kernel
theorem dX10_group_94 : decode cX10_group 94 = .ok (.ireturn, 1) := by decide +kernel
theorem dX10_group_95 : decode cX10_group 95 = .ok (.iload_n 3, 1) := by decide +kernel
theorem dX10_group_96 : decode cX10_group 96 = .ok (.ireturn, 1) := by decide +kernel
theorem dX10_group_97 : decode cX10_group 97 = .ok (.aload_n 0, 1) := by decide +kernel
theorem dX10_group_98 : decode cX10_group 98 = .ok (.getfield 79, 3) := by decide +kernel
theorem dX10_group_101 : decode cX10_group 101 = .ok (.aload_n 0, 1) := by decide +kernel
theorem dX10_group_102 : decode cX10_group 102 = .ok (.getfield 12, 3) := by decide +kernel
theorem dX10_group_105 : decode cX10_group 105 = .ok (.invokevirtual 227, 3) := by decide +kernel
theorem dX10_group_108 : decode cX10_group 108 = .ok (.iload_n 2, 1) := by decide +kernel
theorem dX10_group_109 : decode cX10_group 109 = .ok (.tableswitch 65 2 6 #[35, 65, 65, 45, 55], 35) := by decide +kernel
theorem dX10_group_144 : decode cX10_group 144 = .ok (.aload_n 0, 1) := by decide +kernel
theorem dX10_group_145 : decode cX10_group 145 = .ok (.getfield 79, 3) := by decide +kernel
theorem dX10_group_148 : decode cX10_group 148 = .ok (.getfield 230, 3) := by decide +kernel
theorem dX10_group_151 : decode cX10_group 151 = .ok (.iload_n 1, 1) := by decide +kernel
theorem dX10_group_152 : decode cX10_group 152 = .ok (.iaload, 1) := by decide +kernel
theorem dX10_group_153 : decode cX10_group 153 = .ok (.ireturn, 1) := by decide +kernel
theorem dX10_group_154 : decode cX10_group 154 = .ok (.aload_n 0, 1) := by decide +kernel
theorem dX10_group_155 : decode cX10_group 155 = .ok (.getfield 79, 3) := by decide +kernel
theorem dX10_group_158 : decode cX10_group 158 = .ok (.getfield 231, 3) := by decide +kernel
theorem dX10_group_161 : decode cX10_group 161 = .ok (.iload_n 1, 1) := by decide +kernel
theorem dX10_group_162 : decode cX10_group 162 = .ok (.iaload, 1) := by decide +kernel
theorem dX10_group_163 : decode cX10_group 163 = .ok (.ireturn, 1) := by decide +kernel
theorem dX10_group_164 : decode cX10_group 164 = .ok (.aload_n 0, 1) := by decide +kernel
theorem dX10_group_165 : decode cX10_group 165 = .ok (.getfield 79, 3) := by decide +kernel
theorem dX10_group_168 : decode cX10_group 168 = .ok (.getfield 234, 3) := by decide +kernel
theorem dX10_group_171 : decode cX10_group 171 = .ok (.iload_n 1, 1) := by decide +kernel
theorem dX10_group_172 : decode cX10_group 172 = .ok (.iaload, 1) := by decide +kernel
theorem dX10_group_173 : decode cX10_group 173 = .ok (.ireturn, 1) := by decide +kernel
theorem dX10_group_174 : decode cX10_group 174 = .ok (.aload_n 0, 1) := by decide +kernel
theorem dX10_group_175 : decode cX10_group 175 = .ok (.getfield 79, 3) := by decide +kernel
theorem dX10_group_178 : decode cX10_group 178 = .ok (.iload_n 1, 1) := by decide +kernel
theorem dX10_group_179 : decode cX10_group 179 = .ok (.invokevirtual 237, 3) := by decide +kernel
theorem dX10_group_182 : decode cX10_group 182 = .ok (.ireturn, 1) := by decide +kernel
abbrev rX10_group : Room := { frames := 7, cells := 2, slots := 12, locals := 111 }
abbrev mX10_group : gY := (cX10_group, RX10, 4, rX10_group)
def fX10_group_b21 (M0 : gMem) : Option ((Int32 ⊕ Nat) × gMem) :=
  some (.inr 1, M0)
set_option maxRecDepth 20000 in
theorem tX10_group_b21 {X : gX} {V : gEnv} {M0 : gMem}  {o : ((Int32 ⊕ Nat) × gMem)} (h : fX10_group_b21 M0 = some o) (O : gOX X V mX10_group gShC (some .int) (gOI o.1) o.2) : gG X V mX10_group gShC M0 1 6 21 [] [] := by
  unfold fX10_group_b21 at h
  cases h
  exact g_throw O U_1 SX10_222 ⟨Nat.le_of_ble_eq_true rfl, Nat.le_of_ble_eq_true rfl⟩ ⟨Nat.le_of_ble_eq_true rfl, Nat.le_of_ble_eq_true rfl⟩ dX10_group_21 dX10_group_24 dX10_group_25 dX10_group_27 dX10_group_30
def fX10_group (x1 : Int32) (x2 : Int32) (M0 : gMem) : Option ((Int32 ⊕ Nat) × gMem) :=
  (fX10_checkPlace x1 (M0.1 1 11)).bind fun v1 => gSE v1 (fun u2 => if x2 < 0 then (fX10_group_b21 M0) else if x2 ≤ (7 : Int32) then ((rI M0 8 24 x1).bind fun v6 => if x2 = (0 : Int32) then ((fX10_headOf v6).bind fun v8 => some (.inl v8, M0)) else if x2 = (1 : Int32) then ((fJ6_bitCount_0f7a4 v6).bind fun v10 => some (.inl v10, M0)) else if x2 = (2 : Int32) then ((fX0_measure 1 M0).bind fun v12 => if x2 = (2 : Int32) then ((rI v12 51 24 x1).bind fun v14 => some (.inl v14, v12)) else if x2 = (3 : Int32) then ((fX0_slackAt x1 v12).bind fun v16 => some (.inl v16, v12)) else if x2 = (4 : Int32) then ((fX0_slackAt x1 v12).bind fun v18 => some (.inl v18, v12)) else if x2 = (5 : Int32) then ((rI v12 52 24 x1).bind fun v20 => some (.inl v20, v12)) else if x2 = (6 : Int32) then ((rI v12 53 24 x1).bind fun v22 => some (.inl v22, v12)) else (fX0_slackAt x1 v12).bind fun v23 => some (.inl v23, v12)) else if x2 = (3 : Int32) then ((fX2_innerArrowsAt 1 x1 M0).bind fun v25 => some (.inl v25, M0)) else if x2 = (4 : Int32) then (some (.inl v6, M0)) else (fX0_measure 1 M0).bind fun v27 => if x2 = (2 : Int32) then ((rI v27 51 24 x1).bind fun v29 => some (.inl v29, v27)) else if x2 = (3 : Int32) then ((fX0_slackAt x1 v27).bind fun v31 => some (.inl v31, v27)) else if x2 = (4 : Int32) then ((fX0_slackAt x1 v27).bind fun v33 => some (.inl v33, v27)) else if x2 = (5 : Int32) then ((rI v27 52 24 x1).bind fun v35 => some (.inl v35, v27)) else if x2 = (6 : Int32) then ((rI v27 53 24 x1).bind fun v37 => some (.inl v37, v27)) else (fX0_slackAt x1 v27).bind fun v38 => some (.inl v38, v27)) else fX10_group_b21 M0) (fun x3 => some (.inr x3, M0))
set_option maxRecDepth 20000 in
theorem tX10_group {X : gX} {V : gEnv} {x1 : Int32} {x2 : Int32} {M0 : gMem}  {o : ((Int32 ⊕ Nat) × gMem)} (h : fX10_group x1 x2 M0 = some o) (O : gOX X V mX10_group gShC (some .int) (gOI o.1) o.2) : gG X V mX10_group gShC M0 0 0 0 [(0, .ref (gAd V 0)), (1, .int x1), (2, .int x2)] [] := by
  unfold fX10_group at h
  refine g_iload_n 1 rfl rfl dX10_group_0 ?_
  refine g_aload_n 0 rfl rfl dX10_group_1 ?_
  refine g_getR FX10_12 sC_0 rfl dX10_group_2 ?_
  refine g_getI FX10_149 sC_1 rfl dX10_group_5 ?_
  obtain ⟨v1, ev1, h⟩ := g_bnd h
  rcases v1 with u2 | x3
  · have h := g_sl h
    refine g_callSX LX10_218 (kX10_checkPlace O.2.2.1 ev1) rfl rfl (Nat.le_of_ble_eq_true rfl) ⟨Nat.le_of_ble_eq_true rfl, Nat.le_of_ble_eq_true rfl⟩ ⟨Nat.le_of_ble_eq_true rfl, Nat.le_of_ble_eq_true rfl⟩ dX10_group_8 rfl ?_
    refine g_iload_n 2 rfl rfl dX10_group_11 ?_
    rcases g_ite h with ⟨c4, h⟩ | ⟨c4, h⟩
    · refine g_if_lt_t c4 (tgt := 21) rfl dX10_group_12 ?_
      refine g_sub [] rfl ?_
      exact tX10_group_b21  h O
    · refine g_if_lt_f c4 (tgt := 21) rfl dX10_group_12 ?_
      refine g_iload_n 2 rfl rfl dX10_group_15 ?_
      refine g_bipush (v := 7) rfl dX10_group_16 ?_
      rcases g_ite h with ⟨c5, h⟩ | ⟨c5, h⟩
      · refine g_icmp_le_t c5 (tgt := 31) rfl dX10_group_18 ?_
        refine g_aload_n 0 rfl rfl dX10_group_31 ?_
        refine g_getR FX10_12 sC_0 rfl dX10_group_32 ?_
        refine g_getR FX10_177 sC_1 rfl dX10_group_35 ?_
        refine g_iload_n 1 rfl rfl dX10_group_38 ?_
        obtain ⟨v6, ev6, h⟩ := g_bnd h
        refine g_iald' ev6 sC_8 dX10_group_39 ?_
        refine g_istore_n (ls' := [(3, .int v6), (0, .ref (gAd V 0)), (1, .int x1), (2, .int x2)]) rfl (Nat.le_of_ble_eq_true rfl) rfl dX10_group_40 ?_
        refine g_iload_n 3 rfl rfl dX10_group_41 ?_
        rcases g_ite h with ⟨c7, h⟩ | ⟨c7, h⟩
        · refine g_tabIn (off := 34) (tgt := 76) (by rw [c7]; decide) (by rw [c7]; decide) (by rw [c7]; rfl) rfl dX10_group_42 ?_
          refine g_iload_n 0 rfl rfl dX10_group_76 ?_
          obtain ⟨v8, ev8, h⟩ := g_bnd h
          refine g_callS LX10_183 (kX10_headOf ev8) rfl rfl (Nat.le_of_ble_eq_true rfl) ⟨Nat.le_of_ble_eq_true rfl, Nat.le_of_ble_eq_true rfl⟩ ⟨Nat.le_of_ble_eq_true rfl, Nat.le_of_ble_eq_true rfl⟩ dX10_group_77 rfl ?_
          cases h
          exact g_iretX O ⟨Nat.le_of_ble_eq_true rfl, Nat.le_of_ble_eq_true rfl⟩ rfl dX10_group_80
        ·
          rcases g_ite h with ⟨c9, h⟩ | ⟨c9, h⟩
          · refine g_tabIn (off := 39) (tgt := 81) (by rw [c9]; decide) (by rw [c9]; decide) (by rw [c9]; rfl) rfl dX10_group_42 ?_
            refine g_iload_n 0 rfl rfl dX10_group_81 ?_
            obtain ⟨v10, ev10, h⟩ := g_bnd h
            refine g_callS LX10_190 (kJ6_bitCount_0f7a4 ev10) rfl rfl (Nat.le_of_ble_eq_true rfl) ⟨Nat.le_of_ble_eq_true rfl, Nat.le_of_ble_eq_true rfl⟩ ⟨Nat.le_of_ble_eq_true rfl, Nat.le_of_ble_eq_true rfl⟩ dX10_group_82 rfl ?_
            cases h
            exact g_iretX O ⟨Nat.le_of_ble_eq_true rfl, Nat.le_of_ble_eq_true rfl⟩ rfl dX10_group_85
          ·
            rcases g_ite h with ⟨c11, h⟩ | ⟨c11, h⟩
            · refine g_tabIn (off := 55) (tgt := 97) (by rw [c11]; decide) (by rw [c11]; decide) (by rw [c11]; rfl) rfl dX10_group_42 ?_
              refine g_aload_n 1 rfl rfl dX10_group_97 ?_
              refine g_getR FX10_79 sC_0 rfl dX10_group_98 ?_
              refine g_aload_n 1 rfl rfl dX10_group_101 ?_
              refine g_getR FX10_12 sC_0 rfl dX10_group_102 ?_
              obtain ⟨v12, ev12, h⟩ := g_bnd h
              refine g_callV LX10_227 sC_50 rfl (kX0_measure nC_1 ev12) rfl rfl (Nat.le_of_ble_eq_true rfl) ⟨Nat.le_of_ble_eq_true rfl, Nat.le_of_ble_eq_true rfl⟩ ⟨Nat.le_of_ble_eq_true rfl, Nat.le_of_ble_eq_true rfl⟩ dX10_group_105 rfl ?_
              refine g_iload_n 3 rfl rfl dX10_group_108 ?_
              rcases g_ite h with ⟨c13, h⟩ | ⟨c13, h⟩
              · refine g_tabIn (off := 35) (tgt := 144) (by rw [c13]; decide) (by rw [c13]; decide) (by rw [c13]; rfl) rfl dX10_group_109 ?_
                refine g_aload_n 1 rfl rfl dX10_group_144 ?_
                refine g_getR FX10_79 sC_0 rfl dX10_group_145 ?_
                refine g_getR FX10_230 sC_50 rfl dX10_group_148 ?_
                refine g_iload_n 2 rfl rfl dX10_group_151 ?_
                obtain ⟨v14, ev14, h⟩ := g_bnd h
                refine g_iald' ev14 sC_51 dX10_group_152 ?_
                cases h
                exact g_iretX O ⟨Nat.le_of_ble_eq_true rfl, Nat.le_of_ble_eq_true rfl⟩ rfl dX10_group_153
              ·
                rcases g_ite h with ⟨c15, h⟩ | ⟨c15, h⟩
                · refine g_tabIn (off := 65) (tgt := 174) (by rw [c15]; decide) (by rw [c15]; decide) (by rw [c15]; rfl) rfl dX10_group_109 ?_
                  refine g_aload_n 1 rfl rfl dX10_group_174 ?_
                  refine g_getR FX10_79 sC_0 rfl dX10_group_175 ?_
                  refine g_iload_n 2 rfl rfl dX10_group_178 ?_
                  obtain ⟨v16, ev16, h⟩ := g_bnd h
                  refine g_callV LX10_237 sC_50 rfl (kX0_slackAt ev16) rfl rfl (Nat.le_of_ble_eq_true rfl) ⟨Nat.le_of_ble_eq_true rfl, Nat.le_of_ble_eq_true rfl⟩ ⟨Nat.le_of_ble_eq_true rfl, Nat.le_of_ble_eq_true rfl⟩ dX10_group_179 rfl ?_
                  cases h
                  exact g_iretX O ⟨Nat.le_of_ble_eq_true rfl, Nat.le_of_ble_eq_true rfl⟩ rfl dX10_group_182
                ·
                  rcases g_ite h with ⟨c17, h⟩ | ⟨c17, h⟩
                  · refine g_tabIn (off := 65) (tgt := 174) (by rw [c17]; decide) (by rw [c17]; decide) (by rw [c17]; rfl) rfl dX10_group_109 ?_
                    refine g_aload_n 1 rfl rfl dX10_group_174 ?_
                    refine g_getR FX10_79 sC_0 rfl dX10_group_175 ?_
                    refine g_iload_n 2 rfl rfl dX10_group_178 ?_
                    obtain ⟨v18, ev18, h⟩ := g_bnd h
                    refine g_callV LX10_237 sC_50 rfl (kX0_slackAt ev18) rfl rfl (Nat.le_of_ble_eq_true rfl) ⟨Nat.le_of_ble_eq_true rfl, Nat.le_of_ble_eq_true rfl⟩ ⟨Nat.le_of_ble_eq_true rfl, Nat.le_of_ble_eq_true rfl⟩ dX10_group_179 rfl ?_
                    cases h
                    exact g_iretX O ⟨Nat.le_of_ble_eq_true rfl, Nat.le_of_ble_eq_true rfl⟩ rfl dX10_group_182
                  ·
                    rcases g_ite h with ⟨c19, h⟩ | ⟨c19, h⟩
                    · refine g_tabIn (off := 45) (tgt := 154) (by rw [c19]; decide) (by rw [c19]; decide) (by rw [c19]; rfl) rfl dX10_group_109 ?_
                      refine g_aload_n 1 rfl rfl dX10_group_154 ?_
                      refine g_getR FX10_79 sC_0 rfl dX10_group_155 ?_
                      refine g_getR FX10_231 sC_50 rfl dX10_group_158 ?_
                      refine g_iload_n 2 rfl rfl dX10_group_161 ?_
                      obtain ⟨v20, ev20, h⟩ := g_bnd h
                      refine g_iald' ev20 sC_52 dX10_group_162 ?_
                      cases h
                      exact g_iretX O ⟨Nat.le_of_ble_eq_true rfl, Nat.le_of_ble_eq_true rfl⟩ rfl dX10_group_163
                    ·
                      rcases g_ite h with ⟨c21, h⟩ | ⟨c21, h⟩
                      · refine g_tabIn (off := 55) (tgt := 164) (by rw [c21]; decide) (by rw [c21]; decide) (by rw [c21]; rfl) rfl dX10_group_109 ?_
                        refine g_aload_n 1 rfl rfl dX10_group_164 ?_
                        refine g_getR FX10_79 sC_0 rfl dX10_group_165 ?_
                        refine g_getR FX10_234 sC_50 rfl dX10_group_168 ?_
                        refine g_iload_n 2 rfl rfl dX10_group_171 ?_
                        obtain ⟨v22, ev22, h⟩ := g_bnd h
                        refine g_iald' ev22 sC_53 dX10_group_172 ?_
                        cases h
                        exact g_iretX O ⟨Nat.le_of_ble_eq_true rfl, Nat.le_of_ble_eq_true rfl⟩ rfl dX10_group_173
                      ·
                        have nc13 := gne (2 : Int32) (j := 2) rfl c13
                        have nc15 := gne (3 : Int32) (j := 3) rfl c15
                        have nc17 := gne (4 : Int32) (j := 4) rfl c17
                        have nc19 := gne (5 : Int32) (j := 5) rfl c19
                        have nc21 := gne (6 : Int32) (j := 6) rfl c21
                        refine g_tabOut (tgt := 174) (by omega) rfl dX10_group_109 ?_
                        refine g_aload_n 1 rfl rfl dX10_group_174 ?_
                        refine g_getR FX10_79 sC_0 rfl dX10_group_175 ?_
                        refine g_iload_n 2 rfl rfl dX10_group_178 ?_
                        obtain ⟨v23, ev23, h⟩ := g_bnd h
                        refine g_callV LX10_237 sC_50 rfl (kX0_slackAt ev23) rfl rfl (Nat.le_of_ble_eq_true rfl) ⟨Nat.le_of_ble_eq_true rfl, Nat.le_of_ble_eq_true rfl⟩ ⟨Nat.le_of_ble_eq_true rfl, Nat.le_of_ble_eq_true rfl⟩ dX10_group_179 rfl ?_
                        cases h
                        exact g_iretX O ⟨Nat.le_of_ble_eq_true rfl, Nat.le_of_ble_eq_true rfl⟩ rfl dX10_group_182
            ·
              rcases g_ite h with ⟨c24, h⟩ | ⟨c24, h⟩
              · refine g_tabIn (off := 44) (tgt := 86) (by rw [c24]; decide) (by rw [c24]; decide) (by rw [c24]; rfl) rfl dX10_group_42 ?_
                refine g_aload_n 1 rfl rfl dX10_group_86 ?_
                refine g_getR FX10_12 sC_0 rfl dX10_group_87 ?_
                refine g_iload_n 2 rfl rfl dX10_group_90 ?_
                obtain ⟨v25, ev25, h⟩ := g_bnd h
                refine g_callV LX10_224 sC_1 rfl (kX2_innerArrowsAt nC_1 ev25) rfl rfl (Nat.le_of_ble_eq_true rfl) ⟨Nat.le_of_ble_eq_true rfl, Nat.le_of_ble_eq_true rfl⟩ ⟨Nat.le_of_ble_eq_true rfl, Nat.le_of_ble_eq_true rfl⟩ dX10_group_91 rfl ?_
                cases h
                exact g_iretX O ⟨Nat.le_of_ble_eq_true rfl, Nat.le_of_ble_eq_true rfl⟩ rfl dX10_group_94
              ·
                rcases g_ite h with ⟨c26, h⟩ | ⟨c26, h⟩
                · refine g_tabIn (off := 53) (tgt := 95) (by rw [c26]; decide) (by rw [c26]; decide) (by rw [c26]; rfl) rfl dX10_group_42 ?_
                  refine g_iload_n 0 rfl rfl dX10_group_95 ?_
                  cases h
                  exact g_iretX O ⟨Nat.le_of_ble_eq_true rfl, Nat.le_of_ble_eq_true rfl⟩ rfl dX10_group_96
                ·
                  have nc7 := gne (0 : Int32) (j := 0) rfl c7
                  have nc9 := gne (1 : Int32) (j := 1) rfl c9
                  have nc11 := gne (2 : Int32) (j := 2) rfl c11
                  have nc24 := gne (3 : Int32) (j := 3) rfl c24
                  have nc26 := gne (4 : Int32) (j := 4) rfl c26
                  refine g_tabOut (tgt := 97) (by omega) rfl dX10_group_42 ?_
                  refine g_aload_n 1 rfl rfl dX10_group_97 ?_
                  refine g_getR FX10_79 sC_0 rfl dX10_group_98 ?_
                  refine g_aload_n 1 rfl rfl dX10_group_101 ?_
                  refine g_getR FX10_12 sC_0 rfl dX10_group_102 ?_
                  obtain ⟨v27, ev27, h⟩ := g_bnd h
                  refine g_callV LX10_227 sC_50 rfl (kX0_measure nC_1 ev27) rfl rfl (Nat.le_of_ble_eq_true rfl) ⟨Nat.le_of_ble_eq_true rfl, Nat.le_of_ble_eq_true rfl⟩ ⟨Nat.le_of_ble_eq_true rfl, Nat.le_of_ble_eq_true rfl⟩ dX10_group_105 rfl ?_
                  refine g_iload_n 3 rfl rfl dX10_group_108 ?_
                  rcases g_ite h with ⟨c28, h⟩ | ⟨c28, h⟩
                  · refine g_tabIn (off := 35) (tgt := 144) (by rw [c28]; decide) (by rw [c28]; decide) (by rw [c28]; rfl) rfl dX10_group_109 ?_
                    refine g_aload_n 1 rfl rfl dX10_group_144 ?_
                    refine g_getR FX10_79 sC_0 rfl dX10_group_145 ?_
                    refine g_getR FX10_230 sC_50 rfl dX10_group_148 ?_
                    refine g_iload_n 2 rfl rfl dX10_group_151 ?_
                    obtain ⟨v29, ev29, h⟩ := g_bnd h
                    refine g_iald' ev29 sC_51 dX10_group_152 ?_
                    cases h
                    exact g_iretX O ⟨Nat.le_of_ble_eq_true rfl, Nat.le_of_ble_eq_true rfl⟩ rfl dX10_group_153
                  ·
                    rcases g_ite h with ⟨c30, h⟩ | ⟨c30, h⟩
                    · refine g_tabIn (off := 65) (tgt := 174) (by rw [c30]; decide) (by rw [c30]; decide) (by rw [c30]; rfl) rfl dX10_group_109 ?_
                      refine g_aload_n 1 rfl rfl dX10_group_174 ?_
                      refine g_getR FX10_79 sC_0 rfl dX10_group_175 ?_
                      refine g_iload_n 2 rfl rfl dX10_group_178 ?_
                      obtain ⟨v31, ev31, h⟩ := g_bnd h
                      refine g_callV LX10_237 sC_50 rfl (kX0_slackAt ev31) rfl rfl (Nat.le_of_ble_eq_true rfl) ⟨Nat.le_of_ble_eq_true rfl, Nat.le_of_ble_eq_true rfl⟩ ⟨Nat.le_of_ble_eq_true rfl, Nat.le_of_ble_eq_true rfl⟩ dX10_group_179 rfl ?_
                      cases h
                      exact g_iretX O ⟨Nat.le_of_ble_eq_true rfl, Nat.le_of_ble_eq_true rfl⟩ rfl dX10_group_182
                    ·
                      rcases g_ite h with ⟨c32, h⟩ | ⟨c32, h⟩
                      · refine g_tabIn (off := 65) (tgt := 174) (by rw [c32]; decide) (by rw [c32]; decide) (by rw [c32]; rfl) rfl dX10_group_109 ?_
                        refine g_aload_n 1 rfl rfl dX10_group_174 ?_
                        refine g_getR FX10_79 sC_0 rfl dX10_group_175 ?_
                        refine g_iload_n 2 rfl rfl dX10_group_178 ?_
                        obtain ⟨v33, ev33, h⟩ := g_bnd h
                        refine g_callV LX10_237 sC_50 rfl (kX0_slackAt ev33) rfl rfl (Nat.le_of_ble_eq_true rfl) ⟨Nat.le_of_ble_eq_true rfl, Nat.le_of_ble_eq_true rfl⟩ ⟨Nat.le_of_ble_eq_true rfl, Nat.le_of_ble_eq_true rfl⟩ dX10_group_179 rfl ?_
                        cases h
                        exact g_iretX O ⟨Nat.le_of_ble_eq_true rfl, Nat.le_of_ble_eq_true rfl⟩ rfl dX10_group_182
                      ·
                        rcases g_ite h with ⟨c34, h⟩ | ⟨c34, h⟩
                        · refine g_tabIn (off := 45) (tgt := 154) (by rw [c34]; decide) (by rw [c34]; decide) (by rw [c34]; rfl) rfl dX10_group_109 ?_
                          refine g_aload_n 1 rfl rfl dX10_group_154 ?_
                          refine g_getR FX10_79 sC_0 rfl dX10_group_155 ?_
                          refine g_getR FX10_231 sC_50 rfl dX10_group_158 ?_
                          refine g_iload_n 2 rfl rfl dX10_group_161 ?_
                          obtain ⟨v35, ev35, h⟩ := g_bnd h
                          refine g_iald' ev35 sC_52 dX10_group_162 ?_
                          cases h
                          exact g_iretX O ⟨Nat.le_of_ble_eq_true rfl, Nat.le_of_ble_eq_true rfl⟩ rfl dX10_group_163
                        ·
                          rcases g_ite h with ⟨c36, h⟩ | ⟨c36, h⟩
                          · refine g_tabIn (off := 55) (tgt := 164) (by rw [c36]; decide) (by rw [c36]; decide) (by rw [c36]; rfl) rfl dX10_group_109 ?_
                            refine g_aload_n 1 rfl rfl dX10_group_164 ?_
                            refine g_getR FX10_79 sC_0 rfl dX10_group_165 ?_
                            refine g_getR FX10_234 sC_50 rfl dX10_group_168 ?_
                            refine g_iload_n 2 rfl rfl dX10_group_171 ?_
                            obtain ⟨v37, ev37, h⟩ := g_bnd h
                            refine g_iald' ev37 sC_53 dX10_group_172 ?_
                            cases h
                            exact g_iretX O ⟨Nat.le_of_ble_eq_true rfl, Nat.le_of_ble_eq_true rfl⟩ rfl dX10_group_173
                          ·
                            have nc28 := gne (2 : Int32) (j := 2) rfl c28
                            have nc30 := gne (3 : Int32) (j := 3) rfl c30
                            have nc32 := gne (4 : Int32) (j := 4) rfl c32
                            have nc34 := gne (5 : Int32) (j := 5) rfl c34
                            have nc36 := gne (6 : Int32) (j := 6) rfl c36
                            refine g_tabOut (tgt := 174) (by omega) rfl dX10_group_109 ?_
                            refine g_aload_n 1 rfl rfl dX10_group_174 ?_
                            refine g_getR FX10_79 sC_0 rfl dX10_group_175 ?_
                            refine g_iload_n 2 rfl rfl dX10_group_178 ?_
                            obtain ⟨v38, ev38, h⟩ := g_bnd h
                            refine g_callV LX10_237 sC_50 rfl (kX0_slackAt ev38) rfl rfl (Nat.le_of_ble_eq_true rfl) ⟨Nat.le_of_ble_eq_true rfl, Nat.le_of_ble_eq_true rfl⟩ ⟨Nat.le_of_ble_eq_true rfl, Nat.le_of_ble_eq_true rfl⟩ dX10_group_179 rfl ?_
                            cases h
                            exact g_iretX O ⟨Nat.le_of_ble_eq_true rfl, Nat.le_of_ble_eq_true rfl⟩ rfl dX10_group_182
      · refine g_icmp_le_f c5 (tgt := 31) rfl dX10_group_18 ?_
        refine g_sub [] rfl ?_
        exact tX10_group_b21  h O
  · have h := g_sr h
    cases h
    exact g_callST LX10_218 O (kX10_checkPlace O.2.2.1 ev1) rfl rfl (Nat.le_of_ble_eq_true rfl) ⟨Nat.le_of_ble_eq_true rfl, Nat.le_of_ble_eq_true rfl⟩ ⟨Nat.le_of_ble_eq_true rfl, Nat.le_of_ble_eq_true rfl⟩ dX10_group_8
theorem kX10_group {l : Launch} {V : gEnv} {M0 : gMem} {x1 : Int32} {x2 : Int32} (hst : l.stackTraces = false)  {o : ((Int32 ⊕ Nat) × gMem)} (h : fX10_group x1 x2 M0 = some o) : gMX l yX10_group cX10_group 4 (some .int) rX10_group V gShC [.ref (gAd V 0), .int x1, .int x2] M0 (gOI o.1) o.2 :=
  gMX.of hst (by decide) (Nat.le_of_ble_eq_true rfl) rfl (fun X _ O => tX10_group  h O)
theorem dX10_checkArrow_0 : decode cX10_checkArrow 0 = .ok (.iload_n 1, 1) := by decide +kernel
theorem dX10_checkArrow_1 : decode cX10_checkArrow 1 = .ok (.ifCond .lt 14, 3) := by decide +kernel
theorem dX10_checkArrow_4 : decode cX10_checkArrow 4 = .ok (.iload_n 1, 1) := by decide +kernel
theorem dX10_checkArrow_5 : decode cX10_checkArrow 5 = .ok (.aload_n 0, 1) := by decide +kernel
theorem dX10_checkArrow_6 : decode cX10_checkArrow 6 = .ok (.getfield 12, 3) := by decide +kernel
theorem dX10_checkArrow_9 : decode cX10_checkArrow 9 = .ok (.getfield 146, 3) := by decide +kernel
theorem dX10_checkArrow_12 : decode cX10_checkArrow 12 = .ok (.if_icmp .lt 14, 3) := by decide +kernel
theorem dX10_checkArrow_15 : decode cX10_checkArrow 15 = .ok (.new 387, 3) := by decide +kernel
theorem dX10_checkArrow_18 : decode cX10_checkArrow 18 = .ok (.dup, 1) := by decide +kernel
theorem dX10_checkArrow_19 : decode cX10_checkArrow 19 = .ok (.ldc_w 392, 3) := by decide +kernel
theorem dX10_checkArrow_22 : decode cX10_checkArrow 22 = .ok (.invokespecial 391, 3) := by decide +kernel
theorem dX10_checkArrow_25 : decode cX10_checkArrow 25 = .ok (.athrow, 1) := by decide +kernel
theorem dX10_checkArrow_26 : decode cX10_checkArrow 26 = .ok (.return_, 1) := by decide +kernel
abbrev rX10_checkArrow : Room := { frames := 6, cells := 1, slots := 6, locals := 90 }
abbrev mX10_checkArrow : gY := (cX10_checkArrow, RX10, 2, rX10_checkArrow)
def fX10_checkArrow_b15 (M0 : gMem) : Option (Unit ⊕ Nat) :=
  some (.inr 2)
set_option maxRecDepth 20000 in
theorem tX10_checkArrow_b15 {X : gX} {V : gEnv} {M0 : gMem}  {o : (Unit ⊕ Nat)} (h : fX10_checkArrow_b15 M0 = some o) (O : gOX X V mX10_checkArrow gShC none (gOV o) M0) : gG X V mX10_checkArrow gShC M0 0 0 15 [] [] := by
  unfold fX10_checkArrow_b15 at h
  cases h
  exact g_throwW O U_2 SX10_392 ⟨Nat.le_of_ble_eq_true rfl, Nat.le_of_ble_eq_true rfl⟩ ⟨Nat.le_of_ble_eq_true rfl, Nat.le_of_ble_eq_true rfl⟩ dX10_checkArrow_15 dX10_checkArrow_18 dX10_checkArrow_19 dX10_checkArrow_22 dX10_checkArrow_25
def fX10_checkArrow (x1 : Int32) (M0 : gMem) : Option (Unit ⊕ Nat) :=
  if x1 < 0 then (fX10_checkArrow_b15 M0) else if x1 < (M0.1 1 10) then (some (.inl ())) else fX10_checkArrow_b15 M0
set_option maxRecDepth 20000 in
theorem tX10_checkArrow {X : gX} {V : gEnv} {x1 : Int32} {M0 : gMem}  {o : (Unit ⊕ Nat)} (h : fX10_checkArrow x1 M0 = some o) (O : gOX X V mX10_checkArrow gShC none (gOV o) M0) : gG X V mX10_checkArrow gShC M0 0 0 0 [(0, .ref (gAd V 0)), (1, .int x1)] [] := by
  unfold fX10_checkArrow at h
  refine g_iload_n 1 rfl rfl dX10_checkArrow_0 ?_
  rcases g_ite h with ⟨c1, h⟩ | ⟨c1, h⟩
  · refine g_if_lt_t c1 (tgt := 15) rfl dX10_checkArrow_1 ?_
    refine g_sub [] rfl ?_
    exact tX10_checkArrow_b15  h O
  · refine g_if_lt_f c1 (tgt := 15) rfl dX10_checkArrow_1 ?_
    refine g_iload_n 1 rfl rfl dX10_checkArrow_4 ?_
    refine g_aload_n 0 rfl rfl dX10_checkArrow_5 ?_
    refine g_getR FX10_12 sC_0 rfl dX10_checkArrow_6 ?_
    refine g_getI FX10_146 sC_1 rfl dX10_checkArrow_9 ?_
    rcases g_ite h with ⟨c2, h⟩ | ⟨c2, h⟩
    · refine g_icmp_lt_t c2 (tgt := 26) rfl dX10_checkArrow_12 ?_
      cases h
      exact g_vretX O ⟨Nat.le_of_ble_eq_true rfl, Nat.le_of_ble_eq_true rfl⟩ dX10_checkArrow_26
    · refine g_icmp_lt_f c2 (tgt := 26) rfl dX10_checkArrow_12 ?_
      refine g_sub [] rfl ?_
      exact tX10_checkArrow_b15  h O
theorem kX10_checkArrow {l : Launch} {V : gEnv} {M0 : gMem} {x1 : Int32} (hst : l.stackTraces = false)  {o : (Unit ⊕ Nat)} (h : fX10_checkArrow x1 M0 = some o) : gMX l yX10_checkArrow cX10_checkArrow 2 none rX10_checkArrow V gShC [.ref (gAd V 0), .int x1] M0 (gOV o) M0 :=
  gMX.of hst (by decide) (Nat.le_of_ble_eq_true rfl) rfl (fun X _ O => tX10_checkArrow  h O)
theorem dX10_arrow_0 : decode cX10_arrow 0 = .ok (.aload_n 0, 1) := by decide +kernel
theorem dX10_arrow_1 : decode cX10_arrow 1 = .ok (.iload_n 1, 1) := by decide +kernel
theorem dX10_arrow_2 : decode cX10_arrow 2 = .ok (.invokevirtual 240, 3) := by decide +kernel
theorem dX10_arrow_5 : decode cX10_arrow 5 = .ok (.iload_n 2, 1) := by decide +kernel
theorem dX10_arrow_6 : decode cX10_arrow 6 = .ok (.tableswitch 103 0 3 #[30, 40, 50, 67], 30) := by decide +kernel
theorem dX10_arrow_36 : decode cX10_arrow 36 = .ok (.aload_n 0, 1) := by decide +kernel
theorem dX10_arrow_37 : decode cX10_arrow 37 = .ok (.getfield 12, 3) := by decide +kernel
theorem dX10_arrow_40 : decode cX10_arrow 40 = .ok (.getfield 243, 3) := by decide +kernel
theorem dX10_arrow_43 : decode cX10_arrow 43 = .ok (.iload_n 1, 1) := by decide +kernel
theorem dX10_arrow_44 : decode cX10_arrow 44 = .ok (.iaload, 1) := by decide +kernel
theorem dX10_arrow_45 : decode cX10_arrow 45 = .ok (.ireturn, 1) := by decide +kernel
theorem dX10_arrow_46 : decode cX10_arrow 46 = .ok (.aload_n 0, 1) := by decide +kernel
theorem dX10_arrow_47 : decode cX10_arrow 47 = .ok (.getfield 12, 3) := by decide +kernel
theorem dX10_arrow_50 : decode cX10_arrow 50 = .ok (.getfield 246, 3) := by decide +kernel
theorem dX10_arrow_53 : decode cX10_arrow 53 = .ok (.iload_n 1, 1) := by decide +kernel
theorem dX10_arrow_54 : decode cX10_arrow 54 = .ok (.iaload, 1) := by decide +kernel
theorem dX10_arrow_55 : decode cX10_arrow 55 = .ok (.ireturn, 1) := by decide +kernel
theorem dX10_arrow_56 : decode cX10_arrow 56 = .ok (.aload_n 0, 1) := by decide +kernel
theorem dX10_arrow_57 : decode cX10_arrow 57 = .ok (.getfield 12, 3) := by decide +kernel
theorem dX10_arrow_60 : decode cX10_arrow 60 = .ok (.iload_n 1, 1) := by decide +kernel
theorem dX10_arrow_61 : decode cX10_arrow 61 = .ok (.invokevirtual 249, 3) := by decide +kernel
theorem dX10_arrow_64 : decode cX10_arrow 64 = .ok (.ifCond .eq 7, 3) := by decide +kernel
theorem dX10_arrow_67 : decode cX10_arrow 67 = .ok (.iconst 1, 1) := by decide +kernel
theorem dX10_arrow_68 : decode cX10_arrow 68 = .ok (.goto 4, 3) := by decide +kernel
theorem dX10_arrow_71 : decode cX10_arrow 71 = .ok (.iconst 0, 1) := by decide +kernel
theorem dX10_arrow_72 : decode cX10_arrow 72 = .ok (.ireturn, 1) := by decide +kernel
theorem dX10_arrow_73 : decode cX10_arrow 73 = .ok (.aload_n 0, 1) := by decide +kernel
theorem dX10_arrow_74 : decode cX10_arrow 74 = .ok (.getfield 12, 3) := by decide +kernel
theorem dX10_arrow_77 : decode cX10_arrow 77 = .ok (.getfield 180, 3) := by decide +kernel
theorem dX10_arrow_80 : decode cX10_arrow 80 = .ok (.aload_n 0, 1) := by decide +kernel
theorem dX10_arrow_81 : decode cX10_arrow 81 = .ok (.getfield 12, 3) := by decide +kernel
theorem dX10_arrow_84 : decode cX10_arrow 84 = .ok (.getfield 246, 3) := by decide +kernel
theorem dX10_arrow_87 : decode cX10_arrow 87 = .ok (.iload_n 1, 1) := by decide +kernel
theorem dX10_arrow_88 : decode cX10_arrow 88 = .ok (.iaload, 1) := by decide +kernel
theorem dX10_arrow_89 : decode cX10_arrow 89 = .ok (.iaload, 1) := by decide +kernel
theorem dX10_arrow_90 : decode cX10_arrow 90 = .ok (.aload_n 0, 1) := by decide +kernel
theorem dX10_arrow_91 : decode cX10_arrow 91 = .ok (.getfield 12, 3) := by decide +kernel
theorem dX10_arrow_94 : decode cX10_arrow 94 = .ok (.getfield 180, 3) := by decide +kernel
theorem dX10_arrow_97 : decode cX10_arrow 97 = .ok (.aload_n 0, 1) := by decide +kernel
theorem dX10_arrow_98 : decode cX10_arrow 98 = .ok (.getfield 12, 3) := by decide +kernel
theorem dX10_arrow_101 : decode cX10_arrow 101 = .ok (.getfield 243, 3) := by decide +kernel
theorem dX10_arrow_104 : decode cX10_arrow 104 = .ok (.iload_n 1, 1) := by decide +kernel
theorem dX10_arrow_105 : decode cX10_arrow 105 = .ok (.iaload, 1) := by decide +kernel
theorem dX10_arrow_106 : decode cX10_arrow 106 = .ok (.iaload, 1) := by decide +kernel
theorem dX10_arrow_107 : decode cX10_arrow 107 = .ok (.isub, 1) := by decide +kernel
theorem dX10_arrow_108 : decode cX10_arrow 108 = .ok (.ireturn, 1) := by decide +kernel
theorem dX10_arrow_109 : decode cX10_arrow 109 = .ok (.new 110, 3) := by decide +kernel
theorem dX10_arrow_112 : decode cX10_arrow 112 = .ok (.dup, 1) := by decide +kernel
theorem dX10_arrow_113 : decode cX10_arrow 113 = .ok (.ldc 253, 2) := by decide +kernel
theorem dX10_arrow_115 : decode cX10_arrow 115 = .ok (.invokespecial 114, 3) := by decide +kernel
theorem dX10_arrow_118 : decode cX10_arrow 118 = .ok (.athrow, 1) := by decide +kernel
abbrev rX10_arrow : Room := { frames := 7, cells := 2, slots := 12, locals := 111 }
abbrev mX10_arrow : gY := (cX10_arrow, RX10, 3, rX10_arrow)
def fX10_arrow (x1 : Int32) (x2 : Int32) (M0 : gMem) : Option (Int32 ⊕ Nat) :=
  (fX10_checkArrow x1 M0).bind fun v1 => gSE v1 (fun u2 => if x2 = (0 : Int32) then ((rI M0 4 60 x1).bind fun v5 => some (.inl v5)) else if x2 = (1 : Int32) then ((rI M0 5 60 x1).bind fun v7 => some (.inl v7)) else if x2 = (2 : Int32) then ((fX2_isInner 1 x1 M0).bind fun v9 => some (.inl (if v9 = 0 then (0 : Int32) else (1 : Int32)))) else if x2 = (3 : Int32) then ((rI M0 5 60 x1).bind fun v12 => (rI M0 9 24 v12).bind fun v13 => (rI M0 4 60 x1).bind fun v14 => (rI M0 9 24 v14).bind fun v15 => some (.inl (v13 - v15))) else some (.inr 1)) (fun x3 => some (.inr x3))
set_option maxRecDepth 20000 in
theorem tX10_arrow {X : gX} {V : gEnv} {x1 : Int32} {x2 : Int32} {M0 : gMem}  {o : (Int32 ⊕ Nat)} (h : fX10_arrow x1 x2 M0 = some o) (O : gOX X V mX10_arrow gShC (some .int) (gOI o) M0) : gG X V mX10_arrow gShC M0 0 0 0 [(0, .ref (gAd V 0)), (1, .int x1), (2, .int x2)] [] := by
  unfold fX10_arrow at h
  refine g_aload_n 0 rfl rfl dX10_arrow_0 ?_
  refine g_iload_n 1 rfl rfl dX10_arrow_1 ?_
  obtain ⟨v1, ev1, h⟩ := g_bnd h
  rcases v1 with u2 | x3
  · have h := g_sl h
    refine g_callVX LX10_240 sC_0 rfl (kX10_checkArrow O.2.2.1 ev1) rfl rfl (Nat.le_of_ble_eq_true rfl) ⟨Nat.le_of_ble_eq_true rfl, Nat.le_of_ble_eq_true rfl⟩ ⟨Nat.le_of_ble_eq_true rfl, Nat.le_of_ble_eq_true rfl⟩ dX10_arrow_2 rfl ?_
    refine g_iload_n 2 rfl rfl dX10_arrow_5 ?_
    rcases g_ite h with ⟨c4, h⟩ | ⟨c4, h⟩
    · refine g_tabIn (off := 30) (tgt := 36) (by rw [c4]; decide) (by rw [c4]; decide) (by rw [c4]; rfl) rfl dX10_arrow_6 ?_
      refine g_aload_n 0 rfl rfl dX10_arrow_36 ?_
      refine g_getR FX10_12 sC_0 rfl dX10_arrow_37 ?_
      refine g_getR FX10_243 sC_1 rfl dX10_arrow_40 ?_
      refine g_iload_n 1 rfl rfl dX10_arrow_43 ?_
      obtain ⟨v5, ev5, h⟩ := g_bnd h
      refine g_iald' ev5 sC_4 dX10_arrow_44 ?_
      cases h
      exact g_iretX O ⟨Nat.le_of_ble_eq_true rfl, Nat.le_of_ble_eq_true rfl⟩ rfl dX10_arrow_45
    ·
      rcases g_ite h with ⟨c6, h⟩ | ⟨c6, h⟩
      · refine g_tabIn (off := 40) (tgt := 46) (by rw [c6]; decide) (by rw [c6]; decide) (by rw [c6]; rfl) rfl dX10_arrow_6 ?_
        refine g_aload_n 0 rfl rfl dX10_arrow_46 ?_
        refine g_getR FX10_12 sC_0 rfl dX10_arrow_47 ?_
        refine g_getR FX10_246 sC_1 rfl dX10_arrow_50 ?_
        refine g_iload_n 1 rfl rfl dX10_arrow_53 ?_
        obtain ⟨v7, ev7, h⟩ := g_bnd h
        refine g_iald' ev7 sC_5 dX10_arrow_54 ?_
        cases h
        exact g_iretX O ⟨Nat.le_of_ble_eq_true rfl, Nat.le_of_ble_eq_true rfl⟩ rfl dX10_arrow_55
      ·
        rcases g_ite h with ⟨c8, h⟩ | ⟨c8, h⟩
        · refine g_tabIn (off := 50) (tgt := 56) (by rw [c8]; decide) (by rw [c8]; decide) (by rw [c8]; rfl) rfl dX10_arrow_6 ?_
          refine g_aload_n 0 rfl rfl dX10_arrow_56 ?_
          refine g_getR FX10_12 sC_0 rfl dX10_arrow_57 ?_
          refine g_iload_n 1 rfl rfl dX10_arrow_60 ?_
          obtain ⟨v9, ev9, h⟩ := g_bnd h
          refine g_callV LX10_249 sC_1 rfl (kX2_isInner nC_1 ev9) rfl rfl (Nat.le_of_ble_eq_true rfl) ⟨Nat.le_of_ble_eq_true rfl, Nat.le_of_ble_eq_true rfl⟩ ⟨Nat.le_of_ble_eq_true rfl, Nat.le_of_ble_eq_true rfl⟩ dX10_arrow_61 rfl ?_
          have KJ : gG X V mX10_arrow gShC M0 1 6 72 [(0, .ref (gAd V 0)), (1, .int x1), (2, .int x2)] [.int (if v9 = 0 then (0 : Int32) else (1 : Int32))] := by
            cases h
            exact g_iretX O ⟨Nat.le_of_ble_eq_true rfl, Nat.le_of_ble_eq_true rfl⟩ rfl dX10_arrow_72
          by_cases c10 : v9 = 0
          · rw [if_pos c10] at KJ
            refine g_if_eq_t c10 (tgt := 71) rfl dX10_arrow_64 ?_
            refine g_iconst (v := 0) rfl dX10_arrow_71 ?_
            exact KJ
          · rw [if_neg c10] at KJ
            refine g_if_eq_f c10 (tgt := 71) rfl dX10_arrow_64 ?_
            refine g_iconst (v := 1) rfl dX10_arrow_67 ?_
            refine g_goto (tgt := 72) rfl dX10_arrow_68 ?_
            exact KJ
        ·
          rcases g_ite h with ⟨c11, h⟩ | ⟨c11, h⟩
          · refine g_tabIn (off := 67) (tgt := 73) (by rw [c11]; decide) (by rw [c11]; decide) (by rw [c11]; rfl) rfl dX10_arrow_6 ?_
            refine g_aload_n 0 rfl rfl dX10_arrow_73 ?_
            refine g_getR FX10_12 sC_0 rfl dX10_arrow_74 ?_
            refine g_getR FX10_180 sC_1 rfl dX10_arrow_77 ?_
            refine g_aload_n 0 rfl rfl dX10_arrow_80 ?_
            refine g_getR FX10_12 sC_0 rfl dX10_arrow_81 ?_
            refine g_getR FX10_246 sC_1 rfl dX10_arrow_84 ?_
            refine g_iload_n 1 rfl rfl dX10_arrow_87 ?_
            obtain ⟨v12, ev12, h⟩ := g_bnd h
            refine g_iald' ev12 sC_5 dX10_arrow_88 ?_
            obtain ⟨v13, ev13, h⟩ := g_bnd h
            refine g_iald' ev13 sC_9 dX10_arrow_89 ?_
            refine g_aload_n 0 rfl rfl dX10_arrow_90 ?_
            refine g_getR FX10_12 sC_0 rfl dX10_arrow_91 ?_
            refine g_getR FX10_180 sC_1 rfl dX10_arrow_94 ?_
            refine g_aload_n 0 rfl rfl dX10_arrow_97 ?_
            refine g_getR FX10_12 sC_0 rfl dX10_arrow_98 ?_
            refine g_getR FX10_243 sC_1 rfl dX10_arrow_101 ?_
            refine g_iload_n 1 rfl rfl dX10_arrow_104 ?_
            obtain ⟨v14, ev14, h⟩ := g_bnd h
            refine g_iald' ev14 sC_4 dX10_arrow_105 ?_
            obtain ⟨v15, ev15, h⟩ := g_bnd h
            refine g_iald' ev15 sC_9 dX10_arrow_106 ?_
            refine g_isub dX10_arrow_107 ?_
            cases h
            exact g_iretX O ⟨Nat.le_of_ble_eq_true rfl, Nat.le_of_ble_eq_true rfl⟩ rfl dX10_arrow_108
          ·
            have nc4 := gne (0 : Int32) (j := 0) rfl c4
            have nc6 := gne (1 : Int32) (j := 1) rfl c6
            have nc8 := gne (2 : Int32) (j := 2) rfl c8
            have nc11 := gne (3 : Int32) (j := 3) rfl c11
            refine g_tabOut (tgt := 109) (by omega) rfl dX10_arrow_6 ?_
            cases h
            exact g_throw O U_1 SX10_253 ⟨Nat.le_of_ble_eq_true rfl, Nat.le_of_ble_eq_true rfl⟩ ⟨Nat.le_of_ble_eq_true rfl, Nat.le_of_ble_eq_true rfl⟩ dX10_arrow_109 dX10_arrow_112 dX10_arrow_113 dX10_arrow_115 dX10_arrow_118
  · have h := g_sr h
    cases h
    exact g_callVT LX10_240 sC_0 rfl O (kX10_checkArrow O.2.2.1 ev1) rfl rfl (Nat.le_of_ble_eq_true rfl) ⟨Nat.le_of_ble_eq_true rfl, Nat.le_of_ble_eq_true rfl⟩ ⟨Nat.le_of_ble_eq_true rfl, Nat.le_of_ble_eq_true rfl⟩ dX10_arrow_2
theorem kX10_arrow {l : Launch} {V : gEnv} {M0 : gMem} {x1 : Int32} {x2 : Int32} (hst : l.stackTraces = false)  {o : (Int32 ⊕ Nat)} (h : fX10_arrow x1 x2 M0 = some o) : gMX l yX10_arrow cX10_arrow 3 (some .int) rX10_arrow V gShC [.ref (gAd V 0), .int x1, .int x2] M0 (gOI o) M0 :=
  gMX.of hst (by decide) (Nat.le_of_ble_eq_true rfl) rfl (fun X _ O => tX10_arrow  h O)
