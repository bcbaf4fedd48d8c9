/-! METHODS, by program: pure functions and contracts -/
theorem dJ6_numberOfTrailingZeros_0f7a4_0 : decode cJ6_numberOfTrailingZeros_0f7a4 0 = .ok (.iload_n 0, 1) := by decide +kernel
theorem dJ6_numberOfTrailingZeros_0f7a4_1 : decode cJ6_numberOfTrailingZeros_0f7a4 1 = .ok (.iconst (-1), 1) := by decide +kernel
theorem dJ6_numberOfTrailingZeros_0f7a4_2 : decode cJ6_numberOfTrailingZeros_0f7a4 2 = .ok (.ixor, 1) := by decide +kernel
theorem dJ6_numberOfTrailingZeros_0f7a4_3 : decode cJ6_numberOfTrailingZeros_0f7a4 3 = .ok (.iload_n 0, 1) := by decide +kernel
theorem dJ6_numberOfTrailingZeros_0f7a4_4 : decode cJ6_numberOfTrailingZeros_0f7a4 4 = .ok (.iconst 1, 1) := by decide +kernel
theorem dJ6_numberOfTrailingZeros_0f7a4_5 : decode cJ6_numberOfTrailingZeros_0f7a4 5 = .ok (.isub, 1) := by decide +kernel
theorem dJ6_numberOfTrailingZeros_0f7a4_6 : decode cJ6_numberOfTrailingZeros_0f7a4 6 = .ok (.iand, 1) := by decide +kernel
theorem dJ6_numberOfTrailingZeros_0f7a4_7 : decode cJ6_numberOfTrailingZeros_0f7a4 7 = .ok (.istore_n 0, 1) := by decide +kernel
theorem dJ6_numberOfTrailingZeros_0f7a4_8 : decode cJ6_numberOfTrailingZeros_0f7a4 8 = .ok (.iload_n 0, 1) := by decide +kernel
theorem dJ6_numberOfTrailingZeros_0f7a4_9 : decode cJ6_numberOfTrailingZeros_0f7a4 9 = .ok (.ifCond .gt 8, 3) := by decide +kernel
theorem dJ6_numberOfTrailingZeros_0f7a4_12 : decode cJ6_numberOfTrailingZeros_0f7a4 12 = .ok (.iload_n 0, 1) := by decide +kernel
theorem dJ6_numberOfTrailingZeros_0f7a4_13 : decode cJ6_numberOfTrailingZeros_0f7a4 13 = .ok (.bipush 32, 2) := by decide +kernel
theorem dJ6_numberOfTrailingZeros_0f7a4_15 : decode cJ6_numberOfTrailingZeros_0f7a4 15 = .ok (.iand, 1) := by decide +kernel
theorem dJ6_numberOfTrailingZeros_0f7a4_16 : decode cJ6_numberOfTrailingZeros_0f7a4 16 = .ok (.ireturn, 1) := by decide +kernel
theorem dJ6_numberOfTrailingZeros_0f7a4_17 : decode cJ6_numberOfTrailingZeros_0f7a4 17 = .ok (.iconst 1, 1) := by decide +kernel
theorem dJ6_numberOfTrailingZeros_0f7a4_18 : decode cJ6_numberOfTrailingZeros_0f7a4 18 = .ok (.istore_n 1, 1) := by decide +kernel
theorem dJ6_numberOfTrailingZeros_0f7a4_19 : decode cJ6_numberOfTrailingZeros_0f7a4 19 = .ok (.iload_n 0, 1) := by decide +kernel
theorem dJ6_numberOfTrailingZeros_0f7a4_20 : decode cJ6_numberOfTrailingZeros_0f7a4 20 = .ok (.ldc_w 264, 3) := by decide +kernel
theorem dJ6_numberOfTrailingZeros_0f7a4_23 : decode cJ6_numberOfTrailingZeros_0f7a4 23 = .ok (.if_icmp .le 11, 3) := by decide +kernel
theorem dJ6_numberOfTrailingZeros_0f7a4_26 : decode cJ6_numberOfTrailingZeros_0f7a4 26 = .ok (.iinc 1 16, 3) := by decide +kernel
theorem dJ6_numberOfTrailingZeros_0f7a4_29 : decode cJ6_numberOfTrailingZeros_0f7a4 29 = .ok (.iload_n 0, 1) := by decide +kernel
theorem dJ6_numberOfTrailingZeros_0f7a4_30 : decode cJ6_numberOfTrailingZeros_0f7a4 30 = .ok (.bipush 16, 2) := by decide +kernel
theorem dJ6_numberOfTrailingZeros_0f7a4_32 : decode cJ6_numberOfTrailingZeros_0f7a4 32 = .ok (.iushr, 1) := by decide +kernel
theorem dJ6_numberOfTrailingZeros_0f7a4_33 : decode cJ6_numberOfTrailingZeros_0f7a4 33 = .ok (.istore_n 0, 1) := by decide +kernel
theorem dJ6_numberOfTrailingZeros_0f7a4_34 : decode cJ6_numberOfTrailingZeros_0f7a4 34 = .ok (.iload_n 0, 1) := by decide +kernel
theorem dJ6_numberOfTrailingZeros_0f7a4_35 : decode cJ6_numberOfTrailingZeros_0f7a4 35 = .ok (.sipush 256, 3) := by decide +kernel
theorem dJ6_numberOfTrailingZeros_0f7a4_38 : decode cJ6_numberOfTrailingZeros_0f7a4 38 = .ok (.if_icmp .le 11, 3) := by decide +kernel
theorem dJ6_numberOfTrailingZeros_0f7a4_41 : decode cJ6_numberOfTrailingZeros_0f7a4 41 = .ok (.iinc 1 8, 3) := by decide +kernel
theorem dJ6_numberOfTrailingZeros_0f7a4_44 : decode cJ6_numberOfTrailingZeros_0f7a4 44 = .ok (.iload_n 0, 1) := by decide +kernel
theorem dJ6_numberOfTrailingZeros_0f7a4_45 : decode cJ6_numberOfTrailingZeros_0f7a4 45 = .ok (.bipush 8, 2) := by decide +kernel
theorem dJ6_numberOfTrailingZeros_0f7a4_47 : decode cJ6_numberOfTrailingZeros_0f7a4 47 = .ok (.iushr, 1) := by decide +kernel
theorem dJ6_numberOfTrailingZeros_0f7a4_48 : decode cJ6_numberOfTrailingZeros_0f7a4 48 = .ok (.istore_n 0, 1) := by decide +kernel
theorem dJ6_numberOfTrailingZeros_0f7a4_49 : decode cJ6_numberOfTrailingZeros_0f7a4 49 = .ok (.iload_n 0, 1) := by decide +kernel
theorem dJ6_numberOfTrailingZeros_0f7a4_50 : decode cJ6_numberOfTrailingZeros_0f7a4 50 = .ok (.bipush 16, 2) := by decide +kernel
theorem dJ6_numberOfTrailingZeros_0f7a4_52 : decode cJ6_numberOfTrailingZeros_0f7a4 52 = .ok (.if_icmp .le 10, 3) := by decide +kernel
theorem dJ6_numberOfTrailingZeros_0f7a4_55 : decode cJ6_numberOfTrailingZeros_0f7a4 55 = .ok (.iinc 1 4, 3) := by decide +kernel
theorem dJ6_numberOfTrailingZeros_0f7a4_58 : decode cJ6_numberOfTrailingZeros_0f7a4 58 = .ok (.iload_n 0, 1) := by decide +kernel
theorem dJ6_numberOfTrailingZeros_0f7a4_59 : decode cJ6_numberOfTrailingZeros_0f7a4 59 = .ok (.iconst 4, 1) := by decide +kernel
theorem dJ6_numberOfTrailingZeros_0f7a4_60 : decode cJ6_numberOfTrailingZeros_0f7a4 60 = .ok (.iushr, 1) := by decide +kernel
theorem dJ6_numberOfTrailingZeros_0f7a4_61 : decode cJ6_numberOfTrailingZeros_0f7a4 61 = .ok (.istore_n 0, 1) := by decide +kernel
theorem dJ6_numberOfTrailingZeros_0f7a4_62 : decode cJ6_numberOfTrailingZeros_0f7a4 62 = .ok (.iload_n 0, 1) := by decide +kernel
theorem dJ6_numberOfTrailingZeros_0f7a4_63 : decode cJ6_numberOfTrailingZeros_0f7a4 63 = .ok (.iconst 4, 1) := by decide +kernel
theorem dJ6_numberOfTrailingZeros_0f7a4_64 : decode cJ6_numberOfTrailingZeros_0f7a4 64 = .ok (.if_icmp .le 10, 3) := by decide +kernel
theorem dJ6_numberOfTrailingZeros_0f7a4_67 : decode cJ6_numberOfTrailingZeros_0f7a4 67 = .ok (.iinc 1 2, 3) := by decide +kernel
theorem dJ6_numberOfTrailingZeros_0f7a4_70 : decode cJ6_numberOfTrailingZeros_0f7a4 70 = .ok (.iload_n 0, 1) := by decide +kernel
theorem dJ6_numberOfTrailingZeros_0f7a4_71 : decode cJ6_numberOfTrailingZeros_0f7a4 71 = .ok (.iconst 2, 1) := by decide +kernel
theorem dJ6_numberOfTrailingZeros_0f7a4_72 : decode cJ6_numberOfTrailingZeros_0f7a4 72 = .ok (.iushr, 1) := by decide +kernel
theorem dJ6_numberOfTrailingZeros_0f7a4_73 : decode cJ6_numberOfTrailingZeros_0f7a4 73 = .ok (.istore_n 0, 1) := by decide +kernel
theorem dJ6_numberOfTrailingZeros_0f7a4_74 : decode cJ6_numberOfTrailingZeros_0f7a4 74 = .ok (.iload_n 1, 1) := by decide +kernel
theorem dJ6_numberOfTrailingZeros_0f7a4_75 : decode cJ6_numberOfTrailingZeros_0f7a4 75 = .ok (.iload_n 0, 1) := by decide +kernel
theorem dJ6_numberOfTrailingZeros_0f7a4_76 : decode cJ6_numberOfTrailingZeros_0f7a4 76 = .ok (.iconst 1, 1) := by decide +kernel
theorem dJ6_numberOfTrailingZeros_0f7a4_77 : decode cJ6_numberOfTrailingZeros_0f7a4 77 = .ok (.iushr, 1) := by decide +kernel
theorem dJ6_numberOfTrailingZeros_0f7a4_78 : decode cJ6_numberOfTrailingZeros_0f7a4 78 = .ok (.iadd, 1) := by decide +kernel
theorem dJ6_numberOfTrailingZeros_0f7a4_79 : decode cJ6_numberOfTrailingZeros_0f7a4 79 = .ok (.ireturn, 1) := by decide +kernel
abbrev rJ6_numberOfTrailingZeros_0f7a4 : Room := { frames := 0, cells := 0, slots := 0, locals := 0 }
abbrev mJ6_numberOfTrailingZeros_0f7a4 : gY := (cJ6_numberOfTrailingZeros_0f7a4, RJ6, 2, rJ6_numberOfTrailingZeros_0f7a4)
def fJ6_numberOfTrailingZeros_0f7a4_b74 (x0 : Int32) (x1 : Int32) : Option Int32 :=
  some (x1 + ((x0.toUInt32 >>> ((1 : Int32).toUInt32 &&& Int32.toUInt32 31)).toInt32))
set_option maxRecDepth 20000 in
theorem tJ6_numberOfTrailingZeros_0f7a4_b74 {X : gX} {V : gEnv} {Sh : List gShp} {M0 : gMem} {x0 : Int32} {x1 : Int32}  {o : Int32} (h : fJ6_numberOfTrailingZeros_0f7a4_b74 x0 x1 = some o) (O : gO X V mJ6_numberOfTrailingZeros_0f7a4 Sh (some .int) (some (.int o)) M0) : gG X V mJ6_numberOfTrailingZeros_0f7a4 Sh M0 0 0 74 [(0, .int x0), (1, .int x1)] [] := by
  unfold fJ6_numberOfTrailingZeros_0f7a4_b74 at h
  refine g_iload_n 1 rfl rfl dJ6_numberOfTrailingZeros_0f7a4_74 ?_
  refine g_iload_n 0 rfl rfl dJ6_numberOfTrailingZeros_0f7a4_75 ?_
  refine g_iconst (v := 1) rfl dJ6_numberOfTrailingZeros_0f7a4_76 ?_
  refine g_iushr dJ6_numberOfTrailingZeros_0f7a4_77 ?_
  refine g_iadd dJ6_numberOfTrailingZeros_0f7a4_78 ?_
  cases h
  exact g_iret O ⟨Nat.le_of_ble_eq_true rfl, Nat.le_of_ble_eq_true rfl⟩ rfl dJ6_numberOfTrailingZeros_0f7a4_79
def fJ6_numberOfTrailingZeros_0f7a4_b62 (x0 : Int32) (x1 : Int32) : Option Int32 :=
  if x0 ≤ (4 : Int32) then (fJ6_numberOfTrailingZeros_0f7a4_b74 x0 x1) else (nm ((x0.toUInt32 >>> ((2 : Int32).toUInt32 &&& Int32.toUInt32 31)).toInt32)).bind fun v7 => fJ6_numberOfTrailingZeros_0f7a4_b74 v7 (x1 + (2 : Int32))
set_option maxRecDepth 20000 in
theorem tJ6_numberOfTrailingZeros_0f7a4_b62 {X : gX} {V : gEnv} {Sh : List gShp} {M0 : gMem} {x0 : Int32} {x1 : Int32}  {o : Int32} (h : fJ6_numberOfTrailingZeros_0f7a4_b62 x0 x1 = some o) (O : gO X V mJ6_numberOfTrailingZeros_0f7a4 Sh (some .int) (some (.int o)) M0) : gG X V mJ6_numberOfTrailingZeros_0f7a4 Sh M0 0 0 62 [(0, .int x0), (1, .int x1)] [] := by
  unfold fJ6_numberOfTrailingZeros_0f7a4_b62 at h
  refine g_iload_n 0 rfl rfl dJ6_numberOfTrailingZeros_0f7a4_62 ?_
  refine g_iconst (v := 4) rfl dJ6_numberOfTrailingZeros_0f7a4_63 ?_
  rcases g_ite h with ⟨c6, h⟩ | ⟨c6, h⟩
  · refine g_icmp_le_t c6 (tgt := 74) rfl dJ6_numberOfTrailingZeros_0f7a4_64 ?_
    exact tJ6_numberOfTrailingZeros_0f7a4_b74  h O
  · refine g_icmp_le_f c6 (tgt := 74) rfl dJ6_numberOfTrailingZeros_0f7a4_64 ?_
    refine g_iinc (j := 1) (v := x1 + (2 : Int32)) (ls' := [(1, .int (x1 + (2 : Int32))), (0, .int x0)]) rfl rfl (Nat.le_of_ble_eq_true rfl) rfl dJ6_numberOfTrailingZeros_0f7a4_67 ?_
    refine g_iload_n 1 rfl rfl dJ6_numberOfTrailingZeros_0f7a4_70 ?_
    refine g_iconst (v := 2) rfl dJ6_numberOfTrailingZeros_0f7a4_71 ?_
    refine g_iushr dJ6_numberOfTrailingZeros_0f7a4_72 ?_
    obtain ⟨v7, ev7, h⟩ := g_bnd h
    refine g_nmI ev7 ?_
    refine g_istore_n (ls' := [(0, .int v7), (1, .int (x1 + (2 : Int32)))]) rfl (Nat.le_of_ble_eq_true rfl) rfl dJ6_numberOfTrailingZeros_0f7a4_73 ?_
    exact tJ6_numberOfTrailingZeros_0f7a4_b74  h O
def fJ6_numberOfTrailingZeros_0f7a4_b49 (x0 : Int32) (x1 : Int32) : Option Int32 :=
  if x0 ≤ (16 : Int32) then (fJ6_numberOfTrailingZeros_0f7a4_b62 x0 x1) else (nm ((x0.toUInt32 >>> ((4 : Int32).toUInt32 &&& Int32.toUInt32 31)).toInt32)).bind fun v8 => fJ6_numberOfTrailingZeros_0f7a4_b62 v8 (x1 + (4 : Int32))
set_option maxRecDepth 20000 in
theorem tJ6_numberOfTrailingZeros_0f7a4_b49 {X : gX} {V : gEnv} {Sh : List gShp} {M0 : gMem} {x0 : Int32} {x1 : Int32}  {o : Int32} (h : fJ6_numberOfTrailingZeros_0f7a4_b49 x0 x1 = some o) (O : gO X V mJ6_numberOfTrailingZeros_0f7a4 Sh (some .int) (some (.int o)) M0) : gG X V mJ6_numberOfTrailingZeros_0f7a4 Sh M0 0 0 49 [(0, .int x0), (1, .int x1)] [] := by
  unfold fJ6_numberOfTrailingZeros_0f7a4_b49 at h
  refine g_iload_n 0 rfl rfl dJ6_numberOfTrailingZeros_0f7a4_49 ?_
  refine g_bipush (v := 16) rfl dJ6_numberOfTrailingZeros_0f7a4_50 ?_
  rcases g_ite h with ⟨c5, h⟩ | ⟨c5, h⟩
  · refine g_icmp_le_t c5 (tgt := 62) rfl dJ6_numberOfTrailingZeros_0f7a4_52 ?_
    exact tJ6_numberOfTrailingZeros_0f7a4_b62  h O
  · refine g_icmp_le_f c5 (tgt := 62) rfl dJ6_numberOfTrailingZeros_0f7a4_52 ?_
    refine g_iinc (j := 1) (v := x1 + (4 : Int32)) (ls' := [(1, .int (x1 + (4 : Int32))), (0, .int x0)]) rfl rfl (Nat.le_of_ble_eq_true rfl) rfl dJ6_numberOfTrailingZeros_0f7a4_55 ?_
    refine g_iload_n 1 rfl rfl dJ6_numberOfTrailingZeros_0f7a4_58 ?_
    refine g_iconst (v := 4) rfl dJ6_numberOfTrailingZeros_0f7a4_59 ?_
    refine g_iushr dJ6_numberOfTrailingZeros_0f7a4_60 ?_
    obtain ⟨v8, ev8, h⟩ := g_bnd h
    refine g_nmI ev8 ?_
    refine g_istore_n (ls' := [(0, .int v8), (1, .int (x1 + (4 : Int32)))]) rfl (Nat.le_of_ble_eq_true rfl) rfl dJ6_numberOfTrailingZeros_0f7a4_61 ?_
    exact tJ6_numberOfTrailingZeros_0f7a4_b62  h O
def fJ6_numberOfTrailingZeros_0f7a4_b34 (x0 : Int32) (x1 : Int32) : Option Int32 :=
  if x0 ≤ (256 : Int32) then (fJ6_numberOfTrailingZeros_0f7a4_b49 x0 x1) else (nm ((x0.toUInt32 >>> ((8 : Int32).toUInt32 &&& Int32.toUInt32 31)).toInt32)).bind fun v9 => fJ6_numberOfTrailingZeros_0f7a4_b49 v9 (x1 + (8 : Int32))
set_option maxRecDepth 20000 in
theorem tJ6_numberOfTrailingZeros_0f7a4_b34 {X : gX} {V : gEnv} {Sh : List gShp} {M0 : gMem} {x0 : Int32} {x1 : Int32}  {o : Int32} (h : fJ6_numberOfTrailingZeros_0f7a4_b34 x0 x1 = some o) (O : gO X V mJ6_numberOfTrailingZeros_0f7a4 Sh (some .int) (some (.int o)) M0) : gG X V mJ6_numberOfTrailingZeros_0f7a4 Sh M0 0 0 34 [(0, .int x0), (1, .int x1)] [] := by
  unfold fJ6_numberOfTrailingZeros_0f7a4_b34 at h
  refine g_iload_n 0 rfl rfl dJ6_numberOfTrailingZeros_0f7a4_34 ?_
  refine g_sipush (v := 256) rfl dJ6_numberOfTrailingZeros_0f7a4_35 ?_
  rcases g_ite h with ⟨c4, h⟩ | ⟨c4, h⟩
  · refine g_icmp_le_t c4 (tgt := 49) rfl dJ6_numberOfTrailingZeros_0f7a4_38 ?_
    exact tJ6_numberOfTrailingZeros_0f7a4_b49  h O
  · refine g_icmp_le_f c4 (tgt := 49) rfl dJ6_numberOfTrailingZeros_0f7a4_38 ?_
    refine g_iinc (j := 1) (v := x1 + (8 : Int32)) (ls' := [(1, .int (x1 + (8 : Int32))), (0, .int x0)]) rfl rfl (Nat.le_of_ble_eq_true rfl) rfl dJ6_numberOfTrailingZeros_0f7a4_41 ?_
    refine g_iload_n 1 rfl rfl dJ6_numberOfTrailingZeros_0f7a4_44 ?_
    refine g_bipush (v := 8) rfl dJ6_numberOfTrailingZeros_0f7a4_45 ?_
    refine g_iushr dJ6_numberOfTrailingZeros_0f7a4_47 ?_
    obtain ⟨v9, ev9, h⟩ := g_bnd h
    refine g_nmI ev9 ?_
    refine g_istore_n (ls' := [(0, .int v9), (1, .int (x1 + (8 : Int32)))]) rfl (Nat.le_of_ble_eq_true rfl) rfl dJ6_numberOfTrailingZeros_0f7a4_48 ?_
    exact tJ6_numberOfTrailingZeros_0f7a4_b49  h O
def fJ6_numberOfTrailingZeros_0f7a4 (x0 : Int32) : Option Int32 :=
  (nm ((x0 ^^^ (-1 : Int32)) &&& (x0 - (1 : Int32)))).bind fun v1 => if 0 < v1 then (if v1 ≤ (65536 : Int32) then (fJ6_numberOfTrailingZeros_0f7a4_b34 v1 (1 : Int32)) else (nm ((v1.toUInt32 >>> ((16 : Int32).toUInt32 &&& Int32.toUInt32 31)).toInt32)).bind fun v10 => fJ6_numberOfTrailingZeros_0f7a4_b34 v10 ((1 : Int32) + (16 : Int32))) else some (v1 &&& (32 : Int32))
set_option maxRecDepth 20000 in
theorem tJ6_numberOfTrailingZeros_0f7a4 {X : gX} {V : gEnv} {Sh : List gShp} {M0 : gMem} {x0 : Int32}  {o : Int32} (h : fJ6_numberOfTrailingZeros_0f7a4 x0 = some o) (O : gO X V mJ6_numberOfTrailingZeros_0f7a4 Sh (some .int) (some (.int o)) M0) : gG X V mJ6_numberOfTrailingZeros_0f7a4 Sh M0 0 0 0 [(0, .int x0)] [] := by
  unfold fJ6_numberOfTrailingZeros_0f7a4 at h
  refine g_iload_n 0 rfl rfl dJ6_numberOfTrailingZeros_0f7a4_0 ?_
  refine g_iconst (v := -1) rfl dJ6_numberOfTrailingZeros_0f7a4_1 ?_
  refine g_ixor dJ6_numberOfTrailingZeros_0f7a4_2 ?_
  refine g_iload_n 0 rfl rfl dJ6_numberOfTrailingZeros_0f7a4_3 ?_
  refine g_iconst (v := 1) rfl dJ6_numberOfTrailingZeros_0f7a4_4 ?_
  refine g_isub dJ6_numberOfTrailingZeros_0f7a4_5 ?_
  refine g_iand dJ6_numberOfTrailingZeros_0f7a4_6 ?_
  obtain ⟨v1, ev1, h⟩ := g_bnd h
  refine g_nmI ev1 ?_
  refine g_istore_n (ls' := [(0, .int v1)]) rfl (Nat.le_of_ble_eq_true rfl) rfl dJ6_numberOfTrailingZeros_0f7a4_7 ?_
  refine g_iload_n 0 rfl rfl dJ6_numberOfTrailingZeros_0f7a4_8 ?_
  rcases g_ite h with ⟨c2, h⟩ | ⟨c2, h⟩
  · refine g_if_gt_t c2 (tgt := 17) rfl dJ6_numberOfTrailingZeros_0f7a4_9 ?_
    refine g_iconst (v := 1) rfl dJ6_numberOfTrailingZeros_0f7a4_17 ?_
    refine g_istore_n (ls' := [(1, .int (1 : Int32)), (0, .int v1)]) rfl (Nat.le_of_ble_eq_true rfl) rfl dJ6_numberOfTrailingZeros_0f7a4_18 ?_
    refine g_iload_n 1 rfl rfl dJ6_numberOfTrailingZeros_0f7a4_19 ?_
    refine g_ldcw KJ6_264 dJ6_numberOfTrailingZeros_0f7a4_20 ?_
    rcases g_ite h with ⟨c3, h⟩ | ⟨c3, h⟩
    · refine g_icmp_le_t c3 (tgt := 34) rfl dJ6_numberOfTrailingZeros_0f7a4_23 ?_
      refine g_sub [1, 0] rfl ?_
      exact tJ6_numberOfTrailingZeros_0f7a4_b34  h O
    · refine g_icmp_le_f c3 (tgt := 34) rfl dJ6_numberOfTrailingZeros_0f7a4_23 ?_
      refine g_iinc (j := 0) (v := (1 : Int32) + (16 : Int32)) (ls' := [(1, .int ((1 : Int32) + (16 : Int32))), (0, .int v1)]) rfl rfl (Nat.le_of_ble_eq_true rfl) rfl dJ6_numberOfTrailingZeros_0f7a4_26 ?_
      refine g_iload_n 1 rfl rfl dJ6_numberOfTrailingZeros_0f7a4_29 ?_
      refine g_bipush (v := 16) rfl dJ6_numberOfTrailingZeros_0f7a4_30 ?_
      refine g_iushr dJ6_numberOfTrailingZeros_0f7a4_32 ?_
      obtain ⟨v10, ev10, h⟩ := g_bnd h
      refine g_nmI ev10 ?_
      refine g_istore_n (ls' := [(0, .int v10), (1, .int ((1 : Int32) + (16 : Int32)))]) rfl (Nat.le_of_ble_eq_true rfl) rfl dJ6_numberOfTrailingZeros_0f7a4_33 ?_
      exact tJ6_numberOfTrailingZeros_0f7a4_b34  h O
  · refine g_if_gt_f c2 (tgt := 17) rfl dJ6_numberOfTrailingZeros_0f7a4_9 ?_
    refine g_iload_n 0 rfl rfl dJ6_numberOfTrailingZeros_0f7a4_12 ?_
    refine g_bipush (v := 32) rfl dJ6_numberOfTrailingZeros_0f7a4_13 ?_
    refine g_iand dJ6_numberOfTrailingZeros_0f7a4_15 ?_
    cases h
    exact g_iret O ⟨Nat.le_of_ble_eq_true rfl, Nat.le_of_ble_eq_true rfl⟩ rfl dJ6_numberOfTrailingZeros_0f7a4_16
theorem kJ6_numberOfTrailingZeros_0f7a4 {l : Launch} {V : gEnv} {Sh : List gShp} {M0 : gMem} {x0 : Int32}  {o : Int32} (h : fJ6_numberOfTrailingZeros_0f7a4 x0 = some o) : gM l yJ6_numberOfTrailingZeros_0f7a4 cJ6_numberOfTrailingZeros_0f7a4 2 (some .int) rJ6_numberOfTrailingZeros_0f7a4 V Sh [.int x0] M0 (some (.int o)) M0 :=
  gM.of (by decide) (Nat.le_of_ble_eq_true rfl) rfl (fun X _ O => tJ6_numberOfTrailingZeros_0f7a4  h O)
theorem dX6_dealOut_0 : decode cX6_dealOut 0 = .ok (.aload_n 0, 1) := by decide +kernel
theorem dX6_dealOut_1 : decode cX6_dealOut 1 = .ok (.getfield 28, 3) := by decide +kernel
theorem dX6_dealOut_4 : decode cX6_dealOut 4 = .ok (.aload_n 0, 1) := by decide +kernel
theorem dX6_dealOut_5 : decode cX6_dealOut 5 = .ok (.getfield 25, 3) := by decide +kernel
theorem dX6_dealOut_8 : decode cX6_dealOut 8 = .ok (.iconst (-1), 1) := by decide +kernel
theorem dX6_dealOut_9 : decode cX6_dealOut 9 = .ok (.ixor, 1) := by decide +kernel
theorem dX6_dealOut_10 : decode cX6_dealOut 10 = .ok (.iand, 1) := by decide +kernel
theorem dX6_dealOut_11 : decode cX6_dealOut 11 = .ok (.istore_n 2, 1) := by decide +kernel
theorem dX6_dealOut_12 : decode cX6_dealOut 12 = .ok (.aload_n 0, 1) := by decide +kernel
theorem dX6_dealOut_13 : decode cX6_dealOut 13 = .ok (.getfield 25, 3) := by decide +kernel
theorem dX6_dealOut_16 : decode cX6_dealOut 16 = .ok (.aload_n 0, 1) := by decide +kernel
theorem dX6_dealOut_17 : decode cX6_dealOut 17 = .ok (.getfield 28, 3) := by decide +kernel
theorem dX6_dealOut_20 : decode cX6_dealOut 20 = .ok (.iconst (-1), 1) := by decide +kernel
theorem dX6_dealOut_21 : decode cX6_dealOut 21 = .ok (.ixor, 1) := by decide +kernel
theorem dX6_dealOut_22 : decode cX6_dealOut 22 = .ok (.iand, 1) := by decide +kernel
theorem dX6_dealOut_23 : decode cX6_dealOut 23 = .ok (.istore_n 3, 1) := by decide +kernel
theorem dX6_dealOut_24 : decode cX6_dealOut 24 = .ok (.aload_n 0, 1) := by decide +kernel
theorem dX6_dealOut_25 : decode cX6_dealOut 25 = .ok (.getfield 28, 3) := by decide +kernel
theorem dX6_dealOut_28 : decode cX6_dealOut 28 = .ok (.aload_n 0, 1) := by decide +kernel
theorem dX6_dealOut_29 : decode cX6_dealOut 29 = .ok (.getfield 25, 3) := by decide +kernel
theorem dX6_dealOut_32 : decode cX6_dealOut 32 = .ok (.ior, 1) := by decide +kernel
theorem dX6_dealOut_33 : decode cX6_dealOut 33 = .ok (.invokestatic 99, 3) := by decide +kernel
theorem dX6_dealOut_36 : decode cX6_dealOut 36 = .ok (.istore 4, 2) := by decide +kernel
theorem dX6_dealOut_38 : decode cX6_dealOut 38 = .ok (.aload_n 0, 1) := by decide +kernel
theorem dX6_dealOut_39 : decode cX6_dealOut 39 = .ok (.getfield 31, 3) := by decide +kernel
theorem dX6_dealOut_42 : decode cX6_dealOut 42 = .ok (.istore 5, 2) := by decide +kernel
theorem dX6_dealOut_44 : decode cX6_dealOut 44 = .ok (.aload_n 0, 1) := by decide +kernel
theorem dX6_dealOut_45 : decode cX6_dealOut 45 = .ok (.getfield 18, 3) := by decide +kernel
theorem dX6_dealOut_48 : decode cX6_dealOut 48 = .ok (.istore 6, 2) := by decide +kernel
theorem dX6_dealOut_50 : decode cX6_dealOut 50 = .ok (.iload 6, 2) := by decide +kernel
theorem dX6_dealOut_52 : decode cX6_dealOut 52 = .ok (.aload_n 0, 1) := by decide +kernel
theorem dX6_dealOut_53 : decode cX6_dealOut 53 = .ok (.getfield 22, 3) := by decide +kernel
theorem dX6_dealOut_56 : decode cX6_dealOut 56 = .ok (.if_icmp .gt 130, 3) := by decide +kernel
theorem dX6_dealOut_59 : decode cX6_dealOut 59 = .ok (.aload_n 0, 1) := by decide +kernel
theorem dX6_dealOut_60 : decode cX6_dealOut 60 = .ok (.getfield 28, 3) := by decide +kernel
theorem dX6_dealOut_63 : decode cX6_dealOut 63 = .ok (.aload_n 0, 1) := by decide +kernel
theorem dX6_dealOut_64 : decode cX6_dealOut 64 = .ok (.getfield 25, 3) := by decide +kernel
theorem dX6_dealOut_67 : decode cX6_dealOut 67 = .ok (.ior, 1) := by decide +kernel
theorem dX6_dealOut_68 : decode cX6_dealOut 68 = .ok (.iload 6, 2) := by decide +kernel
theorem dX6_dealOut_70 : decode cX6_dealOut 70 = .ok (.invokestatic 53, 3) := by decide +kernel
theorem dX6_dealOut_73 : decode cX6_dealOut 73 = .ok (.ifCond .ne 20, 3) := by decide +kernel
theorem dX6_dealOut_76 : decode cX6_dealOut 76 = .ok (.aload_n 0, 1) := by decide +kernel
theorem dX6_dealOut_77 : decode cX6_dealOut 77 = .ok (.getfield 12, 3) := by decide +kernel
theorem dX6_dealOut_80 : decode cX6_dealOut 80 = .ok (.aload_n 1, 1) := by decide +kernel
theorem dX6_dealOut_81 : decode cX6_dealOut 81 = .ok (.getfield 50, 3) := by decide +kernel
theorem dX6_dealOut_84 : decode cX6_dealOut 84 = .ok (.iload 6, 2) := by decide +kernel
theorem dX6_dealOut_86 : decode cX6_dealOut 86 = .ok (.iaload, 1) := by decide +kernel
theorem dX6_dealOut_87 : decode cX6_dealOut 87 = .ok (.invokevirtual 104, 3) := by decide +kernel
theorem dX6_dealOut_90 : decode cX6_dealOut 90 = .ok (.goto 90, 3) := by decide +kernel
theorem dX6_dealOut_93 : decode cX6_dealOut 93 = .ok (.iload_n 2, 1) := by decide +kernel
theorem dX6_dealOut_94 : decode cX6_dealOut 94 = .ok (.ifCond .eq 28, 3) := by decide +kernel
theorem dX6_dealOut_97 : decode cX6_dealOut 97 = .ok (.aload_n 0, 1) := by decide +kernel
theorem dX6_dealOut_98 : decode cX6_dealOut 98 = .ok (.getfield 12, 3) := by decide +kernel
theorem dX6_dealOut_101 : decode cX6_dealOut 101 = .ok (.aload_n 1, 1) := by decide +kernel
theorem dX6_dealOut_102 : decode cX6_dealOut 102 = .ok (.getfield 50, 3) := by decide +kernel
theorem dX6_dealOut_105 : decode cX6_dealOut 105 = .ok (.iload_n 2, 1) := by decide +kernel
theorem dX6_dealOut_106 : decode cX6_dealOut 106 = .ok (.invokestatic 107, 3) := by decide +kernel
theorem dX6_dealOut_109 : decode cX6_dealOut 109 = .ok (.iaload, 1) := by decide +kernel
theorem dX6_dealOut_110 : decode cX6_dealOut 110 = .ok (.invokevirtual 104, 3) := by decide +kernel
theorem dX6_dealOut_113 : decode cX6_dealOut 113 = .ok (.iload_n 2, 1) := by decide +kernel
theorem dX6_dealOut_114 : decode cX6_dealOut 114 = .ok (.iload_n 2, 1) := by decide +kernel
theorem dX6_dealOut_115 : decode cX6_dealOut 115 = .ok (.iconst 1, 1) := by decide +kernel
theorem dX6_dealOut_116 : decode cX6_dealOut 116 = .ok (.isub, 1) := by decide +kernel
theorem dX6_dealOut_117 : decode cX6_dealOut 117 = .ok (.iand, 1) := by decide +kernel
theorem dX6_dealOut_118 : decode cX6_dealOut 118 = .ok (.istore_n 2, 1) := by decide +kernel
theorem dX6_dealOut_119 : decode cX6_dealOut 119 = .ok (.goto 58, 3) := by decide +kernel
theorem dX6_dealOut_122 : decode cX6_dealOut 122 = .ok (.iload 5, 2) := by decide +kernel
theorem dX6_dealOut_124 : decode cX6_dealOut 124 = .ok (.ifCond .eq 18, 3) := by decide +kernel
theorem dX6_dealOut_127 : decode cX6_dealOut 127 = .ok (.aload_n 0, 1) := by decide +kernel
theorem dX6_dealOut_128 : decode cX6_dealOut 128 = .ok (.getfield 12, 3) := by decide +kernel
theorem dX6_dealOut_131 : decode cX6_dealOut 131 = .ok (.iload 5, 2) := by decide +kernel
theorem dX6_dealOut_133 : decode cX6_dealOut 133 = .ok (.invokevirtual 104, 3) := by decide +kernel
theorem dX6_dealOut_136 : decode cX6_dealOut 136 = .ok (.iconst 0, 1) := by decide +kernel
theorem dX6_dealOut_137 : decode cX6_dealOut 137 = .ok (.istore 5, 2) := by decide +kernel
theorem dX6_dealOut_139 : decode cX6_dealOut 139 = .ok (.goto 38, 3) := by decide +kernel
theorem dX6_dealOut_142 : decode cX6_dealOut 142 = .ok (.iload_n 3, 1) := by decide +kernel
theorem dX6_dealOut_143 : decode cX6_dealOut 143 = .ok (.ifCond .eq 34, 3) := by decide +kernel
theorem dX6_dealOut_146 : decode cX6_dealOut 146 = .ok (.iload 4, 2) := by decide +kernel
theorem dX6_dealOut_148 : decode cX6_dealOut 148 = .ok (.iload_n 3, 1) := by decide +kernel
theorem dX6_dealOut_149 : decode cX6_dealOut 149 = .ok (.invokestatic 99, 3) := by decide +kernel
theorem dX6_dealOut_152 : decode cX6_dealOut 152 = .ok (.if_icmp .ne 25, 3) := by decide +kernel
theorem dX6_dealOut_155 : decode cX6_dealOut 155 = .ok (.aload_n 0, 1) := by decide +kernel
theorem dX6_dealOut_156 : decode cX6_dealOut 156 = .ok (.getfield 12, 3) := by decide +kernel
theorem dX6_dealOut_159 : decode cX6_dealOut 159 = .ok (.aload_n 1, 1) := by decide +kernel
theorem dX6_dealOut_160 : decode cX6_dealOut 160 = .ok (.getfield 50, 3) := by decide +kernel
theorem dX6_dealOut_163 : decode cX6_dealOut 163 = .ok (.iload_n 3, 1) := by decide +kernel
theorem dX6_dealOut_164 : decode cX6_dealOut 164 = .ok (.invokestatic 107, 3) := by decide +kernel
theorem dX6_dealOut_167 : decode cX6_dealOut 167 = .ok (.iaload, 1) := by decide +kernel
theorem dX6_dealOut_168 : decode cX6_dealOut 168 = .ok (.invokevirtual 104, 3) := by decide +kernel
theorem dX6_dealOut_171 : decode cX6_dealOut 171 = .ok (.iload_n 3, 1) := by decide +kernel
theorem dX6_dealOut_172 : decode cX6_dealOut 172 = .ok (.iload_n 3, 1) := by decide +kernel
theorem dX6_dealOut_173 : decode cX6_dealOut 173 = .ok (.iconst 1, 1) := by decide +kernel
theorem dX6_dealOut_174 : decode cX6_dealOut 174 = .ok (.isub, 1) := by decide +kernel
theorem dX6_dealOut_175 : decode cX6_dealOut 175 = .ok (.iand, 1) := by decide +kernel
theorem dX6_dealOut_176 : decode cX6_dealOut 176 = .ok (.istore_n 3, 1) := by decide +kernel
theorem dX6_dealOut_177 : decode cX6_dealOut 177 = .ok (.iinc 4 (-1), 3) := by decide +kernel
theorem dX6_dealOut_180 : decode cX6_dealOut 180 = .ok (.iinc 6 1, 3) := by decide +kernel
theorem dX6_dealOut_183 : decode cX6_dealOut 183 = .ok (.goto (-133), 3) := by decide +kernel
theorem dX6_dealOut_186 : decode cX6_dealOut 186 = .ok (.return_, 1) := by decide +kernel
abbrev rX6_dealOut : Room := { frames := 1, cells := 0, slots := 0, locals := 21 }
abbrev mX6_dealOut : gY := (cX6_dealOut, RX6, 7, rX6_dealOut)
def fX6_dealOut_b180 (t1 : Nat) (x2 : Int32) (x3 : Int32) (x4 : Int32) (x5 : Int32) (x6 : Int32) (M0 : gMem) : Option ((Int32 × Int32 × Int32 × Int32 × Int32 × gMem) ⊕ gMem) :=
  some (.inl (x2, x3, x4, x5, x6 + (1 : Int32), M0))
set_option maxRecDepth 20000 in
theorem tX6_dealOut_b180 {X : gX} {V : gEnv} {t1 : Nat} {x2 : Int32} {x3 : Int32} {x4 : Int32} {x5 : Int32} {x6 : Int32} {M0 : gMem} (ht1 : gNet gShC t1) {o : ((Int32 × Int32 × Int32 × Int32 × Int32 × gMem) ⊕ gMem)} (h : fX6_dealOut_b180 t1 x2 x3 x4 x5 x6 M0 = some o) (Kc : ∀ s9, o = .inl s9 → gG X V mX6_dealOut gShC s9.2.2.2.2.2 0 0 50 [(0, .ref (gAd V 41)), (1, .ref (gAd V t1)), (2, .int s9.1), (3, .int s9.2.1), (4, .int s9.2.2.1), (5, .int s9.2.2.2.1), (6, .int s9.2.2.2.2.1)] []) (Kx : ∀ e9, o = .inr e9 → gG X V mX6_dealOut gShC e9 0 0 186 [] []) : gG X V mX6_dealOut gShC M0 0 0 180 [(0, .ref (gAd V 41)), (1, .ref (gAd V t1)), (2, .int x2), (3, .int x3), (4, .int x4), (5, .int x5), (6, .int x6)] [] := by
  unfold fX6_dealOut_b180 at h
  refine g_iinc (j := 6) (v := x6 + (1 : Int32)) (ls' := [(6, .int (x6 + (1 : Int32))), (0, .ref (gAd V 41)), (1, .ref (gAd V t1)), (2, .int x2), (3, .int x3), (4, .int x4), (5, .int x5)]) rfl rfl (Nat.le_of_ble_eq_true rfl) rfl dX6_dealOut_180 ?_
  refine g_goto (tgt := 50) rfl dX6_dealOut_183 ?_
  cases h
  refine g_sub [1, 2, 3, 4, 5, 6, 0] rfl ?_
  exact Kc (x2, x3, x4, x5, x6 + (1 : Int32), M0) rfl
def fX6_dealOut_b177 (t1 : Nat) (x2 : Int32) (x3 : Int32) (x4 : Int32) (x5 : Int32) (x6 : Int32) (M0 : gMem) : Option ((Int32 × Int32 × Int32 × Int32 × Int32 × gMem) ⊕ gMem) :=
  fX6_dealOut_b180 t1 x2 x3 (x4 + (-1 : Int32)) x5 x6 M0
set_option maxRecDepth 20000 in
theorem tX6_dealOut_b177 {X : gX} {V : gEnv} {t1 : Nat} {x2 : Int32} {x3 : Int32} {x4 : Int32} {x5 : Int32} {x6 : Int32} {M0 : gMem} (ht1 : gNet gShC t1) {o : ((Int32 × Int32 × Int32 × Int32 × Int32 × gMem) ⊕ gMem)} (h : fX6_dealOut_b177 t1 x2 x3 x4 x5 x6 M0 = some o) (Kc : ∀ s9, o = .inl s9 → gG X V mX6_dealOut gShC s9.2.2.2.2.2 0 0 50 [(0, .ref (gAd V 41)), (1, .ref (gAd V t1)), (2, .int s9.1), (3, .int s9.2.1), (4, .int s9.2.2.1), (5, .int s9.2.2.2.1), (6, .int s9.2.2.2.2.1)] []) (Kx : ∀ e9, o = .inr e9 → gG X V mX6_dealOut gShC e9 0 0 186 [] []) : gG X V mX6_dealOut gShC M0 0 0 177 [(0, .ref (gAd V 41)), (1, .ref (gAd V t1)), (2, .int x2), (3, .int x3), (4, .int x4), (5, .int x5), (6, .int x6)] [] := by
  unfold fX6_dealOut_b177 at h
  refine g_iinc (j := 4) (v := x4 + (-1 : Int32)) (ls' := [(4, .int (x4 + (-1 : Int32))), (0, .ref (gAd V 41)), (1, .ref (gAd V t1)), (2, .int x2), (3, .int x3), (5, .int x5), (6, .int x6)]) rfl (congrArg (fun z => x4 + z) (by decide)) (Nat.le_of_ble_eq_true rfl) rfl dX6_dealOut_177 ?_
  refine g_sub [1, 2, 3, 4, 0, 5, 6] rfl ?_
  exact tX6_dealOut_b180 ht1 h Kc Kx
def fX6_dealOut_l50 (t1 : Nat) (x2 : Int32) (x3 : Int32) (x4 : Int32) (x5 : Int32) (x6 : Int32) (M0 : gMem) : Option ((Int32 × Int32 × Int32 × Int32 × Int32 × gMem) ⊕ gMem) :=
  if (M0.1 41 2) < x6 then (some (.inr M0)) else (fX10_has ((M0.1 41 4) ||| (M0.1 41 3)) x6).bind fun v7 => if v7 = 0 then ((rI M0 (t1 + 7) 24 x6).bind fun v9 => (fX7_put 42 v9 M0).bind fun v10 => fX6_dealOut_b180 t1 x2 x3 x4 x5 x6 v10) else if x2 = 0 then (if x5 = 0 then (if x3 = 0 then (fX6_dealOut_b177 t1 x2 x3 x4 x5 x6 M0) else (fJ6_bitCount_0f7a4 x3).bind fun v14 => if x4 = v14 then ((fJ6_numberOfTrailingZeros_0f7a4 x3).bind fun v16 => (rI M0 (t1 + 7) 24 v16).bind fun v17 => (fX7_put 42 v17 M0).bind fun v18 => (nm (x3 &&& (x3 - (1 : Int32)))).bind fun v19 => fX6_dealOut_b177 t1 x2 v19 x4 x5 x6 v18) else fX6_dealOut_b177 t1 x2 x3 x4 x5 x6 M0) else (fX7_put 42 x5 M0).bind fun v20 => fX6_dealOut_b177 t1 x2 x3 x4 (0 : Int32) x6 v20) else (fJ6_numberOfTrailingZeros_0f7a4 x2).bind fun v21 => (rI M0 (t1 + 7) 24 v21).bind fun v22 => (fX7_put 42 v22 M0).bind fun v23 => (nm (x2 &&& (x2 - (1 : Int32)))).bind fun v24 => fX6_dealOut_b177 t1 v24 x3 x4 x5 x6 v23
set_option maxRecDepth 20000 in
theorem tX6_dealOut_l50 {X : gX} {V : gEnv} {t1 : Nat} {x2 : Int32} {x3 : Int32} {x4 : Int32} {x5 : Int32} {x6 : Int32} {M0 : gMem} (ht1 : gNet gShC t1) {o : ((Int32 × Int32 × Int32 × Int32 × Int32 × gMem) ⊕ gMem)} (h : fX6_dealOut_l50 t1 x2 x3 x4 x5 x6 M0 = some o) (Kc : ∀ s9, o = .inl s9 → gG X V mX6_dealOut gShC s9.2.2.2.2.2 0 0 50 [(0, .ref (gAd V 41)), (1, .ref (gAd V t1)), (2, .int s9.1), (3, .int s9.2.1), (4, .int s9.2.2.1), (5, .int s9.2.2.2.1), (6, .int s9.2.2.2.2.1)] []) (Kx : ∀ e9, o = .inr e9 → gG X V mX6_dealOut gShC e9 0 0 186 [] []) : gG X V mX6_dealOut gShC M0 0 0 50 [(0, .ref (gAd V 41)), (1, .ref (gAd V t1)), (2, .int x2), (3, .int x3), (4, .int x4), (5, .int x5), (6, .int x6)] [] := by
  unfold fX6_dealOut_l50 at h
  refine g_iload 6 rfl dX6_dealOut_50 ?_
  refine g_aload_n 0 rfl rfl dX6_dealOut_52 ?_
  refine g_getI FX6_22 sC_41 rfl dX6_dealOut_53 ?_
  rcases g_ite h with ⟨c6, h⟩ | ⟨c6, h⟩
  · refine g_icmp_gt_t c6 (tgt := 186) rfl dX6_dealOut_56 ?_
    cases h
    refine g_sub [] rfl ?_
    exact Kx M0 rfl
  · refine g_icmp_gt_f c6 (tgt := 186) rfl dX6_dealOut_56 ?_
    refine g_aload_n 0 rfl rfl dX6_dealOut_59 ?_
    refine g_getI FX6_28 sC_41 rfl dX6_dealOut_60 ?_
    refine g_aload_n 0 rfl rfl dX6_dealOut_63 ?_
    refine g_getI FX6_25 sC_41 rfl dX6_dealOut_64 ?_
    refine g_ior dX6_dealOut_67 ?_
    refine g_iload 6 rfl dX6_dealOut_68 ?_
    obtain ⟨v7, ev7, h⟩ := g_bnd h
    refine g_callN LX6_53 (kX10_has ev7) rfl rfl (Nat.le_of_ble_eq_true rfl) ⟨Nat.le_of_ble_eq_true rfl, Nat.le_of_ble_eq_true rfl⟩ ⟨Nat.le_of_ble_eq_true rfl, Nat.le_of_ble_eq_true rfl⟩ dX6_dealOut_70 rfl ?_
    rcases g_ite h with ⟨c8, h⟩ | ⟨c8, h⟩
    · refine g_if_ne_f c8 (tgt := 93) rfl dX6_dealOut_73 ?_
      refine g_aload_n 0 rfl rfl dX6_dealOut_76 ?_
      refine g_getR FX6_12 sC_41 rfl dX6_dealOut_77 ?_
      refine g_aload_n 1 rfl rfl dX6_dealOut_80 ?_
      refine g_getR FX6_50 ht1.1 rfl dX6_dealOut_81 ?_
      refine g_iload 6 rfl dX6_dealOut_84 ?_
      obtain ⟨v9, ev9, h⟩ := g_bnd h
      refine g_iald' ev9 ht1.2.2.2.2.2.2.2.1 dX6_dealOut_86 ?_
      obtain ⟨v10, ev10, h⟩ := g_bnd h
      refine g_callV LX6_104 sC_42 rfl (kX7_put wC_42 ev10) rfl rfl (Nat.le_of_ble_eq_true rfl) ⟨Nat.le_of_ble_eq_true rfl, Nat.le_of_ble_eq_true rfl⟩ ⟨Nat.le_of_ble_eq_true rfl, Nat.le_of_ble_eq_true rfl⟩ dX6_dealOut_87 rfl ?_
      refine g_goto (tgt := 180) rfl dX6_dealOut_90 ?_
      exact tX6_dealOut_b180 ht1 h Kc Kx
    · refine g_if_ne_t c8 (tgt := 93) rfl dX6_dealOut_73 ?_
      refine g_iload_n 2 rfl rfl dX6_dealOut_93 ?_
      rcases g_ite h with ⟨c11, h⟩ | ⟨c11, h⟩
      · refine g_if_eq_t c11 (tgt := 122) rfl dX6_dealOut_94 ?_
        refine g_iload 5 rfl dX6_dealOut_122 ?_
        rcases g_ite h with ⟨c12, h⟩ | ⟨c12, h⟩
        · refine g_if_eq_t c12 (tgt := 142) rfl dX6_dealOut_124 ?_
          refine g_iload_n 3 rfl rfl dX6_dealOut_142 ?_
          rcases g_ite h with ⟨c13, h⟩ | ⟨c13, h⟩
          · refine g_if_eq_t c13 (tgt := 177) rfl dX6_dealOut_143 ?_
            exact tX6_dealOut_b177 ht1 h Kc Kx
          · refine g_if_eq_f c13 (tgt := 177) rfl dX6_dealOut_143 ?_
            refine g_iload 4 rfl dX6_dealOut_146 ?_
            refine g_iload_n 3 rfl rfl dX6_dealOut_148 ?_
            obtain ⟨v14, ev14, h⟩ := g_bnd h
            refine g_callS LX6_99 (kJ6_bitCount_0f7a4 ev14) rfl rfl (Nat.le_of_ble_eq_true rfl) ⟨Nat.le_of_ble_eq_true rfl, Nat.le_of_ble_eq_true rfl⟩ ⟨Nat.le_of_ble_eq_true rfl, Nat.le_of_ble_eq_true rfl⟩ dX6_dealOut_149 rfl ?_
            rcases g_ite h with ⟨c15, h⟩ | ⟨c15, h⟩
            · refine g_icmp_ne_f c15 (tgt := 177) rfl dX6_dealOut_152 ?_
              refine g_aload_n 0 rfl rfl dX6_dealOut_155 ?_
              refine g_getR FX6_12 sC_41 rfl dX6_dealOut_156 ?_
              refine g_aload_n 1 rfl rfl dX6_dealOut_159 ?_
              refine g_getR FX6_50 ht1.1 rfl dX6_dealOut_160 ?_
              refine g_iload_n 3 rfl rfl dX6_dealOut_163 ?_
              obtain ⟨v16, ev16, h⟩ := g_bnd h
              refine g_callS LX6_107 (kJ6_numberOfTrailingZeros_0f7a4 ev16) rfl rfl (Nat.le_of_ble_eq_true rfl) ⟨Nat.le_of_ble_eq_true rfl, Nat.le_of_ble_eq_true rfl⟩ ⟨Nat.le_of_ble_eq_true rfl, Nat.le_of_ble_eq_true rfl⟩ dX6_dealOut_164 rfl ?_
              obtain ⟨v17, ev17, h⟩ := g_bnd h
              refine g_iald' ev17 ht1.2.2.2.2.2.2.2.1 dX6_dealOut_167 ?_
              obtain ⟨v18, ev18, h⟩ := g_bnd h
              refine g_callV LX6_104 sC_42 rfl (kX7_put wC_42 ev18) rfl rfl (Nat.le_of_ble_eq_true rfl) ⟨Nat.le_of_ble_eq_true rfl, Nat.le_of_ble_eq_true rfl⟩ ⟨Nat.le_of_ble_eq_true rfl, Nat.le_of_ble_eq_true rfl⟩ dX6_dealOut_168 rfl ?_
              refine g_iload_n 3 rfl rfl dX6_dealOut_171 ?_
              refine g_iload_n 3 rfl rfl dX6_dealOut_172 ?_
              refine g_iconst (v := 1) rfl dX6_dealOut_173 ?_
              refine g_isub dX6_dealOut_174 ?_
              refine g_iand dX6_dealOut_175 ?_
              obtain ⟨v19, ev19, h⟩ := g_bnd h
              refine g_nmI ev19 ?_
              refine g_istore_n (ls' := [(3, .int v19), (0, .ref (gAd V 41)), (1, .ref (gAd V t1)), (2, .int x2), (4, .int x4), (5, .int x5), (6, .int x6)]) rfl (Nat.le_of_ble_eq_true rfl) rfl dX6_dealOut_176 ?_
              refine g_sub [1, 2, 3, 0, 4, 5, 6] rfl ?_
              exact tX6_dealOut_b177 ht1 h Kc Kx
            · refine g_icmp_ne_t c15 (tgt := 177) rfl dX6_dealOut_152 ?_
              exact tX6_dealOut_b177 ht1 h Kc Kx
        · refine g_if_eq_f c12 (tgt := 142) rfl dX6_dealOut_124 ?_
          refine g_aload_n 0 rfl rfl dX6_dealOut_127 ?_
          refine g_getR FX6_12 sC_41 rfl dX6_dealOut_128 ?_
          refine g_iload 5 rfl dX6_dealOut_131 ?_
          obtain ⟨v20, ev20, h⟩ := g_bnd h
          refine g_callV LX6_104 sC_42 rfl (kX7_put wC_42 ev20) rfl rfl (Nat.le_of_ble_eq_true rfl) ⟨Nat.le_of_ble_eq_true rfl, Nat.le_of_ble_eq_true rfl⟩ ⟨Nat.le_of_ble_eq_true rfl, Nat.le_of_ble_eq_true rfl⟩ dX6_dealOut_133 rfl ?_
          refine g_iconst (v := 0) rfl dX6_dealOut_136 ?_
          refine g_istore (ls' := [(5, .int (0 : Int32)), (0, .ref (gAd V 41)), (1, .ref (gAd V t1)), (2, .int x2), (3, .int x3), (4, .int x4), (6, .int x6)]) (Nat.le_of_ble_eq_true rfl) rfl dX6_dealOut_137 ?_
          refine g_goto (tgt := 177) rfl dX6_dealOut_139 ?_
          refine g_sub [1, 2, 3, 4, 5, 0, 6] rfl ?_
          exact tX6_dealOut_b177 ht1 h Kc Kx
      · refine g_if_eq_f c11 (tgt := 122) rfl dX6_dealOut_94 ?_
        refine g_aload_n 0 rfl rfl dX6_dealOut_97 ?_
        refine g_getR FX6_12 sC_41 rfl dX6_dealOut_98 ?_
        refine g_aload_n 1 rfl rfl dX6_dealOut_101 ?_
        refine g_getR FX6_50 ht1.1 rfl dX6_dealOut_102 ?_
        refine g_iload_n 2 rfl rfl dX6_dealOut_105 ?_
        obtain ⟨v21, ev21, h⟩ := g_bnd h
        refine g_callS LX6_107 (kJ6_numberOfTrailingZeros_0f7a4 ev21) rfl rfl (Nat.le_of_ble_eq_true rfl) ⟨Nat.le_of_ble_eq_true rfl, Nat.le_of_ble_eq_true rfl⟩ ⟨Nat.le_of_ble_eq_true rfl, Nat.le_of_ble_eq_true rfl⟩ dX6_dealOut_106 rfl ?_
        obtain ⟨v22, ev22, h⟩ := g_bnd h
        refine g_iald' ev22 ht1.2.2.2.2.2.2.2.1 dX6_dealOut_109 ?_
        obtain ⟨v23, ev23, h⟩ := g_bnd h
        refine g_callV LX6_104 sC_42 rfl (kX7_put wC_42 ev23) rfl rfl (Nat.le_of_ble_eq_true rfl) ⟨Nat.le_of_ble_eq_true rfl, Nat.le_of_ble_eq_true rfl⟩ ⟨Nat.le_of_ble_eq_true rfl, Nat.le_of_ble_eq_true rfl⟩ dX6_dealOut_110 rfl ?_
        refine g_iload_n 2 rfl rfl dX6_dealOut_113 ?_
        refine g_iload_n 2 rfl rfl dX6_dealOut_114 ?_
        refine g_iconst (v := 1) rfl dX6_dealOut_115 ?_
        refine g_isub dX6_dealOut_116 ?_
        refine g_iand dX6_dealOut_117 ?_
        obtain ⟨v24, ev24, h⟩ := g_bnd h
        refine g_nmI ev24 ?_
        refine g_istore_n (ls' := [(2, .int v24), (0, .ref (gAd V 41)), (1, .ref (gAd V t1)), (3, .int x3), (4, .int x4), (5, .int x5), (6, .int x6)]) rfl (Nat.le_of_ble_eq_true rfl) rfl dX6_dealOut_118 ?_
        refine g_goto (tgt := 177) rfl dX6_dealOut_119 ?_
        refine g_sub [1, 2, 0, 3, 4, 5, 6] rfl ?_
        exact tX6_dealOut_b177 ht1 h Kc Kx
def fX6_dealOut (t1 : Nat) (M0 : gMem) : Option gMem :=
  (nm ((M0.1 41 4) &&& ((M0.1 41 3) ^^^ (-1 : Int32)))).bind fun v1 => (nm ((M0.1 41 3) &&& ((M0.1 41 4) ^^^ (-1 : Int32)))).bind fun v2 => (fJ6_bitCount_0f7a4 ((M0.1 41 4) ||| (M0.1 41 3))).bind fun v3 => (nm (M0.1 41 5)).bind fun v4 => (nm (M0.1 41 1)).bind fun v5 => (gLoop (fun z9 => fX6_dealOut_l50 t1 z9.1 z9.2.1 z9.2.2.1 z9.2.2.2.1 z9.2.2.2.2.1 z9.2.2.2.2.2) gFu (v1, v2, v3, v4, v5, M0)).bind fun w25 => some w25
set_option maxRecDepth 20000 in
theorem tX6_dealOut {X : gX} {V : gEnv} {t1 : Nat} {M0 : gMem} (ht1 : gNet gShC t1) {o : gMem} (h : fX6_dealOut t1 M0 = some o) (O : gO X V mX6_dealOut gShC none none o) : gG X V mX6_dealOut gShC M0 0 0 0 [(0, .ref (gAd V 41)), (1, .ref (gAd V t1))] [] := by
  unfold fX6_dealOut at h
  refine g_aload_n 0 rfl rfl dX6_dealOut_0 ?_
  refine g_getI FX6_28 sC_41 rfl dX6_dealOut_1 ?_
  refine g_aload_n 0 rfl rfl dX6_dealOut_4 ?_
  refine g_getI FX6_25 sC_41 rfl dX6_dealOut_5 ?_
  refine g_iconst (v := -1) rfl dX6_dealOut_8 ?_
  refine g_ixor dX6_dealOut_9 ?_
  refine g_iand dX6_dealOut_10 ?_
  obtain ⟨v1, ev1, h⟩ := g_bnd h
  refine g_nmI ev1 ?_
  refine g_istore_n (ls' := [(2, .int v1), (0, .ref (gAd V 41)), (1, .ref (gAd V t1))]) rfl (Nat.le_of_ble_eq_true rfl) rfl dX6_dealOut_11 ?_
  refine g_aload_n 1 rfl rfl dX6_dealOut_12 ?_
  refine g_getI FX6_25 sC_41 rfl dX6_dealOut_13 ?_
  refine g_aload_n 1 rfl rfl dX6_dealOut_16 ?_
  refine g_getI FX6_28 sC_41 rfl dX6_dealOut_17 ?_
  refine g_iconst (v := -1) rfl dX6_dealOut_20 ?_
  refine g_ixor dX6_dealOut_21 ?_
  refine g_iand dX6_dealOut_22 ?_
  obtain ⟨v2, ev2, h⟩ := g_bnd h
  refine g_nmI ev2 ?_
  refine g_istore_n (ls' := [(3, .int v2), (2, .int v1), (0, .ref (gAd V 41)), (1, .ref (gAd V t1))]) rfl (Nat.le_of_ble_eq_true rfl) rfl dX6_dealOut_23 ?_
  refine g_aload_n 2 rfl rfl dX6_dealOut_24 ?_
  refine g_getI FX6_28 sC_41 rfl dX6_dealOut_25 ?_
  refine g_aload_n 2 rfl rfl dX6_dealOut_28 ?_
  refine g_getI FX6_25 sC_41 rfl dX6_dealOut_29 ?_
  refine g_ior dX6_dealOut_32 ?_
  obtain ⟨v3, ev3, h⟩ := g_bnd h
  refine g_callS LX6_99 (kJ6_bitCount_0f7a4 ev3) rfl rfl (Nat.le_of_ble_eq_true rfl) ⟨Nat.le_of_ble_eq_true rfl, Nat.le_of_ble_eq_true rfl⟩ ⟨Nat.le_of_ble_eq_true rfl, Nat.le_of_ble_eq_true rfl⟩ dX6_dealOut_33 rfl ?_
  refine g_istore (ls' := [(4, .int v3), (3, .int v2), (2, .int v1), (0, .ref (gAd V 41)), (1, .ref (gAd V t1))]) (Nat.le_of_ble_eq_true rfl) rfl dX6_dealOut_36 ?_
  refine g_aload_n 3 rfl rfl dX6_dealOut_38 ?_
  refine g_getI FX6_31 sC_41 rfl dX6_dealOut_39 ?_
  obtain ⟨v4, ev4, h⟩ := g_bnd h
  refine g_nmI ev4 ?_
  refine g_istore (ls' := [(5, .int v4), (4, .int v3), (3, .int v2), (2, .int v1), (0, .ref (gAd V 41)), (1, .ref (gAd V t1))]) (Nat.le_of_ble_eq_true rfl) rfl dX6_dealOut_42 ?_
  refine g_aload_n 4 rfl rfl dX6_dealOut_44 ?_
  refine g_getI FX6_18 sC_41 rfl dX6_dealOut_45 ?_
  obtain ⟨v5, ev5, h⟩ := g_bnd h
  refine g_nmI ev5 ?_
  refine g_istore (ls' := [(6, .int v5), (5, .int v4), (4, .int v3), (3, .int v2), (2, .int v1), (0, .ref (gAd V 41)), (1, .ref (gAd V t1))]) (Nat.le_of_ble_eq_true rfl) rfl dX6_dealOut_48 ?_
  obtain ⟨w25, ew25, h⟩ := g_bnd h
  refine g_sub [5, 6, 4, 3, 2, 1, 0] rfl ?_
  have KX : gG X V mX6_dealOut gShC w25 0 0 186 [] [] := by
    cases h
    exact g_vret O ⟨Nat.le_of_ble_eq_true rfl, Nat.le_of_ble_eq_true rfl⟩ dX6_dealOut_186
  exact gLoop_Q ew25 (fun z9 => gG X V mX6_dealOut gShC z9.2.2.2.2.2 0 0 50 [(0, .ref (gAd V 41)), (1, .ref (gAd V t1)), (2, .int z9.1), (3, .int z9.2.1), (4, .int z9.2.2.1), (5, .int z9.2.2.2.1), (6, .int z9.2.2.2.2.1)] []) (fun s9 o9 hb9 hc9 hx9 => tX6_dealOut_l50 ht1 hb9 hc9 (fun e9 he9 => by cases hx9 _ he9; exact KX))
theorem kX6_dealOut {l : Launch} {V : gEnv} {M0 : gMem} {t1 : Nat} (ht1 : gNet gShC t1) {o : gMem} (h : fX6_dealOut t1 M0 = some o) : gM l yX6_dealOut cX6_dealOut 7 none rX6_dealOut V gShC [.ref (gAd V 41), .ref (gAd V t1)] M0 none o :=
  gM.of (by decide) (Nat.le_of_ble_eq_true rfl) rfl (fun X _ O => tX6_dealOut ht1 h O)
theorem dX6_putThose_0 : decode cX6_putThose 0 = .ok (.aload_n 0, 1) := by decide +kernel
theorem dX6_putThose_1 : decode cX6_putThose 1 = .ok (.getfield 18, 3) := by decide +kernel
theorem dX6_putThose_4 : decode cX6_putThose 4 = .ok (.istore_n 3, 1) := by decide +kernel
theorem dX6_putThose_5 : decode cX6_putThose 5 = .ok (.iload_n 3, 1) := by decide +kernel
theorem dX6_putThose_6 : decode cX6_putThose 6 = .ok (.aload_n 0, 1) := by decide +kernel
theorem dX6_putThose_7 : decode cX6_putThose 7 = .ok (.getfield 22, 3) := by decide +kernel
theorem dX6_putThose_10 : decode cX6_putThose 10 = .ok (.if_icmp .gt 30, 3) := by decide +kernel
theorem dX6_putThose_13 : decode cX6_putThose 13 = .ok (.iload_n 2, 1) := by decide +kernel
theorem dX6_putThose_14 : decode cX6_putThose 14 = .ok (.iload_n 3, 1) := by decide +kernel
theorem dX6_putThose_15 : decode cX6_putThose 15 = .ok (.invokestatic 53, 3) := by decide +kernel
theorem dX6_putThose_18 : decode cX6_putThose 18 = .ok (.ifCond .eq 16, 3) := by decide +kernel
theorem dX6_putThose_21 : decode cX6_putThose 21 = .ok (.aload_n 0, 1) := by decide +kernel
theorem dX6_putThose_22 : decode cX6_putThose 22 = .ok (.getfield 12, 3) := by decide +kernel
theorem dX6_putThose_25 : decode cX6_putThose 25 = .ok (.aload_n 1, 1) := by decide +kernel
theorem dX6_putThose_26 : decode cX6_putThose 26 = .ok (.getfield 50, 3) := by decide +kernel
theorem dX6_putThose_29 : decode cX6_putThose 29 = .ok (.iload_n 3, 1) := by decide +kernel
theorem dX6_putThose_30 : decode cX6_putThose 30 = .ok (.iaload, 1) := by decide +kernel
theorem dX6_putThose_31 : decode cX6_putThose 31 = .ok (.invokevirtual 104, 3) := by decide +kernel
theorem dX6_putThose_34 : decode cX6_putThose 34 = .ok (.iinc 3 1, 3) := by decide +kernel
theorem dX6_putThose_37 : decode cX6_putThose 37 = .ok (.goto (-32), 3) := by decide +kernel
theorem dX6_putThose_40 : decode cX6_putThose 40 = .ok (.return_, 1) := by decide +kernel
abbrev rX6_putThose : Room := { frames := 1, cells := 0, slots := 0, locals := 21 }
abbrev mX6_putThose : gY := (cX6_putThose, RX6, 4, rX6_putThose)
def fX6_putThose_b34 (t1 : Nat) (x2 : Int32) (x3 : Int32) (M0 : gMem) : Option ((Int32 × gMem) ⊕ gMem) :=
  some (.inl (x3 + (1 : Int32), M0))
set_option maxRecDepth 20000 in
theorem tX6_putThose_b34 {X : gX} {V : gEnv} {t1 : Nat} {x2 : Int32} {x3 : Int32} {M0 : gMem} (ht1 : gNet gShC t1) {o : ((Int32 × gMem) ⊕ gMem)} (h : fX6_putThose_b34 t1 x2 x3 M0 = some o) (Kc : ∀ s9, o = .inl s9 → gG X V mX6_putThose gShC s9.2 0 0 5 [(0, .ref (gAd V 41)), (1, .ref (gAd V t1)), (2, .int x2), (3, .int s9.1)] []) (Kx : ∀ e9, o = .inr e9 → gG X V mX6_putThose gShC e9 0 0 40 [] []) : gG X V mX6_putThose gShC M0 0 0 34 [(0, .ref (gAd V 41)), (1, .ref (gAd V t1)), (2, .int x2), (3, .int x3)] [] := by
  unfold fX6_putThose_b34 at h
  refine g_iinc (j := 3) (v := x3 + (1 : Int32)) (ls' := [(3, .int (x3 + (1 : Int32))), (0, .ref (gAd V 41)), (1, .ref (gAd V t1)), (2, .int x2)]) rfl rfl (Nat.le_of_ble_eq_true rfl) rfl dX6_putThose_34 ?_
  refine g_goto (tgt := 5) rfl dX6_putThose_37 ?_
  cases h
  refine g_sub [1, 2, 3, 0] rfl ?_
  exact Kc (x3 + (1 : Int32), M0) rfl
def fX6_putThose_l5 (t1 : Nat) (x2 : Int32) (x3 : Int32) (M0 : gMem) : Option ((Int32 × gMem) ⊕ gMem) :=
  if (M0.1 41 2) < x3 then (some (.inr M0)) else (fX10_has x2 x3).bind fun v3 => if v3 = 0 then (fX6_putThose_b34 t1 x2 x3 M0) else (rI M0 (t1 + 7) 24 x3).bind fun v5 => (fX7_put 42 v5 M0).bind fun v6 => fX6_putThose_b34 t1 x2 x3 v6
set_option maxRecDepth 20000 in
theorem tX6_putThose_l5 {X : gX} {V : gEnv} {t1 : Nat} {x2 : Int32} {x3 : Int32} {M0 : gMem} (ht1 : gNet gShC t1) {o : ((Int32 × gMem) ⊕ gMem)} (h : fX6_putThose_l5 t1 x2 x3 M0 = some o) (Kc : ∀ s9, o = .inl s9 → gG X V mX6_putThose gShC s9.2 0 0 5 [(0, .ref (gAd V 41)), (1, .ref (gAd V t1)), (2, .int x2), (3, .int s9.1)] []) (Kx : ∀ e9, o = .inr e9 → gG X V mX6_putThose gShC e9 0 0 40 [] []) : gG X V mX6_putThose gShC M0 0 0 5 [(0, .ref (gAd V 41)), (1, .ref (gAd V t1)), (2, .int x2), (3, .int x3)] [] := by
  unfold fX6_putThose_l5 at h
  refine g_iload_n 3 rfl rfl dX6_putThose_5 ?_
  refine g_aload_n 0 rfl rfl dX6_putThose_6 ?_
  refine g_getI FX6_22 sC_41 rfl dX6_putThose_7 ?_
  rcases g_ite h with ⟨c2, h⟩ | ⟨c2, h⟩
  · refine g_icmp_gt_t c2 (tgt := 40) rfl dX6_putThose_10 ?_
    cases h
    refine g_sub [] rfl ?_
    exact Kx M0 rfl
  · refine g_icmp_gt_f c2 (tgt := 40) rfl dX6_putThose_10 ?_
    refine g_iload_n 2 rfl rfl dX6_putThose_13 ?_
    refine g_iload_n 3 rfl rfl dX6_putThose_14 ?_
    obtain ⟨v3, ev3, h⟩ := g_bnd h
    refine g_callN LX6_53 (kX10_has ev3) rfl rfl (Nat.le_of_ble_eq_true rfl) ⟨Nat.le_of_ble_eq_true rfl, Nat.le_of_ble_eq_true rfl⟩ ⟨Nat.le_of_ble_eq_true rfl, Nat.le_of_ble_eq_true rfl⟩ dX6_putThose_15 rfl ?_
    rcases g_ite h with ⟨c4, h⟩ | ⟨c4, h⟩
    · refine g_if_eq_t c4 (tgt := 34) rfl dX6_putThose_18 ?_
      exact tX6_putThose_b34 ht1 h Kc Kx
    · refine g_if_eq_f c4 (tgt := 34) rfl dX6_putThose_18 ?_
      refine g_aload_n 0 rfl rfl dX6_putThose_21 ?_
      refine g_getR FX6_12 sC_41 rfl dX6_putThose_22 ?_
      refine g_aload_n 1 rfl rfl dX6_putThose_25 ?_
      refine g_getR FX6_50 ht1.1 rfl dX6_putThose_26 ?_
      refine g_iload_n 3 rfl rfl dX6_putThose_29 ?_
      obtain ⟨v5, ev5, h⟩ := g_bnd h
      refine g_iald' ev5 ht1.2.2.2.2.2.2.2.1 dX6_putThose_30 ?_
      obtain ⟨v6, ev6, h⟩ := g_bnd h
      refine g_callV LX6_104 sC_42 rfl (kX7_put wC_42 ev6) rfl rfl (Nat.le_of_ble_eq_true rfl) ⟨Nat.le_of_ble_eq_true rfl, Nat.le_of_ble_eq_true rfl⟩ ⟨Nat.le_of_ble_eq_true rfl, Nat.le_of_ble_eq_true rfl⟩ dX6_putThose_31 rfl ?_
      exact tX6_putThose_b34 ht1 h Kc Kx
def fX6_putThose (t1 : Nat) (x2 : Int32) (M0 : gMem) : Option gMem :=
  (nm (M0.1 41 1)).bind fun v1 => (gLoop (fun z9 => fX6_putThose_l5 t1 x2 z9.1 z9.2) gFu (v1, M0)).bind fun w7 => some w7
set_option maxRecDepth 20000 in
theorem tX6_putThose {X : gX} {V : gEnv} {t1 : Nat} {x2 : Int32} {M0 : gMem} (ht1 : gNet gShC t1) {o : gMem} (h : fX6_putThose t1 x2 M0 = some o) (O : gO X V mX6_putThose gShC none none o) : gG X V mX6_putThose gShC M0 0 0 0 [(0, .ref (gAd V 41)), (1, .ref (gAd V t1)), (2, .int x2)] [] := by
  unfold fX6_putThose at h
  refine g_aload_n 0 rfl rfl dX6_putThose_0 ?_
  refine g_getI FX6_18 sC_41 rfl dX6_putThose_1 ?_
  obtain ⟨v1, ev1, h⟩ := g_bnd h
  refine g_nmI ev1 ?_
  refine g_istore_n (ls' := [(3, .int v1), (0, .ref (gAd V 41)), (1, .ref (gAd V t1)), (2, .int x2)]) rfl (Nat.le_of_ble_eq_true rfl) rfl dX6_putThose_4 ?_
  obtain ⟨w7, ew7, h⟩ := g_bnd h
  refine g_sub [1, 2, 3, 0] rfl ?_
  have KX : gG X V mX6_putThose gShC w7 0 0 40 [] [] := by
    cases h
    exact g_vret O ⟨Nat.le_of_ble_eq_true rfl, Nat.le_of_ble_eq_true rfl⟩ dX6_putThose_40
  exact gLoop_Q ew7 (fun z9 => gG X V mX6_putThose gShC z9.2 0 0 5 [(0, .ref (gAd V 41)), (1, .ref (gAd V t1)), (2, .int x2), (3, .int z9.1)] []) (fun s9 o9 hb9 hc9 hx9 => tX6_putThose_l5 ht1 hb9 hc9 (fun e9 he9 => by cases hx9 _ he9; exact KX))
theorem kX6_putThose {l : Launch} {V : gEnv} {M0 : gMem} {t1 : Nat} {x2 : Int32} (ht1 : gNet gShC t1) {o : gMem} (h : fX6_putThose t1 x2 M0 = some o) : gM l yX6_putThose cX6_putThose 4 none rX6_putThose V gShC [.ref (gAd V 41), .ref (gAd V t1), .int x2] M0 none o :=
  gM.of (by decide) (Nat.le_of_ble_eq_true rfl) rfl (fun X _ O => tX6_putThose ht1 h O)
theorem dX7_putSome_0 : decode cX7_putSome 0 = .ok (.iload_n 1, 1) := by decide +kernel
theorem dX7_putSome_1 : decode cX7_putSome 1 = .ok (.ifCond .eq 8, 3) := by decide +kernel
theorem dX7_putSome_4 : decode cX7_putSome 4 = .ok (.aload_n 0, 1) := by decide +kernel
theorem dX7_putSome_5 : decode cX7_putSome 5 = .ok (.iload_n 1, 1) := by decide +kernel
theorem dX7_putSome_6 : decode cX7_putSome 6 = .ok (.invokevirtual 19, 3) := by decide +kernel
theorem dX7_putSome_9 : decode cX7_putSome 9 = .ok (.return_, 1) := by decide +kernel
abbrev rX7_putSome : Room := { frames := 1, cells := 0, slots := 0, locals := 21 }
abbrev mX7_putSome : gY := (cX7_putSome, RX7, 2, rX7_putSome)
def fX7_putSome (t0 : Nat) (x1 : Int32) (M0 : gMem) : Option gMem :=
  if x1 = 0 then (some M0) else (fX7_put t0 x1 M0).bind fun v2 => some v2
set_option maxRecDepth 20000 in
theorem tX7_putSome {X : gX} {V : gEnv} {t0 : Nat} {x1 : Int32} {M0 : gMem} (ht0 : gRow gShC t0) {o : gMem} (h : fX7_putSome t0 x1 M0 = some o) (O : gO X V mX7_putSome gShC none none o) : gG X V mX7_putSome gShC M0 0 0 0 [(0, .ref (gAd V t0)), (1, .int x1)] [] := by
  unfold fX7_putSome at h
  refine g_iload_n 1 rfl rfl dX7_putSome_0 ?_
  rcases g_ite h with ⟨c1, h⟩ | ⟨c1, h⟩
  · refine g_if_eq_t c1 (tgt := 9) rfl dX7_putSome_1 ?_
    cases h
    exact g_vret O ⟨Nat.le_of_ble_eq_true rfl, Nat.le_of_ble_eq_true rfl⟩ dX7_putSome_9
  · refine g_if_eq_f c1 (tgt := 9) rfl dX7_putSome_1 ?_
    refine g_aload_n 0 rfl rfl dX7_putSome_4 ?_
    refine g_iload_n 1 rfl rfl dX7_putSome_5 ?_
    obtain ⟨v2, ev2, h⟩ := g_bnd h
    refine g_callV LX7_19 ht0.1 rfl (kX7_put ht0 ev2) rfl rfl (Nat.le_of_ble_eq_true rfl) ⟨Nat.le_of_ble_eq_true rfl, Nat.le_of_ble_eq_true rfl⟩ ⟨Nat.le_of_ble_eq_true rfl, Nat.le_of_ble_eq_true rfl⟩ dX7_putSome_6 rfl ?_
    cases h
    exact g_vret O ⟨Nat.le_of_ble_eq_true rfl, Nat.le_of_ble_eq_true rfl⟩ dX7_putSome_9
theorem kX7_putSome {l : Launch} {V : gEnv} {M0 : gMem} {t0 : Nat} {x1 : Int32} (ht0 : gRow gShC t0) {o : gMem} (h : fX7_putSome t0 x1 M0 = some o) : gM l yX7_putSome cX7_putSome 2 none rX7_putSome V gShC [.ref (gAd V t0), .int x1] M0 none o :=
  gM.of (by decide) (Nat.le_of_ble_eq_true rfl) rfl (fun X _ O => tX7_putSome ht0 h O)
theorem dX6_countMoved_0 : decode cX6_countMoved 0 = .ok (.iconst 0, 1) := by decide +kernel
theorem dX6_countMoved_1 : decode cX6_countMoved 1 = .ok (.istore_n 3, 1) := by decide +kernel
theorem dX6_countMoved_2 : decode cX6_countMoved 2 = .ok (.aload_n 0, 1) := by decide +kernel
theorem dX6_countMoved_3 : decode cX6_countMoved 3 = .ok (.getfield 18, 3) := by decide +kernel
theorem dX6_countMoved_6 : decode cX6_countMoved 6 = .ok (.istore 4, 2) := by decide +kernel
theorem dX6_countMoved_8 : decode cX6_countMoved 8 = .ok (.iload 4, 2) := by decide +kernel
theorem dX6_countMoved_10 : decode cX6_countMoved 10 = .ok (.iload_n 2, 1) := by decide +kernel
theorem dX6_countMoved_11 : decode cX6_countMoved 11 = .ok (.if_icmp .ge 32, 3) := by decide +kernel
theorem dX6_countMoved_14 : decode cX6_countMoved 14 = .ok (.aload_n 0, 1) := by decide +kernel
theorem dX6_countMoved_15 : decode cX6_countMoved 15 = .ok (.getfield 12, 3) := by decide +kernel
theorem dX6_countMoved_18 : decode cX6_countMoved 18 = .ok (.getfield 110, 3) := by decide +kernel
theorem dX6_countMoved_21 : decode cX6_countMoved 21 = .ok (.iload 4, 2) := by decide +kernel
theorem dX6_countMoved_23 : decode cX6_countMoved 23 = .ok (.iaload, 1) := by decide +kernel
theorem dX6_countMoved_24 : decode cX6_countMoved 24 = .ok (.aload_n 1, 1) := by decide +kernel
theorem dX6_countMoved_25 : decode cX6_countMoved 25 = .ok (.getfield 50, 3) := by decide +kernel
theorem dX6_countMoved_28 : decode cX6_countMoved 28 = .ok (.iload 4, 2) := by decide +kernel
theorem dX6_countMoved_30 : decode cX6_countMoved 30 = .ok (.iaload, 1) := by decide +kernel
theorem dX6_countMoved_31 : decode cX6_countMoved 31 = .ok (.if_icmp .eq 6, 3) := by decide +kernel
theorem dX6_countMoved_34 : decode cX6_countMoved 34 = .ok (.iinc 3 1, 3) := by decide +kernel
theorem dX6_countMoved_37 : decode cX6_countMoved 37 = .ok (.iinc 4 1, 3) := by decide +kernel
theorem dX6_countMoved_40 : decode cX6_countMoved 40 = .ok (.goto (-32), 3) := by decide +kernel
theorem dX6_countMoved_43 : decode cX6_countMoved 43 = .ok (.iload_n 3, 1) := by decide +kernel
theorem dX6_countMoved_44 : decode cX6_countMoved 44 = .ok (.ireturn, 1) := by decide +kernel
abbrev rX6_countMoved : Room := { frames := 0, cells := 0, slots := 0, locals := 0 }
abbrev mX6_countMoved : gY := (cX6_countMoved, RX6, 5, rX6_countMoved)
def fX6_countMoved_b37 (t1 : Nat) (x2 : Int32) (x3 : Int32) (x4 : Int32) (M0 : gMem) : Option ((Int32 × Int32) ⊕ Int32) :=
  some (.inl (x3, x4 + (1 : Int32)))
set_option maxRecDepth 20000 in
theorem tX6_countMoved_b37 {X : gX} {V : gEnv} {t1 : Nat} {x2 : Int32} {x3 : Int32} {x4 : Int32} {M0 : gMem} (ht1 : gNet gShC t1) {o : ((Int32 × Int32) ⊕ Int32)} (h : fX6_countMoved_b37 t1 x2 x3 x4 M0 = some o) (Kc : ∀ s9, o = .inl s9 → gG X V mX6_countMoved gShC M0 0 0 8 [(0, .ref (gAd V 41)), (1, .ref (gAd V t1)), (2, .int x2), (3, .int s9.1), (4, .int s9.2)] []) (Kx : ∀ e9, o = .inr e9 → gG X V mX6_countMoved gShC M0 0 0 43 [(3, .int e9)] []) : gG X V mX6_countMoved gShC M0 0 0 37 [(0, .ref (gAd V 41)), (1, .ref (gAd V t1)), (2, .int x2), (3, .int x3), (4, .int x4)] [] := by
  unfold fX6_countMoved_b37 at h
  refine g_iinc (j := 4) (v := x4 + (1 : Int32)) (ls' := [(4, .int (x4 + (1 : Int32))), (0, .ref (gAd V 41)), (1, .ref (gAd V t1)), (2, .int x2), (3, .int x3)]) rfl rfl (Nat.le_of_ble_eq_true rfl) rfl dX6_countMoved_37 ?_
  refine g_goto (tgt := 8) rfl dX6_countMoved_40 ?_
  cases h
  refine g_sub [1, 2, 3, 4, 0] rfl ?_
  exact Kc (x3, x4 + (1 : Int32)) rfl
def fX6_countMoved_l8 (t1 : Nat) (x2 : Int32) (M0 : gMem) (x3 : Int32) (x4 : Int32) : Option ((Int32 × Int32) ⊕ Int32) :=
  if x2 ≤ x4 then (some (.inr x3)) else (rI M0 43 24 x4).bind fun v3 => (rI M0 (t1 + 7) 24 x4).bind fun v4 => if v3 = v4 then (fX6_countMoved_b37 t1 x2 x3 x4 M0) else fX6_countMoved_b37 t1 x2 (x3 + (1 : Int32)) x4 M0
set_option maxRecDepth 20000 in
theorem tX6_countMoved_l8 {X : gX} {V : gEnv} {t1 : Nat} {x2 : Int32} {M0 : gMem} {x3 : Int32} {x4 : Int32} (ht1 : gNet gShC t1) {o : ((Int32 × Int32) ⊕ Int32)} (h : fX6_countMoved_l8 t1 x2 M0 x3 x4 = some o) (Kc : ∀ s9, o = .inl s9 → gG X V mX6_countMoved gShC M0 0 0 8 [(0, .ref (gAd V 41)), (1, .ref (gAd V t1)), (2, .int x2), (3, .int s9.1), (4, .int s9.2)] []) (Kx : ∀ e9, o = .inr e9 → gG X V mX6_countMoved gShC M0 0 0 43 [(3, .int e9)] []) : gG X V mX6_countMoved gShC M0 0 0 8 [(0, .ref (gAd V 41)), (1, .ref (gAd V t1)), (2, .int x2), (3, .int x3), (4, .int x4)] [] := by
  unfold fX6_countMoved_l8 at h
  refine g_iload 4 rfl dX6_countMoved_8 ?_
  refine g_iload_n 2 rfl rfl dX6_countMoved_10 ?_
  rcases g_ite h with ⟨c2, h⟩ | ⟨c2, h⟩
  · refine g_icmp_ge_t c2 (tgt := 43) rfl dX6_countMoved_11 ?_
    cases h
    refine g_sub [3] rfl ?_
    exact Kx x3 rfl
  · refine g_icmp_ge_f c2 (tgt := 43) rfl dX6_countMoved_11 ?_
    refine g_aload_n 0 rfl rfl dX6_countMoved_14 ?_
    refine g_getR FX6_12 sC_41 rfl dX6_countMoved_15 ?_
    refine g_getR FX6_110 sC_42 rfl dX6_countMoved_18 ?_
    refine g_iload 4 rfl dX6_countMoved_21 ?_
    obtain ⟨v3, ev3, h⟩ := g_bnd h
    refine g_iald' ev3 sC_43 dX6_countMoved_23 ?_
    refine g_aload_n 1 rfl rfl dX6_countMoved_24 ?_
    refine g_getR FX6_50 ht1.1 rfl dX6_countMoved_25 ?_
    refine g_iload 4 rfl dX6_countMoved_28 ?_
    obtain ⟨v4, ev4, h⟩ := g_bnd h
    refine g_iald' ev4 ht1.2.2.2.2.2.2.2.1 dX6_countMoved_30 ?_
    rcases g_ite h with ⟨c5, h⟩ | ⟨c5, h⟩
    · refine g_icmp_eq_t c5 (tgt := 37) rfl dX6_countMoved_31 ?_
      exact tX6_countMoved_b37 ht1 h Kc Kx
    · refine g_icmp_eq_f c5 (tgt := 37) rfl dX6_countMoved_31 ?_
      refine g_iinc (j := 3) (v := x3 + (1 : Int32)) (ls' := [(3, .int (x3 + (1 : Int32))), (0, .ref (gAd V 41)), (1, .ref (gAd V t1)), (2, .int x2), (4, .int x4)]) rfl rfl (Nat.le_of_ble_eq_true rfl) rfl dX6_countMoved_34 ?_
      refine g_sub [1, 2, 3, 0, 4] rfl ?_
      exact tX6_countMoved_b37 ht1 h Kc Kx
def fX6_countMoved (t1 : Nat) (x2 : Int32) (M0 : gMem) : Option Int32 :=
  (nm (M0.1 41 1)).bind fun v1 => (gLoop (fun z9 => fX6_countMoved_l8 t1 x2 M0 z9.1 z9.2) gFu ((0 : Int32), v1)).bind fun w6 => some w6
set_option maxRecDepth 20000 in
theorem tX6_countMoved {X : gX} {V : gEnv} {t1 : Nat} {x2 : Int32} {M0 : gMem} (ht1 : gNet gShC t1) {o : Int32} (h : fX6_countMoved t1 x2 M0 = some o) (O : gO X V mX6_countMoved gShC (some .int) (some (.int o)) M0) : gG X V mX6_countMoved gShC M0 0 0 0 [(0, .ref (gAd V 41)), (1, .ref (gAd V t1)), (2, .int x2)] [] := by
  unfold fX6_countMoved at h
  refine g_iconst (v := 0) rfl dX6_countMoved_0 ?_
  refine g_istore_n (ls' := [(3, .int (0 : Int32)), (0, .ref (gAd V 41)), (1, .ref (gAd V t1)), (2, .int x2)]) rfl (Nat.le_of_ble_eq_true rfl) rfl dX6_countMoved_1 ?_
  refine g_aload_n 1 rfl rfl dX6_countMoved_2 ?_
  refine g_getI FX6_18 sC_41 rfl dX6_countMoved_3 ?_
  obtain ⟨v1, ev1, h⟩ := g_bnd h
  refine g_nmI ev1 ?_
  refine g_istore (ls' := [(4, .int v1), (3, .int (0 : Int32)), (0, .ref (gAd V 41)), (1, .ref (gAd V t1)), (2, .int x2)]) (Nat.le_of_ble_eq_true rfl) rfl dX6_countMoved_6 ?_
  obtain ⟨w6, ew6, h⟩ := g_bnd h
  refine g_sub [2, 3, 4, 1, 0] rfl ?_
  have KX : gG X V mX6_countMoved gShC M0 0 0 43 [(3, .int w6)] [] := by
    refine g_iload_n 0 rfl rfl dX6_countMoved_43 ?_
    cases h
    exact g_iret O ⟨Nat.le_of_ble_eq_true rfl, Nat.le_of_ble_eq_true rfl⟩ rfl dX6_countMoved_44
  exact gLoop_Q ew6 (fun z9 => gG X V mX6_countMoved gShC M0 0 0 8 [(0, .ref (gAd V 41)), (1, .ref (gAd V t1)), (2, .int x2), (3, .int z9.1), (4, .int z9.2)] []) (fun s9 o9 hb9 hc9 hx9 => tX6_countMoved_l8 ht1 hb9 hc9 (fun e9 he9 => by cases hx9 _ he9; exact KX))
theorem kX6_countMoved {l : Launch} {V : gEnv} {M0 : gMem} {t1 : Nat} {x2 : Int32} (ht1 : gNet gShC t1) {o : Int32} (h : fX6_countMoved t1 x2 M0 = some o) : gM l yX6_countMoved cX6_countMoved 5 (some .int) rX6_countMoved V gShC [.ref (gAd V 41), .ref (gAd V t1), .int x2] M0 (some (.int o)) M0 :=
  gM.of (by decide) (Nat.le_of_ble_eq_true rfl) rfl (fun X _ O => tX6_countMoved ht1 h O)
theorem dX6_arrange_0 : decode cX6_arrange 0 = .ok (.aload_n 0, 1) := by decide +kernel
theorem dX6_arrange_1 : decode cX6_arrange 1 = .ok (.getfield 12, 3) := by decide +kernel
theorem dX6_arrange_4 : decode cX6_arrange 4 = .ok (.iconst 0, 1) := by decide +kernel
theorem dX6_arrange_5 : decode cX6_arrange 5 = .ok (.putfield 74, 3) := by decide +kernel
theorem dX6_arrange_8 : decode cX6_arrange 8 = .ok (.aload_n 0, 1) := by decide +kernel
theorem dX6_arrange_9 : decode cX6_arrange 9 = .ok (.getfield 12, 3) := by decide +kernel
theorem dX6_arrange_12 : decode cX6_arrange 12 = .ok (.aload_n 1, 1) := by decide +kernel
theorem dX6_arrange_13 : decode cX6_arrange 13 = .ok (.iconst 0, 1) := by decide +kernel
theorem dX6_arrange_14 : decode cX6_arrange 14 = .ok (.aload_n 0, 1) := by decide +kernel
theorem dX6_arrange_15 : decode cX6_arrange 15 = .ok (.getfield 18, 3) := by decide +kernel
theorem dX6_arrange_18 : decode cX6_arrange 18 = .ok (.invokevirtual 77, 3) := by decide +kernel
theorem dX6_arrange_21 : decode cX6_arrange 21 = .ok (.iload_n 2, 1) := by decide +kernel
theorem dX6_arrange_22 : decode cX6_arrange 22 = .ok (.ifCond .ne 11, 3) := by decide +kernel
theorem dX6_arrange_25 : decode cX6_arrange 25 = .ok (.aload_n 0, 1) := by decide +kernel
theorem dX6_arrange_26 : decode cX6_arrange 26 = .ok (.aload_n 1, 1) := by decide +kernel
theorem dX6_arrange_27 : decode cX6_arrange 27 = .ok (.invokevirtual 81, 3) := by decide +kernel
theorem dX6_arrange_30 : decode cX6_arrange 30 = .ok (.goto 87, 3) := by decide +kernel
theorem dX6_arrange_33 : decode cX6_arrange 33 = .ok (.iload_n 2, 1) := by decide +kernel
theorem dX6_arrange_34 : decode cX6_arrange 34 = .ok (.iconst 1, 1) := by decide +kernel
theorem dX6_arrange_35 : decode cX6_arrange 35 = .ok (.if_icmp .ne 44, 3) := by decide +kernel
theorem dX6_arrange_38 : decode cX6_arrange 38 = .ok (.aload_n 0, 1) := by decide +kernel
theorem dX6_arrange_39 : decode cX6_arrange 39 = .ok (.aload_n 1, 1) := by decide +kernel
theorem dX6_arrange_40 : decode cX6_arrange 40 = .ok (.aload_n 0, 1) := by decide +kernel
theorem dX6_arrange_41 : decode cX6_arrange 41 = .ok (.getfield 25, 3) := by decide +kernel
theorem dX6_arrange_44 : decode cX6_arrange 44 = .ok (.iconst (-1), 1) := by decide +kernel
theorem dX6_arrange_45 : decode cX6_arrange 45 = .ok (.ixor, 1) := by decide +kernel
theorem dX6_arrange_46 : decode cX6_arrange 46 = .ok (.invokevirtual 84, 3) := by decide +kernel
theorem dX6_arrange_49 : decode cX6_arrange 49 = .ok (.aload_n 0, 1) := by decide +kernel
theorem dX6_arrange_50 : decode cX6_arrange 50 = .ok (.getfield 12, 3) := by decide +kernel
theorem dX6_arrange_53 : decode cX6_arrange 53 = .ok (.aload_n 0, 1) := by decide +kernel
theorem dX6_arrange_54 : decode cX6_arrange 54 = .ok (.getfield 31, 3) := by decide +kernel
theorem dX6_arrange_57 : decode cX6_arrange 57 = .ok (.invokevirtual 88, 3) := by decide +kernel
theorem dX6_arrange_60 : decode cX6_arrange 60 = .ok (.aload_n 0, 1) := by decide +kernel
theorem dX6_arrange_61 : decode cX6_arrange 61 = .ok (.aload_n 1, 1) := by decide +kernel
theorem dX6_arrange_62 : decode cX6_arrange 62 = .ok (.aload_n 0, 1) := by decide +kernel
theorem dX6_arrange_63 : decode cX6_arrange 63 = .ok (.getfield 25, 3) := by decide +kernel
theorem dX6_arrange_66 : decode cX6_arrange 66 = .ok (.aload_n 0, 1) := by decide +kernel
theorem dX6_arrange_67 : decode cX6_arrange 67 = .ok (.getfield 28, 3) := by decide +kernel
theorem dX6_arrange_70 : decode cX6_arrange 70 = .ok (.iconst (-1), 1) := by decide +kernel
theorem dX6_arrange_71 : decode cX6_arrange 71 = .ok (.ixor, 1) := by decide +kernel
theorem dX6_arrange_72 : decode cX6_arrange 72 = .ok (.iand, 1) := by decide +kernel
theorem dX6_arrange_73 : decode cX6_arrange 73 = .ok (.invokevirtual 84, 3) := by decide +kernel
theorem dX6_arrange_76 : decode cX6_arrange 76 = .ok (.goto 41, 3) := by decide +kernel
theorem dX6_arrange_79 : decode cX6_arrange 79 = .ok (.aload_n 0, 1) := by decide +kernel
theorem dX6_arrange_80 : decode cX6_arrange 80 = .ok (.aload_n 1, 1) := by decide +kernel
theorem dX6_arrange_81 : decode cX6_arrange 81 = .ok (.aload_n 0, 1) := by decide +kernel
theorem dX6_arrange_82 : decode cX6_arrange 82 = .ok (.getfield 28, 3) := by decide +kernel
theorem dX6_arrange_85 : decode cX6_arrange 85 = .ok (.aload_n 0, 1) := by decide +kernel
theorem dX6_arrange_86 : decode cX6_arrange 86 = .ok (.getfield 25, 3) := by decide +kernel
theorem dX6_arrange_89 : decode cX6_arrange 89 = .ok (.iconst (-1), 1) := by decide +kernel
theorem dX6_arrange_90 : decode cX6_arrange 90 = .ok (.ixor, 1) := by decide +kernel
theorem dX6_arrange_91 : decode cX6_arrange 91 = .ok (.iand, 1) := by decide +kernel
theorem dX6_arrange_92 : decode cX6_arrange 92 = .ok (.invokevirtual 84, 3) := by decide +kernel
theorem dX6_arrange_95 : decode cX6_arrange 95 = .ok (.aload_n 0, 1) := by decide +kernel
theorem dX6_arrange_96 : decode cX6_arrange 96 = .ok (.getfield 12, 3) := by decide +kernel
theorem dX6_arrange_99 : decode cX6_arrange 99 = .ok (.aload_n 0, 1) := by decide +kernel
theorem dX6_arrange_100 : decode cX6_arrange 100 = .ok (.getfield 31, 3) := by decide +kernel
theorem dX6_arrange_103 : decode cX6_arrange 103 = .ok (.invokevirtual 88, 3) := by decide +kernel
theorem dX6_arrange_106 : decode cX6_arrange 106 = .ok (.aload_n 0, 1) := by decide +kernel
theorem dX6_arrange_107 : decode cX6_arrange 107 = .ok (.aload_n 1, 1) := by decide +kernel
theorem dX6_arrange_108 : decode cX6_arrange 108 = .ok (.aload_n 0, 1) := by decide +kernel
theorem dX6_arrange_109 : decode cX6_arrange 109 = .ok (.getfield 28, 3) := by decide +kernel
theorem dX6_arrange_112 : decode cX6_arrange 112 = .ok (.iconst (-1), 1) := by decide +kernel
theorem dX6_arrange_113 : decode cX6_arrange 113 = .ok (.ixor, 1) := by decide +kernel
theorem dX6_arrange_114 : decode cX6_arrange 114 = .ok (.invokevirtual 84, 3) := by decide +kernel
theorem dX6_arrange_117 : decode cX6_arrange 117 = .ok (.aload_n 0, 1) := by decide +kernel
theorem dX6_arrange_118 : decode cX6_arrange 118 = .ok (.getfield 12, 3) := by decide +kernel
theorem dX6_arrange_121 : decode cX6_arrange 121 = .ok (.getfield 74, 3) := by decide +kernel
theorem dX6_arrange_124 : decode cX6_arrange 124 = .ok (.istore_n 3, 1) := by decide +kernel
theorem dX6_arrange_125 : decode cX6_arrange 125 = .ok (.aload_n 0, 1) := by decide +kernel
theorem dX6_arrange_126 : decode cX6_arrange 126 = .ok (.getfield 12, 3) := by decide +kernel
theorem dX6_arrange_129 : decode cX6_arrange 129 = .ok (.aload_n 1, 1) := by decide +kernel
theorem dX6_arrange_130 : decode cX6_arrange 130 = .ok (.aload_n 0, 1) := by decide +kernel
theorem dX6_arrange_131 : decode cX6_arrange 131 = .ok (.getfield 22, 3) := by decide +kernel
theorem dX6_arrange_134 : decode cX6_arrange 134 = .ok (.iconst 1, 1) := by decide +kernel
theorem dX6_arrange_135 : decode cX6_arrange 135 = .ok (.iadd, 1) := by decide +kernel
theorem dX6_arrange_136 : decode cX6_arrange 136 = .ok (.aload_n 1, 1) := by decide +kernel
theorem dX6_arrange_137 : decode cX6_arrange 137 = .ok (.getfield 92, 3) := by decide +kernel
theorem dX6_arrange_140 : decode cX6_arrange 140 = .ok (.invokevirtual 77, 3) := by decide +kernel
theorem dX6_arrange_143 : decode cX6_arrange 143 = .ok (.aload_n 0, 1) := by decide +kernel
theorem dX6_arrange_144 : decode cX6_arrange 144 = .ok (.aload_n 1, 1) := by decide +kernel
theorem dX6_arrange_145 : decode cX6_arrange 145 = .ok (.iload_n 3, 1) := by decide +kernel
theorem dX6_arrange_146 : decode cX6_arrange 146 = .ok (.invokevirtual 95, 3) := by decide +kernel
theorem dX6_arrange_149 : decode cX6_arrange 149 = .ok (.ireturn, 1) := by decide +kernel
abbrev rX6_arrange : Room := { frames := 2, cells := 0, slots := 0, locals := 47 }
abbrev mX6_arrange : gY := (cX6_arrange, RX6, 4, rX6_arrange)
def fX6_arrange_b117 (t1 : Nat) (M0 : gMem) : Option (Int32 × gMem) :=
  (nm (M0.1 42 1)).bind fun v5 => (fX7_putPlaces 42 t1 ((M0.1 41 2) + (1 : Int32)) (M0.1 t1 11) M0).bind fun v6 => (fX6_countMoved t1 v5 v6).bind fun v7 => some (v7, v6)
set_option maxRecDepth 20000 in
theorem tX6_arrange_b117 {X : gX} {V : gEnv} {t1 : Nat} {M0 : gMem} (ht1 : gNet gShC t1) {o : (Int32 × gMem)} (h : fX6_arrange_b117 t1 M0 = some o) (O : gO X V mX6_arrange gShC (some .int) (some (.int o.1)) o.2) : gG X V mX6_arrange gShC M0 0 0 117 [(0, .ref (gAd V 41)), (1, .ref (gAd V t1))] [] := by
  unfold fX6_arrange_b117 at h
  refine g_aload_n 0 rfl rfl dX6_arrange_117 ?_
  refine g_getR FX6_12 sC_41 rfl dX6_arrange_118 ?_
  refine g_getI FX6_74 sC_42 rfl dX6_arrange_121 ?_
  obtain ⟨v5, ev5, h⟩ := g_bnd h
  refine g_nmI ev5 ?_
  refine g_istore_n (ls' := [(3, .int v5), (0, .ref (gAd V 41)), (1, .ref (gAd V t1))]) rfl (Nat.le_of_ble_eq_true rfl) rfl dX6_arrange_124 ?_
  refine g_aload_n 1 rfl rfl dX6_arrange_125 ?_
  refine g_getR FX6_12 sC_41 rfl dX6_arrange_126 ?_
  refine g_aload_n 2 rfl rfl dX6_arrange_129 ?_
  refine g_aload_n 1 rfl rfl dX6_arrange_130 ?_
  refine g_getI FX6_22 sC_41 rfl dX6_arrange_131 ?_
  refine g_iconst (v := 1) rfl dX6_arrange_134 ?_
  refine g_iadd dX6_arrange_135 ?_
  refine g_aload_n 2 rfl rfl dX6_arrange_136 ?_
  refine g_getI FX6_92 ht1.1 rfl dX6_arrange_137 ?_
  obtain ⟨v6, ev6, h⟩ := g_bnd h
  refine g_callV LX6_77 sC_42 rfl (kX7_putPlaces wC_42 ht1 ev6) rfl rfl (Nat.le_of_ble_eq_true rfl) ⟨Nat.le_of_ble_eq_true rfl, Nat.le_of_ble_eq_true rfl⟩ ⟨Nat.le_of_ble_eq_true rfl, Nat.le_of_ble_eq_true rfl⟩ dX6_arrange_140 rfl ?_
  refine g_aload_n 1 rfl rfl dX6_arrange_143 ?_
  refine g_aload_n 2 rfl rfl dX6_arrange_144 ?_
  refine g_iload_n 0 rfl rfl dX6_arrange_145 ?_
  obtain ⟨v7, ev7, h⟩ := g_bnd h
  refine g_callV LX6_95 sC_41 rfl (kX6_countMoved ht1 ev7) rfl rfl (Nat.le_of_ble_eq_true rfl) ⟨Nat.le_of_ble_eq_true rfl, Nat.le_of_ble_eq_true rfl⟩ ⟨Nat.le_of_ble_eq_true rfl, Nat.le_of_ble_eq_true rfl⟩ dX6_arrange_146 rfl ?_
  cases h
  exact g_iret O ⟨Nat.le_of_ble_eq_true rfl, Nat.le_of_ble_eq_true rfl⟩ rfl dX6_arrange_149
def fX6_arrange (t1 : Nat) (x2 : Int32) (M0 : gMem) : Option (Int32 × gMem) :=
  (wF M0 42 1 (0 : Int32)).bind fun M1 => (fX7_putPlaces 42 t1 (0 : Int32) (M1.1 41 1) M1).bind fun v2 => if x2 = 0 then ((fX6_dealOut t1 v2).bind fun v4 => fX6_arrange_b117 t1 v4) else if x2 = (1 : Int32) then ((fX6_putThose t1 ((v2.1 41 3) ^^^ (-1 : Int32)) v2).bind fun v9 => (fX7_putSome 42 (v9.1 41 5) v9).bind fun v10 => (fX6_putThose t1 ((v10.1 41 3) &&& ((v10.1 41 4) ^^^ (-1 : Int32))) v10).bind fun v11 => fX6_arrange_b117 t1 v11) else (fX6_putThose t1 ((v2.1 41 4) &&& ((v2.1 41 3) ^^^ (-1 : Int32))) v2).bind fun v12 => (fX7_putSome 42 (v12.1 41 5) v12).bind fun v13 => (fX6_putThose t1 ((v13.1 41 4) ^^^ (-1 : Int32)) v13).bind fun v14 => fX6_arrange_b117 t1 v14
set_option maxRecDepth 20000 in
theorem tX6_arrange {X : gX} {V : gEnv} {t1 : Nat} {x2 : Int32} {M0 : gMem} (ht1 : gNet gShC t1) {o : (Int32 × gMem)} (h : fX6_arrange t1 x2 M0 = some o) (O : gO X V mX6_arrange gShC (some .int) (some (.int o.1)) o.2) : gG X V mX6_arrange gShC M0 0 0 0 [(0, .ref (gAd V 41)), (1, .ref (gAd V t1)), (2, .int x2)] [] := by
  unfold fX6_arrange at h
  refine g_aload_n 0 rfl rfl dX6_arrange_0 ?_
  refine g_getR FX6_12 sC_41 rfl dX6_arrange_1 ?_
  refine g_iconst (v := 0) rfl dX6_arrange_4 ?_
  obtain ⟨M1, eM1, h⟩ := g_bnd h
  refine g_putI' eM1 FX6_74 jX7 sC_42 rfl rfl rfl dX6_arrange_5 ?_
  refine g_aload_n 0 rfl rfl dX6_arrange_8 ?_
  refine g_getR FX6_12 sC_41 rfl dX6_arrange_9 ?_
  refine g_aload_n 1 rfl rfl dX6_arrange_12 ?_
  refine g_iconst (v := 0) rfl dX6_arrange_13 ?_
  refine g_aload_n 0 rfl rfl dX6_arrange_14 ?_
  refine g_getI FX6_18 sC_41 rfl dX6_arrange_15 ?_
  obtain ⟨v2, ev2, h⟩ := g_bnd h
  refine g_callV LX6_77 sC_42 rfl (kX7_putPlaces wC_42 ht1 ev2) rfl rfl (Nat.le_of_ble_eq_true rfl) ⟨Nat.le_of_ble_eq_true rfl, Nat.le_of_ble_eq_true rfl⟩ ⟨Nat.le_of_ble_eq_true rfl, Nat.le_of_ble_eq_true rfl⟩ dX6_arrange_18 rfl ?_
  refine g_iload_n 2 rfl rfl dX6_arrange_21 ?_
  rcases g_ite h with ⟨c3, h⟩ | ⟨c3, h⟩
  · refine g_if_ne_f c3 (tgt := 33) rfl dX6_arrange_22 ?_
    refine g_aload_n 0 rfl rfl dX6_arrange_25 ?_
    refine g_aload_n 1 rfl rfl dX6_arrange_26 ?_
    obtain ⟨v4, ev4, h⟩ := g_bnd h
    refine g_callV LX6_81 sC_41 rfl (kX6_dealOut ht1 ev4) rfl rfl (Nat.le_of_ble_eq_true rfl) ⟨Nat.le_of_ble_eq_true rfl, Nat.le_of_ble_eq_true rfl⟩ ⟨Nat.le_of_ble_eq_true rfl, Nat.le_of_ble_eq_true rfl⟩ dX6_arrange_27 rfl ?_
    refine g_goto (tgt := 117) rfl dX6_arrange_30 ?_
    refine g_sub [0, 1] rfl ?_
    exact tX6_arrange_b117 ht1 h O
  · refine g_if_ne_t c3 (tgt := 33) rfl dX6_arrange_22 ?_
    refine g_iload_n 2 rfl rfl dX6_arrange_33 ?_
    refine g_iconst (v := 1) rfl dX6_arrange_34 ?_
    rcases g_ite h with ⟨c8, h⟩ | ⟨c8, h⟩
    · refine g_icmp_ne_f c8 (tgt := 79) rfl dX6_arrange_35 ?_
      refine g_aload_n 0 rfl rfl dX6_arrange_38 ?_
      refine g_aload_n 1 rfl rfl dX6_arrange_39 ?_
      refine g_aload_n 0 rfl rfl dX6_arrange_40 ?_
      refine g_getI FX6_25 sC_41 rfl dX6_arrange_41 ?_
      refine g_iconst (v := -1) rfl dX6_arrange_44 ?_
      refine g_ixor dX6_arrange_45 ?_
      obtain ⟨v9, ev9, h⟩ := g_bnd h
      refine g_callV LX6_84 sC_41 rfl (kX6_putThose ht1 ev9) rfl rfl (Nat.le_of_ble_eq_true rfl) ⟨Nat.le_of_ble_eq_true rfl, Nat.le_of_ble_eq_true rfl⟩ ⟨Nat.le_of_ble_eq_true rfl, Nat.le_of_ble_eq_true rfl⟩ dX6_arrange_46 rfl ?_
      refine g_aload_n 0 rfl rfl dX6_arrange_49 ?_
      refine g_getR FX6_12 sC_41 rfl dX6_arrange_50 ?_
      refine g_aload_n 0 rfl rfl dX6_arrange_53 ?_
      refine g_getI FX6_31 sC_41 rfl dX6_arrange_54 ?_
      obtain ⟨v10, ev10, h⟩ := g_bnd h
      refine g_callV LX6_88 sC_42 rfl (kX7_putSome wC_42 ev10) rfl rfl (Nat.le_of_ble_eq_true rfl) ⟨Nat.le_of_ble_eq_true rfl, Nat.le_of_ble_eq_true rfl⟩ ⟨Nat.le_of_ble_eq_true rfl, Nat.le_of_ble_eq_true rfl⟩ dX6_arrange_57 rfl ?_
      refine g_aload_n 0 rfl rfl dX6_arrange_60 ?_
      refine g_aload_n 1 rfl rfl dX6_arrange_61 ?_
      refine g_aload_n 0 rfl rfl dX6_arrange_62 ?_
      refine g_getI FX6_25 sC_41 rfl dX6_arrange_63 ?_
      refine g_aload_n 0 rfl rfl dX6_arrange_66 ?_
      refine g_getI FX6_28 sC_41 rfl dX6_arrange_67 ?_
      refine g_iconst (v := -1) rfl dX6_arrange_70 ?_
      refine g_ixor dX6_arrange_71 ?_
      refine g_iand dX6_arrange_72 ?_
      obtain ⟨v11, ev11, h⟩ := g_bnd h
      refine g_callV LX6_84 sC_41 rfl (kX6_putThose ht1 ev11) rfl rfl (Nat.le_of_ble_eq_true rfl) ⟨Nat.le_of_ble_eq_true rfl, Nat.le_of_ble_eq_true rfl⟩ ⟨Nat.le_of_ble_eq_true rfl, Nat.le_of_ble_eq_true rfl⟩ dX6_arrange_73 rfl ?_
      refine g_goto (tgt := 117) rfl dX6_arrange_76 ?_
      refine g_sub [0, 1] rfl ?_
      exact tX6_arrange_b117 ht1 h O
    · refine g_icmp_ne_t c8 (tgt := 79) rfl dX6_arrange_35 ?_
      refine g_aload_n 0 rfl rfl dX6_arrange_79 ?_
      refine g_aload_n 1 rfl rfl dX6_arrange_80 ?_
      refine g_aload_n 0 rfl rfl dX6_arrange_81 ?_
      refine g_getI FX6_28 sC_41 rfl dX6_arrange_82 ?_
      refine g_aload_n 0 rfl rfl dX6_arrange_85 ?_
      refine g_getI FX6_25 sC_41 rfl dX6_arrange_86 ?_
      refine g_iconst (v := -1) rfl dX6_arrange_89 ?_
      refine g_ixor dX6_arrange_90 ?_
      refine g_iand dX6_arrange_91 ?_
      obtain ⟨v12, ev12, h⟩ := g_bnd h
      refine g_callV LX6_84 sC_41 rfl (kX6_putThose ht1 ev12) rfl rfl (Nat.le_of_ble_eq_true rfl) ⟨Nat.le_of_ble_eq_true rfl, Nat.le_of_ble_eq_true rfl⟩ ⟨Nat.le_of_ble_eq_true rfl, Nat.le_of_ble_eq_true rfl⟩ dX6_arrange_92 rfl ?_
      refine g_aload_n 0 rfl rfl dX6_arrange_95 ?_
      refine g_getR FX6_12 sC_41 rfl dX6_arrange_96 ?_
      refine g_aload_n 0 rfl rfl dX6_arrange_99 ?_
      refine g_getI FX6_31 sC_41 rfl dX6_arrange_100 ?_
      obtain ⟨v13, ev13, h⟩ := g_bnd h
      refine g_callV LX6_88 sC_42 rfl (kX7_putSome wC_42 ev13) rfl rfl (Nat.le_of_ble_eq_true rfl) ⟨Nat.le_of_ble_eq_true rfl, Nat.le_of_ble_eq_true rfl⟩ ⟨Nat.le_of_ble_eq_true rfl, Nat.le_of_ble_eq_true rfl⟩ dX6_arrange_103 rfl ?_
      refine g_aload_n 0 rfl rfl dX6_arrange_106 ?_
      refine g_aload_n 1 rfl rfl dX6_arrange_107 ?_
      refine g_aload_n 0 rfl rfl dX6_arrange_108 ?_
      refine g_getI FX6_28 sC_41 rfl dX6_arrange_109 ?_
      refine g_iconst (v := -1) rfl dX6_arrange_112 ?_
      refine g_ixor dX6_arrange_113 ?_
      obtain ⟨v14, ev14, h⟩ := g_bnd h
      refine g_callV LX6_84 sC_41 rfl (kX6_putThose ht1 ev14) rfl rfl (Nat.le_of_ble_eq_true rfl) ⟨Nat.le_of_ble_eq_true rfl, Nat.le_of_ble_eq_true rfl⟩ ⟨Nat.le_of_ble_eq_true rfl, Nat.le_of_ble_eq_true rfl⟩ dX6_arrange_114 rfl ?_
      refine g_sub [0, 1] rfl ?_
      exact tX6_arrange_b117 ht1 h O
theorem kX6_arrange {l : Launch} {V : gEnv} {M0 : gMem} {t1 : Nat} {x2 : Int32} (ht1 : gNet gShC t1) {o : (Int32 × gMem)} (h : fX6_arrange t1 x2 M0 = some o) : gM l yX6_arrange cX6_arrange 4 (some .int) rX6_arrange V gShC [.ref (gAd V 41), .ref (gAd V t1), .int x2] M0 (some (.int o.1)) o.2 :=
  gM.of (by decide) (Nat.le_of_ble_eq_true rfl) rfl (fun X _ O => tX6_arrange ht1 h O)
