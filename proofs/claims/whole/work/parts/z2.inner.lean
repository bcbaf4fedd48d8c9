/-! the inner constructors, by program -/
theorem wOi : Cond.instanceMethod Lib.objectInit ∈ gBW := gT1 33 rfl rfl
theorem wOc : Cond.code Lib.objectInit ⟨#[0xb1]⟩ 1 none ∈ gBW := gT1 34 rfl rfl
theorem gI_at {M : gMem} {c f g : Nat} {x : Int32} (h : g ≠ f) : (gI M c f x).1 c g = M.1 c g := by
  show (if c = c then upd (M.1 c) f x else M.1 c) g = _
  rw [if_pos rfl]
  simp [upd, h]
theorem wOX0 : Cond.methodLink RX0 3 Lib.objectInit ∈ gBW := gT2 55 rfl rfl
theorem wOX1 : Cond.methodLink RX1 3 Lib.objectInit ∈ gBW := gT1 190 rfl rfl
theorem wOX2 : Cond.methodLink RX2 3 Lib.objectInit ∈ gBW := gT1 40 rfl rfl
theorem wOX3 : Cond.methodLink RX3 3 Lib.objectInit ∈ gBW := gT1 203 rfl rfl
theorem wOX4 : Cond.methodLink RX4 3 Lib.objectInit ∈ gBW := gT1 175 rfl rfl
theorem wOX5 : Cond.methodLink RX5 3 Lib.objectInit ∈ gBW := gT1 144 rfl rfl
theorem wOX6 : Cond.methodLink RX6 3 Lib.objectInit ∈ gBW := gT1 222 rfl rfl
theorem wOX7 : Cond.methodLink RX7 3 Lib.objectInit ∈ gBW := gT1 228 rfl rfl
theorem wOX8 : Cond.methodLink RX8 3 Lib.objectInit ∈ gBW := gT2 33 rfl rfl
theorem wOX9 : Cond.methodLink RX9 3 Lib.objectInit ∈ gBW := gT2 81 rfl rfl
theorem wOX10 : Cond.methodLink RX10 3 Lib.objectInit ∈ gBW := gT1 32 rfl rfl
theorem wOX11 : Cond.methodLink RX11 3 Lib.objectInit ∈ gBW := gT6 51 rfl rfl
theorem wCL_8 : Cond.classLink RL 8 RX10 ∈ gBW := gT1 27 rfl rfl
theorem wCX10_9 : Cond.classLink RX10 9 RX2 ∈ gBW := gT1 35 rfl rfl
theorem wCX10_34 : Cond.classLink RX10 34 RX5 ∈ gBW := gT1 139 rfl rfl
theorem wCX10_41 : Cond.classLink RX10 41 RX4 ∈ gBW := gT1 170 rfl rfl
theorem wCX10_48 : Cond.classLink RX10 48 RX1 ∈ gBW := gT1 185 rfl rfl
theorem wCX10_55 : Cond.classLink RX10 55 RX3 ∈ gBW := gT1 198 rfl rfl
theorem wCX10_62 : Cond.classLink RX10 62 RX6 ∈ gBW := gT1 217 rfl rfl
theorem wCX6_9 : Cond.classLink RX6 9 RX7 ∈ gBW := gT1 223 rfl rfl
theorem wCX10_69 : Cond.classLink RX10 69 RX8 ∈ gBW := gT2 28 rfl rfl
theorem wCX8_9 : Cond.classLink RX8 9 RX7 ∈ gBW := gT2 34 rfl rfl
theorem wCX10_76 : Cond.classLink RX10 76 RX0 ∈ gBW := gT2 50 rfl rfl
theorem wCX10_83 : Cond.classLink RX10 83 RX9 ∈ gBW := gT2 76 rfl rfl
theorem wCL_107 : Cond.classLink RL 107 RX11 ∈ gBW := gT6 46 rfl rfl
theorem wNX0 : Cond.instantiable RX0 5 ∈ gBW := gT2 51 rfl rfl
theorem wIX0 : Cond.initialized RX0 ∈ gBW := gT1 10 rfl rfl
theorem wNX1 : Cond.instantiable RX1 2 ∈ gBW := gT1 186 rfl rfl
theorem wIX1 : Cond.initialized RX1 ∈ gBW := gT1 5 rfl rfl
theorem wNX2 : Cond.instantiable RX2 14 ∈ gBW := gT1 36 rfl rfl
theorem wIX2 : Cond.initialized RX2 ∈ gBW := gT1 2 rfl rfl
theorem wNX3 : Cond.instantiable RX3 4 ∈ gBW := gT1 199 rfl rfl
theorem wIX3 : Cond.initialized RX3 ∈ gBW := gT1 6 rfl rfl
theorem wNX4 : Cond.instantiable RX4 2 ∈ gBW := gT1 171 rfl rfl
theorem wIX4 : Cond.initialized RX4 ∈ gBW := gT1 4 rfl rfl
theorem wNX5 : Cond.instantiable RX5 6 ∈ gBW := gT1 140 rfl rfl
theorem wIX5 : Cond.initialized RX5 ∈ gBW := gT1 3 rfl rfl
theorem wNX6 : Cond.instantiable RX6 7 ∈ gBW := gT1 218 rfl rfl
theorem wIX6 : Cond.initialized RX6 ∈ gBW := gT1 7 rfl rfl
theorem wNX7 : Cond.instantiable RX7 2 ∈ gBW := gT1 224 rfl rfl
theorem wIX7 : Cond.initialized RX7 ∈ gBW := gT1 8 rfl rfl
theorem wNX8 : Cond.instantiable RX8 4 ∈ gBW := gT2 29 rfl rfl
theorem wIX8 : Cond.initialized RX8 ∈ gBW := gT1 9 rfl rfl
theorem wNX9 : Cond.instantiable RX9 1 ∈ gBW := gT2 77 rfl rfl
theorem wIX9 : Cond.initialized RX9 ∈ gBW := gT1 11 rfl rfl
theorem wNX10 : Cond.instantiable RX10 14 ∈ gBW := gT1 28 rfl rfl
theorem wIX10 : Cond.initialized RX10 ∈ gBW := gT1 1 rfl rfl
theorem wNX11 : Cond.instantiable RX11 41 ∈ gBW := gT6 47 rfl rfl
theorem wIX11 : Cond.initialized RX11 ∈ gBW := gT1 12 rfl rfl
theorem dX0_init_0 : decode cX0_init 0 = .ok (.aload_n 0, 1) := by decide +kernel
theorem dX0_init_1 : decode cX0_init 1 = .ok (.invokespecial 3, 3) := by decide +kernel
theorem dX0_init_4 : decode cX0_init 4 = .ok (.aload_n 0, 1) := by decide +kernel
theorem dX0_init_5 : decode cX0_init 5 = .ok (.bipush 24, 2) := by decide +kernel
theorem dX0_init_7 : decode cX0_init 7 = .ok (.newarray .int, 2) := by decide +kernel
theorem dX0_init_9 : decode cX0_init 9 = .ok (.putfield 9, 3) := by decide +kernel
theorem dX0_init_12 : decode cX0_init 12 = .ok (.aload_n 0, 1) := by decide +kernel
theorem dX0_init_13 : decode cX0_init 13 = .ok (.bipush 24, 2) := by decide +kernel
theorem dX0_init_15 : decode cX0_init 15 = .ok (.newarray .int, 2) := by decide +kernel
theorem dX0_init_17 : decode cX0_init 17 = .ok (.putfield 15, 3) := by decide +kernel
theorem dX0_init_20 : decode cX0_init 20 = .ok (.aload_n 0, 1) := by decide +kernel
theorem dX0_init_21 : decode cX0_init 21 = .ok (.bipush 24, 2) := by decide +kernel
theorem dX0_init_23 : decode cX0_init 23 = .ok (.newarray .int, 2) := by decide +kernel
theorem dX0_init_25 : decode cX0_init 25 = .ok (.putfield 18, 3) := by decide +kernel
theorem dX0_init_28 : decode cX0_init 28 = .ok (.aload_n 0, 1) := by decide +kernel
theorem dX0_init_29 : decode cX0_init 29 = .ok (.bipush 24, 2) := by decide +kernel
theorem dX0_init_31 : decode cX0_init 31 = .ok (.newarray .int, 2) := by decide +kernel
theorem dX0_init_33 : decode cX0_init 33 = .ok (.putfield 21, 3) := by decide +kernel
theorem dX0_init_36 : decode cX0_init 36 = .ok (.aload_n 0, 1) := by decide +kernel
theorem dX0_init_37 : decode cX0_init 37 = .ok (.iconst 0, 1) := by decide +kernel
theorem dX0_init_38 : decode cX0_init 38 = .ok (.putfield 24, 3) := by decide +kernel
theorem dX0_init_41 : decode cX0_init 41 = .ok (.return_, 1) := by decide +kernel
theorem dX1_init_0 : decode cX1_init 0 = .ok (.aload_n 0, 1) := by decide +kernel
theorem dX1_init_1 : decode cX1_init 1 = .ok (.invokespecial 3, 3) := by decide +kernel
theorem dX1_init_4 : decode cX1_init 4 = .ok (.aload_n 0, 1) := by decide +kernel
theorem dX1_init_5 : decode cX1_init 5 = .ok (.iconst 0, 1) := by decide +kernel
theorem dX1_init_6 : decode cX1_init 6 = .ok (.putfield 9, 3) := by decide +kernel
theorem dX1_init_9 : decode cX1_init 9 = .ok (.aload_n 0, 1) := by decide +kernel
theorem dX1_init_10 : decode cX1_init 10 = .ok (.iconst 0, 1) := by decide +kernel
theorem dX1_init_11 : decode cX1_init 11 = .ok (.putfield 15, 3) := by decide +kernel
theorem dX1_init_14 : decode cX1_init 14 = .ok (.return_, 1) := by decide +kernel
theorem dX2_init_0 : decode cX2_init 0 = .ok (.aload_n 0, 1) := by decide +kernel
theorem dX2_init_1 : decode cX2_init 1 = .ok (.invokespecial 3, 3) := by decide +kernel
theorem dX2_init_4 : decode cX2_init 4 = .ok (.aload_n 0, 1) := by decide +kernel
theorem dX2_init_5 : decode cX2_init 5 = .ok (.bipush 24, 2) := by decide +kernel
theorem dX2_init_7 : decode cX2_init 7 = .ok (.newarray .long, 2) := by decide +kernel
theorem dX2_init_9 : decode cX2_init 9 = .ok (.putfield 9, 3) := by decide +kernel
theorem dX2_init_12 : decode cX2_init 12 = .ok (.aload_n 0, 1) := by decide +kernel
theorem dX2_init_13 : decode cX2_init 13 = .ok (.bipush 24, 2) := by decide +kernel
theorem dX2_init_15 : decode cX2_init 15 = .ok (.newarray .int, 2) := by decide +kernel
theorem dX2_init_17 : decode cX2_init 17 = .ok (.putfield 15, 3) := by decide +kernel
theorem dX2_init_20 : decode cX2_init 20 = .ok (.aload_n 0, 1) := by decide +kernel
theorem dX2_init_21 : decode cX2_init 21 = .ok (.bipush 60, 2) := by decide +kernel
theorem dX2_init_23 : decode cX2_init 23 = .ok (.newarray .int, 2) := by decide +kernel
theorem dX2_init_25 : decode cX2_init 25 = .ok (.putfield 19, 3) := by decide +kernel
theorem dX2_init_28 : decode cX2_init 28 = .ok (.aload_n 0, 1) := by decide +kernel
theorem dX2_init_29 : decode cX2_init 29 = .ok (.bipush 60, 2) := by decide +kernel
theorem dX2_init_31 : decode cX2_init 31 = .ok (.newarray .int, 2) := by decide +kernel
theorem dX2_init_33 : decode cX2_init 33 = .ok (.putfield 22, 3) := by decide +kernel
theorem dX2_init_36 : decode cX2_init 36 = .ok (.aload_n 0, 1) := by decide +kernel
theorem dX2_init_37 : decode cX2_init 37 = .ok (.bipush 24, 2) := by decide +kernel
theorem dX2_init_39 : decode cX2_init 39 = .ok (.newarray .int, 2) := by decide +kernel
theorem dX2_init_41 : decode cX2_init 41 = .ok (.putfield 25, 3) := by decide +kernel
theorem dX2_init_44 : decode cX2_init 44 = .ok (.aload_n 0, 1) := by decide +kernel
theorem dX2_init_45 : decode cX2_init 45 = .ok (.bipush 24, 2) := by decide +kernel
theorem dX2_init_47 : decode cX2_init 47 = .ok (.newarray .int, 2) := by decide +kernel
theorem dX2_init_49 : decode cX2_init 49 = .ok (.putfield 28, 3) := by decide +kernel
theorem dX2_init_52 : decode cX2_init 52 = .ok (.aload_n 0, 1) := by decide +kernel
theorem dX2_init_53 : decode cX2_init 53 = .ok (.bipush 24, 2) := by decide +kernel
theorem dX2_init_55 : decode cX2_init 55 = .ok (.newarray .int, 2) := by decide +kernel
theorem dX2_init_57 : decode cX2_init 57 = .ok (.putfield 31, 3) := by decide +kernel
theorem dX2_init_60 : decode cX2_init 60 = .ok (.aload_n 0, 1) := by decide +kernel
theorem dX2_init_61 : decode cX2_init 61 = .ok (.bipush 24, 2) := by decide +kernel
theorem dX2_init_63 : decode cX2_init 63 = .ok (.newarray .int, 2) := by decide +kernel
theorem dX2_init_65 : decode cX2_init 65 = .ok (.putfield 34, 3) := by decide +kernel
theorem dX2_init_68 : decode cX2_init 68 = .ok (.aload_n 0, 1) := by decide +kernel
theorem dX2_init_69 : decode cX2_init 69 = .ok (.bipush 9, 2) := by decide +kernel
theorem dX2_init_71 : decode cX2_init 71 = .ok (.newarray .long, 2) := by decide +kernel
theorem dX2_init_73 : decode cX2_init 73 = .ok (.putfield 37, 3) := by decide +kernel
theorem dX2_init_76 : decode cX2_init 76 = .ok (.aload_n 0, 1) := by decide +kernel
theorem dX2_init_77 : decode cX2_init 77 = .ok (.iconst 0, 1) := by decide +kernel
theorem dX2_init_78 : decode cX2_init 78 = .ok (.putfield 40, 3) := by decide +kernel
theorem dX2_init_81 : decode cX2_init 81 = .ok (.aload_n 0, 1) := by decide +kernel
theorem dX2_init_82 : decode cX2_init 82 = .ok (.iconst 0, 1) := by decide +kernel
theorem dX2_init_83 : decode cX2_init 83 = .ok (.putfield 44, 3) := by decide +kernel
theorem dX2_init_86 : decode cX2_init 86 = .ok (.aload_n 0, 1) := by decide +kernel
theorem dX2_init_87 : decode cX2_init 87 = .ok (.iconst 0, 1) := by decide +kernel
theorem dX2_init_88 : decode cX2_init 88 = .ok (.putfield 47, 3) := by decide +kernel
theorem dX2_init_91 : decode cX2_init 91 = .ok (.aload_n 0, 1) := by decide +kernel
theorem dX2_init_92 : decode cX2_init 92 = .ok (.iconst 0, 1) := by decide +kernel
theorem dX2_init_93 : decode cX2_init 93 = .ok (.putfield 50, 3) := by decide +kernel
theorem dX2_init_96 : decode cX2_init 96 = .ok (.aload_n 0, 1) := by decide +kernel
theorem dX2_init_97 : decode cX2_init 97 = .ok (.iconst 0, 1) := by decide +kernel
theorem dX2_init_98 : decode cX2_init 98 = .ok (.putfield 53, 3) := by decide +kernel
theorem dX2_init_101 : decode cX2_init 101 = .ok (.return_, 1) := by decide +kernel
theorem dX3_init_0 : decode cX3_init 0 = .ok (.aload_n 0, 1) := by decide +kernel
theorem dX3_init_1 : decode cX3_init 1 = .ok (.invokespecial 3, 3) := by decide +kernel
theorem dX3_init_4 : decode cX3_init 4 = .ok (.aload_n 0, 1) := by decide +kernel
theorem dX3_init_5 : decode cX3_init 5 = .ok (.bipush 30, 2) := by decide +kernel
theorem dX3_init_7 : decode cX3_init 7 = .ok (.newarray .int, 2) := by decide +kernel
theorem dX3_init_9 : decode cX3_init 9 = .ok (.putfield 9, 3) := by decide +kernel
theorem dX3_init_12 : decode cX3_init 12 = .ok (.aload_n 0, 1) := by decide +kernel
theorem dX3_init_13 : decode cX3_init 13 = .ok (.bipush 30, 2) := by decide +kernel
theorem dX3_init_15 : decode cX3_init 15 = .ok (.newarray .int, 2) := by decide +kernel
theorem dX3_init_17 : decode cX3_init 17 = .ok (.putfield 15, 3) := by decide +kernel
theorem dX3_init_20 : decode cX3_init 20 = .ok (.aload_n 0, 1) := by decide +kernel
theorem dX3_init_21 : decode cX3_init 21 = .ok (.bipush 30, 2) := by decide +kernel
theorem dX3_init_23 : decode cX3_init 23 = .ok (.newarray .int, 2) := by decide +kernel
theorem dX3_init_25 : decode cX3_init 25 = .ok (.putfield 18, 3) := by decide +kernel
theorem dX3_init_28 : decode cX3_init 28 = .ok (.aload_n 0, 1) := by decide +kernel
theorem dX3_init_29 : decode cX3_init 29 = .ok (.iconst 0, 1) := by decide +kernel
theorem dX3_init_30 : decode cX3_init 30 = .ok (.putfield 21, 3) := by decide +kernel
theorem dX3_init_33 : decode cX3_init 33 = .ok (.return_, 1) := by decide +kernel
theorem dX4_init_0 : decode cX4_init 0 = .ok (.aload_n 0, 1) := by decide +kernel
theorem dX4_init_1 : decode cX4_init 1 = .ok (.invokespecial 3, 3) := by decide +kernel
theorem dX4_init_4 : decode cX4_init 4 = .ok (.aload_n 0, 1) := by decide +kernel
theorem dX4_init_5 : decode cX4_init 5 = .ok (.sipush 256, 3) := by decide +kernel
theorem dX4_init_8 : decode cX4_init 8 = .ok (.newarray .byte, 2) := by decide +kernel
theorem dX4_init_10 : decode cX4_init 10 = .ok (.putfield 9, 3) := by decide +kernel
theorem dX4_init_13 : decode cX4_init 13 = .ok (.aload_n 0, 1) := by decide +kernel
theorem dX4_init_14 : decode cX4_init 14 = .ok (.iconst 0, 1) := by decide +kernel
theorem dX4_init_15 : decode cX4_init 15 = .ok (.putfield 15, 3) := by decide +kernel
theorem dX4_init_18 : decode cX4_init 18 = .ok (.return_, 1) := by decide +kernel
theorem dX5_init_0 : decode cX5_init 0 = .ok (.aload_n 0, 1) := by decide +kernel
theorem dX5_init_1 : decode cX5_init 1 = .ok (.invokespecial 3, 3) := by decide +kernel
theorem dX5_init_4 : decode cX5_init 4 = .ok (.aload_n 0, 1) := by decide +kernel
theorem dX5_init_5 : decode cX5_init 5 = .ok (.sipush 900, 3) := by decide +kernel
theorem dX5_init_8 : decode cX5_init 8 = .ok (.newarray .byte, 2) := by decide +kernel
theorem dX5_init_10 : decode cX5_init 10 = .ok (.putfield 9, 3) := by decide +kernel
theorem dX5_init_13 : decode cX5_init 13 = .ok (.aload_n 0, 1) := by decide +kernel
theorem dX5_init_14 : decode cX5_init 14 = .ok (.iconst 0, 1) := by decide +kernel
theorem dX5_init_15 : decode cX5_init 15 = .ok (.putfield 15, 3) := by decide +kernel
theorem dX5_init_18 : decode cX5_init 18 = .ok (.aload_n 0, 1) := by decide +kernel
theorem dX5_init_19 : decode cX5_init 19 = .ok (.iconst 0, 1) := by decide +kernel
theorem dX5_init_20 : decode cX5_init 20 = .ok (.putfield 19, 3) := by decide +kernel
theorem dX5_init_23 : decode cX5_init 23 = .ok (.aload_n 0, 1) := by decide +kernel
theorem dX5_init_24 : decode cX5_init 24 = .ok (.iconst 0, 1) := by decide +kernel
theorem dX5_init_25 : decode cX5_init 25 = .ok (.putfield 22, 3) := by decide +kernel
theorem dX5_init_28 : decode cX5_init 28 = .ok (.aload_n 0, 1) := by decide +kernel
theorem dX5_init_29 : decode cX5_init 29 = .ok (.iconst 0, 1) := by decide +kernel
theorem dX5_init_30 : decode cX5_init 30 = .ok (.putfield 25, 3) := by decide +kernel
theorem dX5_init_33 : decode cX5_init 33 = .ok (.aload_n 0, 1) := by decide +kernel
theorem dX5_init_34 : decode cX5_init 34 = .ok (.iconst (-1), 1) := by decide +kernel
theorem dX5_init_35 : decode cX5_init 35 = .ok (.putfield 28, 3) := by decide +kernel
theorem dX5_init_38 : decode cX5_init 38 = .ok (.return_, 1) := by decide +kernel
theorem dX6_init_0 : decode cX6_init 0 = .ok (.aload_n 0, 1) := by decide +kernel
theorem dX6_init_1 : decode cX6_init 1 = .ok (.invokespecial 3, 3) := by decide +kernel
theorem dX6_init_4 : decode cX6_init 4 = .ok (.aload_n 0, 1) := by decide +kernel
theorem dX6_init_5 : decode cX6_init 5 = .ok (.new 9, 3) := by decide +kernel
theorem dX6_init_8 : decode cX6_init 8 = .ok (.dup, 1) := by decide +kernel
theorem dX6_init_9 : decode cX6_init 9 = .ok (.invokespecial 11, 3) := by decide +kernel
theorem dX6_init_12 : decode cX6_init 12 = .ok (.putfield 12, 3) := by decide +kernel
theorem dX6_init_15 : decode cX6_init 15 = .ok (.aload_n 0, 1) := by decide +kernel
theorem dX6_init_16 : decode cX6_init 16 = .ok (.iconst 0, 1) := by decide +kernel
theorem dX6_init_17 : decode cX6_init 17 = .ok (.putfield 18, 3) := by decide +kernel
theorem dX6_init_20 : decode cX6_init 20 = .ok (.aload_n 0, 1) := by decide +kernel
theorem dX6_init_21 : decode cX6_init 21 = .ok (.iconst (-1), 1) := by decide +kernel
theorem dX6_init_22 : decode cX6_init 22 = .ok (.putfield 22, 3) := by decide +kernel
theorem dX6_init_25 : decode cX6_init 25 = .ok (.aload_n 0, 1) := by decide +kernel
theorem dX6_init_26 : decode cX6_init 26 = .ok (.iconst 0, 1) := by decide +kernel
theorem dX6_init_27 : decode cX6_init 27 = .ok (.putfield 25, 3) := by decide +kernel
theorem dX6_init_30 : decode cX6_init 30 = .ok (.aload_n 0, 1) := by decide +kernel
theorem dX6_init_31 : decode cX6_init 31 = .ok (.iconst 0, 1) := by decide +kernel
theorem dX6_init_32 : decode cX6_init 32 = .ok (.putfield 28, 3) := by decide +kernel
theorem dX6_init_35 : decode cX6_init 35 = .ok (.aload_n 0, 1) := by decide +kernel
theorem dX6_init_36 : decode cX6_init 36 = .ok (.iconst 0, 1) := by decide +kernel
theorem dX6_init_37 : decode cX6_init 37 = .ok (.putfield 31, 3) := by decide +kernel
theorem dX6_init_40 : decode cX6_init 40 = .ok (.aload_n 0, 1) := by decide +kernel
theorem dX6_init_41 : decode cX6_init 41 = .ok (.iconst 0, 1) := by decide +kernel
theorem dX6_init_42 : decode cX6_init 42 = .ok (.putfield 34, 3) := by decide +kernel
theorem dX6_init_45 : decode cX6_init 45 = .ok (.return_, 1) := by decide +kernel
theorem dX7_init_0 : decode cX7_init 0 = .ok (.aload_n 0, 1) := by decide +kernel
theorem dX7_init_1 : decode cX7_init 1 = .ok (.invokespecial 3, 3) := by decide +kernel
theorem dX7_init_4 : decode cX7_init 4 = .ok (.aload_n 0, 1) := by decide +kernel
theorem dX7_init_5 : decode cX7_init 5 = .ok (.bipush 24, 2) := by decide +kernel
theorem dX7_init_7 : decode cX7_init 7 = .ok (.newarray .int, 2) := by decide +kernel
theorem dX7_init_9 : decode cX7_init 9 = .ok (.putfield 9, 3) := by decide +kernel
theorem dX7_init_12 : decode cX7_init 12 = .ok (.aload_n 0, 1) := by decide +kernel
theorem dX7_init_13 : decode cX7_init 13 = .ok (.iconst 0, 1) := by decide +kernel
theorem dX7_init_14 : decode cX7_init 14 = .ok (.putfield 15, 3) := by decide +kernel
theorem dX7_init_17 : decode cX7_init 17 = .ok (.return_, 1) := by decide +kernel
theorem dX8_init_0 : decode cX8_init 0 = .ok (.aload_n 0, 1) := by decide +kernel
theorem dX8_init_1 : decode cX8_init 1 = .ok (.invokespecial 3, 3) := by decide +kernel
theorem dX8_init_4 : decode cX8_init 4 = .ok (.aload_n 0, 1) := by decide +kernel
theorem dX8_init_5 : decode cX8_init 5 = .ok (.new 9, 3) := by decide +kernel
theorem dX8_init_8 : decode cX8_init 8 = .ok (.dup, 1) := by decide +kernel
theorem dX8_init_9 : decode cX8_init 9 = .ok (.invokespecial 11, 3) := by decide +kernel
theorem dX8_init_12 : decode cX8_init 12 = .ok (.putfield 12, 3) := by decide +kernel
theorem dX8_init_15 : decode cX8_init 15 = .ok (.aload_n 0, 1) := by decide +kernel
theorem dX8_init_16 : decode cX8_init 16 = .ok (.bipush 24, 2) := by decide +kernel
theorem dX8_init_18 : decode cX8_init 18 = .ok (.newarray .int, 2) := by decide +kernel
theorem dX8_init_20 : decode cX8_init 20 = .ok (.putfield 18, 3) := by decide +kernel
theorem dX8_init_23 : decode cX8_init 23 = .ok (.aload_n 0, 1) := by decide +kernel
theorem dX8_init_24 : decode cX8_init 24 = .ok (.bipush 24, 2) := by decide +kernel
theorem dX8_init_26 : decode cX8_init 26 = .ok (.newarray .int, 2) := by decide +kernel
theorem dX8_init_28 : decode cX8_init 28 = .ok (.putfield 22, 3) := by decide +kernel
theorem dX8_init_31 : decode cX8_init 31 = .ok (.aload_n 0, 1) := by decide +kernel
theorem dX8_init_32 : decode cX8_init 32 = .ok (.bipush 24, 2) := by decide +kernel
theorem dX8_init_34 : decode cX8_init 34 = .ok (.newarray .int, 2) := by decide +kernel
theorem dX8_init_36 : decode cX8_init 36 = .ok (.putfield 25, 3) := by decide +kernel
theorem dX8_init_39 : decode cX8_init 39 = .ok (.return_, 1) := by decide +kernel
theorem dX9_init_0 : decode cX9_init 0 = .ok (.aload_n 0, 1) := by decide +kernel
theorem dX9_init_1 : decode cX9_init 1 = .ok (.invokespecial 3, 3) := by decide +kernel
theorem dX9_init_4 : decode cX9_init 4 = .ok (.aload_n 0, 1) := by decide +kernel
theorem dX9_init_5 : decode cX9_init 5 = .ok (.bipush 24, 2) := by decide +kernel
theorem dX9_init_7 : decode cX9_init 7 = .ok (.newarray .int, 2) := by decide +kernel
theorem dX9_init_9 : decode cX9_init 9 = .ok (.putfield 9, 3) := by decide +kernel
theorem dX9_init_12 : decode cX9_init 12 = .ok (.return_, 1) := by decide +kernel
theorem dX10_init_0 : decode cX10_init 0 = .ok (.aload_n 0, 1) := by decide +kernel
theorem dX10_init_1 : decode cX10_init 1 = .ok (.invokespecial 3, 3) := by decide +kernel
theorem dX10_init_4 : decode cX10_init 4 = .ok (.aload_n 0, 1) := by decide +kernel
theorem dX10_init_5 : decode cX10_init 5 = .ok (.new 9, 3) := by decide +kernel
theorem dX10_init_8 : decode cX10_init 8 = .ok (.dup, 1) := by decide +kernel
theorem dX10_init_9 : decode cX10_init 9 = .ok (.invokespecial 11, 3) := by decide +kernel
theorem dX10_init_12 : decode cX10_init 12 = .ok (.putfield 12, 3) := by decide +kernel
theorem dX10_init_15 : decode cX10_init 15 = .ok (.aload_n 0, 1) := by decide +kernel
theorem dX10_init_16 : decode cX10_init 16 = .ok (.new 9, 3) := by decide +kernel
theorem dX10_init_19 : decode cX10_init 19 = .ok (.dup, 1) := by decide +kernel
theorem dX10_init_20 : decode cX10_init 20 = .ok (.invokespecial 11, 3) := by decide +kernel
theorem dX10_init_23 : decode cX10_init 23 = .ok (.putfield 16, 3) := by decide +kernel
theorem dX10_init_26 : decode cX10_init 26 = .ok (.aload_n 0, 1) := by decide +kernel
theorem dX10_init_27 : decode cX10_init 27 = .ok (.new 9, 3) := by decide +kernel
theorem dX10_init_30 : decode cX10_init 30 = .ok (.dup, 1) := by decide +kernel
theorem dX10_init_31 : decode cX10_init 31 = .ok (.invokespecial 11, 3) := by decide +kernel
theorem dX10_init_34 : decode cX10_init 34 = .ok (.putfield 19, 3) := by decide +kernel
theorem dX10_init_37 : decode cX10_init 37 = .ok (.aload_n 0, 1) := by decide +kernel
theorem dX10_init_38 : decode cX10_init 38 = .ok (.iconst 0, 1) := by decide +kernel
theorem dX10_init_39 : decode cX10_init 39 = .ok (.putfield 22, 3) := by decide +kernel
theorem dX10_init_42 : decode cX10_init 42 = .ok (.aload_n 0, 1) := by decide +kernel
theorem dX10_init_43 : decode cX10_init 43 = .ok (.bipush 8, 2) := by decide +kernel
theorem dX10_init_45 : decode cX10_init 45 = .ok (.anewarray 9, 3) := by decide +kernel
theorem dX10_init_48 : decode cX10_init 48 = .ok (.putfield 26, 3) := by decide +kernel
theorem dX10_init_51 : decode cX10_init 51 = .ok (.aload_n 0, 1) := by decide +kernel
theorem dX10_init_52 : decode cX10_init 52 = .ok (.iconst 0, 1) := by decide +kernel
theorem dX10_init_53 : decode cX10_init 53 = .ok (.putfield 30, 3) := by decide +kernel
theorem dX10_init_56 : decode cX10_init 56 = .ok (.aload_n 0, 1) := by decide +kernel
theorem dX10_init_57 : decode cX10_init 57 = .ok (.new 34, 3) := by decide +kernel
theorem dX10_init_60 : decode cX10_init 60 = .ok (.dup, 1) := by decide +kernel
theorem dX10_init_61 : decode cX10_init 61 = .ok (.invokespecial 36, 3) := by decide +kernel
theorem dX10_init_64 : decode cX10_init 64 = .ok (.putfield 37, 3) := by decide +kernel
theorem dX10_init_67 : decode cX10_init 67 = .ok (.aload_n 0, 1) := by decide +kernel
theorem dX10_init_68 : decode cX10_init 68 = .ok (.new 41, 3) := by decide +kernel
theorem dX10_init_71 : decode cX10_init 71 = .ok (.dup, 1) := by decide +kernel
theorem dX10_init_72 : decode cX10_init 72 = .ok (.invokespecial 43, 3) := by decide +kernel
theorem dX10_init_75 : decode cX10_init 75 = .ok (.putfield 44, 3) := by decide +kernel
theorem dX10_init_78 : decode cX10_init 78 = .ok (.aload_n 0, 1) := by decide +kernel
theorem dX10_init_79 : decode cX10_init 79 = .ok (.new 48, 3) := by decide +kernel
theorem dX10_init_82 : decode cX10_init 82 = .ok (.dup, 1) := by decide +kernel
theorem dX10_init_83 : decode cX10_init 83 = .ok (.invokespecial 50, 3) := by decide +kernel
theorem dX10_init_86 : decode cX10_init 86 = .ok (.putfield 51, 3) := by decide +kernel
theorem dX10_init_89 : decode cX10_init 89 = .ok (.aload_n 0, 1) := by decide +kernel
theorem dX10_init_90 : decode cX10_init 90 = .ok (.new 55, 3) := by decide +kernel
theorem dX10_init_93 : decode cX10_init 93 = .ok (.dup, 1) := by decide +kernel
theorem dX10_init_94 : decode cX10_init 94 = .ok (.invokespecial 57, 3) := by decide +kernel
theorem dX10_init_97 : decode cX10_init 97 = .ok (.putfield 58, 3) := by decide +kernel
theorem dX10_init_100 : decode cX10_init 100 = .ok (.aload_n 0, 1) := by decide +kernel
theorem dX10_init_101 : decode cX10_init 101 = .ok (.new 62, 3) := by decide +kernel
theorem dX10_init_104 : decode cX10_init 104 = .ok (.dup, 1) := by decide +kernel
theorem dX10_init_105 : decode cX10_init 105 = .ok (.invokespecial 64, 3) := by decide +kernel
theorem dX10_init_108 : decode cX10_init 108 = .ok (.putfield 65, 3) := by decide +kernel
theorem dX10_init_111 : decode cX10_init 111 = .ok (.aload_n 0, 1) := by decide +kernel
theorem dX10_init_112 : decode cX10_init 112 = .ok (.new 69, 3) := by decide +kernel
theorem dX10_init_115 : decode cX10_init 115 = .ok (.dup, 1) := by decide +kernel
theorem dX10_init_116 : decode cX10_init 116 = .ok (.invokespecial 71, 3) := by decide +kernel
theorem dX10_init_119 : decode cX10_init 119 = .ok (.putfield 72, 3) := by decide +kernel
theorem dX10_init_122 : decode cX10_init 122 = .ok (.aload_n 0, 1) := by decide +kernel
theorem dX10_init_123 : decode cX10_init 123 = .ok (.new 76, 3) := by decide +kernel
theorem dX10_init_126 : decode cX10_init 126 = .ok (.dup, 1) := by decide +kernel
theorem dX10_init_127 : decode cX10_init 127 = .ok (.invokespecial 78, 3) := by decide +kernel
theorem dX10_init_130 : decode cX10_init 130 = .ok (.putfield 79, 3) := by decide +kernel
theorem dX10_init_133 : decode cX10_init 133 = .ok (.aload_n 0, 1) := by decide +kernel
theorem dX10_init_134 : decode cX10_init 134 = .ok (.new 83, 3) := by decide +kernel
theorem dX10_init_137 : decode cX10_init 137 = .ok (.dup, 1) := by decide +kernel
theorem dX10_init_138 : decode cX10_init 138 = .ok (.invokespecial 85, 3) := by decide +kernel
theorem dX10_init_141 : decode cX10_init 141 = .ok (.putfield 86, 3) := by decide +kernel
theorem dX10_init_144 : decode cX10_init 144 = .ok (.iconst 0, 1) := by decide +kernel
theorem dX10_init_145 : decode cX10_init 145 = .ok (.istore_n 1, 1) := by decide +kernel
theorem dX10_init_146 : decode cX10_init 146 = .ok (.iload_n 1, 1) := by decide +kernel
theorem dX10_init_147 : decode cX10_init 147 = .ok (.bipush 8, 2) := by decide +kernel
theorem dX10_init_149 : decode cX10_init 149 = .ok (.if_icmp .ge 22, 3) := by decide +kernel
theorem dX10_init_152 : decode cX10_init 152 = .ok (.aload_n 0, 1) := by decide +kernel
theorem dX10_init_153 : decode cX10_init 153 = .ok (.getfield 26, 3) := by decide +kernel
theorem dX10_init_156 : decode cX10_init 156 = .ok (.iload_n 1, 1) := by decide +kernel
theorem dX10_init_157 : decode cX10_init 157 = .ok (.new 9, 3) := by decide +kernel
theorem dX10_init_160 : decode cX10_init 160 = .ok (.dup, 1) := by decide +kernel
theorem dX10_init_161 : decode cX10_init 161 = .ok (.invokespecial 11, 3) := by decide +kernel
theorem dX10_init_164 : decode cX10_init 164 = .ok (.aastore, 1) := by decide +kernel
theorem dX10_init_165 : decode cX10_init 165 = .ok (.iinc 1 1, 3) := by decide +kernel
theorem dX10_init_168 : decode cX10_init 168 = .ok (.goto (-22), 3) := by decide +kernel
theorem dX10_init_171 : decode cX10_init 171 = .ok (.aload_n 0, 1) := by decide +kernel
theorem dX10_init_172 : decode cX10_init 172 = .ok (.getfield 12, 3) := by decide +kernel
theorem dX10_init_175 : decode cX10_init 175 = .ok (.ldc2_w 90, 3) := by decide +kernel
theorem dX10_init_178 : decode cX10_init 178 = .ok (.iconst 1, 1) := by decide +kernel
theorem dX10_init_179 : decode cX10_init 179 = .ok (.invokevirtual 92, 3) := by decide +kernel
theorem dX10_init_182 : decode cX10_init 182 = .ok (.return_, 1) := by decide +kernel
theorem dX11_init_0 : decode cX11_init 0 = .ok (.aload_n 0, 1) := by decide +kernel
theorem dX11_init_1 : decode cX11_init 1 = .ok (.invokespecial 3, 3) := by decide +kernel
theorem dX11_init_4 : decode cX11_init 4 = .ok (.aload_n 0, 1) := by decide +kernel
theorem dX11_init_5 : decode cX11_init 5 = .ok (.sipush 374, 3) := by decide +kernel
theorem dX11_init_8 : decode cX11_init 8 = .ok (.newarray .int, 2) := by decide +kernel
theorem dX11_init_10 : decode cX11_init 10 = .ok (.putfield 9, 3) := by decide +kernel
theorem dX11_init_13 : decode cX11_init 13 = .ok (.aload_n 0, 1) := by decide +kernel
theorem dX11_init_14 : decode cX11_init 14 = .ok (.sipush 374, 3) := by decide +kernel
theorem dX11_init_17 : decode cX11_init 17 = .ok (.newarray .int, 2) := by decide +kernel
theorem dX11_init_19 : decode cX11_init 19 = .ok (.putfield 13, 3) := by decide +kernel
theorem dX11_init_22 : decode cX11_init 22 = .ok (.aload_n 0, 1) := by decide +kernel
theorem dX11_init_23 : decode cX11_init 23 = .ok (.sipush 374, 3) := by decide +kernel
theorem dX11_init_26 : decode cX11_init 26 = .ok (.newarray .int, 2) := by decide +kernel
theorem dX11_init_28 : decode cX11_init 28 = .ok (.putfield 16, 3) := by decide +kernel
theorem dX11_init_31 : decode cX11_init 31 = .ok (.aload_n 0, 1) := by decide +kernel
theorem dX11_init_32 : decode cX11_init 32 = .ok (.sipush 374, 3) := by decide +kernel
theorem dX11_init_35 : decode cX11_init 35 = .ok (.newarray .int, 2) := by decide +kernel
theorem dX11_init_37 : decode cX11_init 37 = .ok (.putfield 19, 3) := by decide +kernel
theorem dX11_init_40 : decode cX11_init 40 = .ok (.aload_n 0, 1) := by decide +kernel
theorem dX11_init_41 : decode cX11_init 41 = .ok (.sipush 2992, 3) := by decide +kernel
theorem dX11_init_44 : decode cX11_init 44 = .ok (.newarray .int, 2) := by decide +kernel
theorem dX11_init_46 : decode cX11_init 46 = .ok (.putfield 22, 3) := by decide +kernel
theorem dX11_init_49 : decode cX11_init 49 = .ok (.aload_n 0, 1) := by decide +kernel
theorem dX11_init_50 : decode cX11_init 50 = .ok (.bipush 24, 2) := by decide +kernel
theorem dX11_init_52 : decode cX11_init 52 = .ok (.newarray .int, 2) := by decide +kernel
theorem dX11_init_54 : decode cX11_init 54 = .ok (.putfield 25, 3) := by decide +kernel
theorem dX11_init_57 : decode cX11_init 57 = .ok (.aload_n 0, 1) := by decide +kernel
theorem dX11_init_58 : decode cX11_init 58 = .ok (.bipush 24, 2) := by decide +kernel
theorem dX11_init_60 : decode cX11_init 60 = .ok (.newarray .int, 2) := by decide +kernel
theorem dX11_init_62 : decode cX11_init 62 = .ok (.putfield 28, 3) := by decide +kernel
theorem dX11_init_65 : decode cX11_init 65 = .ok (.aload_n 0, 1) := by decide +kernel
theorem dX11_init_66 : decode cX11_init 66 = .ok (.bipush 24, 2) := by decide +kernel
theorem dX11_init_68 : decode cX11_init 68 = .ok (.newarray .int, 2) := by decide +kernel
theorem dX11_init_70 : decode cX11_init 70 = .ok (.putfield 31, 3) := by decide +kernel
theorem dX11_init_73 : decode cX11_init 73 = .ok (.aload_n 0, 1) := by decide +kernel
theorem dX11_init_74 : decode cX11_init 74 = .ok (.bipush 24, 2) := by decide +kernel
theorem dX11_init_76 : decode cX11_init 76 = .ok (.newarray .int, 2) := by decide +kernel
theorem dX11_init_78 : decode cX11_init 78 = .ok (.putfield 34, 3) := by decide +kernel
theorem dX11_init_81 : decode cX11_init 81 = .ok (.aload_n 0, 1) := by decide +kernel
theorem dX11_init_82 : decode cX11_init 82 = .ok (.bipush 24, 2) := by decide +kernel
theorem dX11_init_84 : decode cX11_init 84 = .ok (.newarray .int, 2) := by decide +kernel
theorem dX11_init_86 : decode cX11_init 86 = .ok (.putfield 37, 3) := by decide +kernel
theorem dX11_init_89 : decode cX11_init 89 = .ok (.aload_n 0, 1) := by decide +kernel
theorem dX11_init_90 : decode cX11_init 90 = .ok (.bipush 24, 2) := by decide +kernel
theorem dX11_init_92 : decode cX11_init 92 = .ok (.newarray .int, 2) := by decide +kernel
theorem dX11_init_94 : decode cX11_init 94 = .ok (.putfield 40, 3) := by decide +kernel
theorem dX11_init_97 : decode cX11_init 97 = .ok (.aload_n 0, 1) := by decide +kernel
theorem dX11_init_98 : decode cX11_init 98 = .ok (.sipush 900, 3) := by decide +kernel
theorem dX11_init_101 : decode cX11_init 101 = .ok (.newarray .int, 2) := by decide +kernel
theorem dX11_init_103 : decode cX11_init 103 = .ok (.putfield 43, 3) := by decide +kernel
theorem dX11_init_106 : decode cX11_init 106 = .ok (.aload_n 0, 1) := by decide +kernel
theorem dX11_init_107 : decode cX11_init 107 = .ok (.iconst (-1), 1) := by decide +kernel
theorem dX11_init_108 : decode cX11_init 108 = .ok (.putfield 46, 3) := by decide +kernel
theorem dX11_init_111 : decode cX11_init 111 = .ok (.aload_n 0, 1) := by decide +kernel
theorem dX11_init_112 : decode cX11_init 112 = .ok (.bipush 90, 2) := by decide +kernel
theorem dX11_init_114 : decode cX11_init 114 = .ok (.newarray .int, 2) := by decide +kernel
theorem dX11_init_116 : decode cX11_init 116 = .ok (.putfield 50, 3) := by decide +kernel
theorem dX11_init_119 : decode cX11_init 119 = .ok (.aload_n 0, 1) := by decide +kernel
theorem dX11_init_120 : decode cX11_init 120 = .ok (.bipush 24, 2) := by decide +kernel
theorem dX11_init_122 : decode cX11_init 122 = .ok (.newarray .int, 2) := by decide +kernel
theorem dX11_init_124 : decode cX11_init 124 = .ok (.putfield 53, 3) := by decide +kernel
theorem dX11_init_127 : decode cX11_init 127 = .ok (.aload_n 0, 1) := by decide +kernel
theorem dX11_init_128 : decode cX11_init 128 = .ok (.bipush 24, 2) := by decide +kernel
theorem dX11_init_130 : decode cX11_init 130 = .ok (.newarray .int, 2) := by decide +kernel
theorem dX11_init_132 : decode cX11_init 132 = .ok (.putfield 56, 3) := by decide +kernel
theorem dX11_init_135 : decode cX11_init 135 = .ok (.aload_n 0, 1) := by decide +kernel
theorem dX11_init_136 : decode cX11_init 136 = .ok (.bipush 24, 2) := by decide +kernel
theorem dX11_init_138 : decode cX11_init 138 = .ok (.newarray .int, 2) := by decide +kernel
theorem dX11_init_140 : decode cX11_init 140 = .ok (.putfield 59, 3) := by decide +kernel
theorem dX11_init_143 : decode cX11_init 143 = .ok (.aload_n 0, 1) := by decide +kernel
theorem dX11_init_144 : decode cX11_init 144 = .ok (.bipush 24, 2) := by decide +kernel
theorem dX11_init_146 : decode cX11_init 146 = .ok (.newarray .int, 2) := by decide +kernel
theorem dX11_init_148 : decode cX11_init 148 = .ok (.putfield 62, 3) := by decide +kernel
theorem dX11_init_151 : decode cX11_init 151 = .ok (.aload_n 0, 1) := by decide +kernel
theorem dX11_init_152 : decode cX11_init 152 = .ok (.sipush 600, 3) := by decide +kernel
theorem dX11_init_155 : decode cX11_init 155 = .ok (.newarray .int, 2) := by decide +kernel
theorem dX11_init_157 : decode cX11_init 157 = .ok (.putfield 65, 3) := by decide +kernel
theorem dX11_init_160 : decode cX11_init 160 = .ok (.aload_n 0, 1) := by decide +kernel
theorem dX11_init_161 : decode cX11_init 161 = .ok (.getfield 43, 3) := by decide +kernel
theorem dX11_init_164 : decode cX11_init 164 = .ok (.iconst 0, 1) := by decide +kernel
theorem dX11_init_165 : decode cX11_init 165 = .ok (.bipush 97, 2) := by decide +kernel
theorem dX11_init_167 : decode cX11_init 167 = .ok (.iastore, 1) := by decide +kernel
theorem dX11_init_168 : decode cX11_init 168 = .ok (.aload_n 0, 1) := by decide +kernel
theorem dX11_init_169 : decode cX11_init 169 = .ok (.iconst 0, 1) := by decide +kernel
theorem dX11_init_170 : decode cX11_init 170 = .ok (.iconst 1, 1) := by decide +kernel
theorem dX11_init_171 : decode cX11_init 171 = .ok (.iconst 1, 1) := by decide +kernel
theorem dX11_init_172 : decode cX11_init 172 = .ok (.invokevirtual 68, 3) := by decide +kernel
theorem dX11_init_175 : decode cX11_init 175 = .ok (.pop, 1) := by decide +kernel
theorem dX11_init_176 : decode cX11_init 176 = .ok (.return_, 1) := by decide +kernel
theorem IX10_11 : gLi RX10 11 yX2_init cX2_init := ⟨gT1 39 rfl rfl, by decide, gT1 38 rfl rfl, gT1 2 rfl rfl, by decide, by decide, by decide +kernel, rfl⟩
theorem IX10_36 : gLi RX10 36 yX5_init cX5_init := ⟨gT1 143 rfl rfl, by decide, gT1 142 rfl rfl, gT1 3 rfl rfl, by decide, by decide, by decide +kernel, rfl⟩
theorem IX10_43 : gLi RX10 43 yX4_init cX4_init := ⟨gT1 174 rfl rfl, by decide, gT1 173 rfl rfl, gT1 4 rfl rfl, by decide, by decide, by decide +kernel, rfl⟩
theorem IX10_50 : gLi RX10 50 yX1_init cX1_init := ⟨gT1 189 rfl rfl, by decide, gT1 188 rfl rfl, gT1 5 rfl rfl, by decide, by decide, by decide +kernel, rfl⟩
theorem IX10_57 : gLi RX10 57 yX3_init cX3_init := ⟨gT1 202 rfl rfl, by decide, gT1 201 rfl rfl, gT1 6 rfl rfl, by decide, by decide, by decide +kernel, rfl⟩
theorem IX10_64 : gLi RX10 64 yX6_init cX6_init := ⟨gT1 221 rfl rfl, by decide, gT1 220 rfl rfl, gT1 7 rfl rfl, by decide, by decide, by decide +kernel, rfl⟩
theorem IX6_11 : gLi RX6 11 yX7_init cX7_init := ⟨gT1 227 rfl rfl, by decide, gT1 226 rfl rfl, gT1 8 rfl rfl, by decide, by decide, by decide +kernel, rfl⟩
theorem IX10_71 : gLi RX10 71 yX8_init cX8_init := ⟨gT2 32 rfl rfl, by decide, gT2 31 rfl rfl, gT1 9 rfl rfl, by decide, by decide, by decide +kernel, rfl⟩
theorem IX8_11 : gLi RX8 11 yX7_init cX7_init := ⟨gT1 227 rfl rfl, by decide, gT1 226 rfl rfl, gT1 8 rfl rfl, by decide, by decide, by decide +kernel, rfl⟩
theorem IX10_78 : gLi RX10 78 yX0_init cX0_init := ⟨gT2 54 rfl rfl, by decide, gT2 53 rfl rfl, gT1 10 rfl rfl, by decide, by decide, by decide +kernel, rfl⟩
theorem IX10_85 : gLi RX10 85 yX9_init cX9_init := ⟨gT2 80 rfl rfl, by decide, gT2 79 rfl rfl, gT1 11 rfl rfl, by decide, by decide, by decide +kernel, rfl⟩
abbrev rIX7 : Room := { frames := 1, cells := 1, slots := 24, locals := 12 }
abbrev frX7 : List (Nat × Nat) := [(2, 0), (0, 0)]
def tlX7 (n : Nat) : List gShp := [.inr (7, [(3, n + 1), (0, 0)]), .inl (0, 24)]
def mfX7 : Nat → gMem → gMem := fun _ M => M
theorem tX7 : gTl tlX7 mfX7 := fun L M => ⟨Nat.le_of_ble_eq_true rfl, fun sh hs => by
  unfold tlX7 at hs ⊢
  simp only [List.mem_cons, List.not_mem_nil, or_false] at hs
  rcases hs with rfl | rfl
  all_goals first | rfl | (simp [gSq]; done) | (simp [gSq]; omega)
  , fun h => gZe_up (Nat.le_add_right _ _) h, rfl⟩
theorem nX7 (l : Launch) : gN l yX7_init cX7_init rIX7 (.inr (7, frX7)) tlX7 mfX7 := gN.of (by decide) rfl rfl (fun X V Sh M ad e z O hin => by
  refine k_super wOX7 wOi wOc ⟨Nat.le_of_ble_eq_true rfl, Nat.le_of_ble_eq_true rfl⟩ dX7_init_0 dX7_init_1 ?_
  refine k_arr (T' := .inr (7, [(3, Sh.length + 1), (0, 0)]) :: [.inl (0, 24)]) (x := 24) rfl rfl (Or.inl ⟨rfl, rfl⟩) (by decide) rfl (by decide) FX7_9 jX7 rfl rfl hin rfl (fun _ => rfl) (fun _ => rfl) ⟨Nat.le_of_ble_eq_true rfl, Nat.le_of_ble_eq_true rfl⟩ dX7_init_4 (Or.inl ⟨dX7_init_5, rfl, rfl⟩) dX7_init_7 dX7_init_9 ?_
  refine k_int rfl (i := 0) (x := 0) rfl FX7_15 jX7 rfl rfl rfl rfl (gI_z (z _)) dX7_init_12 dX7_init_13 dX7_init_14 ?_
  exact k_ret O ⟨Nat.le_of_ble_eq_true rfl, Nat.le_of_ble_eq_true rfl⟩ dX7_init_17)
abbrev rIX2 : Room := { frames := 1, cells := 9, slots := 273, locals := 12 }
abbrev frX2 : List (Nat × Nat) := [(2, 0), (2, 0), (2, 0), (2, 0), (2, 0), (2, 0), (2, 0), (2, 0), (2, 0), (0, 0), (0, 0), (0, 0), (0, 0), (0, 0)]
def tlX2 (n : Nat) : List gShp := [.inr (2, [(3, n + 1), (3, n + 2), (3, n + 3), (3, n + 4), (3, n + 5), (3, n + 6), (3, n + 7), (3, n + 8), (3, n + 9), (0, 0), (0, 0), (0, 0), (0, 0), (0, 0)]), .inl (1, 24), .inl (0, 24), .inl (0, 60), .inl (0, 60), .inl (0, 24), .inl (0, 24), .inl (0, 24), .inl (0, 24), .inl (1, 9)]
def mfX2 : Nat → gMem → gMem := fun _ M => M
theorem tX2 : gTl tlX2 mfX2 := fun L M => ⟨Nat.le_of_ble_eq_true rfl, fun sh hs => by
  unfold tlX2 at hs ⊢
  simp only [List.mem_cons, List.not_mem_nil, or_false] at hs
  rcases hs with rfl | rfl | rfl | rfl | rfl | rfl | rfl | rfl | rfl | rfl
  all_goals first | rfl | (simp [gSq]; done) | (simp [gSq]; omega)
  , fun h => gZe_up (Nat.le_add_right _ _) h, rfl⟩
theorem nX2 (l : Launch) : gN l yX2_init cX2_init rIX2 (.inr (2, frX2)) tlX2 mfX2 := gN.of (by decide) rfl rfl (fun X V Sh M ad e z O hin => by
  refine k_super wOX2 wOi wOc ⟨Nat.le_of_ble_eq_true rfl, Nat.le_of_ble_eq_true rfl⟩ dX2_init_0 dX2_init_1 ?_
  refine k_arr (T' := .inr (2, [(3, Sh.length + 1), (2, 0), (2, 0), (2, 0), (2, 0), (2, 0), (2, 0), (2, 0), (2, 0), (0, 0), (0, 0), (0, 0), (0, 0), (0, 0)]) :: [.inl (1, 24)]) (x := 24) rfl rfl (Or.inr (Or.inl ⟨rfl, rfl⟩)) (by decide) rfl (by decide) FX2_9 jX2 rfl rfl hin rfl (fun _ => rfl) (fun _ => rfl) ⟨Nat.le_of_ble_eq_true rfl, Nat.le_of_ble_eq_true rfl⟩ dX2_init_4 (Or.inl ⟨dX2_init_5, rfl, rfl⟩) dX2_init_7 dX2_init_9 ?_
  refine k_arr (T' := .inr (2, [(3, Sh.length + 1), (3, Sh.length + 2), (2, 0), (2, 0), (2, 0), (2, 0), (2, 0), (2, 0), (2, 0), (0, 0), (0, 0), (0, 0), (0, 0), (0, 0)]) :: [.inl (1, 24), .inl (0, 24)]) (x := 24) rfl rfl (Or.inl ⟨rfl, rfl⟩) (by decide) rfl (by decide) FX2_15 jX2 rfl rfl hin rfl (fun _ => rfl) (fun _ => rfl) ⟨Nat.le_of_ble_eq_true rfl, Nat.le_of_ble_eq_true rfl⟩ dX2_init_12 (Or.inl ⟨dX2_init_13, rfl, rfl⟩) dX2_init_15 dX2_init_17 ?_
  refine k_arr (T' := .inr (2, [(3, Sh.length + 1), (3, Sh.length + 2), (3, Sh.length + 3), (2, 0), (2, 0), (2, 0), (2, 0), (2, 0), (2, 0), (0, 0), (0, 0), (0, 0), (0, 0), (0, 0)]) :: [.inl (1, 24), .inl (0, 24), .inl (0, 60)]) (x := 60) rfl rfl (Or.inl ⟨rfl, rfl⟩) (by decide) rfl (by decide) FX2_19 jX2 rfl rfl hin rfl (fun _ => rfl) (fun _ => rfl) ⟨Nat.le_of_ble_eq_true rfl, Nat.le_of_ble_eq_true rfl⟩ dX2_init_20 (Or.inl ⟨dX2_init_21, rfl, rfl⟩) dX2_init_23 dX2_init_25 ?_
  refine k_arr (T' := .inr (2, [(3, Sh.length + 1), (3, Sh.length + 2), (3, Sh.length + 3), (3, Sh.length + 4), (2, 0), (2, 0), (2, 0), (2, 0), (2, 0), (0, 0), (0, 0), (0, 0), (0, 0), (0, 0)]) :: [.inl (1, 24), .inl (0, 24), .inl (0, 60), .inl (0, 60)]) (x := 60) rfl rfl (Or.inl ⟨rfl, rfl⟩) (by decide) rfl (by decide) FX2_22 jX2 rfl rfl hin rfl (fun _ => rfl) (fun _ => rfl) ⟨Nat.le_of_ble_eq_true rfl, Nat.le_of_ble_eq_true rfl⟩ dX2_init_28 (Or.inl ⟨dX2_init_29, rfl, rfl⟩) dX2_init_31 dX2_init_33 ?_
  refine k_arr (T' := .inr (2, [(3, Sh.length + 1), (3, Sh.length + 2), (3, Sh.length + 3), (3, Sh.length + 4), (3, Sh.length + 5), (2, 0), (2, 0), (2, 0), (2, 0), (0, 0), (0, 0), (0, 0), (0, 0), (0, 0)]) :: [.inl (1, 24), .inl (0, 24), .inl (0, 60), .inl (0, 60), .inl (0, 24)]) (x := 24) rfl rfl (Or.inl ⟨rfl, rfl⟩) (by decide) rfl (by decide) FX2_25 jX2 rfl rfl hin rfl (fun _ => rfl) (fun _ => rfl) ⟨Nat.le_of_ble_eq_true rfl, Nat.le_of_ble_eq_true rfl⟩ dX2_init_36 (Or.inl ⟨dX2_init_37, rfl, rfl⟩) dX2_init_39 dX2_init_41 ?_
  refine k_arr (T' := .inr (2, [(3, Sh.length + 1), (3, Sh.length + 2), (3, Sh.length + 3), (3, Sh.length + 4), (3, Sh.length + 5), (3, Sh.length + 6), (2, 0), (2, 0), (2, 0), (0, 0), (0, 0), (0, 0), (0, 0), (0, 0)]) :: [.inl (1, 24), .inl (0, 24), .inl (0, 60), .inl (0, 60), .inl (0, 24), .inl (0, 24)]) (x := 24) rfl rfl (Or.inl ⟨rfl, rfl⟩) (by decide) rfl (by decide) FX2_28 jX2 rfl rfl hin rfl (fun _ => rfl) (fun _ => rfl) ⟨Nat.le_of_ble_eq_true rfl, Nat.le_of_ble_eq_true rfl⟩ dX2_init_44 (Or.inl ⟨dX2_init_45, rfl, rfl⟩) dX2_init_47 dX2_init_49 ?_
  refine k_arr (T' := .inr (2, [(3, Sh.length + 1), (3, Sh.length + 2), (3, Sh.length + 3), (3, Sh.length + 4), (3, Sh.length + 5), (3, Sh.length + 6), (3, Sh.length + 7), (2, 0), (2, 0), (0, 0), (0, 0), (0, 0), (0, 0), (0, 0)]) :: [.inl (1, 24), .inl (0, 24), .inl (0, 60), .inl (0, 60), .inl (0, 24), .inl (0, 24), .inl (0, 24)]) (x := 24) rfl rfl (Or.inl ⟨rfl, rfl⟩) (by decide) rfl (by decide) FX2_31 jX2 rfl rfl hin rfl (fun _ => rfl) (fun _ => rfl) ⟨Nat.le_of_ble_eq_true rfl, Nat.le_of_ble_eq_true rfl⟩ dX2_init_52 (Or.inl ⟨dX2_init_53, rfl, rfl⟩) dX2_init_55 dX2_init_57 ?_
  refine k_arr (T' := .inr (2, [(3, Sh.length + 1), (3, Sh.length + 2), (3, Sh.length + 3), (3, Sh.length + 4), (3, Sh.length + 5), (3, Sh.length + 6), (3, Sh.length + 7), (3, Sh.length + 8), (2, 0), (0, 0), (0, 0), (0, 0), (0, 0), (0, 0)]) :: [.inl (1, 24), .inl (0, 24), .inl (0, 60), .inl (0, 60), .inl (0, 24), .inl (0, 24), .inl (0, 24), .inl (0, 24)]) (x := 24) rfl rfl (Or.inl ⟨rfl, rfl⟩) (by decide) rfl (by decide) FX2_34 jX2 rfl rfl hin rfl (fun _ => rfl) (fun _ => rfl) ⟨Nat.le_of_ble_eq_true rfl, Nat.le_of_ble_eq_true rfl⟩ dX2_init_60 (Or.inl ⟨dX2_init_61, rfl, rfl⟩) dX2_init_63 dX2_init_65 ?_
  refine k_arr (T' := .inr (2, [(3, Sh.length + 1), (3, Sh.length + 2), (3, Sh.length + 3), (3, Sh.length + 4), (3, Sh.length + 5), (3, Sh.length + 6), (3, Sh.length + 7), (3, Sh.length + 8), (3, Sh.length + 9), (0, 0), (0, 0), (0, 0), (0, 0), (0, 0)]) :: [.inl (1, 24), .inl (0, 24), .inl (0, 60), .inl (0, 60), .inl (0, 24), .inl (0, 24), .inl (0, 24), .inl (0, 24), .inl (1, 9)]) (x := 9) rfl rfl (Or.inr (Or.inl ⟨rfl, rfl⟩)) (by decide) rfl (by decide) FX2_37 jX2 rfl rfl hin rfl (fun _ => rfl) (fun _ => rfl) ⟨Nat.le_of_ble_eq_true rfl, Nat.le_of_ble_eq_true rfl⟩ dX2_init_68 (Or.inl ⟨dX2_init_69, rfl, rfl⟩) dX2_init_71 dX2_init_73 ?_
  refine k_int rfl (i := 0) (x := 0) rfl FX2_40 jX2 rfl rfl rfl rfl (gI_z (z _)) dX2_init_76 dX2_init_77 dX2_init_78 ?_
  refine k_int rfl (i := 0) (x := 0) rfl FX2_44 jX2 rfl rfl rfl rfl (gI_z (z _)) dX2_init_81 dX2_init_82 dX2_init_83 ?_
  refine k_int rfl (i := 0) (x := 0) rfl FX2_47 jX2 rfl rfl rfl rfl (gI_z (z _)) dX2_init_86 dX2_init_87 dX2_init_88 ?_
  refine k_int rfl (i := 0) (x := 0) rfl FX2_50 jX2 rfl rfl rfl rfl (gI_z (z _)) dX2_init_91 dX2_init_92 dX2_init_93 ?_
  refine k_int rfl (i := 0) (x := 0) rfl FX2_53 jX2 rfl rfl rfl rfl (gI_z (z _)) dX2_init_96 dX2_init_97 dX2_init_98 ?_
  exact k_ret O ⟨Nat.le_of_ble_eq_true rfl, Nat.le_of_ble_eq_true rfl⟩ dX2_init_101)
abbrev rIX5 : Room := { frames := 1, cells := 1, slots := 900, locals := 12 }
abbrev frX5 : List (Nat × Nat) := [(2, 0), (0, 0), (0, 0), (0, 0), (0, 0), (0, 0)]
def tlX5 (n : Nat) : List gShp := [.inr (5, [(3, n + 1), (0, 0), (0, 0), (0, 0), (0, 0), (0, 0)]), .inl (2, 900)]
def mfX5 : Nat → gMem → gMem := fun n M => gI M n 5 (-1)
theorem tX5 : gTl tlX5 mfX5 := fun L M => ⟨Nat.le_of_ble_eq_true rfl, fun sh hs => by
  unfold tlX5 at hs ⊢
  simp only [List.mem_cons, List.not_mem_nil, or_false] at hs
  rcases hs with rfl | rfl
  all_goals first | rfl | (simp [gSq]; done) | (simp [gSq]; omega)
  , fun h c hc => by
    have hc : L + 2 ≤ c := hc
    refine ⟨fun k => ?_, (h c (by omega)).2⟩
    show (if c = L then _ else M.1 c) k = 0
    rw [if_neg (by omega)]; exact (h c (by omega)).1 k
  , rfl⟩
theorem nX5 (l : Launch) : gN l yX5_init cX5_init rIX5 (.inr (5, frX5)) tlX5 mfX5 := gN.of (by decide) rfl rfl (fun X V Sh M ad e z O hin => by
  refine k_super wOX5 wOi wOc ⟨Nat.le_of_ble_eq_true rfl, Nat.le_of_ble_eq_true rfl⟩ dX5_init_0 dX5_init_1 ?_
  refine k_arr (T' := .inr (5, [(3, Sh.length + 1), (0, 0), (0, 0), (0, 0), (0, 0), (0, 0)]) :: [.inl (2, 900)]) (x := 900) rfl rfl (Or.inr (Or.inr ⟨rfl, rfl⟩)) (by decide) rfl (by decide) FX5_9 jX5 rfl rfl hin rfl (fun _ => rfl) (fun _ => rfl) ⟨Nat.le_of_ble_eq_true rfl, Nat.le_of_ble_eq_true rfl⟩ dX5_init_4 (Or.inr ⟨dX5_init_5, rfl, rfl⟩) dX5_init_8 dX5_init_10 ?_
  refine k_int rfl (i := 0) (x := 0) rfl FX5_15 jX5 rfl rfl rfl rfl (gI_z (z _)) dX5_init_13 dX5_init_14 dX5_init_15 ?_
  refine k_int rfl (i := 0) (x := 0) rfl FX5_19 jX5 rfl rfl rfl rfl (gI_z (z _)) dX5_init_18 dX5_init_19 dX5_init_20 ?_
  refine k_int rfl (i := 0) (x := 0) rfl FX5_22 jX5 rfl rfl rfl rfl (gI_z (z _)) dX5_init_23 dX5_init_24 dX5_init_25 ?_
  refine k_int rfl (i := 0) (x := 0) rfl FX5_25 jX5 rfl rfl rfl rfl (gI_z (z _)) dX5_init_28 dX5_init_29 dX5_init_30 ?_
  refine k_int rfl (i := -1) (x := -1) rfl FX5_28 jX5 rfl rfl rfl rfl rfl dX5_init_33 dX5_init_34 dX5_init_35 ?_
  exact k_ret O ⟨Nat.le_of_ble_eq_true rfl, Nat.le_of_ble_eq_true rfl⟩ dX5_init_38)
abbrev rIX4 : Room := { frames := 1, cells := 1, slots := 256, locals := 12 }
abbrev frX4 : List (Nat × Nat) := [(2, 0), (0, 0)]
def tlX4 (n : Nat) : List gShp := [.inr (4, [(3, n + 1), (0, 0)]), .inl (2, 256)]
def mfX4 : Nat → gMem → gMem := fun _ M => M
theorem tX4 : gTl tlX4 mfX4 := fun L M => ⟨Nat.le_of_ble_eq_true rfl, fun sh hs => by
  unfold tlX4 at hs ⊢
  simp only [List.mem_cons, List.not_mem_nil, or_false] at hs
  rcases hs with rfl | rfl
  all_goals first | rfl | (simp [gSq]; done) | (simp [gSq]; omega)
  , fun h => gZe_up (Nat.le_add_right _ _) h, rfl⟩
theorem nX4 (l : Launch) : gN l yX4_init cX4_init rIX4 (.inr (4, frX4)) tlX4 mfX4 := gN.of (by decide) rfl rfl (fun X V Sh M ad e z O hin => by
  refine k_super wOX4 wOi wOc ⟨Nat.le_of_ble_eq_true rfl, Nat.le_of_ble_eq_true rfl⟩ dX4_init_0 dX4_init_1 ?_
  refine k_arr (T' := .inr (4, [(3, Sh.length + 1), (0, 0)]) :: [.inl (2, 256)]) (x := 256) rfl rfl (Or.inr (Or.inr ⟨rfl, rfl⟩)) (by decide) rfl (by decide) FX4_9 jX4 rfl rfl hin rfl (fun _ => rfl) (fun _ => rfl) ⟨Nat.le_of_ble_eq_true rfl, Nat.le_of_ble_eq_true rfl⟩ dX4_init_4 (Or.inr ⟨dX4_init_5, rfl, rfl⟩) dX4_init_8 dX4_init_10 ?_
  refine k_int rfl (i := 0) (x := 0) rfl FX4_15 jX4 rfl rfl rfl rfl (gI_z (z _)) dX4_init_13 dX4_init_14 dX4_init_15 ?_
  exact k_ret O ⟨Nat.le_of_ble_eq_true rfl, Nat.le_of_ble_eq_true rfl⟩ dX4_init_18)
abbrev rIX1 : Room := { frames := 1, cells := 0, slots := 0, locals := 12 }
abbrev frX1 : List (Nat × Nat) := [(0, 0), (0, 0)]
def tlX1 (n : Nat) : List gShp := [.inr (1, [(0, 0), (0, 0)])]
def mfX1 : Nat → gMem → gMem := fun _ M => M
theorem tX1 : gTl tlX1 mfX1 := fun L M => ⟨Nat.le_of_ble_eq_true rfl, fun sh hs => by
  unfold tlX1 at hs ⊢
  simp only [List.mem_cons, List.not_mem_nil, or_false] at hs
  subst hs
  all_goals first | rfl | (simp [gSq]; done) | (simp [gSq]; omega)
  , fun h => gZe_up (Nat.le_add_right _ _) h, rfl⟩
theorem nX1 (l : Launch) : gN l yX1_init cX1_init rIX1 (.inr (1, frX1)) tlX1 mfX1 := gN.of (by decide) rfl rfl (fun X V Sh M ad e z O hin => by
  refine k_super wOX1 wOi wOc ⟨Nat.le_of_ble_eq_true rfl, Nat.le_of_ble_eq_true rfl⟩ dX1_init_0 dX1_init_1 ?_
  refine k_int rfl (i := 0) (x := 0) rfl FX1_9 jX1 rfl rfl rfl rfl (gI_z (z _)) dX1_init_4 dX1_init_5 dX1_init_6 ?_
  refine k_int rfl (i := 0) (x := 0) rfl FX1_15 jX1 rfl rfl rfl rfl (gI_z (z _)) dX1_init_9 dX1_init_10 dX1_init_11 ?_
  exact k_ret O ⟨Nat.le_of_ble_eq_true rfl, Nat.le_of_ble_eq_true rfl⟩ dX1_init_14)
abbrev rIX3 : Room := { frames := 1, cells := 3, slots := 90, locals := 12 }
abbrev frX3 : List (Nat × Nat) := [(2, 0), (2, 0), (2, 0), (0, 0)]
def tlX3 (n : Nat) : List gShp := [.inr (3, [(3, n + 1), (3, n + 2), (3, n + 3), (0, 0)]), .inl (0, 30), .inl (0, 30), .inl (0, 30)]
def mfX3 : Nat → gMem → gMem := fun _ M => M
theorem tX3 : gTl tlX3 mfX3 := fun L M => ⟨Nat.le_of_ble_eq_true rfl, fun sh hs => by
  unfold tlX3 at hs ⊢
  simp only [List.mem_cons, List.not_mem_nil, or_false] at hs
  rcases hs with rfl | rfl | rfl | rfl
  all_goals first | rfl | (simp [gSq]; done) | (simp [gSq]; omega)
  , fun h => gZe_up (Nat.le_add_right _ _) h, rfl⟩
theorem nX3 (l : Launch) : gN l yX3_init cX3_init rIX3 (.inr (3, frX3)) tlX3 mfX3 := gN.of (by decide) rfl rfl (fun X V Sh M ad e z O hin => by
  refine k_super wOX3 wOi wOc ⟨Nat.le_of_ble_eq_true rfl, Nat.le_of_ble_eq_true rfl⟩ dX3_init_0 dX3_init_1 ?_
  refine k_arr (T' := .inr (3, [(3, Sh.length + 1), (2, 0), (2, 0), (0, 0)]) :: [.inl (0, 30)]) (x := 30) rfl rfl (Or.inl ⟨rfl, rfl⟩) (by decide) rfl (by decide) FX3_9 jX3 rfl rfl hin rfl (fun _ => rfl) (fun _ => rfl) ⟨Nat.le_of_ble_eq_true rfl, Nat.le_of_ble_eq_true rfl⟩ dX3_init_4 (Or.inl ⟨dX3_init_5, rfl, rfl⟩) dX3_init_7 dX3_init_9 ?_
  refine k_arr (T' := .inr (3, [(3, Sh.length + 1), (3, Sh.length + 2), (2, 0), (0, 0)]) :: [.inl (0, 30), .inl (0, 30)]) (x := 30) rfl rfl (Or.inl ⟨rfl, rfl⟩) (by decide) rfl (by decide) FX3_15 jX3 rfl rfl hin rfl (fun _ => rfl) (fun _ => rfl) ⟨Nat.le_of_ble_eq_true rfl, Nat.le_of_ble_eq_true rfl⟩ dX3_init_12 (Or.inl ⟨dX3_init_13, rfl, rfl⟩) dX3_init_15 dX3_init_17 ?_
  refine k_arr (T' := .inr (3, [(3, Sh.length + 1), (3, Sh.length + 2), (3, Sh.length + 3), (0, 0)]) :: [.inl (0, 30), .inl (0, 30), .inl (0, 30)]) (x := 30) rfl rfl (Or.inl ⟨rfl, rfl⟩) (by decide) rfl (by decide) FX3_18 jX3 rfl rfl hin rfl (fun _ => rfl) (fun _ => rfl) ⟨Nat.le_of_ble_eq_true rfl, Nat.le_of_ble_eq_true rfl⟩ dX3_init_20 (Or.inl ⟨dX3_init_21, rfl, rfl⟩) dX3_init_23 dX3_init_25 ?_
  refine k_int rfl (i := 0) (x := 0) rfl FX3_21 jX3 rfl rfl rfl rfl (gI_z (z _)) dX3_init_28 dX3_init_29 dX3_init_30 ?_
  exact k_ret O ⟨Nat.le_of_ble_eq_true rfl, Nat.le_of_ble_eq_true rfl⟩ dX3_init_33)
abbrev rIX6 : Room := { frames := 2, cells := 2, slots := 26, locals := 32 }
abbrev frX6 : List (Nat × Nat) := [(2, 0), (0, 0), (0, 0), (0, 0), (0, 0), (0, 0), (0, 0)]
def tlX6 (n : Nat) : List gShp := [.inr (6, [(3, n + 1), (0, 0), (0, 0), (0, 0), (0, 0), (0, 0), (0, 0)]), .inr (7, [(3, n + 2), (0, 0)]), .inl (0, 24)]
def mfX6 : Nat → gMem → gMem := fun n M => gI M n 2 (-1)
theorem tX6 : gTl tlX6 mfX6 := fun L M => ⟨Nat.le_of_ble_eq_true rfl, fun sh hs => by
  unfold tlX6 at hs ⊢
  simp only [List.mem_cons, List.not_mem_nil, or_false] at hs
  rcases hs with rfl | rfl | rfl
  all_goals first | rfl | (simp [gSq]; done) | (simp [gSq]; omega)
  , fun h c hc => by
    have hc : L + 3 ≤ c := hc
    refine ⟨fun k => ?_, (h c (by omega)).2⟩
    show (if c = L then _ else M.1 c) k = 0
    rw [if_neg (by omega)]; exact (h c (by omega)).1 k
  , rfl⟩
theorem nX6 (l : Launch) : gN l yX6_init cX6_init rIX6 (.inr (6, frX6)) tlX6 mfX6 := gN.of (by decide) rfl rfl (fun X V Sh M ad e z O hin => by
  refine k_super wOX6 wOi wOc ⟨Nat.le_of_ble_eq_true rfl, Nat.le_of_ble_eq_true rfl⟩ dX6_init_0 dX6_init_1 ?_
  refine k_obj (T' := .inr (6, [(3, Sh.length + 1), (0, 0), (0, 0), (0, 0), (0, 0), (0, 0), (0, 0)]) :: [.inr (7, [(3, Sh.length + 2), (0, 0)]), .inl (0, 24)]) rfl rfl rfl (nX7 _) tX7 IX6_11 rfl iX7 jX7 wCX6_9 wNX7 wIX7 rfl (by decide +kernel) rfl FX6_12 jX6 rfl rfl hin rfl (fun _ => rfl) (fun _ => rfl) ⟨Nat.le_of_ble_eq_true rfl, Nat.le_of_ble_eq_true rfl⟩ ⟨Nat.le_of_ble_eq_true rfl, Nat.le_of_ble_eq_true rfl⟩ dX6_init_4 dX6_init_5 dX6_init_8 dX6_init_9 dX6_init_12 ?_
  refine k_int rfl (i := 0) (x := 0) rfl FX6_18 jX6 rfl rfl rfl rfl (gI_z (z _)) dX6_init_15 dX6_init_16 dX6_init_17 ?_
  refine k_int rfl (i := -1) (x := -1) rfl FX6_22 jX6 rfl rfl rfl rfl rfl dX6_init_20 dX6_init_21 dX6_init_22 ?_
  refine k_int rfl (i := 0) (x := 0) rfl FX6_25 jX6 rfl rfl rfl rfl (gI_z ((gI_at (by decide)).trans (z _))) dX6_init_25 dX6_init_26 dX6_init_27 ?_
  refine k_int rfl (i := 0) (x := 0) rfl FX6_28 jX6 rfl rfl rfl rfl (gI_z ((gI_at (by decide)).trans (z _))) dX6_init_30 dX6_init_31 dX6_init_32 ?_
  refine k_int rfl (i := 0) (x := 0) rfl FX6_31 jX6 rfl rfl rfl rfl (gI_z ((gI_at (by decide)).trans (z _))) dX6_init_35 dX6_init_36 dX6_init_37 ?_
  refine k_int rfl (i := 0) (x := 0) rfl FX6_34 jX6 rfl rfl rfl rfl (gI_z ((gI_at (by decide)).trans (z _))) dX6_init_40 dX6_init_41 dX6_init_42 ?_
  exact k_ret O ⟨Nat.le_of_ble_eq_true rfl, Nat.le_of_ble_eq_true rfl⟩ dX6_init_45)
abbrev rIX8 : Room := { frames := 2, cells := 5, slots := 98, locals := 32 }
abbrev frX8 : List (Nat × Nat) := [(2, 0), (2, 0), (2, 0), (2, 0)]
def tlX8 (n : Nat) : List gShp := [.inr (8, [(3, n + 1), (3, n + 3), (3, n + 4), (3, n + 5)]), .inr (7, [(3, n + 2), (0, 0)]), .inl (0, 24), .inl (0, 24), .inl (0, 24), .inl (0, 24)]
def mfX8 : Nat → gMem → gMem := fun _ M => M
theorem tX8 : gTl tlX8 mfX8 := fun L M => ⟨Nat.le_of_ble_eq_true rfl, fun sh hs => by
  unfold tlX8 at hs ⊢
  simp only [List.mem_cons, List.not_mem_nil, or_false] at hs
  rcases hs with rfl | rfl | rfl | rfl | rfl | rfl
  all_goals first | rfl | (simp [gSq]; done) | (simp [gSq]; omega)
  , fun h => gZe_up (Nat.le_add_right _ _) h, rfl⟩
theorem nX8 (l : Launch) : gN l yX8_init cX8_init rIX8 (.inr (8, frX8)) tlX8 mfX8 := gN.of (by decide) rfl rfl (fun X V Sh M ad e z O hin => by
  refine k_super wOX8 wOi wOc ⟨Nat.le_of_ble_eq_true rfl, Nat.le_of_ble_eq_true rfl⟩ dX8_init_0 dX8_init_1 ?_
  refine k_obj (T' := .inr (8, [(3, Sh.length + 1), (2, 0), (2, 0), (2, 0)]) :: [.inr (7, [(3, Sh.length + 2), (0, 0)]), .inl (0, 24)]) rfl rfl rfl (nX7 _) tX7 IX8_11 rfl iX7 jX7 wCX8_9 wNX7 wIX7 rfl (by decide +kernel) rfl FX8_12 jX8 rfl rfl hin rfl (fun _ => rfl) (fun _ => rfl) ⟨Nat.le_of_ble_eq_true rfl, Nat.le_of_ble_eq_true rfl⟩ ⟨Nat.le_of_ble_eq_true rfl, Nat.le_of_ble_eq_true rfl⟩ dX8_init_4 dX8_init_5 dX8_init_8 dX8_init_9 dX8_init_12 ?_
  refine k_arr (T' := .inr (8, [(3, Sh.length + 1), (3, Sh.length + 3), (2, 0), (2, 0)]) :: [.inr (7, [(3, Sh.length + 2), (0, 0)]), .inl (0, 24), .inl (0, 24)]) (x := 24) rfl rfl (Or.inl ⟨rfl, rfl⟩) (by decide) rfl (by decide) FX8_18 jX8 rfl rfl hin rfl (fun _ => rfl) (fun _ => rfl) ⟨Nat.le_of_ble_eq_true rfl, Nat.le_of_ble_eq_true rfl⟩ dX8_init_15 (Or.inl ⟨dX8_init_16, rfl, rfl⟩) dX8_init_18 dX8_init_20 ?_
  refine k_arr (T' := .inr (8, [(3, Sh.length + 1), (3, Sh.length + 3), (3, Sh.length + 4), (2, 0)]) :: [.inr (7, [(3, Sh.length + 2), (0, 0)]), .inl (0, 24), .inl (0, 24), .inl (0, 24)]) (x := 24) rfl rfl (Or.inl ⟨rfl, rfl⟩) (by decide) rfl (by decide) FX8_22 jX8 rfl rfl hin rfl (fun _ => rfl) (fun _ => rfl) ⟨Nat.le_of_ble_eq_true rfl, Nat.le_of_ble_eq_true rfl⟩ dX8_init_23 (Or.inl ⟨dX8_init_24, rfl, rfl⟩) dX8_init_26 dX8_init_28 ?_
  refine k_arr (T' := .inr (8, [(3, Sh.length + 1), (3, Sh.length + 3), (3, Sh.length + 4), (3, Sh.length + 5)]) :: [.inr (7, [(3, Sh.length + 2), (0, 0)]), .inl (0, 24), .inl (0, 24), .inl (0, 24), .inl (0, 24)]) (x := 24) rfl rfl (Or.inl ⟨rfl, rfl⟩) (by decide) rfl (by decide) FX8_25 jX8 rfl rfl hin rfl (fun _ => rfl) (fun _ => rfl) ⟨Nat.le_of_ble_eq_true rfl, Nat.le_of_ble_eq_true rfl⟩ dX8_init_31 (Or.inl ⟨dX8_init_32, rfl, rfl⟩) dX8_init_34 dX8_init_36 ?_
  exact k_ret O ⟨Nat.le_of_ble_eq_true rfl, Nat.le_of_ble_eq_true rfl⟩ dX8_init_39)
abbrev rIX0 : Room := { frames := 1, cells := 4, slots := 96, locals := 12 }
abbrev frX0 : List (Nat × Nat) := [(2, 0), (2, 0), (2, 0), (2, 0), (0, 0)]
def tlX0 (n : Nat) : List gShp := [.inr (0, [(3, n + 1), (3, n + 2), (3, n + 3), (3, n + 4), (0, 0)]), .inl (0, 24), .inl (0, 24), .inl (0, 24), .inl (0, 24)]
def mfX0 : Nat → gMem → gMem := fun _ M => M
theorem tX0 : gTl tlX0 mfX0 := fun L M => ⟨Nat.le_of_ble_eq_true rfl, fun sh hs => by
  unfold tlX0 at hs ⊢
  simp only [List.mem_cons, List.not_mem_nil, or_false] at hs
  rcases hs with rfl | rfl | rfl | rfl | rfl
  all_goals first | rfl | (simp [gSq]; done) | (simp [gSq]; omega)
  , fun h => gZe_up (Nat.le_add_right _ _) h, rfl⟩
theorem nX0 (l : Launch) : gN l yX0_init cX0_init rIX0 (.inr (0, frX0)) tlX0 mfX0 := gN.of (by decide) rfl rfl (fun X V Sh M ad e z O hin => by
  refine k_super wOX0 wOi wOc ⟨Nat.le_of_ble_eq_true rfl, Nat.le_of_ble_eq_true rfl⟩ dX0_init_0 dX0_init_1 ?_
  refine k_arr (T' := .inr (0, [(3, Sh.length + 1), (2, 0), (2, 0), (2, 0), (0, 0)]) :: [.inl (0, 24)]) (x := 24) rfl rfl (Or.inl ⟨rfl, rfl⟩) (by decide) rfl (by decide) FX0_9 jX0 rfl rfl hin rfl (fun _ => rfl) (fun _ => rfl) ⟨Nat.le_of_ble_eq_true rfl, Nat.le_of_ble_eq_true rfl⟩ dX0_init_4 (Or.inl ⟨dX0_init_5, rfl, rfl⟩) dX0_init_7 dX0_init_9 ?_
  refine k_arr (T' := .inr (0, [(3, Sh.length + 1), (3, Sh.length + 2), (2, 0), (2, 0), (0, 0)]) :: [.inl (0, 24), .inl (0, 24)]) (x := 24) rfl rfl (Or.inl ⟨rfl, rfl⟩) (by decide) rfl (by decide) FX0_15 jX0 rfl rfl hin rfl (fun _ => rfl) (fun _ => rfl) ⟨Nat.le_of_ble_eq_true rfl, Nat.le_of_ble_eq_true rfl⟩ dX0_init_12 (Or.inl ⟨dX0_init_13, rfl, rfl⟩) dX0_init_15 dX0_init_17 ?_
  refine k_arr (T' := .inr (0, [(3, Sh.length + 1), (3, Sh.length + 2), (3, Sh.length + 3), (2, 0), (0, 0)]) :: [.inl (0, 24), .inl (0, 24), .inl (0, 24)]) (x := 24) rfl rfl (Or.inl ⟨rfl, rfl⟩) (by decide) rfl (by decide) FX0_18 jX0 rfl rfl hin rfl (fun _ => rfl) (fun _ => rfl) ⟨Nat.le_of_ble_eq_true rfl, Nat.le_of_ble_eq_true rfl⟩ dX0_init_20 (Or.inl ⟨dX0_init_21, rfl, rfl⟩) dX0_init_23 dX0_init_25 ?_
  refine k_arr (T' := .inr (0, [(3, Sh.length + 1), (3, Sh.length + 2), (3, Sh.length + 3), (3, Sh.length + 4), (0, 0)]) :: [.inl (0, 24), .inl (0, 24), .inl (0, 24), .inl (0, 24)]) (x := 24) rfl rfl (Or.inl ⟨rfl, rfl⟩) (by decide) rfl (by decide) FX0_21 jX0 rfl rfl hin rfl (fun _ => rfl) (fun _ => rfl) ⟨Nat.le_of_ble_eq_true rfl, Nat.le_of_ble_eq_true rfl⟩ dX0_init_28 (Or.inl ⟨dX0_init_29, rfl, rfl⟩) dX0_init_31 dX0_init_33 ?_
  refine k_int rfl (i := 0) (x := 0) rfl FX0_24 jX0 rfl rfl rfl rfl (gI_z (z _)) dX0_init_36 dX0_init_37 dX0_init_38 ?_
  exact k_ret O ⟨Nat.le_of_ble_eq_true rfl, Nat.le_of_ble_eq_true rfl⟩ dX0_init_41)
abbrev rIX9 : Room := { frames := 1, cells := 1, slots := 24, locals := 12 }
abbrev frX9 : List (Nat × Nat) := [(2, 0)]
def tlX9 (n : Nat) : List gShp := [.inr (9, [(3, n + 1)]), .inl (0, 24)]
def mfX9 : Nat → gMem → gMem := fun _ M => M
theorem tX9 : gTl tlX9 mfX9 := fun L M => ⟨Nat.le_of_ble_eq_true rfl, fun sh hs => by
  unfold tlX9 at hs ⊢
  simp only [List.mem_cons, List.not_mem_nil, or_false] at hs
  rcases hs with rfl | rfl
  all_goals first | rfl | (simp [gSq]; done) | (simp [gSq]; omega)
  , fun h => gZe_up (Nat.le_add_right _ _) h, rfl⟩
theorem nX9 (l : Launch) : gN l yX9_init cX9_init rIX9 (.inr (9, frX9)) tlX9 mfX9 := gN.of (by decide) rfl rfl (fun X V Sh M ad e z O hin => by
  refine k_super wOX9 wOi wOc ⟨Nat.le_of_ble_eq_true rfl, Nat.le_of_ble_eq_true rfl⟩ dX9_init_0 dX9_init_1 ?_
  refine k_arr (T' := .inr (9, [(3, Sh.length + 1)]) :: [.inl (0, 24)]) (x := 24) rfl rfl (Or.inl ⟨rfl, rfl⟩) (by decide) rfl (by decide) FX9_9 jX9 rfl rfl hin rfl (fun _ => rfl) (fun _ => rfl) ⟨Nat.le_of_ble_eq_true rfl, Nat.le_of_ble_eq_true rfl⟩ dX9_init_4 (Or.inl ⟨dX9_init_5, rfl, rfl⟩) dX9_init_7 dX9_init_9 ?_
  exact k_ret O ⟨Nat.le_of_ble_eq_true rfl, Nat.le_of_ble_eq_true rfl⟩ dX9_init_12)
