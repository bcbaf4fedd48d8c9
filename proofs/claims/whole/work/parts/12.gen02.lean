/-! METHODS, by program: pure functions and contracts -/
theorem dX11_laysReach_0 : decode cX11_laysReach 0 = .ok (.iconst 0, 1) := by decide +kernel
theorem dX11_laysReach_1 : decode cX11_laysReach 1 = .ok (.istore_n 2, 1) := by decide +kernel
theorem dX11_laysReach_2 : decode cX11_laysReach 2 = .ok (.iload_n 2, 1) := by decide +kernel
theorem dX11_laysReach_3 : decode cX11_laysReach 3 = .ok (.aload_n 0, 1) := by decide +kernel
theorem dX11_laysReach_4 : decode cX11_laysReach 4 = .ok (.getfield 9, 3) := by decide +kernel
theorem dX11_laysReach_7 : decode cX11_laysReach 7 = .ok (.iconst 0, 1) := by decide +kernel
theorem dX11_laysReach_8 : decode cX11_laysReach 8 = .ok (.iaload, 1) := by decide +kernel
theorem dX11_laysReach_9 : decode cX11_laysReach 9 = .ok (.if_icmp .ge 18, 3) := by decide +kernel
theorem dX11_laysReach_12 : decode cX11_laysReach 12 = .ok (.aload_n 0, 1) := by decide +kernel
theorem dX11_laysReach_13 : decode cX11_laysReach 13 = .ok (.getfield 25, 3) := by decide +kernel
theorem dX11_laysReach_16 : decode cX11_laysReach 16 = .ok (.iload_n 2, 1) := by decide +kernel
theorem dX11_laysReach_17 : decode cX11_laysReach 17 = .ok (.iconst 1, 1) := by decide +kernel
theorem dX11_laysReach_18 : decode cX11_laysReach 18 = .ok (.iload_n 2, 1) := by decide +kernel
theorem dX11_laysReach_19 : decode cX11_laysReach 19 = .ok (.ishl, 1) := by decide +kernel
theorem dX11_laysReach_20 : decode cX11_laysReach 20 = .ok (.iastore, 1) := by decide +kernel
theorem dX11_laysReach_21 : decode cX11_laysReach 21 = .ok (.iinc 2 1, 3) := by decide +kernel
theorem dX11_laysReach_24 : decode cX11_laysReach 24 = .ok (.goto (-22), 3) := by decide +kernel
theorem dX11_laysReach_27 : decode cX11_laysReach 27 = .ok (.iconst 0, 1) := by decide +kernel
theorem dX11_laysReach_28 : decode cX11_laysReach 28 = .ok (.istore_n 2, 1) := by decide +kernel
theorem dX11_laysReach_29 : decode cX11_laysReach 29 = .ok (.iload_n 2, 1) := by decide +kernel
theorem dX11_laysReach_30 : decode cX11_laysReach 30 = .ok (.aload_n 0, 1) := by decide +kernel
theorem dX11_laysReach_31 : decode cX11_laysReach 31 = .ok (.getfield 9, 3) := by decide +kernel
theorem dX11_laysReach_34 : decode cX11_laysReach 34 = .ok (.iconst 1, 1) := by decide +kernel
theorem dX11_laysReach_35 : decode cX11_laysReach 35 = .ok (.iaload, 1) := by decide +kernel
theorem dX11_laysReach_36 : decode cX11_laysReach 36 = .ok (.if_icmp .ge 46, 3) := by decide +kernel
theorem dX11_laysReach_39 : decode cX11_laysReach 39 = .ok (.aload_n 0, 1) := by decide +kernel
theorem dX11_laysReach_40 : decode cX11_laysReach 40 = .ok (.getfield 25, 3) := by decide +kernel
theorem dX11_laysReach_43 : decode cX11_laysReach 43 = .ok (.aload_n 0, 1) := by decide +kernel
theorem dX11_laysReach_44 : decode cX11_laysReach 44 = .ok (.getfield 9, 3) := by decide +kernel
theorem dX11_laysReach_47 : decode cX11_laysReach 47 = .ok (.bipush 38, 2) := by decide +kernel
theorem dX11_laysReach_49 : decode cX11_laysReach 49 = .ok (.iload_n 2, 1) := by decide +kernel
theorem dX11_laysReach_50 : decode cX11_laysReach 50 = .ok (.iadd, 1) := by decide +kernel
theorem dX11_laysReach_51 : decode cX11_laysReach 51 = .ok (.iaload, 1) := by decide +kernel
theorem dX11_laysReach_52 : decode cX11_laysReach 52 = .ok (.dup2, 1) := by decide +kernel
theorem dX11_laysReach_53 : decode cX11_laysReach 53 = .ok (.iaload, 1) := by decide +kernel
theorem dX11_laysReach_54 : decode cX11_laysReach 54 = .ok (.iload_n 2, 1) := by decide +kernel
theorem dX11_laysReach_55 : decode cX11_laysReach 55 = .ok (.iload_n 1, 1) := by decide +kernel
theorem dX11_laysReach_56 : decode cX11_laysReach 56 = .ok (.if_icmp .ne 7, 3) := by decide +kernel
theorem dX11_laysReach_59 : decode cX11_laysReach 59 = .ok (.iconst 0, 1) := by decide +kernel
theorem dX11_laysReach_60 : decode cX11_laysReach 60 = .ok (.goto 14, 3) := by decide +kernel
theorem dX11_laysReach_63 : decode cX11_laysReach 63 = .ok (.iconst 1, 1) := by decide +kernel
theorem dX11_laysReach_64 : decode cX11_laysReach 64 = .ok (.aload_n 0, 1) := by decide +kernel
theorem dX11_laysReach_65 : decode cX11_laysReach 65 = .ok (.getfield 9, 3) := by decide +kernel
theorem dX11_laysReach_68 : decode cX11_laysReach 68 = .ok (.bipush 98, 2) := by decide +kernel
theorem dX11_laysReach_70 : decode cX11_laysReach 70 = .ok (.iload_n 2, 1) := by decide +kernel
theorem dX11_laysReach_71 : decode cX11_laysReach 71 = .ok (.iadd, 1) := by decide +kernel
theorem dX11_laysReach_72 : decode cX11_laysReach 72 = .ok (.iaload, 1) := by decide +kernel
theorem dX11_laysReach_73 : decode cX11_laysReach 73 = .ok (.ishl, 1) := by decide +kernel
theorem dX11_laysReach_74 : decode cX11_laysReach 74 = .ok (.ior, 1) := by decide +kernel
theorem dX11_laysReach_75 : decode cX11_laysReach 75 = .ok (.iastore, 1) := by decide +kernel
theorem dX11_laysReach_76 : decode cX11_laysReach 76 = .ok (.iinc 2 1, 3) := by decide +kernel
theorem dX11_laysReach_79 : decode cX11_laysReach 79 = .ok (.goto (-50), 3) := by decide +kernel
theorem dX11_laysReach_82 : decode cX11_laysReach 82 = .ok (.iconst 0, 1) := by decide +kernel
theorem dX11_laysReach_83 : decode cX11_laysReach 83 = .ok (.istore_n 2, 1) := by decide +kernel
theorem dX11_laysReach_84 : decode cX11_laysReach 84 = .ok (.iload_n 2, 1) := by decide +kernel
theorem dX11_laysReach_85 : decode cX11_laysReach 85 = .ok (.aload_n 0, 1) := by decide +kernel
theorem dX11_laysReach_86 : decode cX11_laysReach 86 = .ok (.getfield 9, 3) := by decide +kernel
theorem dX11_laysReach_89 : decode cX11_laysReach 89 = .ok (.iconst 0, 1) := by decide +kernel
theorem dX11_laysReach_90 : decode cX11_laysReach 90 = .ok (.iaload, 1) := by decide +kernel
theorem dX11_laysReach_91 : decode cX11_laysReach 91 = .ok (.if_icmp .ge 59, 3) := by decide +kernel
theorem dX11_laysReach_94 : decode cX11_laysReach 94 = .ok (.iconst 0, 1) := by decide +kernel
theorem dX11_laysReach_95 : decode cX11_laysReach 95 = .ok (.istore_n 3, 1) := by decide +kernel
theorem dX11_laysReach_96 : decode cX11_laysReach 96 = .ok (.iload_n 3, 1) := by decide +kernel
theorem dX11_laysReach_97 : decode cX11_laysReach 97 = .ok (.aload_n 0, 1) := by decide +kernel
theorem dX11_laysReach_98 : decode cX11_laysReach 98 = .ok (.getfield 9, 3) := by decide +kernel
theorem dX11_laysReach_101 : decode cX11_laysReach 101 = .ok (.iconst 0, 1) := by decide +kernel
theorem dX11_laysReach_102 : decode cX11_laysReach 102 = .ok (.iaload, 1) := by decide +kernel
theorem dX11_laysReach_103 : decode cX11_laysReach 103 = .ok (.if_icmp .ge 41, 3) := by decide +kernel
theorem dX11_laysReach_106 : decode cX11_laysReach 106 = .ok (.aload_n 0, 1) := by decide +kernel
theorem dX11_laysReach_107 : decode cX11_laysReach 107 = .ok (.getfield 25, 3) := by decide +kernel
theorem dX11_laysReach_110 : decode cX11_laysReach 110 = .ok (.iload_n 3, 1) := by decide +kernel
theorem dX11_laysReach_111 : decode cX11_laysReach 111 = .ok (.dup2, 1) := by decide +kernel
theorem dX11_laysReach_112 : decode cX11_laysReach 112 = .ok (.iaload, 1) := by decide +kernel
theorem dX11_laysReach_113 : decode cX11_laysReach 113 = .ok (.aload_n 0, 1) := by decide +kernel
theorem dX11_laysReach_114 : decode cX11_laysReach 114 = .ok (.getfield 25, 3) := by decide +kernel
theorem dX11_laysReach_117 : decode cX11_laysReach 117 = .ok (.iload_n 3, 1) := by decide +kernel
theorem dX11_laysReach_118 : decode cX11_laysReach 118 = .ok (.iaload, 1) := by decide +kernel
theorem dX11_laysReach_119 : decode cX11_laysReach 119 = .ok (.iload_n 2, 1) := by decide +kernel
theorem dX11_laysReach_120 : decode cX11_laysReach 120 = .ok (.invokestatic 93, 3) := by decide +kernel
theorem dX11_laysReach_123 : decode cX11_laysReach 123 = .ok (.ifCond .eq 12, 3) := by decide +kernel
theorem dX11_laysReach_126 : decode cX11_laysReach 126 = .ok (.aload_n 0, 1) := by decide +kernel
theorem dX11_laysReach_127 : decode cX11_laysReach 127 = .ok (.getfield 25, 3) := by decide +kernel
theorem dX11_laysReach_130 : decode cX11_laysReach 130 = .ok (.iload_n 2, 1) := by decide +kernel
theorem dX11_laysReach_131 : decode cX11_laysReach 131 = .ok (.iaload, 1) := by decide +kernel
theorem dX11_laysReach_132 : decode cX11_laysReach 132 = .ok (.goto 4, 3) := by decide +kernel
theorem dX11_laysReach_135 : decode cX11_laysReach 135 = .ok (.iconst 0, 1) := by decide +kernel
theorem dX11_laysReach_136 : decode cX11_laysReach 136 = .ok (.ior, 1) := by decide +kernel
theorem dX11_laysReach_137 : decode cX11_laysReach 137 = .ok (.iastore, 1) := by decide +kernel
theorem dX11_laysReach_138 : decode cX11_laysReach 138 = .ok (.iinc 3 1, 3) := by decide +kernel
theorem dX11_laysReach_141 : decode cX11_laysReach 141 = .ok (.goto (-45), 3) := by decide +kernel
theorem dX11_laysReach_144 : decode cX11_laysReach 144 = .ok (.iinc 2 1, 3) := by decide +kernel
theorem dX11_laysReach_147 : decode cX11_laysReach 147 = .ok (.goto (-63), 3) := by decide +kernel
theorem dX11_laysReach_150 : decode cX11_laysReach 150 = .ok (.return_, 1) := by decide +kernel
abbrev rX11_laysReach : Room := { frames := 1, cells := 0, slots := 0, locals := 21 }
abbrev mX11_laysReach : gY := (cX11_laysReach, RX11, 4, rX11_laysReach)
def fX11_laysReach_l2 (x1 : Int32) (x2 : Int32) (M0 : gMem) : Option ((Int32 × gMem) ⊕ gMem) :=
  (rI M0 1 374 (0 : Int32)).bind fun v1 => if v1 ≤ x2 then (some (.inr M0)) else (wI M0 6 24 x2 ((1 : Int32) <<< (x2 &&& 31))).bind fun M3 => some (.inl (x2 + (1 : Int32), M3))
set_option maxRecDepth 20000 in
theorem tX11_laysReach_l2 {X : gX} {V : gEnv} {x1 : Int32} {x2 : Int32} {M0 : gMem}  {o : ((Int32 × gMem) ⊕ gMem)} (h : fX11_laysReach_l2 x1 x2 M0 = some o) (Kc : ∀ s9, o = .inl s9 → gG X V mX11_laysReach gShM s9.2 0 0 2 [(0, .ref (gAd V 0)), (1, .int x1), (2, .int s9.1)] []) (Kx : ∀ e9, o = .inr e9 → gG X V mX11_laysReach gShM e9 0 0 27 [(0, .ref (gAd V 0)), (1, .int x1)] []) : gG X V mX11_laysReach gShM M0 0 0 2 [(0, .ref (gAd V 0)), (1, .int x1), (2, .int x2)] [] := by
  unfold fX11_laysReach_l2 at h
  refine g_iload_n 2 rfl rfl dX11_laysReach_2 ?_
  refine g_aload_n 0 rfl rfl dX11_laysReach_3 ?_
  refine g_getR FX11_9 sM_0 rfl dX11_laysReach_4 ?_
  refine g_iconst (v := 0) rfl dX11_laysReach_7 ?_
  obtain ⟨v1, ev1, h⟩ := g_bnd h
  refine g_iald' ev1 sM_1 dX11_laysReach_8 ?_
  rcases g_ite h with ⟨c2, h⟩ | ⟨c2, h⟩
  · refine g_icmp_ge_t c2 (tgt := 27) rfl dX11_laysReach_9 ?_
    cases h
    refine g_sub [0, 1] rfl ?_
    exact Kx M0 rfl
  · refine g_icmp_ge_f c2 (tgt := 27) rfl dX11_laysReach_9 ?_
    refine g_aload_n 0 rfl rfl dX11_laysReach_12 ?_
    refine g_getR FX11_25 sM_0 rfl dX11_laysReach_13 ?_
    refine g_iload_n 2 rfl rfl dX11_laysReach_16 ?_
    refine g_iconst (v := 1) rfl dX11_laysReach_17 ?_
    refine g_iload_n 2 rfl rfl dX11_laysReach_18 ?_
    refine g_ishl dX11_laysReach_19 ?_
    obtain ⟨M3, eM3, h⟩ := g_bnd h
    refine g_iast' eM3 sM_6 dX11_laysReach_20 ?_
    refine g_iinc (j := 2) (v := x2 + (1 : Int32)) (ls' := [(2, .int (x2 + (1 : Int32))), (0, .ref (gAd V 0)), (1, .int x1)]) rfl rfl (Nat.le_of_ble_eq_true rfl) rfl dX11_laysReach_21 ?_
    refine g_goto (tgt := 2) rfl dX11_laysReach_24 ?_
    cases h
    refine g_sub [1, 2, 0] rfl ?_
    exact Kc (x2 + (1 : Int32), M3) rfl
def fX11_laysReach_b74 (x1 : Int32) (x2 : Int32) (s1 : Int32) (s2 : Int32) (s3 : Int32) (M0 : gMem) : Option ((Int32 × gMem) ⊕ gMem) :=
  (wI M0 6 24 s1 (s2 ||| s3)).bind fun M10 => some (.inl (x2 + (1 : Int32), M10))
set_option maxRecDepth 20000 in
theorem tX11_laysReach_b74 {X : gX} {V : gEnv} {x1 : Int32} {x2 : Int32} {s1 : Int32} {s2 : Int32} {s3 : Int32} {M0 : gMem}  {o : ((Int32 × gMem) ⊕ gMem)} (h : fX11_laysReach_b74 x1 x2 s1 s2 s3 M0 = some o) (Kc : ∀ s9, o = .inl s9 → gG X V mX11_laysReach gShM s9.2 0 0 29 [(0, .ref (gAd V 0)), (1, .int x1), (2, .int s9.1)] []) (Kx : ∀ e9, o = .inr e9 → gG X V mX11_laysReach gShM e9 0 0 82 [(0, .ref (gAd V 0))] []) : gG X V mX11_laysReach gShM M0 0 0 74 [(0, .ref (gAd V 0)), (1, .int x1), (2, .int x2)] [.int s3, .int s2, .int s1, .ref (gAd V 6)] := by
  unfold fX11_laysReach_b74 at h
  refine g_ior dX11_laysReach_74 ?_
  obtain ⟨M10, eM10, h⟩ := g_bnd h
  refine g_iast' eM10 sM_6 dX11_laysReach_75 ?_
  refine g_iinc (j := 2) (v := x2 + (1 : Int32)) (ls' := [(2, .int (x2 + (1 : Int32))), (0, .ref (gAd V 0)), (1, .int x1)]) rfl rfl (Nat.le_of_ble_eq_true rfl) rfl dX11_laysReach_76 ?_
  refine g_goto (tgt := 29) rfl dX11_laysReach_79 ?_
  cases h
  refine g_sub [1, 2, 0] rfl ?_
  exact Kc (x2 + (1 : Int32), M10) rfl
def fX11_laysReach_l29 (x1 : Int32) (x2 : Int32) (M0 : gMem) : Option ((Int32 × gMem) ⊕ gMem) :=
  (rI M0 1 374 (1 : Int32)).bind fun v5 => if v5 ≤ x2 then (some (.inr M0)) else (rI M0 1 374 ((38 : Int32) + x2)).bind fun v7 => (rI M0 6 24 v7).bind fun v8 => if x2 = x1 then (fX11_laysReach_b74 x1 x2 v7 v8 (0 : Int32) M0) else (rI M0 1 374 ((98 : Int32) + x2)).bind fun v11 => fX11_laysReach_b74 x1 x2 v7 v8 ((1 : Int32) <<< (v11 &&& 31)) M0
set_option maxRecDepth 20000 in
theorem tX11_laysReach_l29 {X : gX} {V : gEnv} {x1 : Int32} {x2 : Int32} {M0 : gMem}  {o : ((Int32 × gMem) ⊕ gMem)} (h : fX11_laysReach_l29 x1 x2 M0 = some o) (Kc : ∀ s9, o = .inl s9 → gG X V mX11_laysReach gShM s9.2 0 0 29 [(0, .ref (gAd V 0)), (1, .int x1), (2, .int s9.1)] []) (Kx : ∀ e9, o = .inr e9 → gG X V mX11_laysReach gShM e9 0 0 82 [(0, .ref (gAd V 0))] []) : gG X V mX11_laysReach gShM M0 0 0 29 [(0, .ref (gAd V 0)), (1, .int x1), (2, .int x2)] [] := by
  unfold fX11_laysReach_l29 at h
  refine g_iload_n 2 rfl rfl dX11_laysReach_29 ?_
  refine g_aload_n 0 rfl rfl dX11_laysReach_30 ?_
  refine g_getR FX11_9 sM_0 rfl dX11_laysReach_31 ?_
  refine g_iconst (v := 1) rfl dX11_laysReach_34 ?_
  obtain ⟨v5, ev5, h⟩ := g_bnd h
  refine g_iald' ev5 sM_1 dX11_laysReach_35 ?_
  rcases g_ite h with ⟨c6, h⟩ | ⟨c6, h⟩
  · refine g_icmp_ge_t c6 (tgt := 82) rfl dX11_laysReach_36 ?_
    cases h
    refine g_sub [0] rfl ?_
    exact Kx M0 rfl
  · refine g_icmp_ge_f c6 (tgt := 82) rfl dX11_laysReach_36 ?_
    refine g_aload_n 0 rfl rfl dX11_laysReach_39 ?_
    refine g_getR FX11_25 sM_0 rfl dX11_laysReach_40 ?_
    refine g_aload_n 0 rfl rfl dX11_laysReach_43 ?_
    refine g_getR FX11_9 sM_0 rfl dX11_laysReach_44 ?_
    refine g_bipush (v := 38) rfl dX11_laysReach_47 ?_
    refine g_iload_n 2 rfl rfl dX11_laysReach_49 ?_
    refine g_iadd dX11_laysReach_50 ?_
    obtain ⟨v7, ev7, h⟩ := g_bnd h
    refine g_iald' ev7 sM_1 dX11_laysReach_51 ?_
    refine g_dup2 rfl rfl dX11_laysReach_52 ?_
    obtain ⟨v8, ev8, h⟩ := g_bnd h
    refine g_iald' ev8 sM_6 dX11_laysReach_53 ?_
    refine g_iload_n 2 rfl rfl dX11_laysReach_54 ?_
    refine g_iload_n 1 rfl rfl dX11_laysReach_55 ?_
    rcases g_ite h with ⟨c9, h⟩ | ⟨c9, h⟩
    · refine g_icmp_ne_f c9 (tgt := 63) rfl dX11_laysReach_56 ?_
      refine g_iconst (v := 0) rfl dX11_laysReach_59 ?_
      refine g_goto (tgt := 74) rfl dX11_laysReach_60 ?_
      exact tX11_laysReach_b74  h Kc Kx
    · refine g_icmp_ne_t c9 (tgt := 63) rfl dX11_laysReach_56 ?_
      refine g_iconst (v := 1) rfl dX11_laysReach_63 ?_
      refine g_aload_n 0 rfl rfl dX11_laysReach_64 ?_
      refine g_getR FX11_9 sM_0 rfl dX11_laysReach_65 ?_
      refine g_bipush (v := 98) rfl dX11_laysReach_68 ?_
      refine g_iload_n 2 rfl rfl dX11_laysReach_70 ?_
      refine g_iadd dX11_laysReach_71 ?_
      obtain ⟨v11, ev11, h⟩ := g_bnd h
      refine g_iald' ev11 sM_1 dX11_laysReach_72 ?_
      refine g_ishl dX11_laysReach_73 ?_
      exact tX11_laysReach_b74  h Kc Kx
def fX11_laysReach_b136 (x2 : Int32) (x3 : Int32) (s1 : Int32) (s2 : Int32) (s3 : Int32) (M0 : gMem) : Option ((Int32 × gMem) ⊕ gMem) :=
  (wI M0 6 24 s1 (s2 ||| s3)).bind fun M21 => some (.inl (x3 + (1 : Int32), M21))
set_option maxRecDepth 20000 in
theorem tX11_laysReach_b136 {X : gX} {V : gEnv} {x2 : Int32} {x3 : Int32} {s1 : Int32} {s2 : Int32} {s3 : Int32} {M0 : gMem}  {o : ((Int32 × gMem) ⊕ gMem)} (h : fX11_laysReach_b136 x2 x3 s1 s2 s3 M0 = some o) (Kc : ∀ s9, o = .inl s9 → gG X V mX11_laysReach gShM s9.2 0 0 96 [(0, .ref (gAd V 0)), (2, .int x2), (3, .int s9.1)] []) (Kx : ∀ e9, o = .inr e9 → gG X V mX11_laysReach gShM e9 0 0 144 [(0, .ref (gAd V 0)), (2, .int x2)] []) : gG X V mX11_laysReach gShM M0 0 0 136 [(0, .ref (gAd V 0)), (2, .int x2), (3, .int x3)] [.int s3, .int s2, .int s1, .ref (gAd V 6)] := by
  unfold fX11_laysReach_b136 at h
  refine g_ior dX11_laysReach_136 ?_
  obtain ⟨M21, eM21, h⟩ := g_bnd h
  refine g_iast' eM21 sM_6 dX11_laysReach_137 ?_
  refine g_iinc (j := 2) (v := x3 + (1 : Int32)) (ls' := [(3, .int (x3 + (1 : Int32))), (0, .ref (gAd V 0)), (2, .int x2)]) rfl rfl (Nat.le_of_ble_eq_true rfl) rfl dX11_laysReach_138 ?_
  refine g_goto (tgt := 96) rfl dX11_laysReach_141 ?_
  cases h
  refine g_sub [1, 2, 0] rfl ?_
  exact Kc (x3 + (1 : Int32), M21) rfl
def fX11_laysReach_l96 (x2 : Int32) (x3 : Int32) (M0 : gMem) : Option ((Int32 × gMem) ⊕ gMem) :=
  (rI M0 1 374 (0 : Int32)).bind fun v15 => if v15 ≤ x3 then (some (.inr M0)) else (rI M0 6 24 x3).bind fun v17 => (rI M0 6 24 x3).bind fun v18 => (fX11_has v18 x2).bind fun v19 => if v19 = 0 then (fX11_laysReach_b136 x2 x3 x3 v17 (0 : Int32) M0) else (rI M0 6 24 x2).bind fun v22 => fX11_laysReach_b136 x2 x3 x3 v17 v22 M0
set_option maxRecDepth 20000 in
theorem tX11_laysReach_l96 {X : gX} {V : gEnv} {x2 : Int32} {x3 : Int32} {M0 : gMem}  {o : ((Int32 × gMem) ⊕ gMem)} (h : fX11_laysReach_l96 x2 x3 M0 = some o) (Kc : ∀ s9, o = .inl s9 → gG X V mX11_laysReach gShM s9.2 0 0 96 [(0, .ref (gAd V 0)), (2, .int x2), (3, .int s9.1)] []) (Kx : ∀ e9, o = .inr e9 → gG X V mX11_laysReach gShM e9 0 0 144 [(0, .ref (gAd V 0)), (2, .int x2)] []) : gG X V mX11_laysReach gShM M0 0 0 96 [(0, .ref (gAd V 0)), (2, .int x2), (3, .int x3)] [] := by
  unfold fX11_laysReach_l96 at h
  refine g_iload_n 2 rfl rfl dX11_laysReach_96 ?_
  refine g_aload_n 0 rfl rfl dX11_laysReach_97 ?_
  refine g_getR FX11_9 sM_0 rfl dX11_laysReach_98 ?_
  refine g_iconst (v := 0) rfl dX11_laysReach_101 ?_
  obtain ⟨v15, ev15, h⟩ := g_bnd h
  refine g_iald' ev15 sM_1 dX11_laysReach_102 ?_
  rcases g_ite h with ⟨c16, h⟩ | ⟨c16, h⟩
  · refine g_icmp_ge_t c16 (tgt := 144) rfl dX11_laysReach_103 ?_
    cases h
    refine g_sub [0, 1] rfl ?_
    exact Kx M0 rfl
  · refine g_icmp_ge_f c16 (tgt := 144) rfl dX11_laysReach_103 ?_
    refine g_aload_n 0 rfl rfl dX11_laysReach_106 ?_
    refine g_getR FX11_25 sM_0 rfl dX11_laysReach_107 ?_
    refine g_iload_n 2 rfl rfl dX11_laysReach_110 ?_
    refine g_dup2 rfl rfl dX11_laysReach_111 ?_
    obtain ⟨v17, ev17, h⟩ := g_bnd h
    refine g_iald' ev17 sM_6 dX11_laysReach_112 ?_
    refine g_aload_n 0 rfl rfl dX11_laysReach_113 ?_
    refine g_getR FX11_25 sM_0 rfl dX11_laysReach_114 ?_
    refine g_iload_n 2 rfl rfl dX11_laysReach_117 ?_
    obtain ⟨v18, ev18, h⟩ := g_bnd h
    refine g_iald' ev18 sM_6 dX11_laysReach_118 ?_
    refine g_iload_n 1 rfl rfl dX11_laysReach_119 ?_
    obtain ⟨v19, ev19, h⟩ := g_bnd h
    refine g_callS LX11_93 (kX11_has ev19) rfl rfl (Nat.le_of_ble_eq_true rfl) ⟨Nat.le_of_ble_eq_true rfl, Nat.le_of_ble_eq_true rfl⟩ ⟨Nat.le_of_ble_eq_true rfl, Nat.le_of_ble_eq_true rfl⟩ dX11_laysReach_120 rfl ?_
    rcases g_ite h with ⟨c20, h⟩ | ⟨c20, h⟩
    · refine g_if_eq_t c20 (tgt := 135) rfl dX11_laysReach_123 ?_
      refine g_iconst (v := 0) rfl dX11_laysReach_135 ?_
      exact tX11_laysReach_b136  h Kc Kx
    · refine g_if_eq_f c20 (tgt := 135) rfl dX11_laysReach_123 ?_
      refine g_aload_n 0 rfl rfl dX11_laysReach_126 ?_
      refine g_getR FX11_25 sM_0 rfl dX11_laysReach_127 ?_
      refine g_iload_n 1 rfl rfl dX11_laysReach_130 ?_
      obtain ⟨v22, ev22, h⟩ := g_bnd h
      refine g_iald' ev22 sM_6 dX11_laysReach_131 ?_
      refine g_goto (tgt := 136) rfl dX11_laysReach_132 ?_
      exact tX11_laysReach_b136  h Kc Kx
def fX11_laysReach_l84 (x2 : Int32) (M0 : gMem) : Option ((Int32 × gMem) ⊕ gMem) :=
  (rI M0 1 374 (0 : Int32)).bind fun v13 => if v13 ≤ x2 then (some (.inr M0)) else (gLoop (fun z9 => fX11_laysReach_l96 x2 z9.1 z9.2) gFu ((0 : Int32), M0)).bind fun w23 => some (.inl (x2 + (1 : Int32), w23))
set_option maxRecDepth 20000 in
theorem tX11_laysReach_l84 {X : gX} {V : gEnv} {x2 : Int32} {M0 : gMem}  {o : ((Int32 × gMem) ⊕ gMem)} (h : fX11_laysReach_l84 x2 M0 = some o) (Kc : ∀ s9, o = .inl s9 → gG X V mX11_laysReach gShM s9.2 0 0 84 [(0, .ref (gAd V 0)), (2, .int s9.1)] []) (Kx : ∀ e9, o = .inr e9 → gG X V mX11_laysReach gShM e9 0 0 150 [] []) : gG X V mX11_laysReach gShM M0 0 0 84 [(0, .ref (gAd V 0)), (2, .int x2)] [] := by
  unfold fX11_laysReach_l84 at h
  refine g_iload_n 1 rfl rfl dX11_laysReach_84 ?_
  refine g_aload_n 0 rfl rfl dX11_laysReach_85 ?_
  refine g_getR FX11_9 sM_0 rfl dX11_laysReach_86 ?_
  refine g_iconst (v := 0) rfl dX11_laysReach_89 ?_
  obtain ⟨v13, ev13, h⟩ := g_bnd h
  refine g_iald' ev13 sM_1 dX11_laysReach_90 ?_
  rcases g_ite h with ⟨c14, h⟩ | ⟨c14, h⟩
  · refine g_icmp_ge_t c14 (tgt := 150) rfl dX11_laysReach_91 ?_
    cases h
    refine g_sub [] rfl ?_
    exact Kx M0 rfl
  · refine g_icmp_ge_f c14 (tgt := 150) rfl dX11_laysReach_91 ?_
    refine g_iconst (v := 0) rfl dX11_laysReach_94 ?_
    refine g_istore_n (ls' := [(3, .int (0 : Int32)), (0, .ref (gAd V 0)), (2, .int x2)]) rfl (Nat.le_of_ble_eq_true rfl) rfl dX11_laysReach_95 ?_
    obtain ⟨w23, ew23, h⟩ := g_bnd h
    refine g_sub [1, 2, 0] rfl ?_
    have KX : gG X V mX11_laysReach gShM w23 0 0 144 [(0, .ref (gAd V 0)), (2, .int x2)] [] := by
      refine g_iinc (j := 1) (v := x2 + (1 : Int32)) (ls' := [(2, .int (x2 + (1 : Int32))), (0, .ref (gAd V 0))]) rfl rfl (Nat.le_of_ble_eq_true rfl) rfl dX11_laysReach_144 ?_
      refine g_goto (tgt := 84) rfl dX11_laysReach_147 ?_
      cases h
      refine g_sub [1, 0] rfl ?_
      exact Kc (x2 + (1 : Int32), w23) rfl
    exact gLoop_Q ew23 (fun z9 => gG X V mX11_laysReach gShM z9.2 0 0 96 [(0, .ref (gAd V 0)), (2, .int x2), (3, .int z9.1)] []) (fun s9 o9 hb9 hc9 hx9 => tX11_laysReach_l96  hb9 hc9 (fun e9 he9 => by cases hx9 _ he9; exact KX))
def fX11_laysReach (x1 : Int32) (M0 : gMem) : Option gMem :=
  (gLoop (fun z9 => fX11_laysReach_l2 x1 z9.1 z9.2) gFu ((0 : Int32), M0)).bind fun w4 => (gLoop (fun z9 => fX11_laysReach_l29 x1 z9.1 z9.2) gFu ((0 : Int32), w4)).bind fun w12 => (gLoop (fun z9 => fX11_laysReach_l84 z9.1 z9.2) gFu ((0 : Int32), w12)).bind fun w24 => some w24
set_option maxRecDepth 20000 in
theorem tX11_laysReach {X : gX} {V : gEnv} {x1 : Int32} {M0 : gMem}  {o : gMem} (h : fX11_laysReach x1 M0 = some o) (O : gO X V mX11_laysReach gShM none none o) : gG X V mX11_laysReach gShM M0 0 0 0 [(0, .ref (gAd V 0)), (1, .int x1)] [] := by
  unfold fX11_laysReach at h
  refine g_iconst (v := 0) rfl dX11_laysReach_0 ?_
  refine g_istore_n (ls' := [(2, .int (0 : Int32)), (0, .ref (gAd V 0)), (1, .int x1)]) rfl (Nat.le_of_ble_eq_true rfl) rfl dX11_laysReach_1 ?_
  obtain ⟨w4, ew4, h⟩ := g_bnd h
  refine g_sub [1, 2, 0] rfl ?_
  have KX : gG X V mX11_laysReach gShM w4 0 0 27 [(0, .ref (gAd V 0)), (1, .int x1)] [] := by
    refine g_iconst (v := 0) rfl dX11_laysReach_27 ?_
    refine g_istore_n (ls' := [(2, .int (0 : Int32)), (0, .ref (gAd V 0)), (1, .int x1)]) rfl (Nat.le_of_ble_eq_true rfl) rfl dX11_laysReach_28 ?_
    obtain ⟨w12, ew12, h⟩ := g_bnd h
    refine g_sub [1, 2, 0] rfl ?_
    have KX : gG X V mX11_laysReach gShM w12 0 0 82 [(0, .ref (gAd V 0))] [] := by
      refine g_iconst (v := 0) rfl dX11_laysReach_82 ?_
      refine g_istore_n (ls' := [(2, .int (0 : Int32)), (0, .ref (gAd V 0))]) rfl (Nat.le_of_ble_eq_true rfl) rfl dX11_laysReach_83 ?_
      obtain ⟨w24, ew24, h⟩ := g_bnd h
      refine g_sub [1, 0] rfl ?_
      have KX : gG X V mX11_laysReach gShM w24 0 0 150 [] [] := by
        cases h
        exact g_vret O ⟨Nat.le_of_ble_eq_true rfl, Nat.le_of_ble_eq_true rfl⟩ dX11_laysReach_150
      exact gLoop_Q ew24 (fun z9 => gG X V mX11_laysReach gShM z9.2 0 0 84 [(0, .ref (gAd V 0)), (2, .int z9.1)] []) (fun s9 o9 hb9 hc9 hx9 => tX11_laysReach_l84  hb9 hc9 (fun e9 he9 => by cases hx9 _ he9; exact KX))
    exact gLoop_Q ew12 (fun z9 => gG X V mX11_laysReach gShM z9.2 0 0 29 [(0, .ref (gAd V 0)), (1, .int x1), (2, .int z9.1)] []) (fun s9 o9 hb9 hc9 hx9 => tX11_laysReach_l29  hb9 hc9 (fun e9 he9 => by cases hx9 _ he9; exact KX))
  exact gLoop_Q ew4 (fun z9 => gG X V mX11_laysReach gShM z9.2 0 0 2 [(0, .ref (gAd V 0)), (1, .int x1), (2, .int z9.1)] []) (fun s9 o9 hb9 hc9 hx9 => tX11_laysReach_l2  hb9 hc9 (fun e9 he9 => by cases hx9 _ he9; exact KX))
theorem kX11_laysReach {l : Launch} {V : gEnv} {M0 : gMem} {x1 : Int32}  {o : gMem} (h : fX11_laysReach x1 M0 = some o) : gM l yX11_laysReach cX11_laysReach 4 none rX11_laysReach V gShM [.ref (gAd V 0), .int x1] M0 none o :=
  gM.of (by decide) (Nat.le_of_ble_eq_true rfl) rfl (fun X _ O => tX11_laysReach  h O)
theorem dX11_laysSteps_0 : decode cX11_laysSteps 0 = .ok (.iconst 0, 1) := by decide +kernel
theorem dX11_laysSteps_1 : decode cX11_laysSteps 1 = .ok (.istore_n 2, 1) := by decide +kernel
theorem dX11_laysSteps_2 : decode cX11_laysSteps 2 = .ok (.iload_n 2, 1) := by decide +kernel
theorem dX11_laysSteps_3 : decode cX11_laysSteps 3 = .ok (.bipush 24, 2) := by decide +kernel
theorem dX11_laysSteps_5 : decode cX11_laysSteps 5 = .ok (.if_icmp .ge 27, 3) := by decide +kernel
theorem dX11_laysSteps_8 : decode cX11_laysSteps 8 = .ok (.aload_n 0, 1) := by decide +kernel
theorem dX11_laysSteps_9 : decode cX11_laysSteps 9 = .ok (.getfield 28, 3) := by decide +kernel
theorem dX11_laysSteps_12 : decode cX11_laysSteps 12 = .ok (.iload_n 2, 1) := by decide +kernel
theorem dX11_laysSteps_13 : decode cX11_laysSteps 13 = .ok (.iload_n 2, 1) := by decide +kernel
theorem dX11_laysSteps_14 : decode cX11_laysSteps 14 = .ok (.iload_n 1, 1) := by decide +kernel
theorem dX11_laysSteps_15 : decode cX11_laysSteps 15 = .ok (.if_icmp .ne 7, 3) := by decide +kernel
theorem dX11_laysSteps_18 : decode cX11_laysSteps 18 = .ok (.iconst 0, 1) := by decide +kernel
theorem dX11_laysSteps_19 : decode cX11_laysSteps 19 = .ok (.goto 6, 3) := by decide +kernel
theorem dX11_laysSteps_22 : decode cX11_laysSteps 22 = .ok (.sipush 1000, 3) := by decide +kernel
theorem dX11_laysSteps_25 : decode cX11_laysSteps 25 = .ok (.iastore, 1) := by decide +kernel
theorem dX11_laysSteps_26 : decode cX11_laysSteps 26 = .ok (.iinc 2 1, 3) := by decide +kernel
theorem dX11_laysSteps_29 : decode cX11_laysSteps 29 = .ok (.goto (-27), 3) := by decide +kernel
theorem dX11_laysSteps_32 : decode cX11_laysSteps 32 = .ok (.iconst 1, 1) := by decide +kernel
theorem dX11_laysSteps_33 : decode cX11_laysSteps 33 = .ok (.istore_n 2, 1) := by decide +kernel
theorem dX11_laysSteps_34 : decode cX11_laysSteps 34 = .ok (.iload_n 2, 1) := by decide +kernel
theorem dX11_laysSteps_35 : decode cX11_laysSteps 35 = .ok (.aload_n 0, 1) := by decide +kernel
theorem dX11_laysSteps_36 : decode cX11_laysSteps 36 = .ok (.getfield 9, 3) := by decide +kernel
theorem dX11_laysSteps_39 : decode cX11_laysSteps 39 = .ok (.iconst 0, 1) := by decide +kernel
theorem dX11_laysSteps_40 : decode cX11_laysSteps 40 = .ok (.iaload, 1) := by decide +kernel
theorem dX11_laysSteps_41 : decode cX11_laysSteps 41 = .ok (.if_icmp .ge 80, 3) := by decide +kernel
theorem dX11_laysSteps_44 : decode cX11_laysSteps 44 = .ok (.iconst 0, 1) := by decide +kernel
theorem dX11_laysSteps_45 : decode cX11_laysSteps 45 = .ok (.istore_n 3, 1) := by decide +kernel
theorem dX11_laysSteps_46 : decode cX11_laysSteps 46 = .ok (.iload_n 3, 1) := by decide +kernel
theorem dX11_laysSteps_47 : decode cX11_laysSteps 47 = .ok (.aload_n 0, 1) := by decide +kernel
theorem dX11_laysSteps_48 : decode cX11_laysSteps 48 = .ok (.getfield 9, 3) := by decide +kernel
theorem dX11_laysSteps_51 : decode cX11_laysSteps 51 = .ok (.iconst 1, 1) := by decide +kernel
theorem dX11_laysSteps_52 : decode cX11_laysSteps 52 = .ok (.iaload, 1) := by decide +kernel
theorem dX11_laysSteps_53 : decode cX11_laysSteps 53 = .ok (.if_icmp .ge 62, 3) := by decide +kernel
theorem dX11_laysSteps_56 : decode cX11_laysSteps 56 = .ok (.aload_n 0, 1) := by decide +kernel
theorem dX11_laysSteps_57 : decode cX11_laysSteps 57 = .ok (.getfield 28, 3) := by decide +kernel
theorem dX11_laysSteps_60 : decode cX11_laysSteps 60 = .ok (.aload_n 0, 1) := by decide +kernel
theorem dX11_laysSteps_61 : decode cX11_laysSteps 61 = .ok (.getfield 9, 3) := by decide +kernel
theorem dX11_laysSteps_64 : decode cX11_laysSteps 64 = .ok (.bipush 98, 2) := by decide +kernel
theorem dX11_laysSteps_66 : decode cX11_laysSteps 66 = .ok (.iload_n 3, 1) := by decide +kernel
theorem dX11_laysSteps_67 : decode cX11_laysSteps 67 = .ok (.iadd, 1) := by decide +kernel
theorem dX11_laysSteps_68 : decode cX11_laysSteps 68 = .ok (.iaload, 1) := by decide +kernel
theorem dX11_laysSteps_69 : decode cX11_laysSteps 69 = .ok (.iaload, 1) := by decide +kernel
theorem dX11_laysSteps_70 : decode cX11_laysSteps 70 = .ok (.iload_n 2, 1) := by decide +kernel
theorem dX11_laysSteps_71 : decode cX11_laysSteps 71 = .ok (.iconst 1, 1) := by decide +kernel
theorem dX11_laysSteps_72 : decode cX11_laysSteps 72 = .ok (.isub, 1) := by decide +kernel
theorem dX11_laysSteps_73 : decode cX11_laysSteps 73 = .ok (.if_icmp .ne 36, 3) := by decide +kernel
theorem dX11_laysSteps_76 : decode cX11_laysSteps 76 = .ok (.aload_n 0, 1) := by decide +kernel
theorem dX11_laysSteps_77 : decode cX11_laysSteps 77 = .ok (.getfield 28, 3) := by decide +kernel
theorem dX11_laysSteps_80 : decode cX11_laysSteps 80 = .ok (.aload_n 0, 1) := by decide +kernel
theorem dX11_laysSteps_81 : decode cX11_laysSteps 81 = .ok (.getfield 9, 3) := by decide +kernel
theorem dX11_laysSteps_84 : decode cX11_laysSteps 84 = .ok (.bipush 38, 2) := by decide +kernel
theorem dX11_laysSteps_86 : decode cX11_laysSteps 86 = .ok (.iload_n 3, 1) := by decide +kernel
theorem dX11_laysSteps_87 : decode cX11_laysSteps 87 = .ok (.iadd, 1) := by decide +kernel
theorem dX11_laysSteps_88 : decode cX11_laysSteps 88 = .ok (.iaload, 1) := by decide +kernel
theorem dX11_laysSteps_89 : decode cX11_laysSteps 89 = .ok (.iaload, 1) := by decide +kernel
theorem dX11_laysSteps_90 : decode cX11_laysSteps 90 = .ok (.iload_n 2, 1) := by decide +kernel
theorem dX11_laysSteps_91 : decode cX11_laysSteps 91 = .ok (.if_icmp .le 18, 3) := by decide +kernel
theorem dX11_laysSteps_94 : decode cX11_laysSteps 94 = .ok (.aload_n 0, 1) := by decide +kernel
theorem dX11_laysSteps_95 : decode cX11_laysSteps 95 = .ok (.getfield 28, 3) := by decide +kernel
theorem dX11_laysSteps_98 : decode cX11_laysSteps 98 = .ok (.aload_n 0, 1) := by decide +kernel
theorem dX11_laysSteps_99 : decode cX11_laysSteps 99 = .ok (.getfield 9, 3) := by decide +kernel
theorem dX11_laysSteps_102 : decode cX11_laysSteps 102 = .ok (.bipush 38, 2) := by decide +kernel
theorem dX11_laysSteps_104 : decode cX11_laysSteps 104 = .ok (.iload_n 3, 1) := by decide +kernel
theorem dX11_laysSteps_105 : decode cX11_laysSteps 105 = .ok (.iadd, 1) := by decide +kernel
theorem dX11_laysSteps_106 : decode cX11_laysSteps 106 = .ok (.iaload, 1) := by decide +kernel
theorem dX11_laysSteps_107 : decode cX11_laysSteps 107 = .ok (.iload_n 2, 1) := by decide +kernel
theorem dX11_laysSteps_108 : decode cX11_laysSteps 108 = .ok (.iastore, 1) := by decide +kernel
theorem dX11_laysSteps_109 : decode cX11_laysSteps 109 = .ok (.iinc 3 1, 3) := by decide +kernel
theorem dX11_laysSteps_112 : decode cX11_laysSteps 112 = .ok (.goto (-66), 3) := by decide +kernel
theorem dX11_laysSteps_115 : decode cX11_laysSteps 115 = .ok (.iinc 2 1, 3) := by decide +kernel
theorem dX11_laysSteps_118 : decode cX11_laysSteps 118 = .ok (.goto (-84), 3) := by decide +kernel
theorem dX11_laysSteps_121 : decode cX11_laysSteps 121 = .ok (.return_, 1) := by decide +kernel
abbrev rX11_laysSteps : Room := { frames := 0, cells := 0, slots := 0, locals := 0 }
abbrev mX11_laysSteps : gY := (cX11_laysSteps, RX11, 4, rX11_laysSteps)
def fX11_laysSteps_b25 (x1 : Int32) (x2 : Int32) (s1 : Int32) (s2 : Int32) (M0 : gMem) : Option ((Int32 × gMem) ⊕ gMem) :=
  (wI M0 7 24 s1 s2).bind fun M3 => some (.inl (x2 + (1 : Int32), M3))
set_option maxRecDepth 20000 in
theorem tX11_laysSteps_b25 {X : gX} {V : gEnv} {x1 : Int32} {x2 : Int32} {s1 : Int32} {s2 : Int32} {M0 : gMem}  {o : ((Int32 × gMem) ⊕ gMem)} (h : fX11_laysSteps_b25 x1 x2 s1 s2 M0 = some o) (Kc : ∀ s9, o = .inl s9 → gG X V mX11_laysSteps gShM s9.2 0 0 2 [(0, .ref (gAd V 0)), (1, .int x1), (2, .int s9.1)] []) (Kx : ∀ e9, o = .inr e9 → gG X V mX11_laysSteps gShM e9 0 0 32 [(0, .ref (gAd V 0))] []) : gG X V mX11_laysSteps gShM M0 0 0 25 [(0, .ref (gAd V 0)), (1, .int x1), (2, .int x2)] [.int s2, .int s1, .ref (gAd V 7)] := by
  unfold fX11_laysSteps_b25 at h
  obtain ⟨M3, eM3, h⟩ := g_bnd h
  refine g_iast' eM3 sM_7 dX11_laysSteps_25 ?_
  refine g_iinc (j := 2) (v := x2 + (1 : Int32)) (ls' := [(2, .int (x2 + (1 : Int32))), (0, .ref (gAd V 0)), (1, .int x1)]) rfl rfl (Nat.le_of_ble_eq_true rfl) rfl dX11_laysSteps_26 ?_
  refine g_goto (tgt := 2) rfl dX11_laysSteps_29 ?_
  cases h
  refine g_sub [1, 2, 0] rfl ?_
  exact Kc (x2 + (1 : Int32), M3) rfl
def fX11_laysSteps_l2 (x1 : Int32) (x2 : Int32) (M0 : gMem) : Option ((Int32 × gMem) ⊕ gMem) :=
  if (24 : Int32) ≤ x2 then (some (.inr M0)) else if x2 = x1 then (fX11_laysSteps_b25 x1 x2 x2 (0 : Int32) M0) else fX11_laysSteps_b25 x1 x2 x2 (1000 : Int32) M0
set_option maxRecDepth 20000 in
theorem tX11_laysSteps_l2 {X : gX} {V : gEnv} {x1 : Int32} {x2 : Int32} {M0 : gMem}  {o : ((Int32 × gMem) ⊕ gMem)} (h : fX11_laysSteps_l2 x1 x2 M0 = some o) (Kc : ∀ s9, o = .inl s9 → gG X V mX11_laysSteps gShM s9.2 0 0 2 [(0, .ref (gAd V 0)), (1, .int x1), (2, .int s9.1)] []) (Kx : ∀ e9, o = .inr e9 → gG X V mX11_laysSteps gShM e9 0 0 32 [(0, .ref (gAd V 0))] []) : gG X V mX11_laysSteps gShM M0 0 0 2 [(0, .ref (gAd V 0)), (1, .int x1), (2, .int x2)] [] := by
  unfold fX11_laysSteps_l2 at h
  refine g_iload_n 2 rfl rfl dX11_laysSteps_2 ?_
  refine g_bipush (v := 24) rfl dX11_laysSteps_3 ?_
  rcases g_ite h with ⟨c1, h⟩ | ⟨c1, h⟩
  · refine g_icmp_ge_t c1 (tgt := 32) rfl dX11_laysSteps_5 ?_
    cases h
    refine g_sub [0] rfl ?_
    exact Kx M0 rfl
  · refine g_icmp_ge_f c1 (tgt := 32) rfl dX11_laysSteps_5 ?_
    refine g_aload_n 0 rfl rfl dX11_laysSteps_8 ?_
    refine g_getR FX11_28 sM_0 rfl dX11_laysSteps_9 ?_
    refine g_iload_n 2 rfl rfl dX11_laysSteps_12 ?_
    refine g_iload_n 2 rfl rfl dX11_laysSteps_13 ?_
    refine g_iload_n 1 rfl rfl dX11_laysSteps_14 ?_
    rcases g_ite h with ⟨c2, h⟩ | ⟨c2, h⟩
    · refine g_icmp_ne_f c2 (tgt := 22) rfl dX11_laysSteps_15 ?_
      refine g_iconst (v := 0) rfl dX11_laysSteps_18 ?_
      refine g_goto (tgt := 25) rfl dX11_laysSteps_19 ?_
      exact tX11_laysSteps_b25  h Kc Kx
    · refine g_icmp_ne_t c2 (tgt := 22) rfl dX11_laysSteps_15 ?_
      refine g_sipush (v := 1000) rfl dX11_laysSteps_22 ?_
      exact tX11_laysSteps_b25  h Kc Kx
def fX11_laysSteps_b109 (x2 : Int32) (x3 : Int32) (M0 : gMem) : Option ((Int32 × gMem) ⊕ gMem) :=
  some (.inl (x3 + (1 : Int32), M0))
set_option maxRecDepth 20000 in
theorem tX11_laysSteps_b109 {X : gX} {V : gEnv} {x2 : Int32} {x3 : Int32} {M0 : gMem}  {o : ((Int32 × gMem) ⊕ gMem)} (h : fX11_laysSteps_b109 x2 x3 M0 = some o) (Kc : ∀ s9, o = .inl s9 → gG X V mX11_laysSteps gShM s9.2 0 0 46 [(0, .ref (gAd V 0)), (2, .int x2), (3, .int s9.1)] []) (Kx : ∀ e9, o = .inr e9 → gG X V mX11_laysSteps gShM e9 0 0 115 [(0, .ref (gAd V 0)), (2, .int x2)] []) : gG X V mX11_laysSteps gShM M0 0 0 109 [(0, .ref (gAd V 0)), (2, .int x2), (3, .int x3)] [] := by
  unfold fX11_laysSteps_b109 at h
  refine g_iinc (j := 2) (v := x3 + (1 : Int32)) (ls' := [(3, .int (x3 + (1 : Int32))), (0, .ref (gAd V 0)), (2, .int x2)]) rfl rfl (Nat.le_of_ble_eq_true rfl) rfl dX11_laysSteps_109 ?_
  refine g_goto (tgt := 46) rfl dX11_laysSteps_112 ?_
  cases h
  refine g_sub [1, 2, 0] rfl ?_
  exact Kc (x3 + (1 : Int32), M0) rfl
def fX11_laysSteps_l46 (x2 : Int32) (x3 : Int32) (M0 : gMem) : Option ((Int32 × gMem) ⊕ gMem) :=
  (rI M0 1 374 (1 : Int32)).bind fun v7 => if v7 ≤ x3 then (some (.inr M0)) else (rI M0 1 374 ((98 : Int32) + x3)).bind fun v9 => (rI M0 7 24 v9).bind fun v10 => if v10 = (x2 - (1 : Int32)) then ((rI M0 1 374 ((38 : Int32) + x3)).bind fun v12 => (rI M0 7 24 v12).bind fun v13 => if v13 ≤ x2 then (fX11_laysSteps_b109 x2 x3 M0) else (rI M0 1 374 ((38 : Int32) + x3)).bind fun v15 => (wI M0 7 24 v15 x2).bind fun M16 => fX11_laysSteps_b109 x2 x3 M16) else fX11_laysSteps_b109 x2 x3 M0
set_option maxRecDepth 20000 in
theorem tX11_laysSteps_l46 {X : gX} {V : gEnv} {x2 : Int32} {x3 : Int32} {M0 : gMem}  {o : ((Int32 × gMem) ⊕ gMem)} (h : fX11_laysSteps_l46 x2 x3 M0 = some o) (Kc : ∀ s9, o = .inl s9 → gG X V mX11_laysSteps gShM s9.2 0 0 46 [(0, .ref (gAd V 0)), (2, .int x2), (3, .int s9.1)] []) (Kx : ∀ e9, o = .inr e9 → gG X V mX11_laysSteps gShM e9 0 0 115 [(0, .ref (gAd V 0)), (2, .int x2)] []) : gG X V mX11_laysSteps gShM M0 0 0 46 [(0, .ref (gAd V 0)), (2, .int x2), (3, .int x3)] [] := by
  unfold fX11_laysSteps_l46 at h
  refine g_iload_n 2 rfl rfl dX11_laysSteps_46 ?_
  refine g_aload_n 0 rfl rfl dX11_laysSteps_47 ?_
  refine g_getR FX11_9 sM_0 rfl dX11_laysSteps_48 ?_
  refine g_iconst (v := 1) rfl dX11_laysSteps_51 ?_
  obtain ⟨v7, ev7, h⟩ := g_bnd h
  refine g_iald' ev7 sM_1 dX11_laysSteps_52 ?_
  rcases g_ite h with ⟨c8, h⟩ | ⟨c8, h⟩
  · refine g_icmp_ge_t c8 (tgt := 115) rfl dX11_laysSteps_53 ?_
    cases h
    refine g_sub [0, 1] rfl ?_
    exact Kx M0 rfl
  · refine g_icmp_ge_f c8 (tgt := 115) rfl dX11_laysSteps_53 ?_
    refine g_aload_n 0 rfl rfl dX11_laysSteps_56 ?_
    refine g_getR FX11_28 sM_0 rfl dX11_laysSteps_57 ?_
    refine g_aload_n 0 rfl rfl dX11_laysSteps_60 ?_
    refine g_getR FX11_9 sM_0 rfl dX11_laysSteps_61 ?_
    refine g_bipush (v := 98) rfl dX11_laysSteps_64 ?_
    refine g_iload_n 2 rfl rfl dX11_laysSteps_66 ?_
    refine g_iadd dX11_laysSteps_67 ?_
    obtain ⟨v9, ev9, h⟩ := g_bnd h
    refine g_iald' ev9 sM_1 dX11_laysSteps_68 ?_
    obtain ⟨v10, ev10, h⟩ := g_bnd h
    refine g_iald' ev10 sM_7 dX11_laysSteps_69 ?_
    refine g_iload_n 1 rfl rfl dX11_laysSteps_70 ?_
    refine g_iconst (v := 1) rfl dX11_laysSteps_71 ?_
    refine g_isub dX11_laysSteps_72 ?_
    rcases g_ite h with ⟨c11, h⟩ | ⟨c11, h⟩
    · refine g_icmp_ne_f c11 (tgt := 109) rfl dX11_laysSteps_73 ?_
      refine g_aload_n 0 rfl rfl dX11_laysSteps_76 ?_
      refine g_getR FX11_28 sM_0 rfl dX11_laysSteps_77 ?_
      refine g_aload_n 0 rfl rfl dX11_laysSteps_80 ?_
      refine g_getR FX11_9 sM_0 rfl dX11_laysSteps_81 ?_
      refine g_bipush (v := 38) rfl dX11_laysSteps_84 ?_
      refine g_iload_n 2 rfl rfl dX11_laysSteps_86 ?_
      refine g_iadd dX11_laysSteps_87 ?_
      obtain ⟨v12, ev12, h⟩ := g_bnd h
      refine g_iald' ev12 sM_1 dX11_laysSteps_88 ?_
      obtain ⟨v13, ev13, h⟩ := g_bnd h
      refine g_iald' ev13 sM_7 dX11_laysSteps_89 ?_
      refine g_iload_n 1 rfl rfl dX11_laysSteps_90 ?_
      rcases g_ite h with ⟨c14, h⟩ | ⟨c14, h⟩
      · refine g_icmp_le_t c14 (tgt := 109) rfl dX11_laysSteps_91 ?_
        exact tX11_laysSteps_b109  h Kc Kx
      · refine g_icmp_le_f c14 (tgt := 109) rfl dX11_laysSteps_91 ?_
        refine g_aload_n 0 rfl rfl dX11_laysSteps_94 ?_
        refine g_getR FX11_28 sM_0 rfl dX11_laysSteps_95 ?_
        refine g_aload_n 0 rfl rfl dX11_laysSteps_98 ?_
        refine g_getR FX11_9 sM_0 rfl dX11_laysSteps_99 ?_
        refine g_bipush (v := 38) rfl dX11_laysSteps_102 ?_
        refine g_iload_n 2 rfl rfl dX11_laysSteps_104 ?_
        refine g_iadd dX11_laysSteps_105 ?_
        obtain ⟨v15, ev15, h⟩ := g_bnd h
        refine g_iald' ev15 sM_1 dX11_laysSteps_106 ?_
        refine g_iload_n 1 rfl rfl dX11_laysSteps_107 ?_
        obtain ⟨M16, eM16, h⟩ := g_bnd h
        refine g_iast' eM16 sM_7 dX11_laysSteps_108 ?_
        exact tX11_laysSteps_b109  h Kc Kx
    · refine g_icmp_ne_t c11 (tgt := 109) rfl dX11_laysSteps_73 ?_
      exact tX11_laysSteps_b109  h Kc Kx
def fX11_laysSteps_l34 (x2 : Int32) (M0 : gMem) : Option ((Int32 × gMem) ⊕ gMem) :=
  (rI M0 1 374 (0 : Int32)).bind fun v5 => if v5 ≤ x2 then (some (.inr M0)) else (gLoop (fun z9 => fX11_laysSteps_l46 x2 z9.1 z9.2) gFu ((0 : Int32), M0)).bind fun w17 => some (.inl (x2 + (1 : Int32), w17))
set_option maxRecDepth 20000 in
theorem tX11_laysSteps_l34 {X : gX} {V : gEnv} {x2 : Int32} {M0 : gMem}  {o : ((Int32 × gMem) ⊕ gMem)} (h : fX11_laysSteps_l34 x2 M0 = some o) (Kc : ∀ s9, o = .inl s9 → gG X V mX11_laysSteps gShM s9.2 0 0 34 [(0, .ref (gAd V 0)), (2, .int s9.1)] []) (Kx : ∀ e9, o = .inr e9 → gG X V mX11_laysSteps gShM e9 0 0 121 [] []) : gG X V mX11_laysSteps gShM M0 0 0 34 [(0, .ref (gAd V 0)), (2, .int x2)] [] := by
  unfold fX11_laysSteps_l34 at h
  refine g_iload_n 1 rfl rfl dX11_laysSteps_34 ?_
  refine g_aload_n 0 rfl rfl dX11_laysSteps_35 ?_
  refine g_getR FX11_9 sM_0 rfl dX11_laysSteps_36 ?_
  refine g_iconst (v := 0) rfl dX11_laysSteps_39 ?_
  obtain ⟨v5, ev5, h⟩ := g_bnd h
  refine g_iald' ev5 sM_1 dX11_laysSteps_40 ?_
  rcases g_ite h with ⟨c6, h⟩ | ⟨c6, h⟩
  · refine g_icmp_ge_t c6 (tgt := 121) rfl dX11_laysSteps_41 ?_
    cases h
    refine g_sub [] rfl ?_
    exact Kx M0 rfl
  · refine g_icmp_ge_f c6 (tgt := 121) rfl dX11_laysSteps_41 ?_
    refine g_iconst (v := 0) rfl dX11_laysSteps_44 ?_
    refine g_istore_n (ls' := [(3, .int (0 : Int32)), (0, .ref (gAd V 0)), (2, .int x2)]) rfl (Nat.le_of_ble_eq_true rfl) rfl dX11_laysSteps_45 ?_
    obtain ⟨w17, ew17, h⟩ := g_bnd h
    refine g_sub [1, 2, 0] rfl ?_
    have KX : gG X V mX11_laysSteps gShM w17 0 0 115 [(0, .ref (gAd V 0)), (2, .int x2)] [] := by
      refine g_iinc (j := 1) (v := x2 + (1 : Int32)) (ls' := [(2, .int (x2 + (1 : Int32))), (0, .ref (gAd V 0))]) rfl rfl (Nat.le_of_ble_eq_true rfl) rfl dX11_laysSteps_115 ?_
      refine g_goto (tgt := 34) rfl dX11_laysSteps_118 ?_
      cases h
      refine g_sub [1, 0] rfl ?_
      exact Kc (x2 + (1 : Int32), w17) rfl
    exact gLoop_Q ew17 (fun z9 => gG X V mX11_laysSteps gShM z9.2 0 0 46 [(0, .ref (gAd V 0)), (2, .int x2), (3, .int z9.1)] []) (fun s9 o9 hb9 hc9 hx9 => tX11_laysSteps_l46  hb9 hc9 (fun e9 he9 => by cases hx9 _ he9; exact KX))
def fX11_laysSteps (x1 : Int32) (M0 : gMem) : Option gMem :=
  (gLoop (fun z9 => fX11_laysSteps_l2 x1 z9.1 z9.2) gFu ((0 : Int32), M0)).bind fun w4 => (gLoop (fun z9 => fX11_laysSteps_l34 z9.1 z9.2) gFu ((1 : Int32), w4)).bind fun w18 => some w18
set_option maxRecDepth 20000 in
theorem tX11_laysSteps {X : gX} {V : gEnv} {x1 : Int32} {M0 : gMem}  {o : gMem} (h : fX11_laysSteps x1 M0 = some o) (O : gO X V mX11_laysSteps gShM none none o) : gG X V mX11_laysSteps gShM M0 0 0 0 [(0, .ref (gAd V 0)), (1, .int x1)] [] := by
  unfold fX11_laysSteps at h
  refine g_iconst (v := 0) rfl dX11_laysSteps_0 ?_
  refine g_istore_n (ls' := [(2, .int (0 : Int32)), (0, .ref (gAd V 0)), (1, .int x1)]) rfl (Nat.le_of_ble_eq_true rfl) rfl dX11_laysSteps_1 ?_
  obtain ⟨w4, ew4, h⟩ := g_bnd h
  refine g_sub [1, 2, 0] rfl ?_
  have KX : gG X V mX11_laysSteps gShM w4 0 0 32 [(0, .ref (gAd V 0))] [] := by
    refine g_iconst (v := 1) rfl dX11_laysSteps_32 ?_
    refine g_istore_n (ls' := [(2, .int (1 : Int32)), (0, .ref (gAd V 0))]) rfl (Nat.le_of_ble_eq_true rfl) rfl dX11_laysSteps_33 ?_
    obtain ⟨w18, ew18, h⟩ := g_bnd h
    refine g_sub [1, 0] rfl ?_
    have KX : gG X V mX11_laysSteps gShM w18 0 0 121 [] [] := by
      cases h
      exact g_vret O ⟨Nat.le_of_ble_eq_true rfl, Nat.le_of_ble_eq_true rfl⟩ dX11_laysSteps_121
    exact gLoop_Q ew18 (fun z9 => gG X V mX11_laysSteps gShM z9.2 0 0 34 [(0, .ref (gAd V 0)), (2, .int z9.1)] []) (fun s9 o9 hb9 hc9 hx9 => tX11_laysSteps_l34  hb9 hc9 (fun e9 he9 => by cases hx9 _ he9; exact KX))
  exact gLoop_Q ew4 (fun z9 => gG X V mX11_laysSteps gShM z9.2 0 0 2 [(0, .ref (gAd V 0)), (1, .int x1), (2, .int z9.1)] []) (fun s9 o9 hb9 hc9 hx9 => tX11_laysSteps_l2  hb9 hc9 (fun e9 he9 => by cases hx9 _ he9; exact KX))
theorem kX11_laysSteps {l : Launch} {V : gEnv} {M0 : gMem} {x1 : Int32}  {o : gMem} (h : fX11_laysSteps x1 M0 = some o) : gM l yX11_laysSteps cX11_laysSteps 4 none rX11_laysSteps V gShM [.ref (gAd V 0), .int x1] M0 none o :=
  gM.of (by decide) (Nat.le_of_ble_eq_true rfl) rfl (fun X _ O => tX11_laysSteps  h O)
theorem dX11_nextOn_0 : decode cX11_nextOn 0 = .ok (.iconst (-1), 1) := by decide +kernel
theorem dX11_nextOn_1 : decode cX11_nextOn 1 = .ok (.istore_n 2, 1) := by decide +kernel
theorem dX11_nextOn_2 : decode cX11_nextOn 2 = .ok (.iconst 0, 1) := by decide +kernel
theorem dX11_nextOn_3 : decode cX11_nextOn 3 = .ok (.istore_n 3, 1) := by decide +kernel
theorem dX11_nextOn_4 : decode cX11_nextOn 4 = .ok (.iload_n 3, 1) := by decide +kernel
theorem dX11_nextOn_5 : decode cX11_nextOn 5 = .ok (.aload_n 0, 1) := by decide +kernel
theorem dX11_nextOn_6 : decode cX11_nextOn 6 = .ok (.getfield 9, 3) := by decide +kernel
theorem dX11_nextOn_9 : decode cX11_nextOn 9 = .ok (.iconst 1, 1) := by decide +kernel
theorem dX11_nextOn_10 : decode cX11_nextOn 10 = .ok (.iaload, 1) := by decide +kernel
theorem dX11_nextOn_11 : decode cX11_nextOn 11 = .ok (.if_icmp .ge 81, 3) := by decide +kernel
theorem dX11_nextOn_14 : decode cX11_nextOn 14 = .ok (.aload_n 0, 1) := by decide +kernel
theorem dX11_nextOn_15 : decode cX11_nextOn 15 = .ok (.getfield 9, 3) := by decide +kernel
theorem dX11_nextOn_18 : decode cX11_nextOn 18 = .ok (.bipush 98, 2) := by decide +kernel
theorem dX11_nextOn_20 : decode cX11_nextOn 20 = .ok (.iload_n 3, 1) := by decide +kernel
theorem dX11_nextOn_21 : decode cX11_nextOn 21 = .ok (.iadd, 1) := by decide +kernel
theorem dX11_nextOn_22 : decode cX11_nextOn 22 = .ok (.iaload, 1) := by decide +kernel
theorem dX11_nextOn_23 : decode cX11_nextOn 23 = .ok (.istore 4, 2) := by decide +kernel
theorem dX11_nextOn_25 : decode cX11_nextOn 25 = .ok (.aload_n 0, 1) := by decide +kernel
theorem dX11_nextOn_26 : decode cX11_nextOn 26 = .ok (.getfield 9, 3) := by decide +kernel
theorem dX11_nextOn_29 : decode cX11_nextOn 29 = .ok (.bipush 38, 2) := by decide +kernel
theorem dX11_nextOn_31 : decode cX11_nextOn 31 = .ok (.iload_n 3, 1) := by decide +kernel
theorem dX11_nextOn_32 : decode cX11_nextOn 32 = .ok (.iadd, 1) := by decide +kernel
theorem dX11_nextOn_33 : decode cX11_nextOn 33 = .ok (.iaload, 1) := by decide +kernel
theorem dX11_nextOn_34 : decode cX11_nextOn 34 = .ok (.iload_n 1, 1) := by decide +kernel
theorem dX11_nextOn_35 : decode cX11_nextOn 35 = .ok (.if_icmp .ne 25, 3) := by decide +kernel
theorem dX11_nextOn_38 : decode cX11_nextOn 38 = .ok (.aload_n 0, 1) := by decide +kernel
theorem dX11_nextOn_39 : decode cX11_nextOn 39 = .ok (.getfield 28, 3) := by decide +kernel
theorem dX11_nextOn_42 : decode cX11_nextOn 42 = .ok (.iload 4, 2) := by decide +kernel
theorem dX11_nextOn_44 : decode cX11_nextOn 44 = .ok (.iaload, 1) := by decide +kernel
theorem dX11_nextOn_45 : decode cX11_nextOn 45 = .ok (.aload_n 0, 1) := by decide +kernel
theorem dX11_nextOn_46 : decode cX11_nextOn 46 = .ok (.getfield 28, 3) := by decide +kernel
theorem dX11_nextOn_49 : decode cX11_nextOn 49 = .ok (.iload_n 1, 1) := by decide +kernel
theorem dX11_nextOn_50 : decode cX11_nextOn 50 = .ok (.iaload, 1) := by decide +kernel
theorem dX11_nextOn_51 : decode cX11_nextOn 51 = .ok (.iconst 1, 1) := by decide +kernel
theorem dX11_nextOn_52 : decode cX11_nextOn 52 = .ok (.isub, 1) := by decide +kernel
theorem dX11_nextOn_53 : decode cX11_nextOn 53 = .ok (.if_icmp .ne 7, 3) := by decide +kernel
theorem dX11_nextOn_56 : decode cX11_nextOn 56 = .ok (.iconst 1, 1) := by decide +kernel
theorem dX11_nextOn_57 : decode cX11_nextOn 57 = .ok (.goto 4, 3) := by decide +kernel
theorem dX11_nextOn_60 : decode cX11_nextOn 60 = .ok (.iconst 0, 1) := by decide +kernel
theorem dX11_nextOn_61 : decode cX11_nextOn 61 = .ok (.istore 5, 2) := by decide +kernel
theorem dX11_nextOn_63 : decode cX11_nextOn 63 = .ok (.iload 5, 2) := by decide +kernel
theorem dX11_nextOn_65 : decode cX11_nextOn 65 = .ok (.ifCond .eq 19, 3) := by decide +kernel
theorem dX11_nextOn_68 : decode cX11_nextOn 68 = .ok (.iload_n 2, 1) := by decide +kernel
theorem dX11_nextOn_69 : decode cX11_nextOn 69 = .ok (.iconst (-1), 1) := by decide +kernel
theorem dX11_nextOn_70 : decode cX11_nextOn 70 = .ok (.if_icmp .eq 9, 3) := by decide +kernel
theorem dX11_nextOn_73 : decode cX11_nextOn 73 = .ok (.iload 4, 2) := by decide +kernel
theorem dX11_nextOn_75 : decode cX11_nextOn 75 = .ok (.iload_n 2, 1) := by decide +kernel
theorem dX11_nextOn_76 : decode cX11_nextOn 76 = .ok (.if_icmp .ge 8, 3) := by decide +kernel
theorem dX11_nextOn_79 : decode cX11_nextOn 79 = .ok (.iload 4, 2) := by decide +kernel
theorem dX11_nextOn_81 : decode cX11_nextOn 81 = .ok (.goto 4, 3) := by decide +kernel
theorem dX11_nextOn_84 : decode cX11_nextOn 84 = .ok (.iload_n 2, 1) := by decide +kernel
theorem dX11_nextOn_85 : decode cX11_nextOn 85 = .ok (.istore_n 2, 1) := by decide +kernel
theorem dX11_nextOn_86 : decode cX11_nextOn 86 = .ok (.iinc 3 1, 3) := by decide +kernel
theorem dX11_nextOn_89 : decode cX11_nextOn 89 = .ok (.goto (-85), 3) := by decide +kernel
theorem dX11_nextOn_92 : decode cX11_nextOn 92 = .ok (.iload_n 2, 1) := by decide +kernel
theorem dX11_nextOn_93 : decode cX11_nextOn 93 = .ok (.ireturn, 1) := by decide +kernel
abbrev rX11_nextOn : Room := { frames := 0, cells := 0, slots := 0, locals := 0 }
abbrev mX11_nextOn : gY := (cX11_nextOn, RX11, 6, rX11_nextOn)
def fX11_nextOn_b85 (x1 : Int32) (x3 : Int32) (s0 : Int32) (M0 : gMem) : Option ((Int32 × Int32) ⊕ Int32) :=
  some (.inl (s0, x3 + (1 : Int32)))
set_option maxRecDepth 20000 in
theorem tX11_nextOn_b85 {X : gX} {V : gEnv} {x1 : Int32} {x3 : Int32} {s0 : Int32} {M0 : gMem}  {o : ((Int32 × Int32) ⊕ Int32)} (h : fX11_nextOn_b85 x1 x3 s0 M0 = some o) (Kc : ∀ s9, o = .inl s9 → gG X V mX11_nextOn gShM M0 0 0 4 [(0, .ref (gAd V 0)), (1, .int x1), (2, .int s9.1), (3, .int s9.2)] []) (Kx : ∀ e9, o = .inr e9 → gG X V mX11_nextOn gShM M0 0 0 92 [(2, .int e9)] []) : gG X V mX11_nextOn gShM M0 0 0 85 [(0, .ref (gAd V 0)), (1, .int x1), (3, .int x3)] [.int s0] := by
  unfold fX11_nextOn_b85 at h
  refine g_istore_n (ls' := [(2, .int s0), (0, .ref (gAd V 0)), (1, .int x1), (3, .int x3)]) rfl (Nat.le_of_ble_eq_true rfl) rfl dX11_nextOn_85 ?_
  refine g_iinc (j := 3) (v := x3 + (1 : Int32)) (ls' := [(3, .int (x3 + (1 : Int32))), (2, .int s0), (0, .ref (gAd V 0)), (1, .int x1)]) rfl rfl (Nat.le_of_ble_eq_true rfl) rfl dX11_nextOn_86 ?_
  refine g_goto (tgt := 4) rfl dX11_nextOn_89 ?_
  cases h
  refine g_sub [2, 3, 1, 0] rfl ?_
  exact Kc (s0, x3 + (1 : Int32)) rfl
def fX11_nextOn_b84 (x1 : Int32) (x2 : Int32) (x3 : Int32) (M0 : gMem) : Option ((Int32 × Int32) ⊕ Int32) :=
  fX11_nextOn_b85 x1 x3 x2 M0
set_option maxRecDepth 20000 in
theorem tX11_nextOn_b84 {X : gX} {V : gEnv} {x1 : Int32} {x2 : Int32} {x3 : Int32} {M0 : gMem}  {o : ((Int32 × Int32) ⊕ Int32)} (h : fX11_nextOn_b84 x1 x2 x3 M0 = some o) (Kc : ∀ s9, o = .inl s9 → gG X V mX11_nextOn gShM M0 0 0 4 [(0, .ref (gAd V 0)), (1, .int x1), (2, .int s9.1), (3, .int s9.2)] []) (Kx : ∀ e9, o = .inr e9 → gG X V mX11_nextOn gShM M0 0 0 92 [(2, .int e9)] []) : gG X V mX11_nextOn gShM M0 0 0 84 [(0, .ref (gAd V 0)), (1, .int x1), (2, .int x2), (3, .int x3)] [] := by
  unfold fX11_nextOn_b84 at h
  refine g_iload_n 2 rfl rfl dX11_nextOn_84 ?_
  refine g_sub [0, 1, 3] rfl ?_
  exact tX11_nextOn_b85  h Kc Kx
def fX11_nextOn_b79 (x1 : Int32) (x3 : Int32) (x4 : Int32) (M0 : gMem) : Option ((Int32 × Int32) ⊕ Int32) :=
  fX11_nextOn_b85 x1 x3 x4 M0
set_option maxRecDepth 20000 in
theorem tX11_nextOn_b79 {X : gX} {V : gEnv} {x1 : Int32} {x3 : Int32} {x4 : Int32} {M0 : gMem}  {o : ((Int32 × Int32) ⊕ Int32)} (h : fX11_nextOn_b79 x1 x3 x4 M0 = some o) (Kc : ∀ s9, o = .inl s9 → gG X V mX11_nextOn gShM M0 0 0 4 [(0, .ref (gAd V 0)), (1, .int x1), (2, .int s9.1), (3, .int s9.2)] []) (Kx : ∀ e9, o = .inr e9 → gG X V mX11_nextOn gShM M0 0 0 92 [(2, .int e9)] []) : gG X V mX11_nextOn gShM M0 0 0 79 [(0, .ref (gAd V 0)), (1, .int x1), (3, .int x3), (4, .int x4)] [] := by
  unfold fX11_nextOn_b79 at h
  refine g_iload 3 rfl dX11_nextOn_79 ?_
  refine g_goto (tgt := 85) rfl dX11_nextOn_81 ?_
  refine g_sub [0, 1, 2] rfl ?_
  exact tX11_nextOn_b85  h Kc Kx
def fX11_nextOn_b61 (x1 : Int32) (x2 : Int32) (x3 : Int32) (x4 : Int32) (s0 : Int32) (M0 : gMem) : Option ((Int32 × Int32) ⊕ Int32) :=
  if s0 = 0 then (fX11_nextOn_b84 x1 x2 x3 M0) else if x2 = (-1 : Int32) then (fX11_nextOn_b79 x1 x3 x4 M0) else if x2 ≤ x4 then (fX11_nextOn_b84 x1 x2 x3 M0) else fX11_nextOn_b79 x1 x3 x4 M0
set_option maxRecDepth 20000 in
theorem tX11_nextOn_b61 {X : gX} {V : gEnv} {x1 : Int32} {x2 : Int32} {x3 : Int32} {x4 : Int32} {s0 : Int32} {M0 : gMem}  {o : ((Int32 × Int32) ⊕ Int32)} (h : fX11_nextOn_b61 x1 x2 x3 x4 s0 M0 = some o) (Kc : ∀ s9, o = .inl s9 → gG X V mX11_nextOn gShM M0 0 0 4 [(0, .ref (gAd V 0)), (1, .int x1), (2, .int s9.1), (3, .int s9.2)] []) (Kx : ∀ e9, o = .inr e9 → gG X V mX11_nextOn gShM M0 0 0 92 [(2, .int e9)] []) : gG X V mX11_nextOn gShM M0 0 0 61 [(0, .ref (gAd V 0)), (1, .int x1), (2, .int x2), (3, .int x3), (4, .int x4)] [.int s0] := by
  unfold fX11_nextOn_b61 at h
  refine g_istore (ls' := [(5, .int s0), (0, .ref (gAd V 0)), (1, .int x1), (2, .int x2), (3, .int x3), (4, .int x4)]) (Nat.le_of_ble_eq_true rfl) rfl dX11_nextOn_61 ?_
  refine g_iload 0 rfl dX11_nextOn_63 ?_
  rcases g_ite h with ⟨c9, h⟩ | ⟨c9, h⟩
  · refine g_if_eq_t c9 (tgt := 84) rfl dX11_nextOn_65 ?_
    refine g_sub [1, 2, 3, 4] rfl ?_
    exact tX11_nextOn_b84  h Kc Kx
  · refine g_if_eq_f c9 (tgt := 84) rfl dX11_nextOn_65 ?_
    refine g_iload_n 3 rfl rfl dX11_nextOn_68 ?_
    refine g_iconst (v := -1) rfl dX11_nextOn_69 ?_
    rcases g_ite h with ⟨c10, h⟩ | ⟨c10, h⟩
    · refine g_icmp_eq_t c10 (tgt := 79) rfl dX11_nextOn_70 ?_
      refine g_sub [1, 2, 4, 5] rfl ?_
      exact tX11_nextOn_b79  h Kc Kx
    · refine g_icmp_eq_f c10 (tgt := 79) rfl dX11_nextOn_70 ?_
      refine g_iload 5 rfl dX11_nextOn_73 ?_
      refine g_iload_n 3 rfl rfl dX11_nextOn_75 ?_
      rcases g_ite h with ⟨c11, h⟩ | ⟨c11, h⟩
      · refine g_icmp_ge_t c11 (tgt := 84) rfl dX11_nextOn_76 ?_
        refine g_sub [1, 2, 3, 4] rfl ?_
        exact tX11_nextOn_b84  h Kc Kx
      · refine g_icmp_ge_f c11 (tgt := 84) rfl dX11_nextOn_76 ?_
        refine g_sub [1, 2, 4, 5] rfl ?_
        exact tX11_nextOn_b79  h Kc Kx
def fX11_nextOn_b60 (x1 : Int32) (x2 : Int32) (x3 : Int32) (x4 : Int32) (M0 : gMem) : Option ((Int32 × Int32) ⊕ Int32) :=
  fX11_nextOn_b61 x1 x2 x3 x4 (0 : Int32) M0
set_option maxRecDepth 20000 in
theorem tX11_nextOn_b60 {X : gX} {V : gEnv} {x1 : Int32} {x2 : Int32} {x3 : Int32} {x4 : Int32} {M0 : gMem}  {o : ((Int32 × Int32) ⊕ Int32)} (h : fX11_nextOn_b60 x1 x2 x3 x4 M0 = some o) (Kc : ∀ s9, o = .inl s9 → gG X V mX11_nextOn gShM M0 0 0 4 [(0, .ref (gAd V 0)), (1, .int x1), (2, .int s9.1), (3, .int s9.2)] []) (Kx : ∀ e9, o = .inr e9 → gG X V mX11_nextOn gShM M0 0 0 92 [(2, .int e9)] []) : gG X V mX11_nextOn gShM M0 0 0 60 [(0, .ref (gAd V 0)), (1, .int x1), (2, .int x2), (3, .int x3), (4, .int x4)] [] := by
  unfold fX11_nextOn_b60 at h
  refine g_iconst (v := 0) rfl dX11_nextOn_60 ?_
  exact tX11_nextOn_b61  h Kc Kx
def fX11_nextOn_l4 (x1 : Int32) (M0 : gMem) (x2 : Int32) (x3 : Int32) : Option ((Int32 × Int32) ⊕ Int32) :=
  (rI M0 1 374 (1 : Int32)).bind fun v1 => if v1 ≤ x3 then (some (.inr x2)) else (rI M0 1 374 ((98 : Int32) + x3)).bind fun v3 => (rI M0 1 374 ((38 : Int32) + x3)).bind fun v4 => if v4 = x1 then ((rI M0 7 24 v3).bind fun v6 => (rI M0 7 24 x1).bind fun v7 => if v6 = (v7 - (1 : Int32)) then (fX11_nextOn_b61 x1 x2 x3 v3 (1 : Int32) M0) else fX11_nextOn_b60 x1 x2 x3 v3 M0) else fX11_nextOn_b60 x1 x2 x3 v3 M0
set_option maxRecDepth 20000 in
theorem tX11_nextOn_l4 {X : gX} {V : gEnv} {x1 : Int32} {M0 : gMem} {x2 : Int32} {x3 : Int32}  {o : ((Int32 × Int32) ⊕ Int32)} (h : fX11_nextOn_l4 x1 M0 x2 x3 = some o) (Kc : ∀ s9, o = .inl s9 → gG X V mX11_nextOn gShM M0 0 0 4 [(0, .ref (gAd V 0)), (1, .int x1), (2, .int s9.1), (3, .int s9.2)] []) (Kx : ∀ e9, o = .inr e9 → gG X V mX11_nextOn gShM M0 0 0 92 [(2, .int e9)] []) : gG X V mX11_nextOn gShM M0 0 0 4 [(0, .ref (gAd V 0)), (1, .int x1), (2, .int x2), (3, .int x3)] [] := by
  unfold fX11_nextOn_l4 at h
  refine g_iload_n 3 rfl rfl dX11_nextOn_4 ?_
  refine g_aload_n 0 rfl rfl dX11_nextOn_5 ?_
  refine g_getR FX11_9 sM_0 rfl dX11_nextOn_6 ?_
  refine g_iconst (v := 1) rfl dX11_nextOn_9 ?_
  obtain ⟨v1, ev1, h⟩ := g_bnd h
  refine g_iald' ev1 sM_1 dX11_nextOn_10 ?_
  rcases g_ite h with ⟨c2, h⟩ | ⟨c2, h⟩
  · refine g_icmp_ge_t c2 (tgt := 92) rfl dX11_nextOn_11 ?_
    cases h
    refine g_sub [2] rfl ?_
    exact Kx x2 rfl
  · refine g_icmp_ge_f c2 (tgt := 92) rfl dX11_nextOn_11 ?_
    refine g_aload_n 0 rfl rfl dX11_nextOn_14 ?_
    refine g_getR FX11_9 sM_0 rfl dX11_nextOn_15 ?_
    refine g_bipush (v := 98) rfl dX11_nextOn_18 ?_
    refine g_iload_n 3 rfl rfl dX11_nextOn_20 ?_
    refine g_iadd dX11_nextOn_21 ?_
    obtain ⟨v3, ev3, h⟩ := g_bnd h
    refine g_iald' ev3 sM_1 dX11_nextOn_22 ?_
    refine g_istore (ls' := [(4, .int v3), (0, .ref (gAd V 0)), (1, .int x1), (2, .int x2), (3, .int x3)]) (Nat.le_of_ble_eq_true rfl) rfl dX11_nextOn_23 ?_
    refine g_aload_n 1 rfl rfl dX11_nextOn_25 ?_
    refine g_getR FX11_9 sM_0 rfl dX11_nextOn_26 ?_
    refine g_bipush (v := 38) rfl dX11_nextOn_29 ?_
    refine g_iload_n 4 rfl rfl dX11_nextOn_31 ?_
    refine g_iadd dX11_nextOn_32 ?_
    obtain ⟨v4, ev4, h⟩ := g_bnd h
    refine g_iald' ev4 sM_1 dX11_nextOn_33 ?_
    refine g_iload_n 2 rfl rfl dX11_nextOn_34 ?_
    rcases g_ite h with ⟨c5, h⟩ | ⟨c5, h⟩
    · refine g_icmp_ne_f c5 (tgt := 60) rfl dX11_nextOn_35 ?_
      refine g_aload_n 1 rfl rfl dX11_nextOn_38 ?_
      refine g_getR FX11_28 sM_0 rfl dX11_nextOn_39 ?_
      refine g_iload 0 rfl dX11_nextOn_42 ?_
      obtain ⟨v6, ev6, h⟩ := g_bnd h
      refine g_iald' ev6 sM_7 dX11_nextOn_44 ?_
      refine g_aload_n 1 rfl rfl dX11_nextOn_45 ?_
      refine g_getR FX11_28 sM_0 rfl dX11_nextOn_46 ?_
      refine g_iload_n 2 rfl rfl dX11_nextOn_49 ?_
      obtain ⟨v7, ev7, h⟩ := g_bnd h
      refine g_iald' ev7 sM_7 dX11_nextOn_50 ?_
      refine g_iconst (v := 1) rfl dX11_nextOn_51 ?_
      refine g_isub dX11_nextOn_52 ?_
      rcases g_ite h with ⟨c8, h⟩ | ⟨c8, h⟩
      · refine g_icmp_ne_f c8 (tgt := 60) rfl dX11_nextOn_53 ?_
        refine g_iconst (v := 1) rfl dX11_nextOn_56 ?_
        refine g_goto (tgt := 61) rfl dX11_nextOn_57 ?_
        refine g_sub [1, 2, 3, 4, 0] rfl ?_
        exact tX11_nextOn_b61  h Kc Kx
      · refine g_icmp_ne_t c8 (tgt := 60) rfl dX11_nextOn_53 ?_
        refine g_sub [1, 2, 3, 4, 0] rfl ?_
        exact tX11_nextOn_b60  h Kc Kx
    · refine g_icmp_ne_t c5 (tgt := 60) rfl dX11_nextOn_35 ?_
      refine g_sub [1, 2, 3, 4, 0] rfl ?_
      exact tX11_nextOn_b60  h Kc Kx
def fX11_nextOn (x1 : Int32) (M0 : gMem) : Option Int32 :=
  (gLoop (fun z9 => fX11_nextOn_l4 x1 M0 z9.1 z9.2) gFu ((-1 : Int32), (0 : Int32))).bind fun w12 => some w12
set_option maxRecDepth 20000 in
theorem tX11_nextOn {X : gX} {V : gEnv} {x1 : Int32} {M0 : gMem}  {o : Int32} (h : fX11_nextOn x1 M0 = some o) (O : gO X V mX11_nextOn gShM (some .int) (some (.int o)) M0) : gG X V mX11_nextOn gShM M0 0 0 0 [(0, .ref (gAd V 0)), (1, .int x1)] [] := by
  unfold fX11_nextOn at h
  refine g_iconst (v := -1) rfl dX11_nextOn_0 ?_
  refine g_istore_n (ls' := [(2, .int (-1 : Int32)), (0, .ref (gAd V 0)), (1, .int x1)]) rfl (Nat.le_of_ble_eq_true rfl) rfl dX11_nextOn_1 ?_
  refine g_iconst (v := 0) rfl dX11_nextOn_2 ?_
  refine g_istore_n (ls' := [(3, .int (0 : Int32)), (2, .int (-1 : Int32)), (0, .ref (gAd V 0)), (1, .int x1)]) rfl (Nat.le_of_ble_eq_true rfl) rfl dX11_nextOn_3 ?_
  obtain ⟨w12, ew12, h⟩ := g_bnd h
  refine g_sub [2, 3, 1, 0] rfl ?_
  have KX : gG X V mX11_nextOn gShM M0 0 0 92 [(2, .int w12)] [] := by
    refine g_iload_n 0 rfl rfl dX11_nextOn_92 ?_
    cases h
    exact g_iret O ⟨Nat.le_of_ble_eq_true rfl, Nat.le_of_ble_eq_true rfl⟩ rfl dX11_nextOn_93
  exact gLoop_Q ew12 (fun z9 => gG X V mX11_nextOn gShM M0 0 0 4 [(0, .ref (gAd V 0)), (1, .int x1), (2, .int z9.1), (3, .int z9.2)] []) (fun s9 o9 hb9 hc9 hx9 => tX11_nextOn_l4  hb9 hc9 (fun e9 he9 => by cases hx9 _ he9; exact KX))
theorem kX11_nextOn {l : Launch} {V : gEnv} {M0 : gMem} {x1 : Int32}  {o : Int32} (h : fX11_nextOn x1 M0 = some o) : gM l yX11_nextOn cX11_nextOn 6 (some .int) rX11_nextOn V gShM [.ref (gAd V 0), .int x1] M0 (some (.int o)) M0 :=
  gM.of (by decide) (Nat.le_of_ble_eq_true rfl) rfl (fun X _ O => tX11_nextOn  h O)
theorem dX11_needsRepair_0 : decode cX11_needsRepair 0 = .ok (.aload_n 0, 1) := by decide +kernel
theorem dX11_needsRepair_1 : decode cX11_needsRepair 1 = .ok (.iload_n 1, 1) := by decide +kernel
theorem dX11_needsRepair_2 : decode cX11_needsRepair 2 = .ok (.iconst 1, 1) := by decide +kernel
theorem dX11_needsRepair_3 : decode cX11_needsRepair 3 = .ok (.invokevirtual 82, 3) := by decide +kernel
theorem dX11_needsRepair_6 : decode cX11_needsRepair 6 = .ok (.aload_n 0, 1) := by decide +kernel
theorem dX11_needsRepair_7 : decode cX11_needsRepair 7 = .ok (.iload_n 2, 1) := by decide +kernel
theorem dX11_needsRepair_8 : decode cX11_needsRepair 8 = .ok (.iconst 1, 1) := by decide +kernel
theorem dX11_needsRepair_9 : decode cX11_needsRepair 9 = .ok (.invokevirtual 82, 3) := by decide +kernel
theorem dX11_needsRepair_12 : decode cX11_needsRepair 12 = .ok (.if_icmp .eq 20, 3) := by decide +kernel
theorem dX11_needsRepair_15 : decode cX11_needsRepair 15 = .ok (.aload_n 0, 1) := by decide +kernel
theorem dX11_needsRepair_16 : decode cX11_needsRepair 16 = .ok (.iload_n 1, 1) := by decide +kernel
theorem dX11_needsRepair_17 : decode cX11_needsRepair 17 = .ok (.invokevirtual 101, 3) := by decide +kernel
theorem dX11_needsRepair_20 : decode cX11_needsRepair 20 = .ok (.aload_n 0, 1) := by decide +kernel
theorem dX11_needsRepair_21 : decode cX11_needsRepair 21 = .ok (.iload_n 2, 1) := by decide +kernel
theorem dX11_needsRepair_22 : decode cX11_needsRepair 22 = .ok (.invokevirtual 101, 3) := by decide +kernel
theorem dX11_needsRepair_25 : decode cX11_needsRepair 25 = .ok (.if_icmp .le 7, 3) := by decide +kernel
theorem dX11_needsRepair_28 : decode cX11_needsRepair 28 = .ok (.iconst 1, 1) := by decide +kernel
theorem dX11_needsRepair_29 : decode cX11_needsRepair 29 = .ok (.goto 4, 3) := by decide +kernel
theorem dX11_needsRepair_32 : decode cX11_needsRepair 32 = .ok (.iconst 0, 1) := by decide +kernel
theorem dX11_needsRepair_33 : decode cX11_needsRepair 33 = .ok (.ireturn, 1) := by decide +kernel
abbrev rX11_needsRepair : Room := { frames := 2, cells := 0, slots := 0, locals := 43 }
abbrev mX11_needsRepair : gY := (cX11_needsRepair, RX11, 3, rX11_needsRepair)
def fX11_needsRepair (x1 : Int32) (x2 : Int32) (M0 : gMem) : Option Int32 :=
  (fX11_of x1 (1 : Int32) M0).bind fun v1 => (fX11_of x2 (1 : Int32) M0).bind fun v2 => if v1 = v2 then (some (0 : Int32)) else (fX11_placeOf x1 M0).bind fun v4 => (fX11_placeOf x2 M0).bind fun v5 => if v4 ≤ v5 then (some (0 : Int32)) else some (1 : Int32)
set_option maxRecDepth 20000 in
theorem tX11_needsRepair {X : gX} {V : gEnv} {x1 : Int32} {x2 : Int32} {M0 : gMem}  {o : Int32} (h : fX11_needsRepair x1 x2 M0 = some o) (O : gO X V mX11_needsRepair gShM (some .boolean) (some (.int o)) M0) : gG X V mX11_needsRepair gShM M0 0 0 0 [(0, .ref (gAd V 0)), (1, .int x1), (2, .int x2)] [] := by
  unfold fX11_needsRepair at h
  refine g_aload_n 0 rfl rfl dX11_needsRepair_0 ?_
  refine g_iload_n 1 rfl rfl dX11_needsRepair_1 ?_
  refine g_iconst (v := 1) rfl dX11_needsRepair_2 ?_
  obtain ⟨v1, ev1, h⟩ := g_bnd h
  refine g_callV LX11_82 sM_0 rfl (kX11_of ev1) rfl rfl (Nat.le_of_ble_eq_true rfl) ⟨Nat.le_of_ble_eq_true rfl, Nat.le_of_ble_eq_true rfl⟩ ⟨Nat.le_of_ble_eq_true rfl, Nat.le_of_ble_eq_true rfl⟩ dX11_needsRepair_3 rfl ?_
  refine g_aload_n 0 rfl rfl dX11_needsRepair_6 ?_
  refine g_iload_n 2 rfl rfl dX11_needsRepair_7 ?_
  refine g_iconst (v := 1) rfl dX11_needsRepair_8 ?_
  obtain ⟨v2, ev2, h⟩ := g_bnd h
  refine g_callV LX11_82 sM_0 rfl (kX11_of ev2) rfl rfl (Nat.le_of_ble_eq_true rfl) ⟨Nat.le_of_ble_eq_true rfl, Nat.le_of_ble_eq_true rfl⟩ ⟨Nat.le_of_ble_eq_true rfl, Nat.le_of_ble_eq_true rfl⟩ dX11_needsRepair_9 rfl ?_
  rcases g_ite h with ⟨c3, h⟩ | ⟨c3, h⟩
  · refine g_icmp_eq_t c3 (tgt := 32) rfl dX11_needsRepair_12 ?_
    refine g_iconst (v := 0) rfl dX11_needsRepair_32 ?_
    cases h
    exact g_iret O ⟨Nat.le_of_ble_eq_true rfl, Nat.le_of_ble_eq_true rfl⟩ rfl dX11_needsRepair_33
  · refine g_icmp_eq_f c3 (tgt := 32) rfl dX11_needsRepair_12 ?_
    refine g_aload_n 0 rfl rfl dX11_needsRepair_15 ?_
    refine g_iload_n 1 rfl rfl dX11_needsRepair_16 ?_
    obtain ⟨v4, ev4, h⟩ := g_bnd h
    refine g_callV LX11_101 sM_0 rfl (kX11_placeOf ev4) rfl rfl (Nat.le_of_ble_eq_true rfl) ⟨Nat.le_of_ble_eq_true rfl, Nat.le_of_ble_eq_true rfl⟩ ⟨Nat.le_of_ble_eq_true rfl, Nat.le_of_ble_eq_true rfl⟩ dX11_needsRepair_17 rfl ?_
    refine g_aload_n 0 rfl rfl dX11_needsRepair_20 ?_
    refine g_iload_n 2 rfl rfl dX11_needsRepair_21 ?_
    obtain ⟨v5, ev5, h⟩ := g_bnd h
    refine g_callV LX11_101 sM_0 rfl (kX11_placeOf ev5) rfl rfl (Nat.le_of_ble_eq_true rfl) ⟨Nat.le_of_ble_eq_true rfl, Nat.le_of_ble_eq_true rfl⟩ ⟨Nat.le_of_ble_eq_true rfl, Nat.le_of_ble_eq_true rfl⟩ dX11_needsRepair_22 rfl ?_
    rcases g_ite h with ⟨c6, h⟩ | ⟨c6, h⟩
    · refine g_icmp_le_t c6 (tgt := 32) rfl dX11_needsRepair_25 ?_
      refine g_iconst (v := 0) rfl dX11_needsRepair_32 ?_
      cases h
      exact g_iret O ⟨Nat.le_of_ble_eq_true rfl, Nat.le_of_ble_eq_true rfl⟩ rfl dX11_needsRepair_33
    · refine g_icmp_le_f c6 (tgt := 32) rfl dX11_needsRepair_25 ?_
      refine g_iconst (v := 1) rfl dX11_needsRepair_28 ?_
      refine g_goto (tgt := 33) rfl dX11_needsRepair_29 ?_
      cases h
      exact g_iret O ⟨Nat.le_of_ble_eq_true rfl, Nat.le_of_ble_eq_true rfl⟩ rfl dX11_needsRepair_33
theorem kX11_needsRepair {l : Launch} {V : gEnv} {M0 : gMem} {x1 : Int32} {x2 : Int32}  {o : Int32} (h : fX11_needsRepair x1 x2 M0 = some o) : gM l yX11_needsRepair cX11_needsRepair 3 (some .boolean) rX11_needsRepair V gShM [.ref (gAd V 0), .int x1, .int x2] M0 (some (.int o)) M0 :=
  gM.of (by decide) (Nat.le_of_ble_eq_true rfl) rfl (fun X _ O => tX11_needsRepair  h O)
