/-! METHODS, by program: pure functions and contracts -/
theorem dX11_gap_0 : decode cX11_gap 0 = .ok (.aload_n 0, 1) := by decide +kernel
theorem dX11_gap_1 : decode cX11_gap 1 = .ok (.iconst 0, 1) := by decide +kernel
theorem dX11_gap_2 : decode cX11_gap 2 = .ok (.putfield 72, 3) := by decide +kernel
theorem dX11_gap_5 : decode cX11_gap 5 = .ok (.aload_n 0, 1) := by decide +kernel
theorem dX11_gap_6 : decode cX11_gap 6 = .ok (.iconst (-1), 1) := by decide +kernel
theorem dX11_gap_7 : decode cX11_gap 7 = .ok (.invokevirtual 104, 3) := by decide +kernel
theorem dX11_gap_10 : decode cX11_gap 10 = .ok (.iconst 0, 1) := by decide +kernel
theorem dX11_gap_11 : decode cX11_gap 11 = .ok (.istore_n 1, 1) := by decide +kernel
theorem dX11_gap_12 : decode cX11_gap 12 = .ok (.iconst 0, 1) := by decide +kernel
theorem dX11_gap_13 : decode cX11_gap 13 = .ok (.istore_n 2, 1) := by decide +kernel
theorem dX11_gap_14 : decode cX11_gap 14 = .ok (.iload_n 2, 1) := by decide +kernel
theorem dX11_gap_15 : decode cX11_gap 15 = .ok (.aload_n 0, 1) := by decide +kernel
theorem dX11_gap_16 : decode cX11_gap 16 = .ok (.getfield 9, 3) := by decide +kernel
theorem dX11_gap_19 : decode cX11_gap 19 = .ok (.iconst 1, 1) := by decide +kernel
theorem dX11_gap_20 : decode cX11_gap 20 = .ok (.iaload, 1) := by decide +kernel
theorem dX11_gap_21 : decode cX11_gap 21 = .ok (.if_icmp .ge 54, 3) := by decide +kernel
theorem dX11_gap_24 : decode cX11_gap 24 = .ok (.iload_n 1, 1) := by decide +kernel
theorem dX11_gap_25 : decode cX11_gap 25 = .ok (.aload_n 0, 1) := by decide +kernel
theorem dX11_gap_26 : decode cX11_gap 26 = .ok (.iload_n 2, 1) := by decide +kernel
theorem dX11_gap_27 : decode cX11_gap 27 = .ok (.invokevirtual 97, 3) := by decide +kernel
theorem dX11_gap_30 : decode cX11_gap 30 = .ok (.ifCond .ne 36, 3) := by decide +kernel
theorem dX11_gap_33 : decode cX11_gap 33 = .ok (.aload_n 0, 1) := by decide +kernel
theorem dX11_gap_34 : decode cX11_gap 34 = .ok (.aload_n 0, 1) := by decide +kernel
theorem dX11_gap_35 : decode cX11_gap 35 = .ok (.getfield 9, 3) := by decide +kernel
theorem dX11_gap_38 : decode cX11_gap 38 = .ok (.bipush 38, 2) := by decide +kernel
theorem dX11_gap_40 : decode cX11_gap 40 = .ok (.iload_n 2, 1) := by decide +kernel
theorem dX11_gap_41 : decode cX11_gap 41 = .ok (.iadd, 1) := by decide +kernel
theorem dX11_gap_42 : decode cX11_gap 42 = .ok (.iaload, 1) := by decide +kernel
theorem dX11_gap_43 : decode cX11_gap 43 = .ok (.invokevirtual 101, 3) := by decide +kernel
theorem dX11_gap_46 : decode cX11_gap 46 = .ok (.aload_n 0, 1) := by decide +kernel
theorem dX11_gap_47 : decode cX11_gap 47 = .ok (.aload_n 0, 1) := by decide +kernel
theorem dX11_gap_48 : decode cX11_gap 48 = .ok (.getfield 9, 3) := by decide +kernel
theorem dX11_gap_51 : decode cX11_gap 51 = .ok (.bipush 98, 2) := by decide +kernel
theorem dX11_gap_53 : decode cX11_gap 53 = .ok (.iload_n 2, 1) := by decide +kernel
theorem dX11_gap_54 : decode cX11_gap 54 = .ok (.iadd, 1) := by decide +kernel
theorem dX11_gap_55 : decode cX11_gap 55 = .ok (.iaload, 1) := by decide +kernel
theorem dX11_gap_56 : decode cX11_gap 56 = .ok (.invokevirtual 101, 3) := by decide +kernel
theorem dX11_gap_59 : decode cX11_gap 59 = .ok (.if_icmp .le 7, 3) := by decide +kernel
theorem dX11_gap_62 : decode cX11_gap 62 = .ok (.iconst 1, 1) := by decide +kernel
theorem dX11_gap_63 : decode cX11_gap 63 = .ok (.goto 4, 3) := by decide +kernel
theorem dX11_gap_66 : decode cX11_gap 66 = .ok (.iconst 0, 1) := by decide +kernel
theorem dX11_gap_67 : decode cX11_gap 67 = .ok (.iadd, 1) := by decide +kernel
theorem dX11_gap_68 : decode cX11_gap 68 = .ok (.istore_n 1, 1) := by decide +kernel
theorem dX11_gap_69 : decode cX11_gap 69 = .ok (.iinc 2 1, 3) := by decide +kernel
theorem dX11_gap_72 : decode cX11_gap 72 = .ok (.goto (-58), 3) := by decide +kernel
theorem dX11_gap_75 : decode cX11_gap 75 = .ok (.iconst 0, 1) := by decide +kernel
theorem dX11_gap_76 : decode cX11_gap 76 = .ok (.istore_n 2, 1) := by decide +kernel
theorem dX11_gap_77 : decode cX11_gap 77 = .ok (.iload_n 2, 1) := by decide +kernel
theorem dX11_gap_78 : decode cX11_gap 78 = .ok (.aload_n 0, 1) := by decide +kernel
theorem dX11_gap_79 : decode cX11_gap 79 = .ok (.getfield 9, 3) := by decide +kernel
theorem dX11_gap_82 : decode cX11_gap 82 = .ok (.iconst 0, 1) := by decide +kernel
theorem dX11_gap_83 : decode cX11_gap 83 = .ok (.iaload, 1) := by decide +kernel
theorem dX11_gap_84 : decode cX11_gap 84 = .ok (.if_icmp .ge 95, 3) := by decide +kernel
theorem dX11_gap_87 : decode cX11_gap 87 = .ok (.iload_n 2, 1) := by decide +kernel
theorem dX11_gap_88 : decode cX11_gap 88 = .ok (.iconst 1, 1) := by decide +kernel
theorem dX11_gap_89 : decode cX11_gap 89 = .ok (.iadd, 1) := by decide +kernel
theorem dX11_gap_90 : decode cX11_gap 90 = .ok (.istore_n 3, 1) := by decide +kernel
theorem dX11_gap_91 : decode cX11_gap 91 = .ok (.iload_n 3, 1) := by decide +kernel
theorem dX11_gap_92 : decode cX11_gap 92 = .ok (.aload_n 0, 1) := by decide +kernel
theorem dX11_gap_93 : decode cX11_gap 93 = .ok (.getfield 9, 3) := by decide +kernel
theorem dX11_gap_96 : decode cX11_gap 96 = .ok (.iconst 0, 1) := by decide +kernel
theorem dX11_gap_97 : decode cX11_gap 97 = .ok (.iaload, 1) := by decide +kernel
theorem dX11_gap_98 : decode cX11_gap 98 = .ok (.if_icmp .ge 75, 3) := by decide +kernel
theorem dX11_gap_101 : decode cX11_gap 101 = .ok (.aload_n 0, 1) := by decide +kernel
theorem dX11_gap_102 : decode cX11_gap 102 = .ok (.getfield 25, 3) := by decide +kernel
theorem dX11_gap_105 : decode cX11_gap 105 = .ok (.iload_n 2, 1) := by decide +kernel
theorem dX11_gap_106 : decode cX11_gap 106 = .ok (.iaload, 1) := by decide +kernel
theorem dX11_gap_107 : decode cX11_gap 107 = .ok (.iload_n 3, 1) := by decide +kernel
theorem dX11_gap_108 : decode cX11_gap 108 = .ok (.invokestatic 93, 3) := by decide +kernel
theorem dX11_gap_111 : decode cX11_gap 111 = .ok (.ifCond .eq 20, 3) := by decide +kernel
theorem dX11_gap_114 : decode cX11_gap 114 = .ok (.aload_n 0, 1) := by decide +kernel
theorem dX11_gap_115 : decode cX11_gap 115 = .ok (.getfield 25, 3) := by decide +kernel
theorem dX11_gap_118 : decode cX11_gap 118 = .ok (.iload_n 3, 1) := by decide +kernel
theorem dX11_gap_119 : decode cX11_gap 119 = .ok (.iaload, 1) := by decide +kernel
theorem dX11_gap_120 : decode cX11_gap 120 = .ok (.iload_n 2, 1) := by decide +kernel
theorem dX11_gap_121 : decode cX11_gap 121 = .ok (.invokestatic 93, 3) := by decide +kernel
theorem dX11_gap_124 : decode cX11_gap 124 = .ok (.ifCond .eq 7, 3) := by decide +kernel
theorem dX11_gap_127 : decode cX11_gap 127 = .ok (.iconst 1, 1) := by decide +kernel
theorem dX11_gap_128 : decode cX11_gap 128 = .ok (.goto 4, 3) := by decide +kernel
theorem dX11_gap_131 : decode cX11_gap 131 = .ok (.iconst 0, 1) := by decide +kernel
theorem dX11_gap_132 : decode cX11_gap 132 = .ok (.istore 4, 2) := by decide +kernel
theorem dX11_gap_134 : decode cX11_gap 134 = .ok (.iload_n 1, 1) := by decide +kernel
theorem dX11_gap_135 : decode cX11_gap 135 = .ok (.iload 4, 2) := by decide +kernel
theorem dX11_gap_137 : decode cX11_gap 137 = .ok (.aload_n 0, 1) := by decide +kernel
theorem dX11_gap_138 : decode cX11_gap 138 = .ok (.iload_n 2, 1) := by decide +kernel
theorem dX11_gap_139 : decode cX11_gap 139 = .ok (.iconst 1, 1) := by decide +kernel
theorem dX11_gap_140 : decode cX11_gap 140 = .ok (.invokevirtual 82, 3) := by decide +kernel
theorem dX11_gap_143 : decode cX11_gap 143 = .ok (.aload_n 0, 1) := by decide +kernel
theorem dX11_gap_144 : decode cX11_gap 144 = .ok (.iload_n 3, 1) := by decide +kernel
theorem dX11_gap_145 : decode cX11_gap 145 = .ok (.iconst 1, 1) := by decide +kernel
theorem dX11_gap_146 : decode cX11_gap 146 = .ok (.invokevirtual 82, 3) := by decide +kernel
theorem dX11_gap_149 : decode cX11_gap 149 = .ok (.if_icmp .ne 7, 3) := by decide +kernel
theorem dX11_gap_152 : decode cX11_gap 152 = .ok (.iconst 1, 1) := by decide +kernel
theorem dX11_gap_153 : decode cX11_gap 153 = .ok (.goto 4, 3) := by decide +kernel
theorem dX11_gap_156 : decode cX11_gap 156 = .ok (.iconst 0, 1) := by decide +kernel
theorem dX11_gap_157 : decode cX11_gap 157 = .ok (.if_icmp .eq 7, 3) := by decide +kernel
theorem dX11_gap_160 : decode cX11_gap 160 = .ok (.iconst 1, 1) := by decide +kernel
theorem dX11_gap_161 : decode cX11_gap 161 = .ok (.goto 4, 3) := by decide +kernel
theorem dX11_gap_164 : decode cX11_gap 164 = .ok (.iconst 0, 1) := by decide +kernel
theorem dX11_gap_165 : decode cX11_gap 165 = .ok (.iadd, 1) := by decide +kernel
theorem dX11_gap_166 : decode cX11_gap 166 = .ok (.istore_n 1, 1) := by decide +kernel
theorem dX11_gap_167 : decode cX11_gap 167 = .ok (.iinc 3 1, 3) := by decide +kernel
theorem dX11_gap_170 : decode cX11_gap 170 = .ok (.goto (-79), 3) := by decide +kernel
theorem dX11_gap_173 : decode cX11_gap 173 = .ok (.iinc 2 1, 3) := by decide +kernel
theorem dX11_gap_176 : decode cX11_gap 176 = .ok (.goto (-99), 3) := by decide +kernel
theorem dX11_gap_179 : decode cX11_gap 179 = .ok (.iload_n 1, 1) := by decide +kernel
theorem dX11_gap_180 : decode cX11_gap 180 = .ok (.ireturn, 1) := by decide +kernel
abbrev rX11_gap : Room := { frames := 2, cells := 0, slots := 0, locals := 44 }
abbrev mX11_gap : gY := (cX11_gap, RX11, 5, rX11_gap)
def fX11_gap_b67 (x2 : Int32) (s0 : Int32) (s1 : Int32) (M0 : gMem) : Option ((Int32 × Int32) ⊕ Int32) :=
  (nm (s0 + s1)).bind fun v12 => some (.inl (v12, x2 + (1 : Int32)))
set_option maxRecDepth 20000 in
theorem tX11_gap_b67 {X : gX} {V : gEnv} {x2 : Int32} {s0 : Int32} {s1 : Int32} {M0 : gMem}  {o : ((Int32 × Int32) ⊕ Int32)} (h : fX11_gap_b67 x2 s0 s1 M0 = some o) (Kc : ∀ s9, o = .inl s9 → gG X V mX11_gap gShM M0 0 0 14 [(0, .ref (gAd V 0)), (1, .int s9.1), (2, .int s9.2)] []) (Kx : ∀ e9, o = .inr e9 → gG X V mX11_gap gShM M0 0 0 75 [(0, .ref (gAd V 0)), (1, .int e9)] []) : gG X V mX11_gap gShM M0 0 0 67 [(0, .ref (gAd V 0)), (2, .int x2)] [.int s1, .int s0] := by
  unfold fX11_gap_b67 at h
  refine g_iadd dX11_gap_67 ?_
  obtain ⟨v12, ev12, h⟩ := g_bnd h
  refine g_nmI ev12 ?_
  refine g_istore_n (ls' := [(1, .int v12), (0, .ref (gAd V 0)), (2, .int x2)]) rfl (Nat.le_of_ble_eq_true rfl) rfl dX11_gap_68 ?_
  refine g_iinc (j := 2) (v := x2 + (1 : Int32)) (ls' := [(2, .int (x2 + (1 : Int32))), (1, .int v12), (0, .ref (gAd V 0))]) rfl rfl (Nat.le_of_ble_eq_true rfl) rfl dX11_gap_69 ?_
  refine g_goto (tgt := 14) rfl dX11_gap_72 ?_
  cases h
  refine g_sub [2, 1, 0] rfl ?_
  exact Kc (v12, x2 + (1 : Int32)) rfl
def fX11_gap_b66 (x2 : Int32) (s0 : Int32) (M0 : gMem) : Option ((Int32 × Int32) ⊕ Int32) :=
  fX11_gap_b67 x2 s0 (0 : Int32) M0
set_option maxRecDepth 20000 in
theorem tX11_gap_b66 {X : gX} {V : gEnv} {x2 : Int32} {s0 : Int32} {M0 : gMem}  {o : ((Int32 × Int32) ⊕ Int32)} (h : fX11_gap_b66 x2 s0 M0 = some o) (Kc : ∀ s9, o = .inl s9 → gG X V mX11_gap gShM M0 0 0 14 [(0, .ref (gAd V 0)), (1, .int s9.1), (2, .int s9.2)] []) (Kx : ∀ e9, o = .inr e9 → gG X V mX11_gap gShM M0 0 0 75 [(0, .ref (gAd V 0)), (1, .int e9)] []) : gG X V mX11_gap gShM M0 0 0 66 [(0, .ref (gAd V 0)), (2, .int x2)] [.int s0] := by
  unfold fX11_gap_b66 at h
  refine g_iconst (v := 0) rfl dX11_gap_66 ?_
  exact tX11_gap_b67  h Kc Kx
def fX11_gap_l14 (M0 : gMem) (x1 : Int32) (x2 : Int32) : Option ((Int32 × Int32) ⊕ Int32) :=
  (rI M0 1 374 (1 : Int32)).bind fun v3 => if v3 ≤ x2 then (some (.inr x1)) else (fX11_isInner x2 M0).bind fun v5 => if v5 = 0 then ((rI M0 1 374 ((38 : Int32) + x2)).bind fun v7 => (fX11_placeOf v7 M0).bind fun v8 => (rI M0 1 374 ((98 : Int32) + x2)).bind fun v9 => (fX11_placeOf v9 M0).bind fun v10 => if v8 ≤ v10 then (fX11_gap_b66 x2 x1 M0) else fX11_gap_b67 x2 x1 (1 : Int32) M0) else fX11_gap_b66 x2 x1 M0
set_option maxRecDepth 20000 in
theorem tX11_gap_l14 {X : gX} {V : gEnv} {M0 : gMem} {x1 : Int32} {x2 : Int32}  {o : ((Int32 × Int32) ⊕ Int32)} (h : fX11_gap_l14 M0 x1 x2 = some o) (Kc : ∀ s9, o = .inl s9 → gG X V mX11_gap gShM M0 0 0 14 [(0, .ref (gAd V 0)), (1, .int s9.1), (2, .int s9.2)] []) (Kx : ∀ e9, o = .inr e9 → gG X V mX11_gap gShM M0 0 0 75 [(0, .ref (gAd V 0)), (1, .int e9)] []) : gG X V mX11_gap gShM M0 0 0 14 [(0, .ref (gAd V 0)), (1, .int x1), (2, .int x2)] [] := by
  unfold fX11_gap_l14 at h
  refine g_iload_n 2 rfl rfl dX11_gap_14 ?_
  refine g_aload_n 0 rfl rfl dX11_gap_15 ?_
  refine g_getR FX11_9 sM_0 rfl dX11_gap_16 ?_
  refine g_iconst (v := 1) rfl dX11_gap_19 ?_
  obtain ⟨v3, ev3, h⟩ := g_bnd h
  refine g_iald' ev3 sM_1 dX11_gap_20 ?_
  rcases g_ite h with ⟨c4, h⟩ | ⟨c4, h⟩
  · refine g_icmp_ge_t c4 (tgt := 75) rfl dX11_gap_21 ?_
    cases h
    refine g_sub [0, 1] rfl ?_
    exact Kx x1 rfl
  · refine g_icmp_ge_f c4 (tgt := 75) rfl dX11_gap_21 ?_
    refine g_iload_n 1 rfl rfl dX11_gap_24 ?_
    refine g_aload_n 0 rfl rfl dX11_gap_25 ?_
    refine g_iload_n 2 rfl rfl dX11_gap_26 ?_
    obtain ⟨v5, ev5, h⟩ := g_bnd h
    refine g_callV LX11_97 sM_0 rfl (kX11_isInner ev5) rfl rfl (Nat.le_of_ble_eq_true rfl) ⟨Nat.le_of_ble_eq_true rfl, Nat.le_of_ble_eq_true rfl⟩ ⟨Nat.le_of_ble_eq_true rfl, Nat.le_of_ble_eq_true rfl⟩ dX11_gap_27 rfl ?_
    rcases g_ite h with ⟨c6, h⟩ | ⟨c6, h⟩
    · refine g_if_ne_f c6 (tgt := 66) rfl dX11_gap_30 ?_
      refine g_aload_n 0 rfl rfl dX11_gap_33 ?_
      refine g_aload_n 0 rfl rfl dX11_gap_34 ?_
      refine g_getR FX11_9 sM_0 rfl dX11_gap_35 ?_
      refine g_bipush (v := 38) rfl dX11_gap_38 ?_
      refine g_iload_n 2 rfl rfl dX11_gap_40 ?_
      refine g_iadd dX11_gap_41 ?_
      obtain ⟨v7, ev7, h⟩ := g_bnd h
      refine g_iald' ev7 sM_1 dX11_gap_42 ?_
      obtain ⟨v8, ev8, h⟩ := g_bnd h
      refine g_callV LX11_101 sM_0 rfl (kX11_placeOf ev8) rfl rfl (Nat.le_of_ble_eq_true rfl) ⟨Nat.le_of_ble_eq_true rfl, Nat.le_of_ble_eq_true rfl⟩ ⟨Nat.le_of_ble_eq_true rfl, Nat.le_of_ble_eq_true rfl⟩ dX11_gap_43 rfl ?_
      refine g_aload_n 0 rfl rfl dX11_gap_46 ?_
      refine g_aload_n 0 rfl rfl dX11_gap_47 ?_
      refine g_getR FX11_9 sM_0 rfl dX11_gap_48 ?_
      refine g_bipush (v := 98) rfl dX11_gap_51 ?_
      refine g_iload_n 2 rfl rfl dX11_gap_53 ?_
      refine g_iadd dX11_gap_54 ?_
      obtain ⟨v9, ev9, h⟩ := g_bnd h
      refine g_iald' ev9 sM_1 dX11_gap_55 ?_
      obtain ⟨v10, ev10, h⟩ := g_bnd h
      refine g_callV LX11_101 sM_0 rfl (kX11_placeOf ev10) rfl rfl (Nat.le_of_ble_eq_true rfl) ⟨Nat.le_of_ble_eq_true rfl, Nat.le_of_ble_eq_true rfl⟩ ⟨Nat.le_of_ble_eq_true rfl, Nat.le_of_ble_eq_true rfl⟩ dX11_gap_56 rfl ?_
      rcases g_ite h with ⟨c11, h⟩ | ⟨c11, h⟩
      · refine g_icmp_le_t c11 (tgt := 66) rfl dX11_gap_59 ?_
        refine g_sub [0, 2] rfl ?_
        exact tX11_gap_b66  h Kc Kx
      · refine g_icmp_le_f c11 (tgt := 66) rfl dX11_gap_59 ?_
        refine g_iconst (v := 1) rfl dX11_gap_62 ?_
        refine g_goto (tgt := 67) rfl dX11_gap_63 ?_
        refine g_sub [0, 2] rfl ?_
        exact tX11_gap_b67  h Kc Kx
    · refine g_if_ne_t c6 (tgt := 66) rfl dX11_gap_30 ?_
      refine g_sub [0, 2] rfl ?_
      exact tX11_gap_b66  h Kc Kx
def fX11_gap_b132 (x1 : Int32) (x2 : Int32) (x3 : Int32) (s0 : Int32) (M0 : gMem) : Option ((Int32 × Int32) ⊕ Int32) :=
  (fX11_of x2 (1 : Int32) M0).bind fun v22 => (fX11_of x3 (1 : Int32) M0).bind fun v23 => (nm (x1 + (if s0 = (if v22 = v23 then (1 : Int32) else (0 : Int32)) then (0 : Int32) else (1 : Int32)))).bind fun v26 => some (.inl (v26, x3 + (1 : Int32)))
set_option maxRecDepth 20000 in
theorem tX11_gap_b132 {X : gX} {V : gEnv} {x1 : Int32} {x2 : Int32} {x3 : Int32} {s0 : Int32} {M0 : gMem}  {o : ((Int32 × Int32) ⊕ Int32)} (h : fX11_gap_b132 x1 x2 x3 s0 M0 = some o) (Kc : ∀ s9, o = .inl s9 → gG X V mX11_gap gShM M0 0 0 91 [(0, .ref (gAd V 0)), (1, .int s9.1), (2, .int x2), (3, .int s9.2)] []) (Kx : ∀ e9, o = .inr e9 → gG X V mX11_gap gShM M0 0 0 173 [(0, .ref (gAd V 0)), (1, .int e9), (2, .int x2)] []) : gG X V mX11_gap gShM M0 0 0 132 [(0, .ref (gAd V 0)), (1, .int x1), (2, .int x2), (3, .int x3)] [.int s0] := by
  unfold fX11_gap_b132 at h
  refine g_istore (ls' := [(4, .int s0), (0, .ref (gAd V 0)), (1, .int x1), (2, .int x2), (3, .int x3)]) (Nat.le_of_ble_eq_true rfl) rfl dX11_gap_132 ?_
  refine g_iload_n 2 rfl rfl dX11_gap_134 ?_
  refine g_iload 0 rfl dX11_gap_135 ?_
  refine g_aload_n 1 rfl rfl dX11_gap_137 ?_
  refine g_iload_n 3 rfl rfl dX11_gap_138 ?_
  refine g_iconst (v := 1) rfl dX11_gap_139 ?_
  obtain ⟨v22, ev22, h⟩ := g_bnd h
  refine g_callV LX11_82 sM_0 rfl (kX11_of ev22) rfl rfl (Nat.le_of_ble_eq_true rfl) ⟨Nat.le_of_ble_eq_true rfl, Nat.le_of_ble_eq_true rfl⟩ ⟨Nat.le_of_ble_eq_true rfl, Nat.le_of_ble_eq_true rfl⟩ dX11_gap_140 rfl ?_
  refine g_aload_n 1 rfl rfl dX11_gap_143 ?_
  refine g_iload_n 4 rfl rfl dX11_gap_144 ?_
  refine g_iconst (v := 1) rfl dX11_gap_145 ?_
  obtain ⟨v23, ev23, h⟩ := g_bnd h
  refine g_callV LX11_82 sM_0 rfl (kX11_of ev23) rfl rfl (Nat.le_of_ble_eq_true rfl) ⟨Nat.le_of_ble_eq_true rfl, Nat.le_of_ble_eq_true rfl⟩ ⟨Nat.le_of_ble_eq_true rfl, Nat.le_of_ble_eq_true rfl⟩ dX11_gap_146 rfl ?_
  have KJ : gG X V mX11_gap gShM M0 0 0 157 [(4, .int s0), (0, .ref (gAd V 0)), (1, .int x1), (2, .int x2), (3, .int x3)] [.int (if v22 = v23 then (1 : Int32) else (0 : Int32)), .int s0, .int x1] := by
    have KJ : gG X V mX11_gap gShM M0 0 0 165 [(4, .int s0), (0, .ref (gAd V 0)), (1, .int x1), (2, .int x2), (3, .int x3)] [.int (if s0 = (if v22 = v23 then (1 : Int32) else (0 : Int32)) then (0 : Int32) else (1 : Int32)), .int x1] := by
      refine g_iadd dX11_gap_165 ?_
      obtain ⟨v26, ev26, h⟩ := g_bnd h
      refine g_nmI ev26 ?_
      refine g_istore_n (ls' := [(1, .int v26), (4, .int s0), (0, .ref (gAd V 0)), (2, .int x2), (3, .int x3)]) rfl (Nat.le_of_ble_eq_true rfl) rfl dX11_gap_166 ?_
      refine g_iinc (j := 4) (v := x3 + (1 : Int32)) (ls' := [(3, .int (x3 + (1 : Int32))), (1, .int v26), (4, .int s0), (0, .ref (gAd V 0)), (2, .int x2)]) rfl rfl (Nat.le_of_ble_eq_true rfl) rfl dX11_gap_167 ?_
      refine g_goto (tgt := 91) rfl dX11_gap_170 ?_
      cases h
      refine g_sub [3, 1, 4, 0] rfl ?_
      exact Kc (v26, x3 + (1 : Int32)) rfl
    by_cases c25 : s0 = (if v22 = v23 then (1 : Int32) else (0 : Int32))
    · rw [if_pos c25] at KJ
      refine g_icmp_eq_t c25 (tgt := 164) rfl dX11_gap_157 ?_
      refine g_iconst (v := 0) rfl dX11_gap_164 ?_
      exact KJ
    · rw [if_neg c25] at KJ
      refine g_icmp_eq_f c25 (tgt := 164) rfl dX11_gap_157 ?_
      refine g_iconst (v := 1) rfl dX11_gap_160 ?_
      refine g_goto (tgt := 165) rfl dX11_gap_161 ?_
      exact KJ
  by_cases c24 : v22 = v23
  · rw [if_pos c24] at KJ
    refine g_icmp_ne_f c24 (tgt := 156) rfl dX11_gap_149 ?_
    refine g_iconst (v := 1) rfl dX11_gap_152 ?_
    refine g_goto (tgt := 157) rfl dX11_gap_153 ?_
    exact KJ
  · rw [if_neg c24] at KJ
    refine g_icmp_ne_t c24 (tgt := 156) rfl dX11_gap_149 ?_
    refine g_iconst (v := 0) rfl dX11_gap_156 ?_
    exact KJ
def fX11_gap_b131 (x1 : Int32) (x2 : Int32) (x3 : Int32) (M0 : gMem) : Option ((Int32 × Int32) ⊕ Int32) :=
  fX11_gap_b132 x1 x2 x3 (0 : Int32) M0
set_option maxRecDepth 20000 in
theorem tX11_gap_b131 {X : gX} {V : gEnv} {x1 : Int32} {x2 : Int32} {x3 : Int32} {M0 : gMem}  {o : ((Int32 × Int32) ⊕ Int32)} (h : fX11_gap_b131 x1 x2 x3 M0 = some o) (Kc : ∀ s9, o = .inl s9 → gG X V mX11_gap gShM M0 0 0 91 [(0, .ref (gAd V 0)), (1, .int s9.1), (2, .int x2), (3, .int s9.2)] []) (Kx : ∀ e9, o = .inr e9 → gG X V mX11_gap gShM M0 0 0 173 [(0, .ref (gAd V 0)), (1, .int e9), (2, .int x2)] []) : gG X V mX11_gap gShM M0 0 0 131 [(0, .ref (gAd V 0)), (1, .int x1), (2, .int x2), (3, .int x3)] [] := by
  unfold fX11_gap_b131 at h
  refine g_iconst (v := 0) rfl dX11_gap_131 ?_
  exact tX11_gap_b132  h Kc Kx
def fX11_gap_l91 (x2 : Int32) (M0 : gMem) (x1 : Int32) (x3 : Int32) : Option ((Int32 × Int32) ⊕ Int32) :=
  (rI M0 1 374 (0 : Int32)).bind fun v17 => if v17 ≤ x3 then (some (.inr x1)) else (rI M0 6 24 x2).bind fun v19 => (fX11_has v19 x3).bind fun v20 => if v20 = 0 then (fX11_gap_b131 x1 x2 x3 M0) else (rI M0 6 24 x3).bind fun v27 => (fX11_has v27 x2).bind fun v28 => if v28 = 0 then (fX11_gap_b131 x1 x2 x3 M0) else fX11_gap_b132 x1 x2 x3 (1 : Int32) M0
set_option maxRecDepth 20000 in
theorem tX11_gap_l91 {X : gX} {V : gEnv} {x2 : Int32} {M0 : gMem} {x1 : Int32} {x3 : Int32}  {o : ((Int32 × Int32) ⊕ Int32)} (h : fX11_gap_l91 x2 M0 x1 x3 = some o) (Kc : ∀ s9, o = .inl s9 → gG X V mX11_gap gShM M0 0 0 91 [(0, .ref (gAd V 0)), (1, .int s9.1), (2, .int x2), (3, .int s9.2)] []) (Kx : ∀ e9, o = .inr e9 → gG X V mX11_gap gShM M0 0 0 173 [(0, .ref (gAd V 0)), (1, .int e9), (2, .int x2)] []) : gG X V mX11_gap gShM M0 0 0 91 [(0, .ref (gAd V 0)), (1, .int x1), (2, .int x2), (3, .int x3)] [] := by
  unfold fX11_gap_l91 at h
  refine g_iload_n 3 rfl rfl dX11_gap_91 ?_
  refine g_aload_n 0 rfl rfl dX11_gap_92 ?_
  refine g_getR FX11_9 sM_0 rfl dX11_gap_93 ?_
  refine g_iconst (v := 0) rfl dX11_gap_96 ?_
  obtain ⟨v17, ev17, h⟩ := g_bnd h
  refine g_iald' ev17 sM_1 dX11_gap_97 ?_
  rcases g_ite h with ⟨c18, h⟩ | ⟨c18, h⟩
  · refine g_icmp_ge_t c18 (tgt := 173) rfl dX11_gap_98 ?_
    cases h
    refine g_sub [0, 1, 2] rfl ?_
    exact Kx x1 rfl
  · refine g_icmp_ge_f c18 (tgt := 173) rfl dX11_gap_98 ?_
    refine g_aload_n 0 rfl rfl dX11_gap_101 ?_
    refine g_getR FX11_25 sM_0 rfl dX11_gap_102 ?_
    refine g_iload_n 2 rfl rfl dX11_gap_105 ?_
    obtain ⟨v19, ev19, h⟩ := g_bnd h
    refine g_iald' ev19 sM_6 dX11_gap_106 ?_
    refine g_iload_n 3 rfl rfl dX11_gap_107 ?_
    obtain ⟨v20, ev20, h⟩ := g_bnd h
    refine g_callS LX11_93 (kX11_has ev20) rfl rfl (Nat.le_of_ble_eq_true rfl) ⟨Nat.le_of_ble_eq_true rfl, Nat.le_of_ble_eq_true rfl⟩ ⟨Nat.le_of_ble_eq_true rfl, Nat.le_of_ble_eq_true rfl⟩ dX11_gap_108 rfl ?_
    rcases g_ite h with ⟨c21, h⟩ | ⟨c21, h⟩
    · refine g_if_eq_t c21 (tgt := 131) rfl dX11_gap_111 ?_
      exact tX11_gap_b131  h Kc Kx
    · refine g_if_eq_f c21 (tgt := 131) rfl dX11_gap_111 ?_
      refine g_aload_n 0 rfl rfl dX11_gap_114 ?_
      refine g_getR FX11_25 sM_0 rfl dX11_gap_115 ?_
      refine g_iload_n 3 rfl rfl dX11_gap_118 ?_
      obtain ⟨v27, ev27, h⟩ := g_bnd h
      refine g_iald' ev27 sM_6 dX11_gap_119 ?_
      refine g_iload_n 2 rfl rfl dX11_gap_120 ?_
      obtain ⟨v28, ev28, h⟩ := g_bnd h
      refine g_callS LX11_93 (kX11_has ev28) rfl rfl (Nat.le_of_ble_eq_true rfl) ⟨Nat.le_of_ble_eq_true rfl, Nat.le_of_ble_eq_true rfl⟩ ⟨Nat.le_of_ble_eq_true rfl, Nat.le_of_ble_eq_true rfl⟩ dX11_gap_121 rfl ?_
      rcases g_ite h with ⟨c29, h⟩ | ⟨c29, h⟩
      · refine g_if_eq_t c29 (tgt := 131) rfl dX11_gap_124 ?_
        exact tX11_gap_b131  h Kc Kx
      · refine g_if_eq_f c29 (tgt := 131) rfl dX11_gap_124 ?_
        refine g_iconst (v := 1) rfl dX11_gap_127 ?_
        refine g_goto (tgt := 132) rfl dX11_gap_128 ?_
        exact tX11_gap_b132  h Kc Kx
def fX11_gap_l77 (M0 : gMem) (x1 : Int32) (x2 : Int32) : Option ((Int32 × Int32) ⊕ Int32) :=
  (rI M0 1 374 (0 : Int32)).bind fun v14 => if v14 ≤ x2 then (some (.inr x1)) else (nm (x2 + (1 : Int32))).bind fun v16 => (gLoop (fun z9 => fX11_gap_l91 x2 M0 z9.1 z9.2) gFu (x1, v16)).bind fun w30 => some (.inl (w30, x2 + (1 : Int32)))
set_option maxRecDepth 20000 in
theorem tX11_gap_l77 {X : gX} {V : gEnv} {M0 : gMem} {x1 : Int32} {x2 : Int32}  {o : ((Int32 × Int32) ⊕ Int32)} (h : fX11_gap_l77 M0 x1 x2 = some o) (Kc : ∀ s9, o = .inl s9 → gG X V mX11_gap gShM M0 0 0 77 [(0, .ref (gAd V 0)), (1, .int s9.1), (2, .int s9.2)] []) (Kx : ∀ e9, o = .inr e9 → gG X V mX11_gap gShM M0 0 0 179 [(1, .int e9)] []) : gG X V mX11_gap gShM M0 0 0 77 [(0, .ref (gAd V 0)), (1, .int x1), (2, .int x2)] [] := by
  unfold fX11_gap_l77 at h
  refine g_iload_n 2 rfl rfl dX11_gap_77 ?_
  refine g_aload_n 0 rfl rfl dX11_gap_78 ?_
  refine g_getR FX11_9 sM_0 rfl dX11_gap_79 ?_
  refine g_iconst (v := 0) rfl dX11_gap_82 ?_
  obtain ⟨v14, ev14, h⟩ := g_bnd h
  refine g_iald' ev14 sM_1 dX11_gap_83 ?_
  rcases g_ite h with ⟨c15, h⟩ | ⟨c15, h⟩
  · refine g_icmp_ge_t c15 (tgt := 179) rfl dX11_gap_84 ?_
    cases h
    refine g_sub [1] rfl ?_
    exact Kx x1 rfl
  · refine g_icmp_ge_f c15 (tgt := 179) rfl dX11_gap_84 ?_
    refine g_iload_n 2 rfl rfl dX11_gap_87 ?_
    refine g_iconst (v := 1) rfl dX11_gap_88 ?_
    refine g_iadd dX11_gap_89 ?_
    obtain ⟨v16, ev16, h⟩ := g_bnd h
    refine g_nmI ev16 ?_
    refine g_istore_n (ls' := [(3, .int v16), (0, .ref (gAd V 0)), (1, .int x1), (2, .int x2)]) rfl (Nat.le_of_ble_eq_true rfl) rfl dX11_gap_90 ?_
    obtain ⟨w30, ew30, h⟩ := g_bnd h
    refine g_sub [1, 2, 3, 0] rfl ?_
    have KX : gG X V mX11_gap gShM M0 0 0 173 [(0, .ref (gAd V 0)), (1, .int w30), (2, .int x2)] [] := by
      refine g_iinc (j := 2) (v := x2 + (1 : Int32)) (ls' := [(2, .int (x2 + (1 : Int32))), (0, .ref (gAd V 0)), (1, .int w30)]) rfl rfl (Nat.le_of_ble_eq_true rfl) rfl dX11_gap_173 ?_
      refine g_goto (tgt := 77) rfl dX11_gap_176 ?_
      cases h
      refine g_sub [1, 2, 0] rfl ?_
      exact Kc (w30, x2 + (1 : Int32)) rfl
    exact gLoop_Q ew30 (fun z9 => gG X V mX11_gap gShM M0 0 0 91 [(0, .ref (gAd V 0)), (1, .int z9.1), (2, .int x2), (3, .int z9.2)] []) (fun s9 o9 hb9 hc9 hx9 => tX11_gap_l91  hb9 hc9 (fun e9 he9 => by cases hx9 _ he9; exact KX))
def fX11_gap (M0 : gMem) : Option (Int32 × gMem) :=
  (wF M0 0 0 (0 : Int32)).bind fun M1 => (fX11_laysReach (-1 : Int32) M1).bind fun v2 => (gLoop (fun z9 => fX11_gap_l14 v2 z9.1 z9.2) gFu ((0 : Int32), (0 : Int32))).bind fun w13 => (gLoop (fun z9 => fX11_gap_l77 v2 z9.1 z9.2) gFu (w13, (0 : Int32))).bind fun w31 => some (w31, v2)
set_option maxRecDepth 20000 in
theorem tX11_gap {X : gX} {V : gEnv} {M0 : gMem}  {o : (Int32 × gMem)} (h : fX11_gap M0 = some o) (O : gO X V mX11_gap gShM (some .int) (some (.int o.1)) o.2) : gG X V mX11_gap gShM M0 0 0 0 [(0, .ref (gAd V 0))] [] := by
  unfold fX11_gap at h
  refine g_aload_n 0 rfl rfl dX11_gap_0 ?_
  refine g_iconst (v := 0) rfl dX11_gap_1 ?_
  obtain ⟨M1, eM1, h⟩ := g_bnd h
  refine g_putI' eM1 FX11_72 jX11 sM_0 rfl rfl rfl dX11_gap_2 ?_
  refine g_aload_n 0 rfl rfl dX11_gap_5 ?_
  refine g_iconst (v := -1) rfl dX11_gap_6 ?_
  obtain ⟨v2, ev2, h⟩ := g_bnd h
  refine g_callV LX11_104 sM_0 rfl (kX11_laysReach ev2) rfl rfl (Nat.le_of_ble_eq_true rfl) ⟨Nat.le_of_ble_eq_true rfl, Nat.le_of_ble_eq_true rfl⟩ ⟨Nat.le_of_ble_eq_true rfl, Nat.le_of_ble_eq_true rfl⟩ dX11_gap_7 rfl ?_
  refine g_iconst (v := 0) rfl dX11_gap_10 ?_
  refine g_istore_n (ls' := [(1, .int (0 : Int32)), (0, .ref (gAd V 0))]) rfl (Nat.le_of_ble_eq_true rfl) rfl dX11_gap_11 ?_
  refine g_iconst (v := 0) rfl dX11_gap_12 ?_
  refine g_istore_n (ls' := [(2, .int (0 : Int32)), (1, .int (0 : Int32)), (0, .ref (gAd V 0))]) rfl (Nat.le_of_ble_eq_true rfl) rfl dX11_gap_13 ?_
  obtain ⟨w13, ew13, h⟩ := g_bnd h
  refine g_sub [2, 1, 0] rfl ?_
  have KX : gG X V mX11_gap gShM v2 0 0 75 [(0, .ref (gAd V 0)), (1, .int w13)] [] := by
    refine g_iconst (v := 0) rfl dX11_gap_75 ?_
    refine g_istore_n (ls' := [(2, .int (0 : Int32)), (0, .ref (gAd V 0)), (1, .int w13)]) rfl (Nat.le_of_ble_eq_true rfl) rfl dX11_gap_76 ?_
    obtain ⟨w31, ew31, h⟩ := g_bnd h
    refine g_sub [1, 2, 0] rfl ?_
    have KX : gG X V mX11_gap gShM v2 0 0 179 [(1, .int w31)] [] := by
      refine g_iload_n 0 rfl rfl dX11_gap_179 ?_
      cases h
      exact g_iret O ⟨Nat.le_of_ble_eq_true rfl, Nat.le_of_ble_eq_true rfl⟩ rfl dX11_gap_180
    exact gLoop_Q ew31 (fun z9 => gG X V mX11_gap gShM v2 0 0 77 [(0, .ref (gAd V 0)), (1, .int z9.1), (2, .int z9.2)] []) (fun s9 o9 hb9 hc9 hx9 => tX11_gap_l77  hb9 hc9 (fun e9 he9 => by cases hx9 _ he9; exact KX))
  exact gLoop_Q ew13 (fun z9 => gG X V mX11_gap gShM v2 0 0 14 [(0, .ref (gAd V 0)), (1, .int z9.1), (2, .int z9.2)] []) (fun s9 o9 hb9 hc9 hx9 => tX11_gap_l14  hb9 hc9 (fun e9 he9 => by cases hx9 _ he9; exact KX))
theorem kX11_gap {l : Launch} {V : gEnv} {M0 : gMem}   {o : (Int32 × gMem)} (h : fX11_gap M0 = some o) : gM l yX11_gap cX11_gap 5 (some .int) rX11_gap V gShM [.ref (gAd V 0)] M0 (some (.int o.1)) o.2 :=
  gM.of (by decide) (Nat.le_of_ble_eq_true rfl) rfl (fun X _ O => tX11_gap  h O)
theorem dX11_groupsBy_0 : decode cX11_groupsBy 0 = .ok (.aload_n 0, 1) := by decide +kernel
theorem dX11_groupsBy_1 : decode cX11_groupsBy 1 = .ok (.invokevirtual 368, 3) := by decide +kernel
theorem dX11_groupsBy_4 : decode cX11_groupsBy 4 = .ok (.aload_n 0, 1) := by decide +kernel
theorem dX11_groupsBy_5 : decode cX11_groupsBy 5 = .ok (.aload_n 0, 1) := by decide +kernel
theorem dX11_groupsBy_6 : decode cX11_groupsBy 6 = .ok (.iload_n 1, 1) := by decide +kernel
theorem dX11_groupsBy_7 : decode cX11_groupsBy 7 = .ok (.invokevirtual 350, 3) := by decide +kernel
theorem dX11_groupsBy_10 : decode cX11_groupsBy 10 = .ok (.invokevirtual 436, 3) := by decide +kernel
theorem dX11_groupsBy_13 : decode cX11_groupsBy 13 = .ok (.ireturn, 1) := by decide +kernel
abbrev rX11_groupsBy : Room := { frames := 5, cells := 0, slots := 0, locals := 120 }
abbrev mX11_groupsBy : gY := (cX11_groupsBy, RX11, 2, rX11_groupsBy)
def fX11_groupsBy (x1 : Int32) (M0 : gMem) : Option (Int32 × gMem) :=
  (fX11_goesAside M0).bind fun v1 => (fX11_cuts x1 v1).bind fun v2 => (fX11_comesBack v2.1 v2.2).bind fun v3 => some (v3.1, v3.2)
set_option maxRecDepth 20000 in
theorem tX11_groupsBy {X : gX} {V : gEnv} {x1 : Int32} {M0 : gMem}  {o : (Int32 × gMem)} (h : fX11_groupsBy x1 M0 = some o) (O : gO X V mX11_groupsBy gShM (some .int) (some (.int o.1)) o.2) : gG X V mX11_groupsBy gShM M0 0 0 0 [(0, .ref (gAd V 0)), (1, .int x1)] [] := by
  unfold fX11_groupsBy at h
  refine g_aload_n 0 rfl rfl dX11_groupsBy_0 ?_
  obtain ⟨v1, ev1, h⟩ := g_bnd h
  refine g_callV LX11_368 sM_0 rfl (kX11_goesAside ev1) rfl rfl (Nat.le_of_ble_eq_true rfl) ⟨Nat.le_of_ble_eq_true rfl, Nat.le_of_ble_eq_true rfl⟩ ⟨Nat.le_of_ble_eq_true rfl, Nat.le_of_ble_eq_true rfl⟩ dX11_groupsBy_1 rfl ?_
  refine g_aload_n 0 rfl rfl dX11_groupsBy_4 ?_
  refine g_aload_n 0 rfl rfl dX11_groupsBy_5 ?_
  refine g_iload_n 1 rfl rfl dX11_groupsBy_6 ?_
  obtain ⟨v2, ev2, h⟩ := g_bnd h
  refine g_callV LX11_350 sM_0 rfl (kX11_cuts ev2) rfl rfl (Nat.le_of_ble_eq_true rfl) ⟨Nat.le_of_ble_eq_true rfl, Nat.le_of_ble_eq_true rfl⟩ ⟨Nat.le_of_ble_eq_true rfl, Nat.le_of_ble_eq_true rfl⟩ dX11_groupsBy_7 rfl ?_
  obtain ⟨v3, ev3, h⟩ := g_bnd h
  refine g_callV LX11_436 sM_0 rfl (kX11_comesBack ev3) rfl rfl (Nat.le_of_ble_eq_true rfl) ⟨Nat.le_of_ble_eq_true rfl, Nat.le_of_ble_eq_true rfl⟩ ⟨Nat.le_of_ble_eq_true rfl, Nat.le_of_ble_eq_true rfl⟩ dX11_groupsBy_10 rfl ?_
  cases h
  exact g_iret O ⟨Nat.le_of_ble_eq_true rfl, Nat.le_of_ble_eq_true rfl⟩ rfl dX11_groupsBy_13
theorem kX11_groupsBy {l : Launch} {V : gEnv} {M0 : gMem} {x1 : Int32}  {o : (Int32 × gMem)} (h : fX11_groupsBy x1 M0 = some o) : gM l yX11_groupsBy cX11_groupsBy 2 (some .int) rX11_groupsBy V gShM [.ref (gAd V 0), .int x1] M0 (some (.int o.1)) o.2 :=
  gM.of (by decide) (Nat.le_of_ble_eq_true rfl) rfl (fun X _ O => tX11_groupsBy  h O)
theorem dX11_weakest_0 : decode cX11_weakest 0 = .ok (.aload_n 0, 1) := by decide +kernel
theorem dX11_weakest_1 : decode cX11_weakest 1 = .ok (.iconst 0, 1) := by decide +kernel
theorem dX11_weakest_2 : decode cX11_weakest 2 = .ok (.putfield 72, 3) := by decide +kernel
theorem dX11_weakest_5 : decode cX11_weakest 5 = .ok (.iconst (-1), 1) := by decide +kernel
theorem dX11_weakest_6 : decode cX11_weakest 6 = .ok (.istore_n 1, 1) := by decide +kernel
theorem dX11_weakest_7 : decode cX11_weakest 7 = .ok (.iconst 1, 1) := by decide +kernel
theorem dX11_weakest_8 : decode cX11_weakest 8 = .ok (.istore_n 2, 1) := by decide +kernel
theorem dX11_weakest_9 : decode cX11_weakest 9 = .ok (.iconst 0, 1) := by decide +kernel
theorem dX11_weakest_10 : decode cX11_weakest 10 = .ok (.istore_n 3, 1) := by decide +kernel
theorem dX11_weakest_11 : decode cX11_weakest 11 = .ok (.iload_n 3, 1) := by decide +kernel
theorem dX11_weakest_12 : decode cX11_weakest 12 = .ok (.aload_n 0, 1) := by decide +kernel
theorem dX11_weakest_13 : decode cX11_weakest 13 = .ok (.getfield 9, 3) := by decide +kernel
theorem dX11_weakest_16 : decode cX11_weakest 16 = .ok (.iconst 1, 1) := by decide +kernel
theorem dX11_weakest_17 : decode cX11_weakest 17 = .ok (.iaload, 1) := by decide +kernel
theorem dX11_weakest_18 : decode cX11_weakest 18 = .ok (.if_icmp .ge 35, 3) := by decide +kernel
theorem dX11_weakest_21 : decode cX11_weakest 21 = .ok (.aload_n 0, 1) := by decide +kernel
theorem dX11_weakest_22 : decode cX11_weakest 22 = .ok (.iload_n 3, 1) := by decide +kernel
theorem dX11_weakest_23 : decode cX11_weakest 23 = .ok (.invokevirtual 439, 3) := by decide +kernel
theorem dX11_weakest_26 : decode cX11_weakest 26 = .ok (.istore 4, 2) := by decide +kernel
theorem dX11_weakest_28 : decode cX11_weakest 28 = .ok (.iload 4, 2) := by decide +kernel
theorem dX11_weakest_30 : decode cX11_weakest 30 = .ok (.iload_n 2, 1) := by decide +kernel
theorem dX11_weakest_31 : decode cX11_weakest 31 = .ok (.if_icmp .le 7, 3) := by decide +kernel
theorem dX11_weakest_34 : decode cX11_weakest 34 = .ok (.iload_n 3, 1) := by decide +kernel
theorem dX11_weakest_35 : decode cX11_weakest 35 = .ok (.goto 4, 3) := by decide +kernel
theorem dX11_weakest_38 : decode cX11_weakest 38 = .ok (.iload_n 1, 1) := by decide +kernel
theorem dX11_weakest_39 : decode cX11_weakest 39 = .ok (.istore_n 1, 1) := by decide +kernel
theorem dX11_weakest_40 : decode cX11_weakest 40 = .ok (.iload_n 2, 1) := by decide +kernel
theorem dX11_weakest_41 : decode cX11_weakest 41 = .ok (.iload 4, 2) := by decide +kernel
theorem dX11_weakest_43 : decode cX11_weakest 43 = .ok (.invokestatic 377, 3) := by decide +kernel
theorem dX11_weakest_46 : decode cX11_weakest 46 = .ok (.istore_n 2, 1) := by decide +kernel
theorem dX11_weakest_47 : decode cX11_weakest 47 = .ok (.iinc 3 1, 3) := by decide +kernel
theorem dX11_weakest_50 : decode cX11_weakest 50 = .ok (.goto (-39), 3) := by decide +kernel
theorem dX11_weakest_53 : decode cX11_weakest 53 = .ok (.iload_n 1, 1) := by decide +kernel
theorem dX11_weakest_54 : decode cX11_weakest 54 = .ok (.ireturn, 1) := by decide +kernel
abbrev rX11_weakest : Room := { frames := 6, cells := 0, slots := 0, locals := 141 }
abbrev mX11_weakest : gY := (cX11_weakest, RX11, 5, rX11_weakest)
def fX11_weakest_l11 (x1 : Int32) (x2 : Int32) (x3 : Int32) (M0 : gMem) : Option ((Int32 × Int32 × Int32 × gMem) ⊕ (Int32 × gMem)) :=
  (rI M0 1 374 (1 : Int32)).bind fun v2 => if v2 ≤ x3 then (some (.inr (x1, M0))) else (fX11_groupsBy x3 M0).bind fun v4 => (nm (if v4.1 ≤ x2 then x1 else x3)).bind fun v6 => (nm (if x2 < v4.1 then v4.1 else x2)).bind fun v7 => some (.inl (v6, v7, x3 + (1 : Int32), v4.2))
set_option maxRecDepth 20000 in
theorem tX11_weakest_l11 {X : gX} {V : gEnv} {x1 : Int32} {x2 : Int32} {x3 : Int32} {M0 : gMem}  {o : ((Int32 × Int32 × Int32 × gMem) ⊕ (Int32 × gMem))} (h : fX11_weakest_l11 x1 x2 x3 M0 = some o) (Kc : ∀ s9, o = .inl s9 → gG X V mX11_weakest gShM s9.2.2.2 0 0 11 [(0, .ref (gAd V 0)), (1, .int s9.1), (2, .int s9.2.1), (3, .int s9.2.2.1)] []) (Kx : ∀ e9, o = .inr e9 → gG X V mX11_weakest gShM e9.2 0 0 53 [(1, .int e9.1)] []) : gG X V mX11_weakest gShM M0 0 0 11 [(0, .ref (gAd V 0)), (1, .int x1), (2, .int x2), (3, .int x3)] [] := by
  unfold fX11_weakest_l11 at h
  refine g_iload_n 3 rfl rfl dX11_weakest_11 ?_
  refine g_aload_n 0 rfl rfl dX11_weakest_12 ?_
  refine g_getR FX11_9 sM_0 rfl dX11_weakest_13 ?_
  refine g_iconst (v := 1) rfl dX11_weakest_16 ?_
  obtain ⟨v2, ev2, h⟩ := g_bnd h
  refine g_iald' ev2 sM_1 dX11_weakest_17 ?_
  rcases g_ite h with ⟨c3, h⟩ | ⟨c3, h⟩
  · refine g_icmp_ge_t c3 (tgt := 53) rfl dX11_weakest_18 ?_
    cases h
    refine g_sub [1] rfl ?_
    exact Kx (x1, M0) rfl
  · refine g_icmp_ge_f c3 (tgt := 53) rfl dX11_weakest_18 ?_
    refine g_aload_n 0 rfl rfl dX11_weakest_21 ?_
    refine g_iload_n 3 rfl rfl dX11_weakest_22 ?_
    obtain ⟨v4, ev4, h⟩ := g_bnd h
    refine g_callV LX11_439 sM_0 rfl (kX11_groupsBy ev4) rfl rfl (Nat.le_of_ble_eq_true rfl) ⟨Nat.le_of_ble_eq_true rfl, Nat.le_of_ble_eq_true rfl⟩ ⟨Nat.le_of_ble_eq_true rfl, Nat.le_of_ble_eq_true rfl⟩ dX11_weakest_23 rfl ?_
    refine g_istore (ls' := [(4, .int v4.1), (0, .ref (gAd V 0)), (1, .int x1), (2, .int x2), (3, .int x3)]) (Nat.le_of_ble_eq_true rfl) rfl dX11_weakest_26 ?_
    refine g_iload 0 rfl dX11_weakest_28 ?_
    refine g_iload_n 3 rfl rfl dX11_weakest_30 ?_
    have KJ : gG X V mX11_weakest gShM v4.2 0 0 39 [(4, .int v4.1), (0, .ref (gAd V 0)), (1, .int x1), (2, .int x2), (3, .int x3)] [.int (if v4.1 ≤ x2 then x1 else x3)] := by
      obtain ⟨v6, ev6, h⟩ := g_bnd h
      refine g_nmI ev6 ?_
      refine g_istore_n (ls' := [(1, .int v6), (4, .int v4.1), (0, .ref (gAd V 0)), (2, .int x2), (3, .int x3)]) rfl (Nat.le_of_ble_eq_true rfl) rfl dX11_weakest_39 ?_
      refine g_iload_n 3 rfl rfl dX11_weakest_40 ?_
      refine g_iload 1 rfl dX11_weakest_41 ?_
      refine g_max ZmaxX11_377 Zmax_s Zm_i Zmax_c ⟨Nat.le_of_ble_eq_true rfl, Nat.le_of_ble_eq_true rfl⟩ ⟨Nat.le_of_ble_eq_true rfl, Nat.le_of_ble_eq_true rfl⟩ dX11_weakest_43 ?_
      obtain ⟨v7, ev7, h⟩ := g_bnd h
      refine g_nmI ev7 ?_
      refine g_istore_n (ls' := [(2, .int v7), (1, .int v6), (4, .int v4.1), (0, .ref (gAd V 0)), (3, .int x3)]) rfl (Nat.le_of_ble_eq_true rfl) rfl dX11_weakest_46 ?_
      refine g_iinc (j := 4) (v := x3 + (1 : Int32)) (ls' := [(3, .int (x3 + (1 : Int32))), (2, .int v7), (1, .int v6), (4, .int v4.1), (0, .ref (gAd V 0))]) rfl rfl (Nat.le_of_ble_eq_true rfl) rfl dX11_weakest_47 ?_
      refine g_goto (tgt := 11) rfl dX11_weakest_50 ?_
      cases h
      refine g_sub [4, 2, 1, 0] rfl ?_
      exact Kc (v6, v7, x3 + (1 : Int32), v4.2) rfl
    by_cases c5 : v4.1 ≤ x2
    · rw [if_pos c5] at KJ
      refine g_icmp_le_t c5 (tgt := 38) rfl dX11_weakest_31 ?_
      refine g_iload_n 2 rfl rfl dX11_weakest_38 ?_
      exact KJ
    · rw [if_neg c5] at KJ
      refine g_icmp_le_f c5 (tgt := 38) rfl dX11_weakest_31 ?_
      refine g_iload_n 4 rfl rfl dX11_weakest_34 ?_
      refine g_goto (tgt := 39) rfl dX11_weakest_35 ?_
      exact KJ
def fX11_weakest (M0 : gMem) : Option (Int32 × gMem) :=
  (wF M0 0 0 (0 : Int32)).bind fun M1 => (gLoop (fun z9 => fX11_weakest_l11 z9.1 z9.2.1 z9.2.2.1 z9.2.2.2) gFu ((-1 : Int32), (1 : Int32), (0 : Int32), M1)).bind fun w8 => some (w8.1, w8.2)
set_option maxRecDepth 20000 in
theorem tX11_weakest {X : gX} {V : gEnv} {M0 : gMem}  {o : (Int32 × gMem)} (h : fX11_weakest M0 = some o) (O : gO X V mX11_weakest gShM (some .int) (some (.int o.1)) o.2) : gG X V mX11_weakest gShM M0 0 0 0 [(0, .ref (gAd V 0))] [] := by
  unfold fX11_weakest at h
  refine g_aload_n 0 rfl rfl dX11_weakest_0 ?_
  refine g_iconst (v := 0) rfl dX11_weakest_1 ?_
  obtain ⟨M1, eM1, h⟩ := g_bnd h
  refine g_putI' eM1 FX11_72 jX11 sM_0 rfl rfl rfl dX11_weakest_2 ?_
  refine g_iconst (v := -1) rfl dX11_weakest_5 ?_
  refine g_istore_n (ls' := [(1, .int (-1 : Int32)), (0, .ref (gAd V 0))]) rfl (Nat.le_of_ble_eq_true rfl) rfl dX11_weakest_6 ?_
  refine g_iconst (v := 1) rfl dX11_weakest_7 ?_
  refine g_istore_n (ls' := [(2, .int (1 : Int32)), (1, .int (-1 : Int32)), (0, .ref (gAd V 0))]) rfl (Nat.le_of_ble_eq_true rfl) rfl dX11_weakest_8 ?_
  refine g_iconst (v := 0) rfl dX11_weakest_9 ?_
  refine g_istore_n (ls' := [(3, .int (0 : Int32)), (2, .int (1 : Int32)), (1, .int (-1 : Int32)), (0, .ref (gAd V 0))]) rfl (Nat.le_of_ble_eq_true rfl) rfl dX11_weakest_10 ?_
  obtain ⟨w8, ew8, h⟩ := g_bnd h
  refine g_sub [3, 2, 1, 0] rfl ?_
  have KX : gG X V mX11_weakest gShM w8.2 0 0 53 [(1, .int w8.1)] [] := by
    refine g_iload_n 0 rfl rfl dX11_weakest_53 ?_
    cases h
    exact g_iret O ⟨Nat.le_of_ble_eq_true rfl, Nat.le_of_ble_eq_true rfl⟩ rfl dX11_weakest_54
  exact gLoop_Q ew8 (fun z9 => gG X V mX11_weakest gShM z9.2.2.2 0 0 11 [(0, .ref (gAd V 0)), (1, .int z9.1), (2, .int z9.2.1), (3, .int z9.2.2.1)] []) (fun s9 o9 hb9 hc9 hx9 => tX11_weakest_l11  hb9 hc9 (fun e9 he9 => by cases hx9 _ he9; exact KX))
theorem kX11_weakest {l : Launch} {V : gEnv} {M0 : gMem}   {o : (Int32 × gMem)} (h : fX11_weakest M0 = some o) : gM l yX11_weakest cX11_weakest 5 (some .int) rX11_weakest V gShM [.ref (gAd V 0)] M0 (some (.int o.1)) o.2 :=
  gM.of (by decide) (Nat.le_of_ble_eq_true rfl) rfl (fun X _ O => tX11_weakest  h O)
theorem dX11_needless_0 : decode cX11_needless 0 = .ok (.aload_n 0, 1) := by decide +kernel
theorem dX11_needless_1 : decode cX11_needless 1 = .ok (.iconst 0, 1) := by decide +kernel
theorem dX11_needless_2 : decode cX11_needless 2 = .ok (.putfield 72, 3) := by decide +kernel
theorem dX11_needless_5 : decode cX11_needless 5 = .ok (.iconst 0, 1) := by decide +kernel
theorem dX11_needless_6 : decode cX11_needless 6 = .ok (.istore_n 1, 1) := by decide +kernel
theorem dX11_needless_7 : decode cX11_needless 7 = .ok (.iconst 0, 1) := by decide +kernel
theorem dX11_needless_8 : decode cX11_needless 8 = .ok (.istore_n 2, 1) := by decide +kernel
theorem dX11_needless_9 : decode cX11_needless 9 = .ok (.iload_n 2, 1) := by decide +kernel
theorem dX11_needless_10 : decode cX11_needless 10 = .ok (.aload_n 0, 1) := by decide +kernel
theorem dX11_needless_11 : decode cX11_needless 11 = .ok (.getfield 9, 3) := by decide +kernel
theorem dX11_needless_14 : decode cX11_needless 14 = .ok (.iconst 1, 1) := by decide +kernel
theorem dX11_needless_15 : decode cX11_needless 15 = .ok (.iaload, 1) := by decide +kernel
theorem dX11_needless_16 : decode cX11_needless 16 = .ok (.if_icmp .ge 51, 3) := by decide +kernel
theorem dX11_needless_19 : decode cX11_needless 19 = .ok (.aload_n 0, 1) := by decide +kernel
theorem dX11_needless_20 : decode cX11_needless 20 = .ok (.iload_n 2, 1) := by decide +kernel
theorem dX11_needless_21 : decode cX11_needless 21 = .ok (.invokevirtual 104, 3) := by decide +kernel
theorem dX11_needless_24 : decode cX11_needless 24 = .ok (.iload_n 1, 1) := by decide +kernel
theorem dX11_needless_25 : decode cX11_needless 25 = .ok (.aload_n 0, 1) := by decide +kernel
theorem dX11_needless_26 : decode cX11_needless 26 = .ok (.getfield 25, 3) := by decide +kernel
theorem dX11_needless_29 : decode cX11_needless 29 = .ok (.aload_n 0, 1) := by decide +kernel
theorem dX11_needless_30 : decode cX11_needless 30 = .ok (.getfield 9, 3) := by decide +kernel
theorem dX11_needless_33 : decode cX11_needless 33 = .ok (.bipush 38, 2) := by decide +kernel
theorem dX11_needless_35 : decode cX11_needless 35 = .ok (.iload_n 2, 1) := by decide +kernel
theorem dX11_needless_36 : decode cX11_needless 36 = .ok (.iadd, 1) := by decide +kernel
theorem dX11_needless_37 : decode cX11_needless 37 = .ok (.iaload, 1) := by decide +kernel
theorem dX11_needless_38 : decode cX11_needless 38 = .ok (.iaload, 1) := by decide +kernel
theorem dX11_needless_39 : decode cX11_needless 39 = .ok (.aload_n 0, 1) := by decide +kernel
theorem dX11_needless_40 : decode cX11_needless 40 = .ok (.getfield 9, 3) := by decide +kernel
theorem dX11_needless_43 : decode cX11_needless 43 = .ok (.bipush 98, 2) := by decide +kernel
theorem dX11_needless_45 : decode cX11_needless 45 = .ok (.iload_n 2, 1) := by decide +kernel
theorem dX11_needless_46 : decode cX11_needless 46 = .ok (.iadd, 1) := by decide +kernel
theorem dX11_needless_47 : decode cX11_needless 47 = .ok (.iaload, 1) := by decide +kernel
theorem dX11_needless_48 : decode cX11_needless 48 = .ok (.invokestatic 93, 3) := by decide +kernel
theorem dX11_needless_51 : decode cX11_needless 51 = .ok (.ifCond .eq 7, 3) := by decide +kernel
theorem dX11_needless_54 : decode cX11_needless 54 = .ok (.iconst 1, 1) := by decide +kernel
theorem dX11_needless_55 : decode cX11_needless 55 = .ok (.goto 4, 3) := by decide +kernel
theorem dX11_needless_58 : decode cX11_needless 58 = .ok (.iconst 0, 1) := by decide +kernel
theorem dX11_needless_59 : decode cX11_needless 59 = .ok (.iadd, 1) := by decide +kernel
theorem dX11_needless_60 : decode cX11_needless 60 = .ok (.istore_n 1, 1) := by decide +kernel
theorem dX11_needless_61 : decode cX11_needless 61 = .ok (.iinc 2 1, 3) := by decide +kernel
theorem dX11_needless_64 : decode cX11_needless 64 = .ok (.goto (-55), 3) := by decide +kernel
theorem dX11_needless_67 : decode cX11_needless 67 = .ok (.iload_n 1, 1) := by decide +kernel
theorem dX11_needless_68 : decode cX11_needless 68 = .ok (.ireturn, 1) := by decide +kernel
abbrev rX11_needless : Room := { frames := 2, cells := 0, slots := 0, locals := 44 }
abbrev mX11_needless : gY := (cX11_needless, RX11, 3, rX11_needless)
def fX11_needless_l9 (x1 : Int32) (x2 : Int32) (M0 : gMem) : Option ((Int32 × Int32 × gMem) ⊕ (Int32 × gMem)) :=
  (rI M0 1 374 (1 : Int32)).bind fun v2 => if v2 ≤ x2 then (some (.inr (x1, M0))) else (fX11_laysReach x2 M0).bind fun v4 => (rI v4 1 374 ((38 : Int32) + x2)).bind fun v5 => (rI v4 6 24 v5).bind fun v6 => (rI v4 1 374 ((98 : Int32) + x2)).bind fun v7 => (fX11_has v6 v7).bind fun v8 => (nm (x1 + (if v8 = 0 then (0 : Int32) else (1 : Int32)))).bind fun v10 => some (.inl (v10, x2 + (1 : Int32), v4))
set_option maxRecDepth 20000 in
theorem tX11_needless_l9 {X : gX} {V : gEnv} {x1 : Int32} {x2 : Int32} {M0 : gMem}  {o : ((Int32 × Int32 × gMem) ⊕ (Int32 × gMem))} (h : fX11_needless_l9 x1 x2 M0 = some o) (Kc : ∀ s9, o = .inl s9 → gG X V mX11_needless gShM s9.2.2 0 0 9 [(0, .ref (gAd V 0)), (1, .int s9.1), (2, .int s9.2.1)] []) (Kx : ∀ e9, o = .inr e9 → gG X V mX11_needless gShM e9.2 0 0 67 [(1, .int e9.1)] []) : gG X V mX11_needless gShM M0 0 0 9 [(0, .ref (gAd V 0)), (1, .int x1), (2, .int x2)] [] := by
  unfold fX11_needless_l9 at h
  refine g_iload_n 2 rfl rfl dX11_needless_9 ?_
  refine g_aload_n 0 rfl rfl dX11_needless_10 ?_
  refine g_getR FX11_9 sM_0 rfl dX11_needless_11 ?_
  refine g_iconst (v := 1) rfl dX11_needless_14 ?_
  obtain ⟨v2, ev2, h⟩ := g_bnd h
  refine g_iald' ev2 sM_1 dX11_needless_15 ?_
  rcases g_ite h with ⟨c3, h⟩ | ⟨c3, h⟩
  · refine g_icmp_ge_t c3 (tgt := 67) rfl dX11_needless_16 ?_
    cases h
    refine g_sub [1] rfl ?_
    exact Kx (x1, M0) rfl
  · refine g_icmp_ge_f c3 (tgt := 67) rfl dX11_needless_16 ?_
    refine g_aload_n 0 rfl rfl dX11_needless_19 ?_
    refine g_iload_n 2 rfl rfl dX11_needless_20 ?_
    obtain ⟨v4, ev4, h⟩ := g_bnd h
    refine g_callV LX11_104 sM_0 rfl (kX11_laysReach ev4) rfl rfl (Nat.le_of_ble_eq_true rfl) ⟨Nat.le_of_ble_eq_true rfl, Nat.le_of_ble_eq_true rfl⟩ ⟨Nat.le_of_ble_eq_true rfl, Nat.le_of_ble_eq_true rfl⟩ dX11_needless_21 rfl ?_
    refine g_iload_n 1 rfl rfl dX11_needless_24 ?_
    refine g_aload_n 0 rfl rfl dX11_needless_25 ?_
    refine g_getR FX11_25 sM_0 rfl dX11_needless_26 ?_
    refine g_aload_n 0 rfl rfl dX11_needless_29 ?_
    refine g_getR FX11_9 sM_0 rfl dX11_needless_30 ?_
    refine g_bipush (v := 38) rfl dX11_needless_33 ?_
    refine g_iload_n 2 rfl rfl dX11_needless_35 ?_
    refine g_iadd dX11_needless_36 ?_
    obtain ⟨v5, ev5, h⟩ := g_bnd h
    refine g_iald' ev5 sM_1 dX11_needless_37 ?_
    obtain ⟨v6, ev6, h⟩ := g_bnd h
    refine g_iald' ev6 sM_6 dX11_needless_38 ?_
    refine g_aload_n 0 rfl rfl dX11_needless_39 ?_
    refine g_getR FX11_9 sM_0 rfl dX11_needless_40 ?_
    refine g_bipush (v := 98) rfl dX11_needless_43 ?_
    refine g_iload_n 2 rfl rfl dX11_needless_45 ?_
    refine g_iadd dX11_needless_46 ?_
    obtain ⟨v7, ev7, h⟩ := g_bnd h
    refine g_iald' ev7 sM_1 dX11_needless_47 ?_
    obtain ⟨v8, ev8, h⟩ := g_bnd h
    refine g_callS LX11_93 (kX11_has ev8) rfl rfl (Nat.le_of_ble_eq_true rfl) ⟨Nat.le_of_ble_eq_true rfl, Nat.le_of_ble_eq_true rfl⟩ ⟨Nat.le_of_ble_eq_true rfl, Nat.le_of_ble_eq_true rfl⟩ dX11_needless_48 rfl ?_
    have KJ : gG X V mX11_needless gShM v4 0 0 59 [(0, .ref (gAd V 0)), (1, .int x1), (2, .int x2)] [.int (if v8 = 0 then (0 : Int32) else (1 : Int32)), .int x1] := by
      refine g_iadd dX11_needless_59 ?_
      obtain ⟨v10, ev10, h⟩ := g_bnd h
      refine g_nmI ev10 ?_
      refine g_istore_n (ls' := [(1, .int v10), (0, .ref (gAd V 0)), (2, .int x2)]) rfl (Nat.le_of_ble_eq_true rfl) rfl dX11_needless_60 ?_
      refine g_iinc (j := 2) (v := x2 + (1 : Int32)) (ls' := [(2, .int (x2 + (1 : Int32))), (1, .int v10), (0, .ref (gAd V 0))]) rfl rfl (Nat.le_of_ble_eq_true rfl) rfl dX11_needless_61 ?_
      refine g_goto (tgt := 9) rfl dX11_needless_64 ?_
      cases h
      refine g_sub [2, 1, 0] rfl ?_
      exact Kc (v10, x2 + (1 : Int32), v4) rfl
    by_cases c9 : v8 = 0
    · rw [if_pos c9] at KJ
      refine g_if_eq_t c9 (tgt := 58) rfl dX11_needless_51 ?_
      refine g_iconst (v := 0) rfl dX11_needless_58 ?_
      exact KJ
    · rw [if_neg c9] at KJ
      refine g_if_eq_f c9 (tgt := 58) rfl dX11_needless_51 ?_
      refine g_iconst (v := 1) rfl dX11_needless_54 ?_
      refine g_goto (tgt := 59) rfl dX11_needless_55 ?_
      exact KJ
def fX11_needless (M0 : gMem) : Option (Int32 × gMem) :=
  (wF M0 0 0 (0 : Int32)).bind fun M1 => (gLoop (fun z9 => fX11_needless_l9 z9.1 z9.2.1 z9.2.2) gFu ((0 : Int32), (0 : Int32), M1)).bind fun w11 => some (w11.1, w11.2)
set_option maxRecDepth 20000 in
theorem tX11_needless {X : gX} {V : gEnv} {M0 : gMem}  {o : (Int32 × gMem)} (h : fX11_needless M0 = some o) (O : gO X V mX11_needless gShM (some .int) (some (.int o.1)) o.2) : gG X V mX11_needless gShM M0 0 0 0 [(0, .ref (gAd V 0))] [] := by
  unfold fX11_needless at h
  refine g_aload_n 0 rfl rfl dX11_needless_0 ?_
  refine g_iconst (v := 0) rfl dX11_needless_1 ?_
  obtain ⟨M1, eM1, h⟩ := g_bnd h
  refine g_putI' eM1 FX11_72 jX11 sM_0 rfl rfl rfl dX11_needless_2 ?_
  refine g_iconst (v := 0) rfl dX11_needless_5 ?_
  refine g_istore_n (ls' := [(1, .int (0 : Int32)), (0, .ref (gAd V 0))]) rfl (Nat.le_of_ble_eq_true rfl) rfl dX11_needless_6 ?_
  refine g_iconst (v := 0) rfl dX11_needless_7 ?_
  refine g_istore_n (ls' := [(2, .int (0 : Int32)), (1, .int (0 : Int32)), (0, .ref (gAd V 0))]) rfl (Nat.le_of_ble_eq_true rfl) rfl dX11_needless_8 ?_
  obtain ⟨w11, ew11, h⟩ := g_bnd h
  refine g_sub [2, 1, 0] rfl ?_
  have KX : gG X V mX11_needless gShM w11.2 0 0 67 [(1, .int w11.1)] [] := by
    refine g_iload_n 0 rfl rfl dX11_needless_67 ?_
    cases h
    exact g_iret O ⟨Nat.le_of_ble_eq_true rfl, Nat.le_of_ble_eq_true rfl⟩ rfl dX11_needless_68
  exact gLoop_Q ew11 (fun z9 => gG X V mX11_needless gShM z9.2.2 0 0 9 [(0, .ref (gAd V 0)), (1, .int z9.1), (2, .int z9.2.1)] []) (fun s9 o9 hb9 hc9 hx9 => tX11_needless_l9  hb9 hc9 (fun e9 he9 => by cases hx9 _ he9; exact KX))
theorem kX11_needless {l : Launch} {V : gEnv} {M0 : gMem}   {o : (Int32 × gMem)} (h : fX11_needless M0 = some o) : gM l yX11_needless cX11_needless 3 (some .int) rX11_needless V gShM [.ref (gAd V 0)] M0 (some (.int o.1)) o.2 :=
  gM.of (by decide) (Nat.le_of_ble_eq_true rfl) rfl (fun X _ O => tX11_needless  h O)
theorem dX11_account_0 : decode cX11_account 0 = .ok (.aload_n 0, 1) := by decide +kernel
theorem dX11_account_1 : decode cX11_account 1 = .ok (.iload_n 1, 1) := by decide +kernel
theorem dX11_account_2 : decode cX11_account 2 = .ok (.iconst 0, 1) := by decide +kernel
theorem dX11_account_3 : decode cX11_account 3 = .ok (.bipush 8, 2) := by decide +kernel
theorem dX11_account_5 : decode cX11_account 5 = .ok (.invokestatic 172, 3) := by decide +kernel
theorem dX11_account_8 : decode cX11_account 8 = .ok (.ifCond .ne 7, 3) := by decide +kernel
theorem dX11_account_11 : decode cX11_account 11 = .ok (.iconst 1, 1) := by decide +kernel
theorem dX11_account_12 : decode cX11_account 12 = .ok (.goto 4, 3) := by decide +kernel
theorem dX11_account_15 : decode cX11_account 15 = .ok (.iconst 0, 1) := by decide +kernel
theorem dX11_account_16 : decode cX11_account 16 = .ok (.invokevirtual 212, 3) := by decide +kernel
theorem dX11_account_19 : decode cX11_account 19 = .ok (.ifCond .eq 7, 3) := by decide +kernel
theorem dX11_account_22 : decode cX11_account 22 = .ok (.lconst 0, 1) := by decide +kernel
theorem dX11_account_23 : decode cX11_account 23 = .ok (.goto 12, 3) := by decide +kernel
theorem dX11_account_26 : decode cX11_account 26 = .ok (.aload_n 0, 1) := by decide +kernel
theorem dX11_account_27 : decode cX11_account 27 = .ok (.getfield 9, 3) := by decide +kernel
theorem dX11_account_30 : decode cX11_account 30 = .ok (.iconst 5, 1) := by decide +kernel
theorem dX11_account_31 : decode cX11_account 31 = .ok (.iload_n 1, 1) := by decide +kernel
theorem dX11_account_32 : decode cX11_account 32 = .ok (.iadd, 1) := by decide +kernel
theorem dX11_account_33 : decode cX11_account 33 = .ok (.iaload, 1) := by decide +kernel
theorem dX11_account_34 : decode cX11_account 34 = .ok (.i2l, 1) := by decide +kernel
theorem dX11_account_35 : decode cX11_account 35 = .ok (.lreturn, 1) := by decide +kernel
abbrev rX11_account : Room := { frames := 1, cells := 0, slots := 0, locals := 22 }
abbrev mX11_account : gY := (cX11_account, RX11, 2, rX11_account)
def fX11_account (x1 : Int32) (M0 : gMem) : Option (Int64 × gMem) :=
  (fX11_in x1 (0 : Int32) (8 : Int32)).bind fun v1 => (fX11_wrong (if v1 = 0 then (1 : Int32) else (0 : Int32)) M0).bind fun v3 => if v3.1 = 0 then ((rI v3.2 1 374 ((5 : Int32) + x1)).bind fun v5 => some (v5.toInt64, v3.2)) else some ((0 : Int64), v3.2)
set_option maxRecDepth 20000 in
theorem tX11_account {X : gX} {V : gEnv} {x1 : Int32} {M0 : gMem}  {o : (Int64 × gMem)} (h : fX11_account x1 M0 = some o) (O : gO X V mX11_account gShM (some .long) (some (.long o.1)) o.2) : gG X V mX11_account gShM M0 0 0 0 [(0, .ref (gAd V 0)), (1, .int x1)] [] := by
  unfold fX11_account at h
  refine g_aload_n 0 rfl rfl dX11_account_0 ?_
  refine g_iload_n 1 rfl rfl dX11_account_1 ?_
  refine g_iconst (v := 0) rfl dX11_account_2 ?_
  refine g_bipush (v := 8) rfl dX11_account_3 ?_
  obtain ⟨v1, ev1, h⟩ := g_bnd h
  refine g_callS LX11_172 (kX11_in ev1) rfl rfl (Nat.le_of_ble_eq_true rfl) ⟨Nat.le_of_ble_eq_true rfl, Nat.le_of_ble_eq_true rfl⟩ ⟨Nat.le_of_ble_eq_true rfl, Nat.le_of_ble_eq_true rfl⟩ dX11_account_5 rfl ?_
  have KJ : gG X V mX11_account gShM M0 0 0 16 [(0, .ref (gAd V 0)), (1, .int x1)] [.int (if v1 = 0 then (1 : Int32) else (0 : Int32)), .ref (gAd V 0)] := by
    obtain ⟨v3, ev3, h⟩ := g_bnd h
    refine g_callV LX11_212 sM_0 rfl (kX11_wrong ev3) rfl rfl (Nat.le_of_ble_eq_true rfl) ⟨Nat.le_of_ble_eq_true rfl, Nat.le_of_ble_eq_true rfl⟩ ⟨Nat.le_of_ble_eq_true rfl, Nat.le_of_ble_eq_true rfl⟩ dX11_account_16 rfl ?_
    rcases g_ite h with ⟨c4, h⟩ | ⟨c4, h⟩
    · refine g_if_eq_t c4 (tgt := 26) rfl dX11_account_19 ?_
      refine g_aload_n 0 rfl rfl dX11_account_26 ?_
      refine g_getR FX11_9 sM_0 rfl dX11_account_27 ?_
      refine g_iconst (v := 5) rfl dX11_account_30 ?_
      refine g_iload_n 1 rfl rfl dX11_account_31 ?_
      refine g_iadd dX11_account_32 ?_
      obtain ⟨v5, ev5, h⟩ := g_bnd h
      refine g_iald' ev5 sM_1 dX11_account_33 ?_
      refine g_i2l dX11_account_34 ?_
      cases h
      exact g_lret O ⟨Nat.le_of_ble_eq_true rfl, Nat.le_of_ble_eq_true rfl⟩ dX11_account_35
    · refine g_if_eq_f c4 (tgt := 26) rfl dX11_account_19 ?_
      refine g_lconst (v := 0) rfl dX11_account_22 ?_
      refine g_goto (tgt := 35) rfl dX11_account_23 ?_
      cases h
      exact g_lret O ⟨Nat.le_of_ble_eq_true rfl, Nat.le_of_ble_eq_true rfl⟩ dX11_account_35
  by_cases c2 : v1 = 0
  · rw [if_pos c2] at KJ
    refine g_if_ne_f c2 (tgt := 15) rfl dX11_account_8 ?_
    refine g_iconst (v := 1) rfl dX11_account_11 ?_
    refine g_goto (tgt := 16) rfl dX11_account_12 ?_
    exact KJ
  · rw [if_neg c2] at KJ
    refine g_if_ne_t c2 (tgt := 15) rfl dX11_account_8 ?_
    refine g_iconst (v := 0) rfl dX11_account_15 ?_
    exact KJ
theorem kX11_account {l : Launch} {V : gEnv} {M0 : gMem} {x1 : Int32}  {o : (Int64 × gMem)} (h : fX11_account x1 M0 = some o) : gM l yX11_account cX11_account 2 (some .long) rX11_account V gShM [.ref (gAd V 0), .int x1] M0 (some (.long o.1)) o.2 :=
  gM.of (by decide) (Nat.le_of_ble_eq_true rfl) rfl (fun X _ O => tX11_account  h O)
theorem dX11_innerShare_0 : decode cX11_innerShare 0 = .ok (.aload_n 0, 1) := by decide +kernel
theorem dX11_innerShare_1 : decode cX11_innerShare 1 = .ok (.iconst 0, 1) := by decide +kernel
theorem dX11_innerShare_2 : decode cX11_innerShare 2 = .ok (.putfield 72, 3) := by decide +kernel
theorem dX11_innerShare_5 : decode cX11_innerShare 5 = .ok (.aload_n 0, 1) := by decide +kernel
theorem dX11_innerShare_6 : decode cX11_innerShare 6 = .ok (.getfield 9, 3) := by decide +kernel
theorem dX11_innerShare_9 : decode cX11_innerShare 9 = .ok (.iconst 1, 1) := by decide +kernel
theorem dX11_innerShare_10 : decode cX11_innerShare 10 = .ok (.iaload, 1) := by decide +kernel
theorem dX11_innerShare_11 : decode cX11_innerShare 11 = .ok (.ifCond .ne 7, 3) := by decide +kernel
theorem dX11_innerShare_14 : decode cX11_innerShare 14 = .ok (.fconst 0, 1) := by decide +kernel
theorem dX11_innerShare_15 : decode cX11_innerShare 15 = .ok (.goto 16, 3) := by decide +kernel
theorem dX11_innerShare_18 : decode cX11_innerShare 18 = .ok (.aload_n 0, 1) := by decide +kernel
theorem dX11_innerShare_19 : decode cX11_innerShare 19 = .ok (.invokevirtual 383, 3) := by decide +kernel
theorem dX11_innerShare_22 : decode cX11_innerShare 22 = .ok (.i2f, 1) := by decide +kernel
theorem dX11_innerShare_23 : decode cX11_innerShare 23 = .ok (.aload_n 0, 1) := by decide +kernel
theorem dX11_innerShare_24 : decode cX11_innerShare 24 = .ok (.getfield 9, 3) := by decide +kernel
theorem dX11_innerShare_27 : decode cX11_innerShare 27 = .ok (.iconst 1, 1) := by decide +kernel
theorem dX11_innerShare_28 : decode cX11_innerShare 28 = .ok (.iaload, 1) := by decide +kernel
theorem dX11_innerShare_29 : decode cX11_innerShare 29 = .ok (.i2f, 1) := by decide +kernel
theorem dX11_innerShare_30 : decode cX11_innerShare 30 = .ok (.fdiv, 1) := by decide +kernel
theorem dX11_innerShare_31 : decode cX11_innerShare 31 = .ok (.freturn, 1) := by decide +kernel
abbrev rX11_innerShare : Room := { frames := 3, cells := 0, slots := 0, locals := 65 }
abbrev mX11_innerShare : gY := (cX11_innerShare, RX11, 1, rX11_innerShare)
def fX11_innerShare (M0 : gMem) : Option (UInt32 × gMem) :=
  (wF M0 0 0 (0 : Int32)).bind fun M1 => (rI M1 1 374 (1 : Int32)).bind fun v2 => if v2 = 0 then (some (FP.fconst0, M1)) else (fX11_inners M1).bind fun v4 => (rI M1 1 374 (1 : Int32)).bind fun v5 => (fdivO (FP.i2f v4) (FP.i2f v5)).bind fun v6 => some (v6, M1)
set_option maxRecDepth 20000 in
theorem tX11_innerShare {X : gX} {V : gEnv} {M0 : gMem}  {o : (UInt32 × gMem)} (h : fX11_innerShare M0 = some o) (O : gO X V mX11_innerShare gShM (some .float) (some (.float o.1)) o.2) : gG X V mX11_innerShare gShM M0 0 0 0 [(0, .ref (gAd V 0))] [] := by
  unfold fX11_innerShare at h
  refine g_aload_n 0 rfl rfl dX11_innerShare_0 ?_
  refine g_iconst (v := 0) rfl dX11_innerShare_1 ?_
  obtain ⟨M1, eM1, h⟩ := g_bnd h
  refine g_putI' eM1 FX11_72 jX11 sM_0 rfl rfl rfl dX11_innerShare_2 ?_
  refine g_aload_n 0 rfl rfl dX11_innerShare_5 ?_
  refine g_getR FX11_9 sM_0 rfl dX11_innerShare_6 ?_
  refine g_iconst (v := 1) rfl dX11_innerShare_9 ?_
  obtain ⟨v2, ev2, h⟩ := g_bnd h
  refine g_iald' ev2 sM_1 dX11_innerShare_10 ?_
  rcases g_ite h with ⟨c3, h⟩ | ⟨c3, h⟩
  · refine g_if_ne_f c3 (tgt := 18) rfl dX11_innerShare_11 ?_
    refine g_fconst0 dX11_innerShare_14 ?_
    refine g_goto (tgt := 31) rfl dX11_innerShare_15 ?_
    cases h
    exact g_fret O ⟨Nat.le_of_ble_eq_true rfl, Nat.le_of_ble_eq_true rfl⟩ dX11_innerShare_31
  · refine g_if_ne_t c3 (tgt := 18) rfl dX11_innerShare_11 ?_
    refine g_aload_n 0 rfl rfl dX11_innerShare_18 ?_
    obtain ⟨v4, ev4, h⟩ := g_bnd h
    refine g_callV LX11_383 sM_0 rfl (kX11_inners ev4) rfl rfl (Nat.le_of_ble_eq_true rfl) ⟨Nat.le_of_ble_eq_true rfl, Nat.le_of_ble_eq_true rfl⟩ ⟨Nat.le_of_ble_eq_true rfl, Nat.le_of_ble_eq_true rfl⟩ dX11_innerShare_19 rfl ?_
    refine g_i2f dX11_innerShare_22 ?_
    refine g_aload_n 0 rfl rfl dX11_innerShare_23 ?_
    refine g_getR FX11_9 sM_0 rfl dX11_innerShare_24 ?_
    refine g_iconst (v := 1) rfl dX11_innerShare_27 ?_
    obtain ⟨v5, ev5, h⟩ := g_bnd h
    refine g_iald' ev5 sM_1 dX11_innerShare_28 ?_
    refine g_i2f dX11_innerShare_29 ?_
    obtain ⟨v6, ev6, h⟩ := g_bnd h
    refine g_fdiv' ev6 dX11_innerShare_30 ?_
    cases h
    exact g_fret O ⟨Nat.le_of_ble_eq_true rfl, Nat.le_of_ble_eq_true rfl⟩ dX11_innerShare_31
theorem kX11_innerShare {l : Launch} {V : gEnv} {M0 : gMem}   {o : (UInt32 × gMem)} (h : fX11_innerShare M0 = some o) : gM l yX11_innerShare cX11_innerShare 1 (some .float) rX11_innerShare V gShM [.ref (gAd V 0)] M0 (some (.float o.1)) o.2 :=
  gM.of (by decide) (Nat.le_of_ble_eq_true rfl) rfl (fun X _ O => tX11_innerShare  h O)
theorem dX11_meanMoved_0 : decode cX11_meanMoved 0 = .ok (.aload_n 0, 1) := by decide +kernel
theorem dX11_meanMoved_1 : decode cX11_meanMoved 1 = .ok (.iconst 0, 1) := by decide +kernel
theorem dX11_meanMoved_2 : decode cX11_meanMoved 2 = .ok (.putfield 72, 3) := by decide +kernel
theorem dX11_meanMoved_5 : decode cX11_meanMoved 5 = .ok (.aload_n 0, 1) := by decide +kernel
theorem dX11_meanMoved_6 : decode cX11_meanMoved 6 = .ok (.getfield 9, 3) := by decide +kernel
theorem dX11_meanMoved_9 : decode cX11_meanMoved 9 = .ok (.bipush 7, 2) := by decide +kernel
theorem dX11_meanMoved_11 : decode cX11_meanMoved 11 = .ok (.iaload, 1) := by decide +kernel
theorem dX11_meanMoved_12 : decode cX11_meanMoved 12 = .ok (.ifCond .ne 7, 3) := by decide +kernel
theorem dX11_meanMoved_15 : decode cX11_meanMoved 15 = .ok (.dconst 0, 1) := by decide +kernel
theorem dX11_meanMoved_16 : decode cX11_meanMoved 16 = .ok (.goto 20, 3) := by decide +kernel
theorem dX11_meanMoved_19 : decode cX11_meanMoved 19 = .ok (.aload_n 0, 1) := by decide +kernel
theorem dX11_meanMoved_20 : decode cX11_meanMoved 20 = .ok (.getfield 9, 3) := by decide +kernel
theorem dX11_meanMoved_23 : decode cX11_meanMoved 23 = .ok (.bipush 10, 2) := by decide +kernel
theorem dX11_meanMoved_25 : decode cX11_meanMoved 25 = .ok (.iaload, 1) := by decide +kernel
theorem dX11_meanMoved_26 : decode cX11_meanMoved 26 = .ok (.i2d, 1) := by decide +kernel
theorem dX11_meanMoved_27 : decode cX11_meanMoved 27 = .ok (.aload_n 0, 1) := by decide +kernel
theorem dX11_meanMoved_28 : decode cX11_meanMoved 28 = .ok (.getfield 9, 3) := by decide +kernel
theorem dX11_meanMoved_31 : decode cX11_meanMoved 31 = .ok (.bipush 7, 2) := by decide +kernel
theorem dX11_meanMoved_33 : decode cX11_meanMoved 33 = .ok (.iaload, 1) := by decide +kernel
theorem dX11_meanMoved_34 : decode cX11_meanMoved 34 = .ok (.i2d, 1) := by decide +kernel
theorem dX11_meanMoved_35 : decode cX11_meanMoved 35 = .ok (.ddiv, 1) := by decide +kernel
theorem dX11_meanMoved_36 : decode cX11_meanMoved 36 = .ok (.dreturn, 1) := by decide +kernel
abbrev rX11_meanMoved : Room := { frames := 0, cells := 0, slots := 0, locals := 0 }
abbrev mX11_meanMoved : gY := (cX11_meanMoved, RX11, 1, rX11_meanMoved)
def fX11_meanMoved (M0 : gMem) : Option (UInt64 × gMem) :=
  (wF M0 0 0 (0 : Int32)).bind fun M1 => (rI M1 1 374 (7 : Int32)).bind fun v2 => if v2 = 0 then (some (FP.dconst0, M1)) else (rI M1 1 374 (10 : Int32)).bind fun v4 => (rI M1 1 374 (7 : Int32)).bind fun v5 => (ddivO (FP.i2d v4) (FP.i2d v5)).bind fun v6 => some (v6, M1)
set_option maxRecDepth 20000 in
theorem tX11_meanMoved {X : gX} {V : gEnv} {M0 : gMem}  {o : (UInt64 × gMem)} (h : fX11_meanMoved M0 = some o) (O : gO X V mX11_meanMoved gShM (some .double) (some (.double o.1)) o.2) : gG X V mX11_meanMoved gShM M0 0 0 0 [(0, .ref (gAd V 0))] [] := by
  unfold fX11_meanMoved at h
  refine g_aload_n 0 rfl rfl dX11_meanMoved_0 ?_
  refine g_iconst (v := 0) rfl dX11_meanMoved_1 ?_
  obtain ⟨M1, eM1, h⟩ := g_bnd h
  refine g_putI' eM1 FX11_72 jX11 sM_0 rfl rfl rfl dX11_meanMoved_2 ?_
  refine g_aload_n 0 rfl rfl dX11_meanMoved_5 ?_
  refine g_getR FX11_9 sM_0 rfl dX11_meanMoved_6 ?_
  refine g_bipush (v := 7) rfl dX11_meanMoved_9 ?_
  obtain ⟨v2, ev2, h⟩ := g_bnd h
  refine g_iald' ev2 sM_1 dX11_meanMoved_11 ?_
  rcases g_ite h with ⟨c3, h⟩ | ⟨c3, h⟩
  · refine g_if_ne_f c3 (tgt := 19) rfl dX11_meanMoved_12 ?_
    refine g_dconst0 dX11_meanMoved_15 ?_
    refine g_goto (tgt := 36) rfl dX11_meanMoved_16 ?_
    cases h
    exact g_dret O ⟨Nat.le_of_ble_eq_true rfl, Nat.le_of_ble_eq_true rfl⟩ dX11_meanMoved_36
  · refine g_if_ne_t c3 (tgt := 19) rfl dX11_meanMoved_12 ?_
    refine g_aload_n 0 rfl rfl dX11_meanMoved_19 ?_
    refine g_getR FX11_9 sM_0 rfl dX11_meanMoved_20 ?_
    refine g_bipush (v := 10) rfl dX11_meanMoved_23 ?_
    obtain ⟨v4, ev4, h⟩ := g_bnd h
    refine g_iald' ev4 sM_1 dX11_meanMoved_25 ?_
    refine g_i2d dX11_meanMoved_26 ?_
    refine g_aload_n 0 rfl rfl dX11_meanMoved_27 ?_
    refine g_getR FX11_9 sM_0 rfl dX11_meanMoved_28 ?_
    refine g_bipush (v := 7) rfl dX11_meanMoved_31 ?_
    obtain ⟨v5, ev5, h⟩ := g_bnd h
    refine g_iald' ev5 sM_1 dX11_meanMoved_33 ?_
    refine g_i2d dX11_meanMoved_34 ?_
    obtain ⟨v6, ev6, h⟩ := g_bnd h
    refine g_ddiv' ev6 dX11_meanMoved_35 ?_
    cases h
    exact g_dret O ⟨Nat.le_of_ble_eq_true rfl, Nat.le_of_ble_eq_true rfl⟩ dX11_meanMoved_36
theorem kX11_meanMoved {l : Launch} {V : gEnv} {M0 : gMem}   {o : (UInt64 × gMem)} (h : fX11_meanMoved M0 = some o) : gM l yX11_meanMoved cX11_meanMoved 1 (some .double) rX11_meanMoved V gShM [.ref (gAd V 0)] M0 (some (.double o.1)) o.2 :=
  gM.of (by decide) (Nat.le_of_ble_eq_true rfl) rfl (fun X _ O => tX11_meanMoved  h O)
theorem dX11_done_0 : decode cX11_done 0 = .ok (.iload_n 1, 1) := by decide +kernel
theorem dX11_done_1 : decode cX11_done 1 = .ok (.ifCond .lt 7, 3) := by decide +kernel
theorem dX11_done_4 : decode cX11_done 4 = .ok (.aload_n 0, 1) := by decide +kernel
theorem dX11_done_5 : decode cX11_done 5 = .ok (.invokevirtual 371, 3) := by decide +kernel
theorem dX11_done_8 : decode cX11_done 8 = .ok (.iload_n 1, 1) := by decide +kernel
theorem dX11_done_9 : decode cX11_done 9 = .ok (.ireturn, 1) := by decide +kernel
abbrev rX11_done : Room := { frames := 1, cells := 0, slots := 0, locals := 21 }
abbrev mX11_done : gY := (cX11_done, RX11, 2, rX11_done)
def fX11_done (x1 : Int32) (M0 : gMem) : Option (Int32 × gMem) :=
  if x1 < 0 then (some (x1, M0)) else (fX11_keeps M0).bind fun v2 => some (x1, v2)
set_option maxRecDepth 20000 in
theorem tX11_done {X : gX} {V : gEnv} {x1 : Int32} {M0 : gMem}  {o : (Int32 × gMem)} (h : fX11_done x1 M0 = some o) (O : gO X V mX11_done gShM (some .int) (some (.int o.1)) o.2) : gG X V mX11_done gShM M0 0 0 0 [(0, .ref (gAd V 0)), (1, .int x1)] [] := by
  unfold fX11_done at h
  refine g_iload_n 1 rfl rfl dX11_done_0 ?_
  rcases g_ite h with ⟨c1, h⟩ | ⟨c1, h⟩
  · refine g_if_lt_t c1 (tgt := 8) rfl dX11_done_1 ?_
    refine g_iload_n 1 rfl rfl dX11_done_8 ?_
    cases h
    exact g_iret O ⟨Nat.le_of_ble_eq_true rfl, Nat.le_of_ble_eq_true rfl⟩ rfl dX11_done_9
  · refine g_if_lt_f c1 (tgt := 8) rfl dX11_done_1 ?_
    refine g_aload_n 0 rfl rfl dX11_done_4 ?_
    obtain ⟨v2, ev2, h⟩ := g_bnd h
    refine g_callV LX11_371 sM_0 rfl (kX11_keeps ev2) rfl rfl (Nat.le_of_ble_eq_true rfl) ⟨Nat.le_of_ble_eq_true rfl, Nat.le_of_ble_eq_true rfl⟩ ⟨Nat.le_of_ble_eq_true rfl, Nat.le_of_ble_eq_true rfl⟩ dX11_done_5 rfl ?_
    refine g_iload_n 1 rfl rfl dX11_done_8 ?_
    cases h
    exact g_iret O ⟨Nat.le_of_ble_eq_true rfl, Nat.le_of_ble_eq_true rfl⟩ rfl dX11_done_9
theorem kX11_done {l : Launch} {V : gEnv} {M0 : gMem} {x1 : Int32}  {o : (Int32 × gMem)} (h : fX11_done x1 M0 = some o) : gM l yX11_done cX11_done 2 (some .int) rX11_done V gShM [.ref (gAd V 0), .int x1] M0 (some (.int o.1)) o.2 :=
  gM.of (by decide) (Nat.le_of_ble_eq_true rfl) rfl (fun X _ O => tX11_done  h O)
theorem dX11_isName_0 : decode cX11_isName 0 = .ok (.iconst 0, 1) := by decide +kernel
theorem dX11_isName_1 : decode cX11_isName 1 = .ok (.istore_n 1, 1) := by decide +kernel
theorem dX11_isName_2 : decode cX11_isName 2 = .ok (.iload_n 1, 1) := by decide +kernel
theorem dX11_isName_3 : decode cX11_isName 3 = .ok (.aload_n 0, 1) := by decide +kernel
theorem dX11_isName_4 : decode cX11_isName 4 = .ok (.getfield 209, 3) := by decide +kernel
theorem dX11_isName_7 : decode cX11_isName 7 = .ok (.if_icmp .ge 19, 3) := by decide +kernel
theorem dX11_isName_10 : decode cX11_isName 10 = .ok (.aload_n 0, 1) := by decide +kernel
theorem dX11_isName_11 : decode cX11_isName 11 = .ok (.iload_n 1, 1) := by decide +kernel
theorem dX11_isName_12 : decode cX11_isName 12 = .ok (.invokevirtual 234, 3) := by decide +kernel
theorem dX11_isName_15 : decode cX11_isName 15 = .ok (.ifCond .ne 5, 3) := by decide +kernel
theorem dX11_isName_18 : decode cX11_isName 18 = .ok (.iconst 0, 1) := by decide +kernel
theorem dX11_isName_19 : decode cX11_isName 19 = .ok (.ireturn, 1) := by decide +kernel
theorem dX11_isName_20 : decode cX11_isName 20 = .ok (.iinc 1 1, 3) := by decide +kernel
theorem dX11_isName_23 : decode cX11_isName 23 = .ok (.goto (-21), 3) := by decide +kernel
theorem dX11_isName_26 : decode cX11_isName 26 = .ok (.aload_n 0, 1) := by decide +kernel
theorem dX11_isName_27 : decode cX11_isName 27 = .ok (.getfield 209, 3) := by decide +kernel
theorem dX11_isName_30 : decode cX11_isName 30 = .ok (.iconst 1, 1) := by decide +kernel
theorem dX11_isName_31 : decode cX11_isName 31 = .ok (.bipush 6, 2) := by decide +kernel
theorem dX11_isName_33 : decode cX11_isName 33 = .ok (.invokestatic 172, 3) := by decide +kernel
theorem dX11_isName_36 : decode cX11_isName 36 = .ok (.ireturn, 1) := by decide +kernel
abbrev rX11_isName : Room := { frames := 2, cells := 0, slots := 0, locals := 43 }
abbrev mX11_isName : gY := (cX11_isName, RX11, 2, rX11_isName)
def fX11_isName_l2 (M0 : gMem) (x1 : Int32) : Option (Int32 ⊕ (Unit ⊕ Int32)) :=
  if (M0.1 0 21) ≤ x1 then (some (.inr (.inl ()))) else (fX11_isLetter x1 M0).bind fun v2 => if v2 = 0 then (some (.inr (.inr (0 : Int32)))) else some (.inl (x1 + (1 : Int32)))
set_option maxRecDepth 20000 in
theorem tX11_isName_l2 {X : gX} {V : gEnv} {M0 : gMem} {x1 : Int32}  {o : (Int32 ⊕ (Unit ⊕ Int32))} (h : fX11_isName_l2 M0 x1 = some o) (Kc : ∀ s9, o = .inl s9 → gG X V mX11_isName gShM M0 0 0 2 [(0, .ref (gAd V 0)), (1, .int s9)] []) (Kx : ∀ e9, o = .inr (.inl e9) → gG X V mX11_isName gShM M0 0 0 26 [(0, .ref (gAd V 0))] []) (Kr : ∀ r9, o = .inr (.inr r9) → gO X V mX11_isName gShM (some .boolean) (some (.int r9)) M0) : gG X V mX11_isName gShM M0 0 0 2 [(0, .ref (gAd V 0)), (1, .int x1)] [] := by
  unfold fX11_isName_l2 at h
  refine g_iload_n 1 rfl rfl dX11_isName_2 ?_
  refine g_aload_n 0 rfl rfl dX11_isName_3 ?_
  refine g_getI FX11_209 sM_0 rfl dX11_isName_4 ?_
  rcases g_ite h with ⟨c1, h⟩ | ⟨c1, h⟩
  · refine g_icmp_ge_t c1 (tgt := 26) rfl dX11_isName_7 ?_
    cases h
    refine g_sub [0] rfl ?_
    exact Kx () rfl
  · refine g_icmp_ge_f c1 (tgt := 26) rfl dX11_isName_7 ?_
    refine g_aload_n 0 rfl rfl dX11_isName_10 ?_
    refine g_iload_n 1 rfl rfl dX11_isName_11 ?_
    obtain ⟨v2, ev2, h⟩ := g_bnd h
    refine g_callV LX11_234 sM_0 rfl (kX11_isLetter ev2) rfl rfl (Nat.le_of_ble_eq_true rfl) ⟨Nat.le_of_ble_eq_true rfl, Nat.le_of_ble_eq_true rfl⟩ ⟨Nat.le_of_ble_eq_true rfl, Nat.le_of_ble_eq_true rfl⟩ dX11_isName_12 rfl ?_
    rcases g_ite h with ⟨c3, h⟩ | ⟨c3, h⟩
    · refine g_if_ne_f c3 (tgt := 20) rfl dX11_isName_15 ?_
      refine g_iconst (v := 0) rfl dX11_isName_18 ?_
      cases h
      exact g_iret (Kr (0 : Int32) rfl) ⟨Nat.le_of_ble_eq_true rfl, Nat.le_of_ble_eq_true rfl⟩ rfl dX11_isName_19
    · refine g_if_ne_t c3 (tgt := 20) rfl dX11_isName_15 ?_
      refine g_iinc (j := 1) (v := x1 + (1 : Int32)) (ls' := [(1, .int (x1 + (1 : Int32))), (0, .ref (gAd V 0))]) rfl rfl (Nat.le_of_ble_eq_true rfl) rfl dX11_isName_20 ?_
      refine g_goto (tgt := 2) rfl dX11_isName_23 ?_
      cases h
      refine g_sub [1, 0] rfl ?_
      exact Kc (x1 + (1 : Int32)) rfl
def fX11_isName (M0 : gMem) : Option Int32 :=
  (gLoop (fun z9 => fX11_isName_l2 M0 z9) gFu (0 : Int32)).bind fun w4 => gSE w4 (fun y5 => (fX11_in (M0.1 0 21) (1 : Int32) (6 : Int32)).bind fun v6 => (zv v6).bind fun v7 => some v7) (fun r8 => some r8)
set_option maxRecDepth 20000 in
theorem tX11_isName {X : gX} {V : gEnv} {M0 : gMem}  {o : Int32} (h : fX11_isName M0 = some o) (O : gO X V mX11_isName gShM (some .boolean) (some (.int o)) M0) : gG X V mX11_isName gShM M0 0 0 0 [(0, .ref (gAd V 0))] [] := by
  unfold fX11_isName at h
  refine g_iconst (v := 0) rfl dX11_isName_0 ?_
  refine g_istore_n (ls' := [(1, .int (0 : Int32)), (0, .ref (gAd V 0))]) rfl (Nat.le_of_ble_eq_true rfl) rfl dX11_isName_1 ?_
  obtain ⟨w4, ew4, h⟩ := g_bnd h
  refine g_sub [1, 0] rfl ?_
  rcases w4 with y5 | r8
  · have h := g_sl h
    have KX : gG X V mX11_isName gShM M0 0 0 26 [(0, .ref (gAd V 0))] [] := by
      refine g_aload_n 0 rfl rfl dX11_isName_26 ?_
      refine g_getI FX11_209 sM_0 rfl dX11_isName_27 ?_
      refine g_iconst (v := 1) rfl dX11_isName_30 ?_
      refine g_bipush (v := 6) rfl dX11_isName_31 ?_
      obtain ⟨v6, ev6, h⟩ := g_bnd h
      refine g_callS LX11_172 (kX11_in ev6) rfl rfl (Nat.le_of_ble_eq_true rfl) ⟨Nat.le_of_ble_eq_true rfl, Nat.le_of_ble_eq_true rfl⟩ ⟨Nat.le_of_ble_eq_true rfl, Nat.le_of_ble_eq_true rfl⟩ dX11_isName_33 rfl ?_
      obtain ⟨v7, ev7, h⟩ := g_bnd h
      refine g_zv ev7 ?_
      cases h
      exact g_iret O ⟨Nat.le_of_ble_eq_true rfl, Nat.le_of_ble_eq_true rfl⟩ (g_nz (zv_ok ev7)) dX11_isName_36
    exact gLoop_Q ew4 (fun z9 => gG X V mX11_isName gShM M0 0 0 2 [(0, .ref (gAd V 0)), (1, .int z9)] []) (fun s9 o9 hb9 hc9 hx9 => tX11_isName_l2  hb9 hc9 (fun e9 he9 => by cases hx9 _ he9; exact KX) (fun r9 he9 => by cases hx9 _ he9))
  · have h := g_sr h
    cases h
    exact gLoop_Q ew4 (fun z9 => gG X V mX11_isName gShM M0 0 0 2 [(0, .ref (gAd V 0)), (1, .int z9)] []) (fun s9 o9 hb9 hc9 hx9 => tX11_isName_l2  hb9 hc9 (fun e9 he9 => by cases hx9 _ he9) (fun r9 he9 => by cases hx9 _ he9; exact O))
theorem kX11_isName {l : Launch} {V : gEnv} {M0 : gMem}   {o : Int32} (h : fX11_isName M0 = some o) : gM l yX11_isName cX11_isName 2 (some .boolean) rX11_isName V gShM [.ref (gAd V 0)] M0 (some (.int o)) M0 :=
  gM.of (by decide) (Nat.le_of_ble_eq_true rfl) rfl (fun X _ O => tX11_isName  h O)
