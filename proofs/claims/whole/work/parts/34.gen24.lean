/-! METHODS, by program: pure functions and contracts -/
theorem dX2_closeWithout_0 : decode cX2_closeWithout 0 = .ok (.iconst 0, 1) := by decide +kernel
theorem dX2_closeWithout_1 : decode cX2_closeWithout 1 = .ok (.istore_n 3, 1) := by decide +kernel
theorem dX2_closeWithout_2 : decode cX2_closeWithout 2 = .ok (.iload_n 3, 1) := by decide +kernel
theorem dX2_closeWithout_3 : decode cX2_closeWithout 3 = .ok (.aload_n 0, 1) := by decide +kernel
theorem dX2_closeWithout_4 : decode cX2_closeWithout 4 = .ok (.getfield 40, 3) := by decide +kernel
theorem dX2_closeWithout_7 : decode cX2_closeWithout 7 = .ok (.if_icmp .ge 22, 3) := by decide +kernel
theorem dX2_closeWithout_10 : decode cX2_closeWithout 10 = .ok (.aload_n 2, 1) := by decide +kernel
theorem dX2_closeWithout_11 : decode cX2_closeWithout 11 = .ok (.iload_n 3, 1) := by decide +kernel
theorem dX2_closeWithout_12 : decode cX2_closeWithout 12 = .ok (.aload_n 0, 1) := by decide +kernel
theorem dX2_closeWithout_13 : decode cX2_closeWithout 13 = .ok (.getfield 25, 3) := by decide +kernel
theorem dX2_closeWithout_16 : decode cX2_closeWithout 16 = .ok (.iload_n 3, 1) := by decide +kernel
theorem dX2_closeWithout_17 : decode cX2_closeWithout 17 = .ok (.iaload, 1) := by decide +kernel
theorem dX2_closeWithout_18 : decode cX2_closeWithout 18 = .ok (.iconst 1, 1) := by decide +kernel
theorem dX2_closeWithout_19 : decode cX2_closeWithout 19 = .ok (.iload_n 3, 1) := by decide +kernel
theorem dX2_closeWithout_20 : decode cX2_closeWithout 20 = .ok (.ishl, 1) := by decide +kernel
theorem dX2_closeWithout_21 : decode cX2_closeWithout 21 = .ok (.ior, 1) := by decide +kernel
theorem dX2_closeWithout_22 : decode cX2_closeWithout 22 = .ok (.iastore, 1) := by decide +kernel
theorem dX2_closeWithout_23 : decode cX2_closeWithout 23 = .ok (.iinc 3 1, 3) := by decide +kernel
theorem dX2_closeWithout_26 : decode cX2_closeWithout 26 = .ok (.goto (-24), 3) := by decide +kernel
theorem dX2_closeWithout_29 : decode cX2_closeWithout 29 = .ok (.iload_n 1, 1) := by decide +kernel
theorem dX2_closeWithout_30 : decode cX2_closeWithout 30 = .ok (.iconst (-1), 1) := by decide +kernel
theorem dX2_closeWithout_31 : decode cX2_closeWithout 31 = .ok (.if_icmp .eq 24, 3) := by decide +kernel
theorem dX2_closeWithout_34 : decode cX2_closeWithout 34 = .ok (.aload_n 2, 1) := by decide +kernel
theorem dX2_closeWithout_35 : decode cX2_closeWithout 35 = .ok (.aload_n 0, 1) := by decide +kernel
theorem dX2_closeWithout_36 : decode cX2_closeWithout 36 = .ok (.getfield 19, 3) := by decide +kernel
theorem dX2_closeWithout_39 : decode cX2_closeWithout 39 = .ok (.iload_n 1, 1) := by decide +kernel
theorem dX2_closeWithout_40 : decode cX2_closeWithout 40 = .ok (.iaload, 1) := by decide +kernel
theorem dX2_closeWithout_41 : decode cX2_closeWithout 41 = .ok (.dup2, 1) := by decide +kernel
theorem dX2_closeWithout_42 : decode cX2_closeWithout 42 = .ok (.iaload, 1) := by decide +kernel
theorem dX2_closeWithout_43 : decode cX2_closeWithout 43 = .ok (.iconst 1, 1) := by decide +kernel
theorem dX2_closeWithout_44 : decode cX2_closeWithout 44 = .ok (.aload_n 0, 1) := by decide +kernel
theorem dX2_closeWithout_45 : decode cX2_closeWithout 45 = .ok (.getfield 22, 3) := by decide +kernel
theorem dX2_closeWithout_48 : decode cX2_closeWithout 48 = .ok (.iload_n 1, 1) := by decide +kernel
theorem dX2_closeWithout_49 : decode cX2_closeWithout 49 = .ok (.iaload, 1) := by decide +kernel
theorem dX2_closeWithout_50 : decode cX2_closeWithout 50 = .ok (.ishl, 1) := by decide +kernel
theorem dX2_closeWithout_51 : decode cX2_closeWithout 51 = .ok (.iconst (-1), 1) := by decide +kernel
theorem dX2_closeWithout_52 : decode cX2_closeWithout 52 = .ok (.ixor, 1) := by decide +kernel
theorem dX2_closeWithout_53 : decode cX2_closeWithout 53 = .ok (.iand, 1) := by decide +kernel
theorem dX2_closeWithout_54 : decode cX2_closeWithout 54 = .ok (.iastore, 1) := by decide +kernel
theorem dX2_closeWithout_55 : decode cX2_closeWithout 55 = .ok (.iconst 0, 1) := by decide +kernel
theorem dX2_closeWithout_56 : decode cX2_closeWithout 56 = .ok (.istore_n 3, 1) := by decide +kernel
theorem dX2_closeWithout_57 : decode cX2_closeWithout 57 = .ok (.iload_n 3, 1) := by decide +kernel
theorem dX2_closeWithout_58 : decode cX2_closeWithout 58 = .ok (.aload_n 0, 1) := by decide +kernel
theorem dX2_closeWithout_59 : decode cX2_closeWithout 59 = .ok (.getfield 40, 3) := by decide +kernel
theorem dX2_closeWithout_62 : decode cX2_closeWithout 62 = .ok (.if_icmp .ge 52, 3) := by decide +kernel
theorem dX2_closeWithout_65 : decode cX2_closeWithout 65 = .ok (.aload_n 2, 1) := by decide +kernel
theorem dX2_closeWithout_66 : decode cX2_closeWithout 66 = .ok (.iload_n 3, 1) := by decide +kernel
theorem dX2_closeWithout_67 : decode cX2_closeWithout 67 = .ok (.iaload, 1) := by decide +kernel
theorem dX2_closeWithout_68 : decode cX2_closeWithout 68 = .ok (.istore 4, 2) := by decide +kernel
theorem dX2_closeWithout_70 : decode cX2_closeWithout 70 = .ok (.iconst 0, 1) := by decide +kernel
theorem dX2_closeWithout_71 : decode cX2_closeWithout 71 = .ok (.istore 5, 2) := by decide +kernel
theorem dX2_closeWithout_73 : decode cX2_closeWithout 73 = .ok (.iload 5, 2) := by decide +kernel
theorem dX2_closeWithout_75 : decode cX2_closeWithout 75 = .ok (.aload_n 0, 1) := by decide +kernel
theorem dX2_closeWithout_76 : decode cX2_closeWithout 76 = .ok (.getfield 40, 3) := by decide +kernel
theorem dX2_closeWithout_79 : decode cX2_closeWithout 79 = .ok (.if_icmp .ge 29, 3) := by decide +kernel
theorem dX2_closeWithout_82 : decode cX2_closeWithout 82 = .ok (.aload_n 2, 1) := by decide +kernel
theorem dX2_closeWithout_83 : decode cX2_closeWithout 83 = .ok (.iload 5, 2) := by decide +kernel
theorem dX2_closeWithout_85 : decode cX2_closeWithout 85 = .ok (.iaload, 1) := by decide +kernel
theorem dX2_closeWithout_86 : decode cX2_closeWithout 86 = .ok (.iload_n 3, 1) := by decide +kernel
theorem dX2_closeWithout_87 : decode cX2_closeWithout 87 = .ok (.invokestatic 71, 3) := by decide +kernel
theorem dX2_closeWithout_90 : decode cX2_closeWithout 90 = .ok (.ifCond .eq 12, 3) := by decide +kernel
theorem dX2_closeWithout_93 : decode cX2_closeWithout 93 = .ok (.aload_n 2, 1) := by decide +kernel
theorem dX2_closeWithout_94 : decode cX2_closeWithout 94 = .ok (.iload 5, 2) := by decide +kernel
theorem dX2_closeWithout_96 : decode cX2_closeWithout 96 = .ok (.dup2, 1) := by decide +kernel
theorem dX2_closeWithout_97 : decode cX2_closeWithout 97 = .ok (.iaload, 1) := by decide +kernel
theorem dX2_closeWithout_98 : decode cX2_closeWithout 98 = .ok (.iload 4, 2) := by decide +kernel
theorem dX2_closeWithout_100 : decode cX2_closeWithout 100 = .ok (.ior, 1) := by decide +kernel
theorem dX2_closeWithout_101 : decode cX2_closeWithout 101 = .ok (.iastore, 1) := by decide +kernel
theorem dX2_closeWithout_102 : decode cX2_closeWithout 102 = .ok (.iinc 5 1, 3) := by decide +kernel
theorem dX2_closeWithout_105 : decode cX2_closeWithout 105 = .ok (.goto (-32), 3) := by decide +kernel
theorem dX2_closeWithout_108 : decode cX2_closeWithout 108 = .ok (.iinc 3 1, 3) := by decide +kernel
theorem dX2_closeWithout_111 : decode cX2_closeWithout 111 = .ok (.goto (-54), 3) := by decide +kernel
theorem dX2_closeWithout_114 : decode cX2_closeWithout 114 = .ok (.return_, 1) := by decide +kernel
abbrev rX2_closeWithout : Room := { frames := 1, cells := 0, slots := 0, locals := 21 }
abbrev mX2_closeWithout : gY := (cX2_closeWithout, RX2, 6, rX2_closeWithout)
def fX2_closeWithout_l2 (t0 : Nat) (t2 : Nat) (x1 : Int32) (x3 : Int32) (M0 : gMem) : Option ((Int32 × gMem) ⊕ gMem) :=
  if (M0.1 t0 9) ≤ x3 then (some (.inr M0)) else (rI M0 (t0 + 5) 24 x3).bind fun v2 => (wI M0 t2 24 x3 (v2 ||| ((1 : Int32) <<< (x3 &&& 31)))).bind fun M3 => some (.inl (x3 + (1 : Int32), M3))
set_option maxRecDepth 20000 in
theorem tX2_closeWithout_l2 {X : gX} {V : gEnv} {t0 : Nat} {t2 : Nat} {x1 : Int32} {x3 : Int32} {M0 : gMem} (ht0 : gNet gShC t0) (ht2 : gShC[t2]? = some (.inl (0, 24))) {o : ((Int32 × gMem) ⊕ gMem)} (h : fX2_closeWithout_l2 t0 t2 x1 x3 M0 = some o) (Kc : ∀ s9, o = .inl s9 → gG X V mX2_closeWithout gShC s9.2 0 0 2 [(0, .ref (gAd V t0)), (1, .int x1), (2, .ref (gAd V t2)), (3, .int s9.1)] []) (Kx : ∀ e9, o = .inr e9 → gG X V mX2_closeWithout gShC e9 0 0 29 [(0, .ref (gAd V t0)), (1, .int x1), (2, .ref (gAd V t2))] []) : gG X V mX2_closeWithout gShC M0 0 0 2 [(0, .ref (gAd V t0)), (1, .int x1), (2, .ref (gAd V t2)), (3, .int x3)] [] := by
  unfold fX2_closeWithout_l2 at h
  refine g_iload_n 3 rfl rfl dX2_closeWithout_2 ?_
  refine g_aload_n 0 rfl rfl dX2_closeWithout_3 ?_
  refine g_getI FX2_40 ht0.1 rfl dX2_closeWithout_4 ?_
  rcases g_ite h with ⟨c1, h⟩ | ⟨c1, h⟩
  · refine g_icmp_ge_t c1 (tgt := 29) rfl dX2_closeWithout_7 ?_
    cases h
    refine g_sub [0, 1, 2] rfl ?_
    exact Kx M0 rfl
  · refine g_icmp_ge_f c1 (tgt := 29) rfl dX2_closeWithout_7 ?_
    refine g_aload_n 2 rfl rfl dX2_closeWithout_10 ?_
    refine g_iload_n 3 rfl rfl dX2_closeWithout_11 ?_
    refine g_aload_n 0 rfl rfl dX2_closeWithout_12 ?_
    refine g_getR FX2_25 ht0.1 rfl dX2_closeWithout_13 ?_
    refine g_iload_n 3 rfl rfl dX2_closeWithout_16 ?_
    obtain ⟨v2, ev2, h⟩ := g_bnd h
    refine g_iald' ev2 ht0.2.2.2.2.2.1 dX2_closeWithout_17 ?_
    refine g_iconst (v := 1) rfl dX2_closeWithout_18 ?_
    refine g_iload_n 3 rfl rfl dX2_closeWithout_19 ?_
    refine g_ishl dX2_closeWithout_20 ?_
    refine g_ior dX2_closeWithout_21 ?_
    obtain ⟨M3, eM3, h⟩ := g_bnd h
    refine g_iast' eM3 ht2 dX2_closeWithout_22 ?_
    refine g_iinc (j := 3) (v := x3 + (1 : Int32)) (ls' := [(3, .int (x3 + (1 : Int32))), (0, .ref (gAd V t0)), (1, .int x1), (2, .ref (gAd V t2))]) rfl rfl (Nat.le_of_ble_eq_true rfl) rfl dX2_closeWithout_23 ?_
    refine g_goto (tgt := 2) rfl dX2_closeWithout_26 ?_
    cases h
    refine g_sub [1, 2, 3, 0] rfl ?_
    exact Kc (x3 + (1 : Int32), M3) rfl
def fX2_closeWithout_b102 (t0 : Nat) (t2 : Nat) (x3 : Int32) (x4 : Int32) (x5 : Int32) (M0 : gMem) : Option ((Int32 × gMem) ⊕ gMem) :=
  some (.inl (x5 + (1 : Int32), M0))
set_option maxRecDepth 20000 in
theorem tX2_closeWithout_b102 {X : gX} {V : gEnv} {t0 : Nat} {t2 : Nat} {x3 : Int32} {x4 : Int32} {x5 : Int32} {M0 : gMem} (ht0 : gNet gShC t0) (ht2 : gShC[t2]? = some (.inl (0, 24))) {o : ((Int32 × gMem) ⊕ gMem)} (h : fX2_closeWithout_b102 t0 t2 x3 x4 x5 M0 = some o) (Kc : ∀ s9, o = .inl s9 → gG X V mX2_closeWithout gShC s9.2 0 0 73 [(0, .ref (gAd V t0)), (2, .ref (gAd V t2)), (3, .int x3), (4, .int x4), (5, .int s9.1)] []) (Kx : ∀ e9, o = .inr e9 → gG X V mX2_closeWithout gShC e9 0 0 108 [(0, .ref (gAd V t0)), (2, .ref (gAd V t2)), (3, .int x3)] []) : gG X V mX2_closeWithout gShC M0 0 0 102 [(0, .ref (gAd V t0)), (2, .ref (gAd V t2)), (3, .int x3), (4, .int x4), (5, .int x5)] [] := by
  unfold fX2_closeWithout_b102 at h
  refine g_iinc (j := 4) (v := x5 + (1 : Int32)) (ls' := [(5, .int (x5 + (1 : Int32))), (0, .ref (gAd V t0)), (2, .ref (gAd V t2)), (3, .int x3), (4, .int x4)]) rfl rfl (Nat.le_of_ble_eq_true rfl) rfl dX2_closeWithout_102 ?_
  refine g_goto (tgt := 73) rfl dX2_closeWithout_105 ?_
  cases h
  refine g_sub [1, 2, 3, 4, 0] rfl ?_
  exact Kc (x5 + (1 : Int32), M0) rfl
def fX2_closeWithout_l73 (t0 : Nat) (t2 : Nat) (x3 : Int32) (x4 : Int32) (x5 : Int32) (M0 : gMem) : Option ((Int32 × gMem) ⊕ gMem) :=
  if (M0.1 t0 9) ≤ x5 then (some (.inr M0)) else (rI M0 t2 24 x5).bind fun v9 => (fX10_has v9 x3).bind fun v10 => if v10 = 0 then (fX2_closeWithout_b102 t0 t2 x3 x4 x5 M0) else (rI M0 t2 24 x5).bind fun v12 => (wI M0 t2 24 x5 (v12 ||| x4)).bind fun M13 => fX2_closeWithout_b102 t0 t2 x3 x4 x5 M13
set_option maxRecDepth 20000 in
theorem tX2_closeWithout_l73 {X : gX} {V : gEnv} {t0 : Nat} {t2 : Nat} {x3 : Int32} {x4 : Int32} {x5 : Int32} {M0 : gMem} (ht0 : gNet gShC t0) (ht2 : gShC[t2]? = some (.inl (0, 24))) {o : ((Int32 × gMem) ⊕ gMem)} (h : fX2_closeWithout_l73 t0 t2 x3 x4 x5 M0 = some o) (Kc : ∀ s9, o = .inl s9 → gG X V mX2_closeWithout gShC s9.2 0 0 73 [(0, .ref (gAd V t0)), (2, .ref (gAd V t2)), (3, .int x3), (4, .int x4), (5, .int s9.1)] []) (Kx : ∀ e9, o = .inr e9 → gG X V mX2_closeWithout gShC e9 0 0 108 [(0, .ref (gAd V t0)), (2, .ref (gAd V t2)), (3, .int x3)] []) : gG X V mX2_closeWithout gShC M0 0 0 73 [(0, .ref (gAd V t0)), (2, .ref (gAd V t2)), (3, .int x3), (4, .int x4), (5, .int x5)] [] := by
  unfold fX2_closeWithout_l73 at h
  refine g_iload 4 rfl dX2_closeWithout_73 ?_
  refine g_aload_n 0 rfl rfl dX2_closeWithout_75 ?_
  refine g_getI FX2_40 ht0.1 rfl dX2_closeWithout_76 ?_
  rcases g_ite h with ⟨c8, h⟩ | ⟨c8, h⟩
  · refine g_icmp_ge_t c8 (tgt := 108) rfl dX2_closeWithout_79 ?_
    cases h
    refine g_sub [0, 1, 2] rfl ?_
    exact Kx M0 rfl
  · refine g_icmp_ge_f c8 (tgt := 108) rfl dX2_closeWithout_79 ?_
    refine g_aload_n 1 rfl rfl dX2_closeWithout_82 ?_
    refine g_iload 4 rfl dX2_closeWithout_83 ?_
    obtain ⟨v9, ev9, h⟩ := g_bnd h
    refine g_iald' ev9 ht2 dX2_closeWithout_85 ?_
    refine g_iload_n 2 rfl rfl dX2_closeWithout_86 ?_
    obtain ⟨v10, ev10, h⟩ := g_bnd h
    refine g_callN LX2_71 (kX10_has ev10) rfl rfl (Nat.le_of_ble_eq_true rfl) ⟨Nat.le_of_ble_eq_true rfl, Nat.le_of_ble_eq_true rfl⟩ ⟨Nat.le_of_ble_eq_true rfl, Nat.le_of_ble_eq_true rfl⟩ dX2_closeWithout_87 rfl ?_
    rcases g_ite h with ⟨c11, h⟩ | ⟨c11, h⟩
    · refine g_if_eq_t c11 (tgt := 102) rfl dX2_closeWithout_90 ?_
      exact tX2_closeWithout_b102 ht0 ht2 h Kc Kx
    · refine g_if_eq_f c11 (tgt := 102) rfl dX2_closeWithout_90 ?_
      refine g_aload_n 1 rfl rfl dX2_closeWithout_93 ?_
      refine g_iload 4 rfl dX2_closeWithout_94 ?_
      refine g_dup2 rfl rfl dX2_closeWithout_96 ?_
      obtain ⟨v12, ev12, h⟩ := g_bnd h
      refine g_iald' ev12 ht2 dX2_closeWithout_97 ?_
      refine g_iload 3 rfl dX2_closeWithout_98 ?_
      refine g_ior dX2_closeWithout_100 ?_
      obtain ⟨M13, eM13, h⟩ := g_bnd h
      refine g_iast' eM13 ht2 dX2_closeWithout_101 ?_
      exact tX2_closeWithout_b102 ht0 ht2 h Kc Kx
def fX2_closeWithout_l57 (t0 : Nat) (t2 : Nat) (x3 : Int32) (M0 : gMem) : Option ((Int32 × gMem) ⊕ gMem) :=
  if (M0.1 t0 9) ≤ x3 then (some (.inr M0)) else (rI M0 t2 24 x3).bind fun v7 => (gLoop (fun z9 => fX2_closeWithout_l73 t0 t2 x3 v7 z9.1 z9.2) gFu ((0 : Int32), M0)).bind fun w14 => some (.inl (x3 + (1 : Int32), w14))
set_option maxRecDepth 20000 in
theorem tX2_closeWithout_l57 {X : gX} {V : gEnv} {t0 : Nat} {t2 : Nat} {x3 : Int32} {M0 : gMem} (ht0 : gNet gShC t0) (ht2 : gShC[t2]? = some (.inl (0, 24))) {o : ((Int32 × gMem) ⊕ gMem)} (h : fX2_closeWithout_l57 t0 t2 x3 M0 = some o) (Kc : ∀ s9, o = .inl s9 → gG X V mX2_closeWithout gShC s9.2 0 0 57 [(0, .ref (gAd V t0)), (2, .ref (gAd V t2)), (3, .int s9.1)] []) (Kx : ∀ e9, o = .inr e9 → gG X V mX2_closeWithout gShC e9 0 0 114 [] []) : gG X V mX2_closeWithout gShC M0 0 0 57 [(0, .ref (gAd V t0)), (2, .ref (gAd V t2)), (3, .int x3)] [] := by
  unfold fX2_closeWithout_l57 at h
  refine g_iload_n 2 rfl rfl dX2_closeWithout_57 ?_
  refine g_aload_n 0 rfl rfl dX2_closeWithout_58 ?_
  refine g_getI FX2_40 ht0.1 rfl dX2_closeWithout_59 ?_
  rcases g_ite h with ⟨c6, h⟩ | ⟨c6, h⟩
  · refine g_icmp_ge_t c6 (tgt := 114) rfl dX2_closeWithout_62 ?_
    cases h
    refine g_sub [] rfl ?_
    exact Kx M0 rfl
  · refine g_icmp_ge_f c6 (tgt := 114) rfl dX2_closeWithout_62 ?_
    refine g_aload_n 1 rfl rfl dX2_closeWithout_65 ?_
    refine g_iload_n 2 rfl rfl dX2_closeWithout_66 ?_
    obtain ⟨v7, ev7, h⟩ := g_bnd h
    refine g_iald' ev7 ht2 dX2_closeWithout_67 ?_
    refine g_istore (ls' := [(4, .int v7), (0, .ref (gAd V t0)), (2, .ref (gAd V t2)), (3, .int x3)]) (Nat.le_of_ble_eq_true rfl) rfl dX2_closeWithout_68 ?_
    refine g_iconst (v := 0) rfl dX2_closeWithout_70 ?_
    refine g_istore (ls' := [(5, .int (0 : Int32)), (4, .int v7), (0, .ref (gAd V t0)), (2, .ref (gAd V t2)), (3, .int x3)]) (Nat.le_of_ble_eq_true rfl) rfl dX2_closeWithout_71 ?_
    obtain ⟨w14, ew14, h⟩ := g_bnd h
    refine g_sub [2, 3, 4, 1, 0] rfl ?_
    have KX : gG X V mX2_closeWithout gShC w14 0 0 108 [(0, .ref (gAd V t0)), (2, .ref (gAd V t2)), (3, .int x3)] [] := by
      refine g_iinc (j := 2) (v := x3 + (1 : Int32)) (ls' := [(3, .int (x3 + (1 : Int32))), (0, .ref (gAd V t0)), (2, .ref (gAd V t2))]) rfl rfl (Nat.le_of_ble_eq_true rfl) rfl dX2_closeWithout_108 ?_
      refine g_goto (tgt := 57) rfl dX2_closeWithout_111 ?_
      cases h
      refine g_sub [1, 2, 0] rfl ?_
      exact Kc (x3 + (1 : Int32), w14) rfl
    exact gLoop_Q ew14 (fun z9 => gG X V mX2_closeWithout gShC z9.2 0 0 73 [(0, .ref (gAd V t0)), (2, .ref (gAd V t2)), (3, .int x3), (4, .int v7), (5, .int z9.1)] []) (fun s9 o9 hb9 hc9 hx9 => tX2_closeWithout_l73 ht0 ht2 hb9 hc9 (fun e9 he9 => by cases hx9 _ he9; exact KX))
def fX2_closeWithout_b55 (t0 : Nat) (t2 : Nat) (M0 : gMem) : Option gMem :=
  (gLoop (fun z9 => fX2_closeWithout_l57 t0 t2 z9.1 z9.2) gFu ((0 : Int32), M0)).bind fun w15 => some w15
set_option maxRecDepth 20000 in
theorem tX2_closeWithout_b55 {X : gX} {V : gEnv} {t0 : Nat} {t2 : Nat} {M0 : gMem} (ht0 : gNet gShC t0) (ht2 : gShC[t2]? = some (.inl (0, 24))) {o : gMem} (h : fX2_closeWithout_b55 t0 t2 M0 = some o) (O : gO X V mX2_closeWithout gShC none none o) : gG X V mX2_closeWithout gShC M0 0 0 55 [(0, .ref (gAd V t0)), (2, .ref (gAd V t2))] [] := by
  unfold fX2_closeWithout_b55 at h
  refine g_iconst (v := 0) rfl dX2_closeWithout_55 ?_
  refine g_istore_n (ls' := [(3, .int (0 : Int32)), (0, .ref (gAd V t0)), (2, .ref (gAd V t2))]) rfl (Nat.le_of_ble_eq_true rfl) rfl dX2_closeWithout_56 ?_
  obtain ⟨w15, ew15, h⟩ := g_bnd h
  refine g_sub [1, 2, 0] rfl ?_
  have KX : gG X V mX2_closeWithout gShC w15 0 0 114 [] [] := by
    cases h
    exact g_vret O ⟨Nat.le_of_ble_eq_true rfl, Nat.le_of_ble_eq_true rfl⟩ dX2_closeWithout_114
  exact gLoop_Q ew15 (fun z9 => gG X V mX2_closeWithout gShC z9.2 0 0 57 [(0, .ref (gAd V t0)), (2, .ref (gAd V t2)), (3, .int z9.1)] []) (fun s9 o9 hb9 hc9 hx9 => tX2_closeWithout_l57 ht0 ht2 hb9 hc9 (fun e9 he9 => by cases hx9 _ he9; exact KX))
def fX2_closeWithout (t0 : Nat) (x1 : Int32) (t2 : Nat) (M0 : gMem) : Option gMem :=
  (gLoop (fun z9 => fX2_closeWithout_l2 t0 t2 x1 z9.1 z9.2) gFu ((0 : Int32), M0)).bind fun w4 => if x1 = (-1 : Int32) then (fX2_closeWithout_b55 t0 t2 w4) else (rI w4 (t0 + 3) 60 x1).bind fun v16 => (rI w4 t2 24 v16).bind fun v17 => (rI w4 (t0 + 4) 60 x1).bind fun v18 => (wI w4 t2 24 v16 (v17 &&& (((1 : Int32) <<< (v18 &&& 31)) ^^^ (-1 : Int32)))).bind fun M19 => fX2_closeWithout_b55 t0 t2 M19
set_option maxRecDepth 20000 in
theorem tX2_closeWithout {X : gX} {V : gEnv} {t0 : Nat} {x1 : Int32} {t2 : Nat} {M0 : gMem} (ht0 : gNet gShC t0) (ht2 : gShC[t2]? = some (.inl (0, 24))) {o : gMem} (h : fX2_closeWithout t0 x1 t2 M0 = some o) (O : gO X V mX2_closeWithout gShC none none o) : gG X V mX2_closeWithout gShC M0 0 0 0 [(0, .ref (gAd V t0)), (1, .int x1), (2, .ref (gAd V t2))] [] := by
  unfold fX2_closeWithout at h
  refine g_iconst (v := 0) rfl dX2_closeWithout_0 ?_
  refine g_istore_n (ls' := [(3, .int (0 : Int32)), (0, .ref (gAd V t0)), (1, .int x1), (2, .ref (gAd V t2))]) rfl (Nat.le_of_ble_eq_true rfl) rfl dX2_closeWithout_1 ?_
  obtain ⟨w4, ew4, h⟩ := g_bnd h
  refine g_sub [1, 2, 3, 0] rfl ?_
  have KX : gG X V mX2_closeWithout gShC w4 0 0 29 [(0, .ref (gAd V t0)), (1, .int x1), (2, .ref (gAd V t2))] [] := by
    refine g_iload_n 1 rfl rfl dX2_closeWithout_29 ?_
    refine g_iconst (v := -1) rfl dX2_closeWithout_30 ?_
    rcases g_ite h with ⟨c5, h⟩ | ⟨c5, h⟩
    · refine g_icmp_eq_t c5 (tgt := 55) rfl dX2_closeWithout_31 ?_
      refine g_sub [0, 2] rfl ?_
      exact tX2_closeWithout_b55 ht0 ht2 h O
    · refine g_icmp_eq_f c5 (tgt := 55) rfl dX2_closeWithout_31 ?_
      refine g_aload_n 2 rfl rfl dX2_closeWithout_34 ?_
      refine g_aload_n 0 rfl rfl dX2_closeWithout_35 ?_
      refine g_getR FX2_19 ht0.1 rfl dX2_closeWithout_36 ?_
      refine g_iload_n 1 rfl rfl dX2_closeWithout_39 ?_
      obtain ⟨v16, ev16, h⟩ := g_bnd h
      refine g_iald' ev16 ht0.2.2.2.1 dX2_closeWithout_40 ?_
      refine g_dup2 rfl rfl dX2_closeWithout_41 ?_
      obtain ⟨v17, ev17, h⟩ := g_bnd h
      refine g_iald' ev17 ht2 dX2_closeWithout_42 ?_
      refine g_iconst (v := 1) rfl dX2_closeWithout_43 ?_
      refine g_aload_n 0 rfl rfl dX2_closeWithout_44 ?_
      refine g_getR FX2_22 ht0.1 rfl dX2_closeWithout_45 ?_
      refine g_iload_n 1 rfl rfl dX2_closeWithout_48 ?_
      obtain ⟨v18, ev18, h⟩ := g_bnd h
      refine g_iald' ev18 ht0.2.2.2.2.1 dX2_closeWithout_49 ?_
      refine g_ishl dX2_closeWithout_50 ?_
      refine g_iconst (v := -1) rfl dX2_closeWithout_51 ?_
      refine g_ixor dX2_closeWithout_52 ?_
      refine g_iand dX2_closeWithout_53 ?_
      obtain ⟨M19, eM19, h⟩ := g_bnd h
      refine g_iast' eM19 ht2 dX2_closeWithout_54 ?_
      refine g_sub [0, 2] rfl ?_
      exact tX2_closeWithout_b55 ht0 ht2 h O
  exact gLoop_Q ew4 (fun z9 => gG X V mX2_closeWithout gShC z9.2 0 0 2 [(0, .ref (gAd V t0)), (1, .int x1), (2, .ref (gAd V t2)), (3, .int z9.1)] []) (fun s9 o9 hb9 hc9 hx9 => tX2_closeWithout_l2 ht0 ht2 hb9 hc9 (fun e9 he9 => by cases hx9 _ he9; exact KX))
theorem kX2_closeWithout {l : Launch} {V : gEnv} {M0 : gMem} {t0 : Nat} {x1 : Int32} {t2 : Nat} (ht0 : gNet gShC t0) (ht2 : gShC[t2]? = some (.inl (0, 24))) {o : gMem} (h : fX2_closeWithout t0 x1 t2 M0 = some o) : gM l yX2_closeWithout cX2_closeWithout 6 none rX2_closeWithout V gShC [.ref (gAd V t0), .int x1, .ref (gAd V t2)] M0 none o :=
  gM.of (by decide) (Nat.le_of_ble_eq_true rfl) rfl (fun X _ O => tX2_closeWithout ht0 ht2 h O)
theorem dX2_dropArrow_0 : decode cX2_dropArrow 0 = .ok (.aload_n 0, 1) := by decide +kernel
theorem dX2_dropArrow_1 : decode cX2_dropArrow 1 = .ok (.getfield 25, 3) := by decide +kernel
theorem dX2_dropArrow_4 : decode cX2_dropArrow 4 = .ok (.aload_n 0, 1) := by decide +kernel
theorem dX2_dropArrow_5 : decode cX2_dropArrow 5 = .ok (.getfield 19, 3) := by decide +kernel
theorem dX2_dropArrow_8 : decode cX2_dropArrow 8 = .ok (.iload_n 1, 1) := by decide +kernel
theorem dX2_dropArrow_9 : decode cX2_dropArrow 9 = .ok (.iaload, 1) := by decide +kernel
theorem dX2_dropArrow_10 : decode cX2_dropArrow 10 = .ok (.dup2, 1) := by decide +kernel
theorem dX2_dropArrow_11 : decode cX2_dropArrow 11 = .ok (.iaload, 1) := by decide +kernel
theorem dX2_dropArrow_12 : decode cX2_dropArrow 12 = .ok (.iconst 1, 1) := by decide +kernel
theorem dX2_dropArrow_13 : decode cX2_dropArrow 13 = .ok (.aload_n 0, 1) := by decide +kernel
theorem dX2_dropArrow_14 : decode cX2_dropArrow 14 = .ok (.getfield 22, 3) := by decide +kernel
theorem dX2_dropArrow_17 : decode cX2_dropArrow 17 = .ok (.iload_n 1, 1) := by decide +kernel
theorem dX2_dropArrow_18 : decode cX2_dropArrow 18 = .ok (.iaload, 1) := by decide +kernel
theorem dX2_dropArrow_19 : decode cX2_dropArrow 19 = .ok (.ishl, 1) := by decide +kernel
theorem dX2_dropArrow_20 : decode cX2_dropArrow 20 = .ok (.iconst (-1), 1) := by decide +kernel
theorem dX2_dropArrow_21 : decode cX2_dropArrow 21 = .ok (.ixor, 1) := by decide +kernel
theorem dX2_dropArrow_22 : decode cX2_dropArrow 22 = .ok (.iand, 1) := by decide +kernel
theorem dX2_dropArrow_23 : decode cX2_dropArrow 23 = .ok (.iastore, 1) := by decide +kernel
theorem dX2_dropArrow_24 : decode cX2_dropArrow 24 = .ok (.iload_n 1, 1) := by decide +kernel
theorem dX2_dropArrow_25 : decode cX2_dropArrow 25 = .ok (.iconst 1, 1) := by decide +kernel
theorem dX2_dropArrow_26 : decode cX2_dropArrow 26 = .ok (.iadd, 1) := by decide +kernel
theorem dX2_dropArrow_27 : decode cX2_dropArrow 27 = .ok (.istore_n 2, 1) := by decide +kernel
theorem dX2_dropArrow_28 : decode cX2_dropArrow 28 = .ok (.iload_n 2, 1) := by decide +kernel
theorem dX2_dropArrow_29 : decode cX2_dropArrow 29 = .ok (.aload_n 0, 1) := by decide +kernel
theorem dX2_dropArrow_30 : decode cX2_dropArrow 30 = .ok (.getfield 44, 3) := by decide +kernel
theorem dX2_dropArrow_33 : decode cX2_dropArrow 33 = .ok (.if_icmp .ge 37, 3) := by decide +kernel
theorem dX2_dropArrow_36 : decode cX2_dropArrow 36 = .ok (.aload_n 0, 1) := by decide +kernel
theorem dX2_dropArrow_37 : decode cX2_dropArrow 37 = .ok (.getfield 19, 3) := by decide +kernel
theorem dX2_dropArrow_40 : decode cX2_dropArrow 40 = .ok (.iload_n 2, 1) := by decide +kernel
theorem dX2_dropArrow_41 : decode cX2_dropArrow 41 = .ok (.iconst 1, 1) := by decide +kernel
theorem dX2_dropArrow_42 : decode cX2_dropArrow 42 = .ok (.isub, 1) := by decide +kernel
theorem dX2_dropArrow_43 : decode cX2_dropArrow 43 = .ok (.aload_n 0, 1) := by decide +kernel
theorem dX2_dropArrow_44 : decode cX2_dropArrow 44 = .ok (.getfield 19, 3) := by decide +kernel
theorem dX2_dropArrow_47 : decode cX2_dropArrow 47 = .ok (.iload_n 2, 1) := by decide +kernel
theorem dX2_dropArrow_48 : decode cX2_dropArrow 48 = .ok (.iaload, 1) := by decide +kernel
theorem dX2_dropArrow_49 : decode cX2_dropArrow 49 = .ok (.iastore, 1) := by decide +kernel
theorem dX2_dropArrow_50 : decode cX2_dropArrow 50 = .ok (.aload_n 0, 1) := by decide +kernel
theorem dX2_dropArrow_51 : decode cX2_dropArrow 51 = .ok (.getfield 22, 3) := by decide +kernel
theorem dX2_dropArrow_54 : decode cX2_dropArrow 54 = .ok (.iload_n 2, 1) := by decide +kernel
theorem dX2_dropArrow_55 : decode cX2_dropArrow 55 = .ok (.iconst 1, 1) := by decide +kernel
theorem dX2_dropArrow_56 : decode cX2_dropArrow 56 = .ok (.isub, 1) := by decide +kernel
theorem dX2_dropArrow_57 : decode cX2_dropArrow 57 = .ok (.aload_n 0, 1) := by decide +kernel
theorem dX2_dropArrow_58 : decode cX2_dropArrow 58 = .ok (.getfield 22, 3) := by decide +kernel
theorem dX2_dropArrow_61 : decode cX2_dropArrow 61 = .ok (.iload_n 2, 1) := by decide +kernel
theorem dX2_dropArrow_62 : decode cX2_dropArrow 62 = .ok (.iaload, 1) := by decide +kernel
theorem dX2_dropArrow_63 : decode cX2_dropArrow 63 = .ok (.iastore, 1) := by decide +kernel
theorem dX2_dropArrow_64 : decode cX2_dropArrow 64 = .ok (.iinc 2 1, 3) := by decide +kernel
theorem dX2_dropArrow_67 : decode cX2_dropArrow 67 = .ok (.goto (-39), 3) := by decide +kernel
theorem dX2_dropArrow_70 : decode cX2_dropArrow 70 = .ok (.aload_n 0, 1) := by decide +kernel
theorem dX2_dropArrow_71 : decode cX2_dropArrow 71 = .ok (.dup, 1) := by decide +kernel
theorem dX2_dropArrow_72 : decode cX2_dropArrow 72 = .ok (.getfield 44, 3) := by decide +kernel
theorem dX2_dropArrow_75 : decode cX2_dropArrow 75 = .ok (.iconst 1, 1) := by decide +kernel
theorem dX2_dropArrow_76 : decode cX2_dropArrow 76 = .ok (.isub, 1) := by decide +kernel
theorem dX2_dropArrow_77 : decode cX2_dropArrow 77 = .ok (.putfield 44, 3) := by decide +kernel
theorem dX2_dropArrow_80 : decode cX2_dropArrow 80 = .ok (.aload_n 0, 1) := by decide +kernel
theorem dX2_dropArrow_81 : decode cX2_dropArrow 81 = .ok (.iconst (-1), 1) := by decide +kernel
theorem dX2_dropArrow_82 : decode cX2_dropArrow 82 = .ok (.aload_n 0, 1) := by decide +kernel
theorem dX2_dropArrow_83 : decode cX2_dropArrow 83 = .ok (.getfield 28, 3) := by decide +kernel
theorem dX2_dropArrow_86 : decode cX2_dropArrow 86 = .ok (.invokevirtual 75, 3) := by decide +kernel
theorem dX2_dropArrow_89 : decode cX2_dropArrow 89 = .ok (.return_, 1) := by decide +kernel
abbrev rX2_dropArrow : Room := { frames := 2, cells := 0, slots := 0, locals := 46 }
abbrev mX2_dropArrow : gY := (cX2_dropArrow, RX2, 3, rX2_dropArrow)
def fX2_dropArrow_l28 (t0 : Nat) (x2 : Int32) (M0 : gMem) : Option ((Int32 × gMem) ⊕ gMem) :=
  if (M0.1 t0 10) ≤ x2 then (some (.inr M0)) else (rI M0 (t0 + 3) 60 x2).bind fun v7 => (wI M0 (t0 + 3) 60 (x2 - (1 : Int32)) v7).bind fun M8 => (rI M8 (t0 + 4) 60 x2).bind fun v9 => (wI M8 (t0 + 4) 60 (x2 - (1 : Int32)) v9).bind fun M10 => some (.inl (x2 + (1 : Int32), M10))
set_option maxRecDepth 20000 in
theorem tX2_dropArrow_l28 {X : gX} {V : gEnv} {t0 : Nat} {x2 : Int32} {M0 : gMem} (ht0 : gNet gShC t0) {o : ((Int32 × gMem) ⊕ gMem)} (h : fX2_dropArrow_l28 t0 x2 M0 = some o) (Kc : ∀ s9, o = .inl s9 → gG X V mX2_dropArrow gShC s9.2 0 0 28 [(0, .ref (gAd V t0)), (2, .int s9.1)] []) (Kx : ∀ e9, o = .inr e9 → gG X V mX2_dropArrow gShC e9 0 0 70 [(0, .ref (gAd V t0))] []) : gG X V mX2_dropArrow gShC M0 0 0 28 [(0, .ref (gAd V t0)), (2, .int x2)] [] := by
  unfold fX2_dropArrow_l28 at h
  refine g_iload_n 1 rfl rfl dX2_dropArrow_28 ?_
  refine g_aload_n 0 rfl rfl dX2_dropArrow_29 ?_
  refine g_getI FX2_44 ht0.1 rfl dX2_dropArrow_30 ?_
  rcases g_ite h with ⟨c6, h⟩ | ⟨c6, h⟩
  · refine g_icmp_ge_t c6 (tgt := 70) rfl dX2_dropArrow_33 ?_
    cases h
    refine g_sub [0] rfl ?_
    exact Kx M0 rfl
  · refine g_icmp_ge_f c6 (tgt := 70) rfl dX2_dropArrow_33 ?_
    refine g_aload_n 0 rfl rfl dX2_dropArrow_36 ?_
    refine g_getR FX2_19 ht0.1 rfl dX2_dropArrow_37 ?_
    refine g_iload_n 1 rfl rfl dX2_dropArrow_40 ?_
    refine g_iconst (v := 1) rfl dX2_dropArrow_41 ?_
    refine g_isub dX2_dropArrow_42 ?_
    refine g_aload_n 0 rfl rfl dX2_dropArrow_43 ?_
    refine g_getR FX2_19 ht0.1 rfl dX2_dropArrow_44 ?_
    refine g_iload_n 1 rfl rfl dX2_dropArrow_47 ?_
    obtain ⟨v7, ev7, h⟩ := g_bnd h
    refine g_iald' ev7 ht0.2.2.2.1 dX2_dropArrow_48 ?_
    obtain ⟨M8, eM8, h⟩ := g_bnd h
    refine g_iast' eM8 ht0.2.2.2.1 dX2_dropArrow_49 ?_
    refine g_aload_n 0 rfl rfl dX2_dropArrow_50 ?_
    refine g_getR FX2_22 ht0.1 rfl dX2_dropArrow_51 ?_
    refine g_iload_n 1 rfl rfl dX2_dropArrow_54 ?_
    refine g_iconst (v := 1) rfl dX2_dropArrow_55 ?_
    refine g_isub dX2_dropArrow_56 ?_
    refine g_aload_n 0 rfl rfl dX2_dropArrow_57 ?_
    refine g_getR FX2_22 ht0.1 rfl dX2_dropArrow_58 ?_
    refine g_iload_n 1 rfl rfl dX2_dropArrow_61 ?_
    obtain ⟨v9, ev9, h⟩ := g_bnd h
    refine g_iald' ev9 ht0.2.2.2.2.1 dX2_dropArrow_62 ?_
    obtain ⟨M10, eM10, h⟩ := g_bnd h
    refine g_iast' eM10 ht0.2.2.2.2.1 dX2_dropArrow_63 ?_
    refine g_iinc (j := 1) (v := x2 + (1 : Int32)) (ls' := [(2, .int (x2 + (1 : Int32))), (0, .ref (gAd V t0))]) rfl rfl (Nat.le_of_ble_eq_true rfl) rfl dX2_dropArrow_64 ?_
    refine g_goto (tgt := 28) rfl dX2_dropArrow_67 ?_
    cases h
    refine g_sub [1, 0] rfl ?_
    exact Kc (x2 + (1 : Int32), M10) rfl
def fX2_dropArrow (t0 : Nat) (x1 : Int32) (M0 : gMem) : Option gMem :=
  (rI M0 (t0 + 3) 60 x1).bind fun v1 => (rI M0 (t0 + 5) 24 v1).bind fun v2 => (rI M0 (t0 + 4) 60 x1).bind fun v3 => (wI M0 (t0 + 5) 24 v1 (v2 &&& (((1 : Int32) <<< (v3 &&& 31)) ^^^ (-1 : Int32)))).bind fun M4 => (nm (x1 + (1 : Int32))).bind fun v5 => (gLoop (fun z9 => fX2_dropArrow_l28 t0 z9.1 z9.2) gFu (v5, M4)).bind fun w11 => (wF w11 t0 10 ((w11.1 t0 10) - (1 : Int32))).bind fun M12 => (fX2_closeWithout t0 (-1 : Int32) (t0 + 6) M12).bind fun v13 => some v13
set_option maxRecDepth 20000 in
theorem tX2_dropArrow {X : gX} {V : gEnv} {t0 : Nat} {x1 : Int32} {M0 : gMem} (ht0 : gNet gShC t0) {o : gMem} (h : fX2_dropArrow t0 x1 M0 = some o) (O : gO X V mX2_dropArrow gShC none none o) : gG X V mX2_dropArrow gShC M0 0 0 0 [(0, .ref (gAd V t0)), (1, .int x1)] [] := by
  unfold fX2_dropArrow at h
  refine g_aload_n 0 rfl rfl dX2_dropArrow_0 ?_
  refine g_getR FX2_25 ht0.1 rfl dX2_dropArrow_1 ?_
  refine g_aload_n 0 rfl rfl dX2_dropArrow_4 ?_
  refine g_getR FX2_19 ht0.1 rfl dX2_dropArrow_5 ?_
  refine g_iload_n 1 rfl rfl dX2_dropArrow_8 ?_
  obtain ⟨v1, ev1, h⟩ := g_bnd h
  refine g_iald' ev1 ht0.2.2.2.1 dX2_dropArrow_9 ?_
  refine g_dup2 rfl rfl dX2_dropArrow_10 ?_
  obtain ⟨v2, ev2, h⟩ := g_bnd h
  refine g_iald' ev2 ht0.2.2.2.2.2.1 dX2_dropArrow_11 ?_
  refine g_iconst (v := 1) rfl dX2_dropArrow_12 ?_
  refine g_aload_n 0 rfl rfl dX2_dropArrow_13 ?_
  refine g_getR FX2_22 ht0.1 rfl dX2_dropArrow_14 ?_
  refine g_iload_n 1 rfl rfl dX2_dropArrow_17 ?_
  obtain ⟨v3, ev3, h⟩ := g_bnd h
  refine g_iald' ev3 ht0.2.2.2.2.1 dX2_dropArrow_18 ?_
  refine g_ishl dX2_dropArrow_19 ?_
  refine g_iconst (v := -1) rfl dX2_dropArrow_20 ?_
  refine g_ixor dX2_dropArrow_21 ?_
  refine g_iand dX2_dropArrow_22 ?_
  obtain ⟨M4, eM4, h⟩ := g_bnd h
  refine g_iast' eM4 ht0.2.2.2.2.2.1 dX2_dropArrow_23 ?_
  refine g_iload_n 1 rfl rfl dX2_dropArrow_24 ?_
  refine g_iconst (v := 1) rfl dX2_dropArrow_25 ?_
  refine g_iadd dX2_dropArrow_26 ?_
  obtain ⟨v5, ev5, h⟩ := g_bnd h
  refine g_nmI ev5 ?_
  refine g_istore_n (ls' := [(2, .int v5), (0, .ref (gAd V t0)), (1, .int x1)]) rfl (Nat.le_of_ble_eq_true rfl) rfl dX2_dropArrow_27 ?_
  obtain ⟨w11, ew11, h⟩ := g_bnd h
  refine g_sub [1, 0] rfl ?_
  have KX : gG X V mX2_dropArrow gShC w11 0 0 70 [(0, .ref (gAd V t0))] [] := by
    refine g_aload_n 0 rfl rfl dX2_dropArrow_70 ?_
    refine g_dup rfl dX2_dropArrow_71 ?_
    refine g_getI FX2_44 ht0.1 rfl dX2_dropArrow_72 ?_
    refine g_iconst (v := 1) rfl dX2_dropArrow_75 ?_
    refine g_isub dX2_dropArrow_76 ?_
    obtain ⟨M12, eM12, h⟩ := g_bnd h
    refine g_putI' eM12 FX2_44 jX2 ht0.1 rfl rfl rfl dX2_dropArrow_77 ?_
    refine g_aload_n 0 rfl rfl dX2_dropArrow_80 ?_
    refine g_iconst (v := -1) rfl dX2_dropArrow_81 ?_
    refine g_aload_n 0 rfl rfl dX2_dropArrow_82 ?_
    refine g_getR FX2_28 ht0.1 rfl dX2_dropArrow_83 ?_
    obtain ⟨v13, ev13, h⟩ := g_bnd h
    refine g_callV LX2_75 ht0.1 rfl (kX2_closeWithout ht0 ht0.2.2.2.2.2.2.1 ev13) rfl rfl (Nat.le_of_ble_eq_true rfl) ⟨Nat.le_of_ble_eq_true rfl, Nat.le_of_ble_eq_true rfl⟩ ⟨Nat.le_of_ble_eq_true rfl, Nat.le_of_ble_eq_true rfl⟩ dX2_dropArrow_86 rfl ?_
    cases h
    exact g_vret O ⟨Nat.le_of_ble_eq_true rfl, Nat.le_of_ble_eq_true rfl⟩ dX2_dropArrow_89
  exact gLoop_Q ew11 (fun z9 => gG X V mX2_dropArrow gShC z9.2 0 0 28 [(0, .ref (gAd V t0)), (2, .int z9.1)] []) (fun s9 o9 hb9 hc9 hx9 => tX2_dropArrow_l28 ht0 hb9 hc9 (fun e9 he9 => by cases hx9 _ he9; exact KX))
theorem kX2_dropArrow {l : Launch} {V : gEnv} {M0 : gMem} {t0 : Nat} {x1 : Int32} (ht0 : gNet gShC t0) {o : gMem} (h : fX2_dropArrow t0 x1 M0 = some o) : gM l yX2_dropArrow cX2_dropArrow 3 none rX2_dropArrow V gShC [.ref (gAd V t0), .int x1] M0 none o :=
  gM.of (by decide) (Nat.le_of_ble_eq_true rfl) rfl (fun X _ O => tX2_dropArrow ht0 h O)
theorem dX2_isNeedless_0 : decode cX2_isNeedless 0 = .ok (.aload_n 0, 1) := by decide +kernel
theorem dX2_isNeedless_1 : decode cX2_isNeedless 1 = .ok (.getfield 19, 3) := by decide +kernel
theorem dX2_isNeedless_4 : decode cX2_isNeedless 4 = .ok (.iload_n 1, 1) := by decide +kernel
theorem dX2_isNeedless_5 : decode cX2_isNeedless 5 = .ok (.iaload, 1) := by decide +kernel
theorem dX2_isNeedless_6 : decode cX2_isNeedless 6 = .ok (.istore_n 2, 1) := by decide +kernel
theorem dX2_isNeedless_7 : decode cX2_isNeedless 7 = .ok (.aload_n 0, 1) := by decide +kernel
theorem dX2_isNeedless_8 : decode cX2_isNeedless 8 = .ok (.getfield 22, 3) := by decide +kernel
theorem dX2_isNeedless_11 : decode cX2_isNeedless 11 = .ok (.iload_n 1, 1) := by decide +kernel
theorem dX2_isNeedless_12 : decode cX2_isNeedless 12 = .ok (.iaload, 1) := by decide +kernel
theorem dX2_isNeedless_13 : decode cX2_isNeedless 13 = .ok (.istore_n 3, 1) := by decide +kernel
theorem dX2_isNeedless_14 : decode cX2_isNeedless 14 = .ok (.iconst 1, 1) := by decide +kernel
theorem dX2_isNeedless_15 : decode cX2_isNeedless 15 = .ok (.iload_n 2, 1) := by decide +kernel
theorem dX2_isNeedless_16 : decode cX2_isNeedless 16 = .ok (.ishl, 1) := by decide +kernel
theorem dX2_isNeedless_17 : decode cX2_isNeedless 17 = .ok (.istore 4, 2) := by decide +kernel
theorem dX2_isNeedless_19 : decode cX2_isNeedless 19 = .ok (.aload_n 0, 1) := by decide +kernel
theorem dX2_isNeedless_20 : decode cX2_isNeedless 20 = .ok (.getfield 25, 3) := by decide +kernel
theorem dX2_isNeedless_23 : decode cX2_isNeedless 23 = .ok (.iload_n 2, 1) := by decide +kernel
theorem dX2_isNeedless_24 : decode cX2_isNeedless 24 = .ok (.iaload, 1) := by decide +kernel
theorem dX2_isNeedless_25 : decode cX2_isNeedless 25 = .ok (.iconst 1, 1) := by decide +kernel
theorem dX2_isNeedless_26 : decode cX2_isNeedless 26 = .ok (.iload_n 3, 1) := by decide +kernel
theorem dX2_isNeedless_27 : decode cX2_isNeedless 27 = .ok (.ishl, 1) := by decide +kernel
theorem dX2_isNeedless_28 : decode cX2_isNeedless 28 = .ok (.iconst (-1), 1) := by decide +kernel
theorem dX2_isNeedless_29 : decode cX2_isNeedless 29 = .ok (.ixor, 1) := by decide +kernel
theorem dX2_isNeedless_30 : decode cX2_isNeedless 30 = .ok (.iand, 1) := by decide +kernel
theorem dX2_isNeedless_31 : decode cX2_isNeedless 31 = .ok (.istore 5, 2) := by decide +kernel
theorem dX2_isNeedless_33 : decode cX2_isNeedless 33 = .ok (.iconst 0, 1) := by decide +kernel
theorem dX2_isNeedless_34 : decode cX2_isNeedless 34 = .ok (.istore 6, 2) := by decide +kernel
theorem dX2_isNeedless_36 : decode cX2_isNeedless 36 = .ok (.iload 6, 2) := by decide +kernel
theorem dX2_isNeedless_38 : decode cX2_isNeedless 38 = .ok (.aload_n 0, 1) := by decide +kernel
theorem dX2_isNeedless_39 : decode cX2_isNeedless 39 = .ok (.getfield 40, 3) := by decide +kernel
theorem dX2_isNeedless_42 : decode cX2_isNeedless 42 = .ok (.if_icmp .ge 82, 3) := by decide +kernel
theorem dX2_isNeedless_45 : decode cX2_isNeedless 45 = .ok (.iload 5, 2) := by decide +kernel
theorem dX2_isNeedless_47 : decode cX2_isNeedless 47 = .ok (.ifCond .eq 77, 3) := by decide +kernel
theorem dX2_isNeedless_50 : decode cX2_isNeedless 50 = .ok (.iload 4, 2) := by decide +kernel
theorem dX2_isNeedless_52 : decode cX2_isNeedless 52 = .ok (.iload_n 3, 1) := by decide +kernel
theorem dX2_isNeedless_53 : decode cX2_isNeedless 53 = .ok (.invokestatic 71, 3) := by decide +kernel
theorem dX2_isNeedless_56 : decode cX2_isNeedless 56 = .ok (.ifCond .ne 68, 3) := by decide +kernel
theorem dX2_isNeedless_59 : decode cX2_isNeedless 59 = .ok (.iload 4, 2) := by decide +kernel
theorem dX2_isNeedless_61 : decode cX2_isNeedless 61 = .ok (.iload 5, 2) := by decide +kernel
theorem dX2_isNeedless_63 : decode cX2_isNeedless 63 = .ok (.ior, 1) := by decide +kernel
theorem dX2_isNeedless_64 : decode cX2_isNeedless 64 = .ok (.istore 4, 2) := by decide +kernel
theorem dX2_isNeedless_66 : decode cX2_isNeedless 66 = .ok (.iconst 0, 1) := by decide +kernel
theorem dX2_isNeedless_67 : decode cX2_isNeedless 67 = .ok (.istore 7, 2) := by decide +kernel
theorem dX2_isNeedless_69 : decode cX2_isNeedless 69 = .ok (.iconst 0, 1) := by decide +kernel
theorem dX2_isNeedless_70 : decode cX2_isNeedless 70 = .ok (.istore 8, 2) := by decide +kernel
theorem dX2_isNeedless_72 : decode cX2_isNeedless 72 = .ok (.iload 8, 2) := by decide +kernel
theorem dX2_isNeedless_74 : decode cX2_isNeedless 74 = .ok (.aload_n 0, 1) := by decide +kernel
theorem dX2_isNeedless_75 : decode cX2_isNeedless 75 = .ok (.getfield 40, 3) := by decide +kernel
theorem dX2_isNeedless_78 : decode cX2_isNeedless 78 = .ok (.if_icmp .ge 31, 3) := by decide +kernel
theorem dX2_isNeedless_81 : decode cX2_isNeedless 81 = .ok (.iload 5, 2) := by decide +kernel
theorem dX2_isNeedless_83 : decode cX2_isNeedless 83 = .ok (.iload 8, 2) := by decide +kernel
theorem dX2_isNeedless_85 : decode cX2_isNeedless 85 = .ok (.invokestatic 71, 3) := by decide +kernel
theorem dX2_isNeedless_88 : decode cX2_isNeedless 88 = .ok (.ifCond .eq 15, 3) := by decide +kernel
theorem dX2_isNeedless_91 : decode cX2_isNeedless 91 = .ok (.iload 7, 2) := by decide +kernel
theorem dX2_isNeedless_93 : decode cX2_isNeedless 93 = .ok (.aload_n 0, 1) := by decide +kernel
theorem dX2_isNeedless_94 : decode cX2_isNeedless 94 = .ok (.getfield 25, 3) := by decide +kernel
theorem dX2_isNeedless_97 : decode cX2_isNeedless 97 = .ok (.iload 8, 2) := by decide +kernel
theorem dX2_isNeedless_99 : decode cX2_isNeedless 99 = .ok (.iaload, 1) := by decide +kernel
theorem dX2_isNeedless_100 : decode cX2_isNeedless 100 = .ok (.ior, 1) := by decide +kernel
theorem dX2_isNeedless_101 : decode cX2_isNeedless 101 = .ok (.istore 7, 2) := by decide +kernel
theorem dX2_isNeedless_103 : decode cX2_isNeedless 103 = .ok (.iinc 8 1, 3) := by decide +kernel
theorem dX2_isNeedless_106 : decode cX2_isNeedless 106 = .ok (.goto (-34), 3) := by decide +kernel
theorem dX2_isNeedless_109 : decode cX2_isNeedless 109 = .ok (.iload 7, 2) := by decide +kernel
theorem dX2_isNeedless_111 : decode cX2_isNeedless 111 = .ok (.iload 4, 2) := by decide +kernel
theorem dX2_isNeedless_113 : decode cX2_isNeedless 113 = .ok (.iconst (-1), 1) := by decide +kernel
theorem dX2_isNeedless_114 : decode cX2_isNeedless 114 = .ok (.ixor, 1) := by decide +kernel
theorem dX2_isNeedless_115 : decode cX2_isNeedless 115 = .ok (.iand, 1) := by decide +kernel
theorem dX2_isNeedless_116 : decode cX2_isNeedless 116 = .ok (.istore 5, 2) := by decide +kernel
theorem dX2_isNeedless_118 : decode cX2_isNeedless 118 = .ok (.iinc 6 1, 3) := by decide +kernel
theorem dX2_isNeedless_121 : decode cX2_isNeedless 121 = .ok (.goto (-85), 3) := by decide +kernel
theorem dX2_isNeedless_124 : decode cX2_isNeedless 124 = .ok (.iload 4, 2) := by decide +kernel
theorem dX2_isNeedless_126 : decode cX2_isNeedless 126 = .ok (.iload_n 3, 1) := by decide +kernel
theorem dX2_isNeedless_127 : decode cX2_isNeedless 127 = .ok (.invokestatic 71, 3) := by decide +kernel
theorem dX2_isNeedless_130 : decode cX2_isNeedless 130 = .ok (.ireturn, 1) := by decide +kernel
abbrev rX2_isNeedless : Room := { frames := 1, cells := 0, slots := 0, locals := 21 }
abbrev mX2_isNeedless : gY := (cX2_isNeedless, RX2, 9, rX2_isNeedless)
def fX2_isNeedless_b103 (t0 : Nat) (x3 : Int32) (x4 : Int32) (x5 : Int32) (x6 : Int32) (x7 : Int32) (x8 : Int32) (M0 : gMem) : Option ((Int32 × Int32) ⊕ Int32) :=
  some (.inl (x7, x8 + (1 : Int32)))
set_option maxRecDepth 20000 in
theorem tX2_isNeedless_b103 {X : gX} {V : gEnv} {t0 : Nat} {x3 : Int32} {x4 : Int32} {x5 : Int32} {x6 : Int32} {x7 : Int32} {x8 : Int32} {M0 : gMem} (ht0 : gNet gShC t0) {o : ((Int32 × Int32) ⊕ Int32)} (h : fX2_isNeedless_b103 t0 x3 x4 x5 x6 x7 x8 M0 = some o) (Kc : ∀ s9, o = .inl s9 → gG X V mX2_isNeedless gShC M0 0 0 72 [(0, .ref (gAd V t0)), (3, .int x3), (4, .int x4), (5, .int x5), (6, .int x6), (7, .int s9.1), (8, .int s9.2)] []) (Kx : ∀ e9, o = .inr e9 → gG X V mX2_isNeedless gShC M0 0 0 109 [(0, .ref (gAd V t0)), (3, .int x3), (4, .int x4), (6, .int x6), (7, .int e9)] []) : gG X V mX2_isNeedless gShC M0 0 0 103 [(0, .ref (gAd V t0)), (3, .int x3), (4, .int x4), (5, .int x5), (6, .int x6), (7, .int x7), (8, .int x8)] [] := by
  unfold fX2_isNeedless_b103 at h
  refine g_iinc (j := 6) (v := x8 + (1 : Int32)) (ls' := [(8, .int (x8 + (1 : Int32))), (0, .ref (gAd V t0)), (3, .int x3), (4, .int x4), (5, .int x5), (6, .int x6), (7, .int x7)]) rfl rfl (Nat.le_of_ble_eq_true rfl) rfl dX2_isNeedless_103 ?_
  refine g_goto (tgt := 72) rfl dX2_isNeedless_106 ?_
  cases h
  refine g_sub [1, 2, 3, 4, 5, 6, 0] rfl ?_
  exact Kc (x7, x8 + (1 : Int32)) rfl
def fX2_isNeedless_l72 (t0 : Nat) (x3 : Int32) (x4 : Int32) (x5 : Int32) (x6 : Int32) (M0 : gMem) (x7 : Int32) (x8 : Int32) : Option ((Int32 × Int32) ⊕ Int32) :=
  if (M0.1 t0 9) ≤ x8 then (some (.inr x7)) else (fX10_has x5 x8).bind fun v12 => if v12 = 0 then (fX2_isNeedless_b103 t0 x3 x4 x5 x6 x7 x8 M0) else (rI M0 (t0 + 5) 24 x8).bind fun v14 => (nm (x7 ||| v14)).bind fun v15 => fX2_isNeedless_b103 t0 x3 x4 x5 x6 v15 x8 M0
set_option maxRecDepth 20000 in
theorem tX2_isNeedless_l72 {X : gX} {V : gEnv} {t0 : Nat} {x3 : Int32} {x4 : Int32} {x5 : Int32} {x6 : Int32} {M0 : gMem} {x7 : Int32} {x8 : Int32} (ht0 : gNet gShC t0) {o : ((Int32 × Int32) ⊕ Int32)} (h : fX2_isNeedless_l72 t0 x3 x4 x5 x6 M0 x7 x8 = some o) (Kc : ∀ s9, o = .inl s9 → gG X V mX2_isNeedless gShC M0 0 0 72 [(0, .ref (gAd V t0)), (3, .int x3), (4, .int x4), (5, .int x5), (6, .int x6), (7, .int s9.1), (8, .int s9.2)] []) (Kx : ∀ e9, o = .inr e9 → gG X V mX2_isNeedless gShC M0 0 0 109 [(0, .ref (gAd V t0)), (3, .int x3), (4, .int x4), (6, .int x6), (7, .int e9)] []) : gG X V mX2_isNeedless gShC M0 0 0 72 [(0, .ref (gAd V t0)), (3, .int x3), (4, .int x4), (5, .int x5), (6, .int x6), (7, .int x7), (8, .int x8)] [] := by
  unfold fX2_isNeedless_l72 at h
  refine g_iload 6 rfl dX2_isNeedless_72 ?_
  refine g_aload_n 0 rfl rfl dX2_isNeedless_74 ?_
  refine g_getI FX2_40 ht0.1 rfl dX2_isNeedless_75 ?_
  rcases g_ite h with ⟨c11, h⟩ | ⟨c11, h⟩
  · refine g_icmp_ge_t c11 (tgt := 109) rfl dX2_isNeedless_78 ?_
    cases h
    refine g_sub [0, 1, 2, 4, 5] rfl ?_
    exact Kx x7 rfl
  · refine g_icmp_ge_f c11 (tgt := 109) rfl dX2_isNeedless_78 ?_
    refine g_iload 3 rfl dX2_isNeedless_81 ?_
    refine g_iload 6 rfl dX2_isNeedless_83 ?_
    obtain ⟨v12, ev12, h⟩ := g_bnd h
    refine g_callN LX2_71 (kX10_has ev12) rfl rfl (Nat.le_of_ble_eq_true rfl) ⟨Nat.le_of_ble_eq_true rfl, Nat.le_of_ble_eq_true rfl⟩ ⟨Nat.le_of_ble_eq_true rfl, Nat.le_of_ble_eq_true rfl⟩ dX2_isNeedless_85 rfl ?_
    rcases g_ite h with ⟨c13, h⟩ | ⟨c13, h⟩
    · refine g_if_eq_t c13 (tgt := 103) rfl dX2_isNeedless_88 ?_
      exact tX2_isNeedless_b103 ht0 h Kc Kx
    · refine g_if_eq_f c13 (tgt := 103) rfl dX2_isNeedless_88 ?_
      refine g_iload 5 rfl dX2_isNeedless_91 ?_
      refine g_aload_n 0 rfl rfl dX2_isNeedless_93 ?_
      refine g_getR FX2_25 ht0.1 rfl dX2_isNeedless_94 ?_
      refine g_iload 6 rfl dX2_isNeedless_97 ?_
      obtain ⟨v14, ev14, h⟩ := g_bnd h
      refine g_iald' ev14 ht0.2.2.2.2.2.1 dX2_isNeedless_99 ?_
      refine g_ior dX2_isNeedless_100 ?_
      obtain ⟨v15, ev15, h⟩ := g_bnd h
      refine g_nmI ev15 ?_
      refine g_istore (ls' := [(7, .int v15), (0, .ref (gAd V t0)), (3, .int x3), (4, .int x4), (5, .int x5), (6, .int x6), (8, .int x8)]) (Nat.le_of_ble_eq_true rfl) rfl dX2_isNeedless_101 ?_
      refine g_sub [1, 2, 3, 4, 5, 0, 6] rfl ?_
      exact tX2_isNeedless_b103 ht0 h Kc Kx
def fX2_isNeedless_l36 (t0 : Nat) (x3 : Int32) (M0 : gMem) (x4 : Int32) (x5 : Int32) (x6 : Int32) : Option ((Int32 × Int32 × Int32) ⊕ Int32) :=
  if (M0.1 t0 9) ≤ x6 then (some (.inr x4)) else if x5 = 0 then (some (.inr x4)) else (fX10_has x4 x3).bind fun v8 => if v8 = 0 then ((nm (x4 ||| x5)).bind fun v10 => (gLoop (fun z9 => fX2_isNeedless_l72 t0 x3 v10 x5 x6 M0 z9.1 z9.2) gFu ((0 : Int32), (0 : Int32))).bind fun w16 => (nm (w16 &&& (v10 ^^^ (-1 : Int32)))).bind fun v17 => some (.inl (v10, v17, x6 + (1 : Int32)))) else some (.inr x4)
set_option maxRecDepth 20000 in
theorem tX2_isNeedless_l36 {X : gX} {V : gEnv} {t0 : Nat} {x3 : Int32} {M0 : gMem} {x4 : Int32} {x5 : Int32} {x6 : Int32} (ht0 : gNet gShC t0) {o : ((Int32 × Int32 × Int32) ⊕ Int32)} (h : fX2_isNeedless_l36 t0 x3 M0 x4 x5 x6 = some o) (Kc : ∀ s9, o = .inl s9 → gG X V mX2_isNeedless gShC M0 0 0 36 [(0, .ref (gAd V t0)), (3, .int x3), (4, .int s9.1), (5, .int s9.2.1), (6, .int s9.2.2)] []) (Kx : ∀ e9, o = .inr e9 → gG X V mX2_isNeedless gShC M0 0 0 124 [(3, .int x3), (4, .int e9)] []) : gG X V mX2_isNeedless gShC M0 0 0 36 [(0, .ref (gAd V t0)), (3, .int x3), (4, .int x4), (5, .int x5), (6, .int x6)] [] := by
  unfold fX2_isNeedless_l36 at h
  refine g_iload 4 rfl dX2_isNeedless_36 ?_
  refine g_aload_n 0 rfl rfl dX2_isNeedless_38 ?_
  refine g_getI FX2_40 ht0.1 rfl dX2_isNeedless_39 ?_
  rcases g_ite h with ⟨c6, h⟩ | ⟨c6, h⟩
  · refine g_icmp_ge_t c6 (tgt := 124) rfl dX2_isNeedless_42 ?_
    cases h
    refine g_sub [1, 2] rfl ?_
    exact Kx x4 rfl
  · refine g_icmp_ge_f c6 (tgt := 124) rfl dX2_isNeedless_42 ?_
    refine g_iload 3 rfl dX2_isNeedless_45 ?_
    rcases g_ite h with ⟨c7, h⟩ | ⟨c7, h⟩
    · refine g_if_eq_t c7 (tgt := 124) rfl dX2_isNeedless_47 ?_
      cases h
      refine g_sub [1, 2] rfl ?_
      exact Kx x4 rfl
    · refine g_if_eq_f c7 (tgt := 124) rfl dX2_isNeedless_47 ?_
      refine g_iload 2 rfl dX2_isNeedless_50 ?_
      refine g_iload_n 1 rfl rfl dX2_isNeedless_52 ?_
      obtain ⟨v8, ev8, h⟩ := g_bnd h
      refine g_callN LX2_71 (kX10_has ev8) rfl rfl (Nat.le_of_ble_eq_true rfl) ⟨Nat.le_of_ble_eq_true rfl, Nat.le_of_ble_eq_true rfl⟩ ⟨Nat.le_of_ble_eq_true rfl, Nat.le_of_ble_eq_true rfl⟩ dX2_isNeedless_53 rfl ?_
      rcases g_ite h with ⟨c9, h⟩ | ⟨c9, h⟩
      · refine g_if_ne_f c9 (tgt := 124) rfl dX2_isNeedless_56 ?_
        refine g_iload 2 rfl dX2_isNeedless_59 ?_
        refine g_iload 3 rfl dX2_isNeedless_61 ?_
        refine g_ior dX2_isNeedless_63 ?_
        obtain ⟨v10, ev10, h⟩ := g_bnd h
        refine g_nmI ev10 ?_
        refine g_istore (ls' := [(4, .int v10), (0, .ref (gAd V t0)), (3, .int x3), (5, .int x5), (6, .int x6)]) (Nat.le_of_ble_eq_true rfl) rfl dX2_isNeedless_64 ?_
        refine g_iconst (v := 0) rfl dX2_isNeedless_66 ?_
        refine g_istore (ls' := [(7, .int (0 : Int32)), (4, .int v10), (0, .ref (gAd V t0)), (3, .int x3), (5, .int x5), (6, .int x6)]) (Nat.le_of_ble_eq_true rfl) rfl dX2_isNeedless_67 ?_
        refine g_iconst (v := 0) rfl dX2_isNeedless_69 ?_
        refine g_istore (ls' := [(8, .int (0 : Int32)), (7, .int (0 : Int32)), (4, .int v10), (0, .ref (gAd V t0)), (3, .int x3), (5, .int x5), (6, .int x6)]) (Nat.le_of_ble_eq_true rfl) rfl dX2_isNeedless_70 ?_
        obtain ⟨w16, ew16, h⟩ := g_bnd h
        refine g_sub [3, 4, 2, 5, 6, 1, 0] rfl ?_
        have KX : gG X V mX2_isNeedless gShC M0 0 0 109 [(0, .ref (gAd V t0)), (3, .int x3), (4, .int v10), (6, .int x6), (7, .int w16)] [] := by
          refine g_iload 4 rfl dX2_isNeedless_109 ?_
          refine g_iload 2 rfl dX2_isNeedless_111 ?_
          refine g_iconst (v := -1) rfl dX2_isNeedless_113 ?_
          refine g_ixor dX2_isNeedless_114 ?_
          refine g_iand dX2_isNeedless_115 ?_
          obtain ⟨v17, ev17, h⟩ := g_bnd h
          refine g_nmI ev17 ?_
          refine g_istore (ls' := [(5, .int v17), (0, .ref (gAd V t0)), (3, .int x3), (4, .int v10), (6, .int x6), (7, .int w16)]) (Nat.le_of_ble_eq_true rfl) rfl dX2_isNeedless_116 ?_
          refine g_iinc (j := 4) (v := x6 + (1 : Int32)) (ls' := [(6, .int (x6 + (1 : Int32))), (5, .int v17), (0, .ref (gAd V t0)), (3, .int x3), (4, .int v10), (7, .int w16)]) rfl rfl (Nat.le_of_ble_eq_true rfl) rfl dX2_isNeedless_118 ?_
          refine g_goto (tgt := 36) rfl dX2_isNeedless_121 ?_
          cases h
          refine g_sub [2, 3, 4, 1, 0] rfl ?_
          exact Kc (v10, v17, x6 + (1 : Int32)) rfl
        exact gLoop_Q ew16 (fun z9 => gG X V mX2_isNeedless gShC M0 0 0 72 [(0, .ref (gAd V t0)), (3, .int x3), (4, .int v10), (5, .int x5), (6, .int x6), (7, .int z9.1), (8, .int z9.2)] []) (fun s9 o9 hb9 hc9 hx9 => tX2_isNeedless_l72 ht0 hb9 hc9 (fun e9 he9 => by cases hx9 _ he9; exact KX))
      · refine g_if_ne_t c9 (tgt := 124) rfl dX2_isNeedless_56 ?_
        cases h
        refine g_sub [1, 2] rfl ?_
        exact Kx x4 rfl
def fX2_isNeedless_b124 (t0 : Nat) (x3 : Int32) (x4 : Int32) (M0 : gMem) : Option Int32 :=
  (fX10_has x4 x3).bind fun v19 => (zv v19).bind fun v20 => some v20
set_option maxRecDepth 20000 in
theorem tX2_isNeedless_b124 {X : gX} {V : gEnv} {t0 : Nat} {x3 : Int32} {x4 : Int32} {M0 : gMem} (ht0 : gNet gShC t0) {o : Int32} (h : fX2_isNeedless_b124 t0 x3 x4 M0 = some o) (O : gO X V mX2_isNeedless gShC (some .boolean) (some (.int o)) M0) : gG X V mX2_isNeedless gShC M0 0 0 124 [(3, .int x3), (4, .int x4)] [] := by
  unfold fX2_isNeedless_b124 at h
  refine g_iload 1 rfl dX2_isNeedless_124 ?_
  refine g_iload_n 0 rfl rfl dX2_isNeedless_126 ?_
  obtain ⟨v19, ev19, h⟩ := g_bnd h
  refine g_callN LX2_71 (kX10_has ev19) rfl rfl (Nat.le_of_ble_eq_true rfl) ⟨Nat.le_of_ble_eq_true rfl, Nat.le_of_ble_eq_true rfl⟩ ⟨Nat.le_of_ble_eq_true rfl, Nat.le_of_ble_eq_true rfl⟩ dX2_isNeedless_127 rfl ?_
  obtain ⟨v20, ev20, h⟩ := g_bnd h
  refine g_zv ev20 ?_
  cases h
  exact g_iret O ⟨Nat.le_of_ble_eq_true rfl, Nat.le_of_ble_eq_true rfl⟩ (g_nz (zv_ok ev20)) dX2_isNeedless_130
def fX2_isNeedless (t0 : Nat) (x1 : Int32) (M0 : gMem) : Option Int32 :=
  (rI M0 (t0 + 3) 60 x1).bind fun v1 => (rI M0 (t0 + 4) 60 x1).bind fun v2 => (nm ((1 : Int32) <<< (v1 &&& 31))).bind fun v3 => (rI M0 (t0 + 5) 24 v1).bind fun v4 => (nm (v4 &&& (((1 : Int32) <<< (v2 &&& 31)) ^^^ (-1 : Int32)))).bind fun v5 => (gLoop (fun z9 => fX2_isNeedless_l36 t0 v2 M0 z9.1 z9.2.1 z9.2.2) gFu (v3, v5, (0 : Int32))).bind fun w18 => fX2_isNeedless_b124 t0 v2 w18 M0
set_option maxRecDepth 20000 in
theorem tX2_isNeedless {X : gX} {V : gEnv} {t0 : Nat} {x1 : Int32} {M0 : gMem} (ht0 : gNet gShC t0) {o : Int32} (h : fX2_isNeedless t0 x1 M0 = some o) (O : gO X V mX2_isNeedless gShC (some .boolean) (some (.int o)) M0) : gG X V mX2_isNeedless gShC M0 0 0 0 [(0, .ref (gAd V t0)), (1, .int x1)] [] := by
  unfold fX2_isNeedless at h
  refine g_aload_n 0 rfl rfl dX2_isNeedless_0 ?_
  refine g_getR FX2_19 ht0.1 rfl dX2_isNeedless_1 ?_
  refine g_iload_n 1 rfl rfl dX2_isNeedless_4 ?_
  obtain ⟨v1, ev1, h⟩ := g_bnd h
  refine g_iald' ev1 ht0.2.2.2.1 dX2_isNeedless_5 ?_
  refine g_istore_n (ls' := [(2, .int v1), (0, .ref (gAd V t0)), (1, .int x1)]) rfl (Nat.le_of_ble_eq_true rfl) rfl dX2_isNeedless_6 ?_
  refine g_aload_n 1 rfl rfl dX2_isNeedless_7 ?_
  refine g_getR FX2_22 ht0.1 rfl dX2_isNeedless_8 ?_
  refine g_iload_n 2 rfl rfl dX2_isNeedless_11 ?_
  obtain ⟨v2, ev2, h⟩ := g_bnd h
  refine g_iald' ev2 ht0.2.2.2.2.1 dX2_isNeedless_12 ?_
  refine g_istore_n (ls' := [(3, .int v2), (2, .int v1), (0, .ref (gAd V t0)), (1, .int x1)]) rfl (Nat.le_of_ble_eq_true rfl) rfl dX2_isNeedless_13 ?_
  refine g_iconst (v := 1) rfl dX2_isNeedless_14 ?_
  refine g_iload_n 1 rfl rfl dX2_isNeedless_15 ?_
  refine g_ishl dX2_isNeedless_16 ?_
  obtain ⟨v3, ev3, h⟩ := g_bnd h
  refine g_nmI ev3 ?_
  refine g_istore (ls' := [(4, .int v3), (3, .int v2), (2, .int v1), (0, .ref (gAd V t0)), (1, .int x1)]) (Nat.le_of_ble_eq_true rfl) rfl dX2_isNeedless_17 ?_
  refine g_aload_n 3 rfl rfl dX2_isNeedless_19 ?_
  refine g_getR FX2_25 ht0.1 rfl dX2_isNeedless_20 ?_
  refine g_iload_n 2 rfl rfl dX2_isNeedless_23 ?_
  obtain ⟨v4, ev4, h⟩ := g_bnd h
  refine g_iald' ev4 ht0.2.2.2.2.2.1 dX2_isNeedless_24 ?_
  refine g_iconst (v := 1) rfl dX2_isNeedless_25 ?_
  refine g_iload_n 1 rfl rfl dX2_isNeedless_26 ?_
  refine g_ishl dX2_isNeedless_27 ?_
  refine g_iconst (v := -1) rfl dX2_isNeedless_28 ?_
  refine g_ixor dX2_isNeedless_29 ?_
  refine g_iand dX2_isNeedless_30 ?_
  obtain ⟨v5, ev5, h⟩ := g_bnd h
  refine g_nmI ev5 ?_
  refine g_istore (ls' := [(5, .int v5), (4, .int v3), (3, .int v2), (2, .int v1), (0, .ref (gAd V t0)), (1, .int x1)]) (Nat.le_of_ble_eq_true rfl) rfl dX2_isNeedless_31 ?_
  refine g_iconst (v := 0) rfl dX2_isNeedless_33 ?_
  refine g_istore (ls' := [(6, .int (0 : Int32)), (5, .int v5), (4, .int v3), (3, .int v2), (2, .int v1), (0, .ref (gAd V t0)), (1, .int x1)]) (Nat.le_of_ble_eq_true rfl) rfl dX2_isNeedless_34 ?_
  obtain ⟨w18, ew18, h⟩ := g_bnd h
  refine g_sub [5, 3, 2, 1, 0] rfl ?_
  have KX : gG X V mX2_isNeedless gShC M0 0 0 124 [(3, .int v2), (4, .int w18)] [] := by
    exact tX2_isNeedless_b124 ht0 h O
  exact gLoop_Q ew18 (fun z9 => gG X V mX2_isNeedless gShC M0 0 0 36 [(0, .ref (gAd V t0)), (3, .int v2), (4, .int z9.1), (5, .int z9.2.1), (6, .int z9.2.2)] []) (fun s9 o9 hb9 hc9 hx9 => tX2_isNeedless_l36 ht0 hb9 hc9 (fun e9 he9 => by cases hx9 _ he9; exact KX))
theorem kX2_isNeedless {l : Launch} {V : gEnv} {M0 : gMem} {t0 : Nat} {x1 : Int32} (ht0 : gNet gShC t0) {o : Int32} (h : fX2_isNeedless t0 x1 M0 = some o) : gM l yX2_isNeedless cX2_isNeedless 9 (some .boolean) rX2_isNeedless V gShC [.ref (gAd V t0), .int x1] M0 (some (.int o)) M0 :=
  gM.of (by decide) (Nat.le_of_ble_eq_true rfl) rfl (fun X _ O => tX2_isNeedless ht0 h O)
theorem dX2_arrowsTo_0 : decode cX2_arrowsTo 0 = .ok (.iconst 0, 1) := by decide +kernel
theorem dX2_arrowsTo_1 : decode cX2_arrowsTo 1 = .ok (.istore_n 2, 1) := by decide +kernel
theorem dX2_arrowsTo_2 : decode cX2_arrowsTo 2 = .ok (.iconst 0, 1) := by decide +kernel
theorem dX2_arrowsTo_3 : decode cX2_arrowsTo 3 = .ok (.istore_n 3, 1) := by decide +kernel
theorem dX2_arrowsTo_4 : decode cX2_arrowsTo 4 = .ok (.iload_n 3, 1) := by decide +kernel
theorem dX2_arrowsTo_5 : decode cX2_arrowsTo 5 = .ok (.aload_n 0, 1) := by decide +kernel
theorem dX2_arrowsTo_6 : decode cX2_arrowsTo 6 = .ok (.getfield 40, 3) := by decide +kernel
theorem dX2_arrowsTo_9 : decode cX2_arrowsTo 9 = .ok (.if_icmp .ge 25, 3) := by decide +kernel
theorem dX2_arrowsTo_12 : decode cX2_arrowsTo 12 = .ok (.aload_n 0, 1) := by decide +kernel
theorem dX2_arrowsTo_13 : decode cX2_arrowsTo 13 = .ok (.getfield 25, 3) := by decide +kernel
theorem dX2_arrowsTo_16 : decode cX2_arrowsTo 16 = .ok (.iload_n 3, 1) := by decide +kernel
theorem dX2_arrowsTo_17 : decode cX2_arrowsTo 17 = .ok (.iaload, 1) := by decide +kernel
theorem dX2_arrowsTo_18 : decode cX2_arrowsTo 18 = .ok (.iload_n 1, 1) := by decide +kernel
theorem dX2_arrowsTo_19 : decode cX2_arrowsTo 19 = .ok (.invokestatic 71, 3) := by decide +kernel
theorem dX2_arrowsTo_22 : decode cX2_arrowsTo 22 = .ok (.ifCond .eq 6, 3) := by decide +kernel
theorem dX2_arrowsTo_25 : decode cX2_arrowsTo 25 = .ok (.iinc 2 1, 3) := by decide +kernel
theorem dX2_arrowsTo_28 : decode cX2_arrowsTo 28 = .ok (.iinc 3 1, 3) := by decide +kernel
theorem dX2_arrowsTo_31 : decode cX2_arrowsTo 31 = .ok (.goto (-27), 3) := by decide +kernel
theorem dX2_arrowsTo_34 : decode cX2_arrowsTo 34 = .ok (.iload_n 2, 1) := by decide +kernel
theorem dX2_arrowsTo_35 : decode cX2_arrowsTo 35 = .ok (.ireturn, 1) := by decide +kernel
abbrev rX2_arrowsTo : Room := { frames := 1, cells := 0, slots := 0, locals := 21 }
abbrev mX2_arrowsTo : gY := (cX2_arrowsTo, RX2, 4, rX2_arrowsTo)
def fX2_arrowsTo_b28 (t0 : Nat) (x1 : Int32) (x2 : Int32) (x3 : Int32) (M0 : gMem) : Option ((Int32 × Int32) ⊕ Int32) :=
  some (.inl (x2, x3 + (1 : Int32)))
set_option maxRecDepth 20000 in
theorem tX2_arrowsTo_b28 {X : gX} {V : gEnv} {t0 : Nat} {x1 : Int32} {x2 : Int32} {x3 : Int32} {M0 : gMem} (ht0 : gNet gShC t0) {o : ((Int32 × Int32) ⊕ Int32)} (h : fX2_arrowsTo_b28 t0 x1 x2 x3 M0 = some o) (Kc : ∀ s9, o = .inl s9 → gG X V mX2_arrowsTo gShC M0 0 0 4 [(0, .ref (gAd V t0)), (1, .int x1), (2, .int s9.1), (3, .int s9.2)] []) (Kx : ∀ e9, o = .inr e9 → gG X V mX2_arrowsTo gShC M0 0 0 34 [(2, .int e9)] []) : gG X V mX2_arrowsTo gShC M0 0 0 28 [(0, .ref (gAd V t0)), (1, .int x1), (2, .int x2), (3, .int x3)] [] := by
  unfold fX2_arrowsTo_b28 at h
  refine g_iinc (j := 3) (v := x3 + (1 : Int32)) (ls' := [(3, .int (x3 + (1 : Int32))), (0, .ref (gAd V t0)), (1, .int x1), (2, .int x2)]) rfl rfl (Nat.le_of_ble_eq_true rfl) rfl dX2_arrowsTo_28 ?_
  refine g_goto (tgt := 4) rfl dX2_arrowsTo_31 ?_
  cases h
  refine g_sub [1, 2, 3, 0] rfl ?_
  exact Kc (x2, x3 + (1 : Int32)) rfl
def fX2_arrowsTo_l4 (t0 : Nat) (x1 : Int32) (M0 : gMem) (x2 : Int32) (x3 : Int32) : Option ((Int32 × Int32) ⊕ Int32) :=
  if (M0.1 t0 9) ≤ x3 then (some (.inr x2)) else (rI M0 (t0 + 5) 24 x3).bind fun v2 => (fX10_has v2 x1).bind fun v3 => if v3 = 0 then (fX2_arrowsTo_b28 t0 x1 x2 x3 M0) else fX2_arrowsTo_b28 t0 x1 (x2 + (1 : Int32)) x3 M0
set_option maxRecDepth 20000 in
theorem tX2_arrowsTo_l4 {X : gX} {V : gEnv} {t0 : Nat} {x1 : Int32} {M0 : gMem} {x2 : Int32} {x3 : Int32} (ht0 : gNet gShC t0) {o : ((Int32 × Int32) ⊕ Int32)} (h : fX2_arrowsTo_l4 t0 x1 M0 x2 x3 = some o) (Kc : ∀ s9, o = .inl s9 → gG X V mX2_arrowsTo gShC M0 0 0 4 [(0, .ref (gAd V t0)), (1, .int x1), (2, .int s9.1), (3, .int s9.2)] []) (Kx : ∀ e9, o = .inr e9 → gG X V mX2_arrowsTo gShC M0 0 0 34 [(2, .int e9)] []) : gG X V mX2_arrowsTo gShC M0 0 0 4 [(0, .ref (gAd V t0)), (1, .int x1), (2, .int x2), (3, .int x3)] [] := by
  unfold fX2_arrowsTo_l4 at h
  refine g_iload_n 3 rfl rfl dX2_arrowsTo_4 ?_
  refine g_aload_n 0 rfl rfl dX2_arrowsTo_5 ?_
  refine g_getI FX2_40 ht0.1 rfl dX2_arrowsTo_6 ?_
  rcases g_ite h with ⟨c1, h⟩ | ⟨c1, h⟩
  · refine g_icmp_ge_t c1 (tgt := 34) rfl dX2_arrowsTo_9 ?_
    cases h
    refine g_sub [2] rfl ?_
    exact Kx x2 rfl
  · refine g_icmp_ge_f c1 (tgt := 34) rfl dX2_arrowsTo_9 ?_
    refine g_aload_n 0 rfl rfl dX2_arrowsTo_12 ?_
    refine g_getR FX2_25 ht0.1 rfl dX2_arrowsTo_13 ?_
    refine g_iload_n 3 rfl rfl dX2_arrowsTo_16 ?_
    obtain ⟨v2, ev2, h⟩ := g_bnd h
    refine g_iald' ev2 ht0.2.2.2.2.2.1 dX2_arrowsTo_17 ?_
    refine g_iload_n 1 rfl rfl dX2_arrowsTo_18 ?_
    obtain ⟨v3, ev3, h⟩ := g_bnd h
    refine g_callN LX2_71 (kX10_has ev3) rfl rfl (Nat.le_of_ble_eq_true rfl) ⟨Nat.le_of_ble_eq_true rfl, Nat.le_of_ble_eq_true rfl⟩ ⟨Nat.le_of_ble_eq_true rfl, Nat.le_of_ble_eq_true rfl⟩ dX2_arrowsTo_19 rfl ?_
    rcases g_ite h with ⟨c4, h⟩ | ⟨c4, h⟩
    · refine g_if_eq_t c4 (tgt := 28) rfl dX2_arrowsTo_22 ?_
      exact tX2_arrowsTo_b28 ht0 h Kc Kx
    · refine g_if_eq_f c4 (tgt := 28) rfl dX2_arrowsTo_22 ?_
      refine g_iinc (j := 2) (v := x2 + (1 : Int32)) (ls' := [(2, .int (x2 + (1 : Int32))), (0, .ref (gAd V t0)), (1, .int x1), (3, .int x3)]) rfl rfl (Nat.le_of_ble_eq_true rfl) rfl dX2_arrowsTo_25 ?_
      refine g_sub [1, 2, 0, 3] rfl ?_
      exact tX2_arrowsTo_b28 ht0 h Kc Kx
def fX2_arrowsTo (t0 : Nat) (x1 : Int32) (M0 : gMem) : Option Int32 :=
  (gLoop (fun z9 => fX2_arrowsTo_l4 t0 x1 M0 z9.1 z9.2) gFu ((0 : Int32), (0 : Int32))).bind fun w5 => some w5
set_option maxRecDepth 20000 in
theorem tX2_arrowsTo {X : gX} {V : gEnv} {t0 : Nat} {x1 : Int32} {M0 : gMem} (ht0 : gNet gShC t0) {o : Int32} (h : fX2_arrowsTo t0 x1 M0 = some o) (O : gO X V mX2_arrowsTo gShC (some .int) (some (.int o)) M0) : gG X V mX2_arrowsTo gShC M0 0 0 0 [(0, .ref (gAd V t0)), (1, .int x1)] [] := by
  unfold fX2_arrowsTo at h
  refine g_iconst (v := 0) rfl dX2_arrowsTo_0 ?_
  refine g_istore_n (ls' := [(2, .int (0 : Int32)), (0, .ref (gAd V t0)), (1, .int x1)]) rfl (Nat.le_of_ble_eq_true rfl) rfl dX2_arrowsTo_1 ?_
  refine g_iconst (v := 0) rfl dX2_arrowsTo_2 ?_
  refine g_istore_n (ls' := [(3, .int (0 : Int32)), (2, .int (0 : Int32)), (0, .ref (gAd V t0)), (1, .int x1)]) rfl (Nat.le_of_ble_eq_true rfl) rfl dX2_arrowsTo_3 ?_
  obtain ⟨w5, ew5, h⟩ := g_bnd h
  refine g_sub [2, 3, 1, 0] rfl ?_
  have KX : gG X V mX2_arrowsTo gShC M0 0 0 34 [(2, .int w5)] [] := by
    refine g_iload_n 0 rfl rfl dX2_arrowsTo_34 ?_
    cases h
    exact g_iret O ⟨Nat.le_of_ble_eq_true rfl, Nat.le_of_ble_eq_true rfl⟩ rfl dX2_arrowsTo_35
  exact gLoop_Q ew5 (fun z9 => gG X V mX2_arrowsTo gShC M0 0 0 4 [(0, .ref (gAd V t0)), (1, .int x1), (2, .int z9.1), (3, .int z9.2)] []) (fun s9 o9 hb9 hc9 hx9 => tX2_arrowsTo_l4 ht0 hb9 hc9 (fun e9 he9 => by cases hx9 _ he9; exact KX))
theorem kX2_arrowsTo {l : Launch} {V : gEnv} {M0 : gMem} {t0 : Nat} {x1 : Int32} (ht0 : gNet gShC t0) {o : Int32} (h : fX2_arrowsTo t0 x1 M0 = some o) : gM l yX2_arrowsTo cX2_arrowsTo 4 (some .int) rX2_arrowsTo V gShC [.ref (gAd V t0), .int x1] M0 (some (.int o)) M0 :=
  gM.of (by decide) (Nat.le_of_ble_eq_true rfl) rfl (fun X _ O => tX2_arrowsTo ht0 h O)
theorem dX2_innerArrows_0 : decode cX2_innerArrows 0 = .ok (.iconst 0, 1) := by decide +kernel
theorem dX2_innerArrows_1 : decode cX2_innerArrows 1 = .ok (.istore_n 1, 1) := by decide +kernel
theorem dX2_innerArrows_2 : decode cX2_innerArrows 2 = .ok (.iconst 0, 1) := by decide +kernel
theorem dX2_innerArrows_3 : decode cX2_innerArrows 3 = .ok (.istore_n 2, 1) := by decide +kernel
theorem dX2_innerArrows_4 : decode cX2_innerArrows 4 = .ok (.iload_n 2, 1) := by decide +kernel
theorem dX2_innerArrows_5 : decode cX2_innerArrows 5 = .ok (.aload_n 0, 1) := by decide +kernel
theorem dX2_innerArrows_6 : decode cX2_innerArrows 6 = .ok (.getfield 44, 3) := by decide +kernel
theorem dX2_innerArrows_9 : decode cX2_innerArrows 9 = .ok (.if_icmp .ge 20, 3) := by decide +kernel
theorem dX2_innerArrows_12 : decode cX2_innerArrows 12 = .ok (.aload_n 0, 1) := by decide +kernel
theorem dX2_innerArrows_13 : decode cX2_innerArrows 13 = .ok (.iload_n 2, 1) := by decide +kernel
theorem dX2_innerArrows_14 : decode cX2_innerArrows 14 = .ok (.invokevirtual 79, 3) := by decide +kernel
theorem dX2_innerArrows_17 : decode cX2_innerArrows 17 = .ok (.ifCond .eq 6, 3) := by decide +kernel
theorem dX2_innerArrows_20 : decode cX2_innerArrows 20 = .ok (.iinc 1 1, 3) := by decide +kernel
theorem dX2_innerArrows_23 : decode cX2_innerArrows 23 = .ok (.iinc 2 1, 3) := by decide +kernel
theorem dX2_innerArrows_26 : decode cX2_innerArrows 26 = .ok (.goto (-22), 3) := by decide +kernel
theorem dX2_innerArrows_29 : decode cX2_innerArrows 29 = .ok (.iload_n 1, 1) := by decide +kernel
theorem dX2_innerArrows_30 : decode cX2_innerArrows 30 = .ok (.ireturn, 1) := by decide +kernel
abbrev rX2_innerArrows : Room := { frames := 1, cells := 0, slots := 0, locals := 21 }
abbrev mX2_innerArrows : gY := (cX2_innerArrows, RX2, 3, rX2_innerArrows)
def fX2_innerArrows_b23 (t0 : Nat) (x1 : Int32) (x2 : Int32) (M0 : gMem) : Option ((Int32 × Int32) ⊕ Int32) :=
  some (.inl (x1, x2 + (1 : Int32)))
set_option maxRecDepth 20000 in
theorem tX2_innerArrows_b23 {X : gX} {V : gEnv} {t0 : Nat} {x1 : Int32} {x2 : Int32} {M0 : gMem} (ht0 : gNet gShC t0) {o : ((Int32 × Int32) ⊕ Int32)} (h : fX2_innerArrows_b23 t0 x1 x2 M0 = some o) (Kc : ∀ s9, o = .inl s9 → gG X V mX2_innerArrows gShC M0 0 0 4 [(0, .ref (gAd V t0)), (1, .int s9.1), (2, .int s9.2)] []) (Kx : ∀ e9, o = .inr e9 → gG X V mX2_innerArrows gShC M0 0 0 29 [(1, .int e9)] []) : gG X V mX2_innerArrows gShC M0 0 0 23 [(0, .ref (gAd V t0)), (1, .int x1), (2, .int x2)] [] := by
  unfold fX2_innerArrows_b23 at h
  refine g_iinc (j := 2) (v := x2 + (1 : Int32)) (ls' := [(2, .int (x2 + (1 : Int32))), (0, .ref (gAd V t0)), (1, .int x1)]) rfl rfl (Nat.le_of_ble_eq_true rfl) rfl dX2_innerArrows_23 ?_
  refine g_goto (tgt := 4) rfl dX2_innerArrows_26 ?_
  cases h
  refine g_sub [1, 2, 0] rfl ?_
  exact Kc (x1, x2 + (1 : Int32)) rfl
def fX2_innerArrows_l4 (t0 : Nat) (M0 : gMem) (x1 : Int32) (x2 : Int32) : Option ((Int32 × Int32) ⊕ Int32) :=
  if (M0.1 t0 10) ≤ x2 then (some (.inr x1)) else (fX2_isInner t0 x2 M0).bind fun v2 => if v2 = 0 then (fX2_innerArrows_b23 t0 x1 x2 M0) else fX2_innerArrows_b23 t0 (x1 + (1 : Int32)) x2 M0
set_option maxRecDepth 20000 in
theorem tX2_innerArrows_l4 {X : gX} {V : gEnv} {t0 : Nat} {M0 : gMem} {x1 : Int32} {x2 : Int32} (ht0 : gNet gShC t0) {o : ((Int32 × Int32) ⊕ Int32)} (h : fX2_innerArrows_l4 t0 M0 x1 x2 = some o) (Kc : ∀ s9, o = .inl s9 → gG X V mX2_innerArrows gShC M0 0 0 4 [(0, .ref (gAd V t0)), (1, .int s9.1), (2, .int s9.2)] []) (Kx : ∀ e9, o = .inr e9 → gG X V mX2_innerArrows gShC M0 0 0 29 [(1, .int e9)] []) : gG X V mX2_innerArrows gShC M0 0 0 4 [(0, .ref (gAd V t0)), (1, .int x1), (2, .int x2)] [] := by
  unfold fX2_innerArrows_l4 at h
  refine g_iload_n 2 rfl rfl dX2_innerArrows_4 ?_
  refine g_aload_n 0 rfl rfl dX2_innerArrows_5 ?_
  refine g_getI FX2_44 ht0.1 rfl dX2_innerArrows_6 ?_
  rcases g_ite h with ⟨c1, h⟩ | ⟨c1, h⟩
  · refine g_icmp_ge_t c1 (tgt := 29) rfl dX2_innerArrows_9 ?_
    cases h
    refine g_sub [1] rfl ?_
    exact Kx x1 rfl
  · refine g_icmp_ge_f c1 (tgt := 29) rfl dX2_innerArrows_9 ?_
    refine g_aload_n 0 rfl rfl dX2_innerArrows_12 ?_
    refine g_iload_n 2 rfl rfl dX2_innerArrows_13 ?_
    obtain ⟨v2, ev2, h⟩ := g_bnd h
    refine g_callV LX2_79 ht0.1 rfl (kX2_isInner ht0 ev2) rfl rfl (Nat.le_of_ble_eq_true rfl) ⟨Nat.le_of_ble_eq_true rfl, Nat.le_of_ble_eq_true rfl⟩ ⟨Nat.le_of_ble_eq_true rfl, Nat.le_of_ble_eq_true rfl⟩ dX2_innerArrows_14 rfl ?_
    rcases g_ite h with ⟨c3, h⟩ | ⟨c3, h⟩
    · refine g_if_eq_t c3 (tgt := 23) rfl dX2_innerArrows_17 ?_
      exact tX2_innerArrows_b23 ht0 h Kc Kx
    · refine g_if_eq_f c3 (tgt := 23) rfl dX2_innerArrows_17 ?_
      refine g_iinc (j := 1) (v := x1 + (1 : Int32)) (ls' := [(1, .int (x1 + (1 : Int32))), (0, .ref (gAd V t0)), (2, .int x2)]) rfl rfl (Nat.le_of_ble_eq_true rfl) rfl dX2_innerArrows_20 ?_
      refine g_sub [1, 0, 2] rfl ?_
      exact tX2_innerArrows_b23 ht0 h Kc Kx
def fX2_innerArrows (t0 : Nat) (M0 : gMem) : Option Int32 :=
  (gLoop (fun z9 => fX2_innerArrows_l4 t0 M0 z9.1 z9.2) gFu ((0 : Int32), (0 : Int32))).bind fun w4 => some w4
set_option maxRecDepth 20000 in
theorem tX2_innerArrows {X : gX} {V : gEnv} {t0 : Nat} {M0 : gMem} (ht0 : gNet gShC t0) {o : Int32} (h : fX2_innerArrows t0 M0 = some o) (O : gO X V mX2_innerArrows gShC (some .int) (some (.int o)) M0) : gG X V mX2_innerArrows gShC M0 0 0 0 [(0, .ref (gAd V t0))] [] := by
  unfold fX2_innerArrows at h
  refine g_iconst (v := 0) rfl dX2_innerArrows_0 ?_
  refine g_istore_n (ls' := [(1, .int (0 : Int32)), (0, .ref (gAd V t0))]) rfl (Nat.le_of_ble_eq_true rfl) rfl dX2_innerArrows_1 ?_
  refine g_iconst (v := 0) rfl dX2_innerArrows_2 ?_
  refine g_istore_n (ls' := [(2, .int (0 : Int32)), (1, .int (0 : Int32)), (0, .ref (gAd V t0))]) rfl (Nat.le_of_ble_eq_true rfl) rfl dX2_innerArrows_3 ?_
  obtain ⟨w4, ew4, h⟩ := g_bnd h
  refine g_sub [2, 1, 0] rfl ?_
  have KX : gG X V mX2_innerArrows gShC M0 0 0 29 [(1, .int w4)] [] := by
    refine g_iload_n 0 rfl rfl dX2_innerArrows_29 ?_
    cases h
    exact g_iret O ⟨Nat.le_of_ble_eq_true rfl, Nat.le_of_ble_eq_true rfl⟩ rfl dX2_innerArrows_30
  exact gLoop_Q ew4 (fun z9 => gG X V mX2_innerArrows gShC M0 0 0 4 [(0, .ref (gAd V t0)), (1, .int z9.1), (2, .int z9.2)] []) (fun s9 o9 hb9 hc9 hx9 => tX2_innerArrows_l4 ht0 hb9 hc9 (fun e9 he9 => by cases hx9 _ he9; exact KX))
theorem kX2_innerArrows {l : Launch} {V : gEnv} {M0 : gMem} {t0 : Nat} (ht0 : gNet gShC t0) {o : Int32} (h : fX2_innerArrows t0 M0 = some o) : gM l yX2_innerArrows cX2_innerArrows 3 (some .int) rX2_innerArrows V gShC [.ref (gAd V t0)] M0 (some (.int o)) M0 :=
  gM.of (by decide) (Nat.le_of_ble_eq_true rfl) rfl (fun X _ O => tX2_innerArrows ht0 h O)
theorem dX2_innerArrowsAt_0 : decode cX2_innerArrowsAt 0 = .ok (.iconst 0, 1) := by decide +kernel
theorem dX2_innerArrowsAt_1 : decode cX2_innerArrowsAt 1 = .ok (.istore_n 2, 1) := by decide +kernel
theorem dX2_innerArrowsAt_2 : decode cX2_innerArrowsAt 2 = .ok (.iconst 0, 1) := by decide +kernel
theorem dX2_innerArrowsAt_3 : decode cX2_innerArrowsAt 3 = .ok (.istore_n 3, 1) := by decide +kernel
theorem dX2_innerArrowsAt_4 : decode cX2_innerArrowsAt 4 = .ok (.iload_n 3, 1) := by decide +kernel
theorem dX2_innerArrowsAt_5 : decode cX2_innerArrowsAt 5 = .ok (.aload_n 0, 1) := by decide +kernel
theorem dX2_innerArrowsAt_6 : decode cX2_innerArrowsAt 6 = .ok (.getfield 44, 3) := by decide +kernel
theorem dX2_innerArrowsAt_9 : decode cX2_innerArrowsAt 9 = .ok (.if_icmp .ge 35, 3) := by decide +kernel
theorem dX2_innerArrowsAt_12 : decode cX2_innerArrowsAt 12 = .ok (.aload_n 0, 1) := by decide +kernel
theorem dX2_innerArrowsAt_13 : decode cX2_innerArrowsAt 13 = .ok (.iload_n 3, 1) := by decide +kernel
theorem dX2_innerArrowsAt_14 : decode cX2_innerArrowsAt 14 = .ok (.invokevirtual 79, 3) := by decide +kernel
theorem dX2_innerArrowsAt_17 : decode cX2_innerArrowsAt 17 = .ok (.ifCond .eq 21, 3) := by decide +kernel
theorem dX2_innerArrowsAt_20 : decode cX2_innerArrowsAt 20 = .ok (.aload_n 0, 1) := by decide +kernel
theorem dX2_innerArrowsAt_21 : decode cX2_innerArrowsAt 21 = .ok (.getfield 34, 3) := by decide +kernel
theorem dX2_innerArrowsAt_24 : decode cX2_innerArrowsAt 24 = .ok (.aload_n 0, 1) := by decide +kernel
theorem dX2_innerArrowsAt_25 : decode cX2_innerArrowsAt 25 = .ok (.getfield 19, 3) := by decide +kernel
theorem dX2_innerArrowsAt_28 : decode cX2_innerArrowsAt 28 = .ok (.iload_n 3, 1) := by decide +kernel
theorem dX2_innerArrowsAt_29 : decode cX2_innerArrowsAt 29 = .ok (.iaload, 1) := by decide +kernel
theorem dX2_innerArrowsAt_30 : decode cX2_innerArrowsAt 30 = .ok (.iaload, 1) := by decide +kernel
theorem dX2_innerArrowsAt_31 : decode cX2_innerArrowsAt 31 = .ok (.iload_n 1, 1) := by decide +kernel
theorem dX2_innerArrowsAt_32 : decode cX2_innerArrowsAt 32 = .ok (.if_icmp .ne 6, 3) := by decide +kernel
theorem dX2_innerArrowsAt_35 : decode cX2_innerArrowsAt 35 = .ok (.iinc 2 1, 3) := by decide +kernel
theorem dX2_innerArrowsAt_38 : decode cX2_innerArrowsAt 38 = .ok (.iinc 3 1, 3) := by decide +kernel
theorem dX2_innerArrowsAt_41 : decode cX2_innerArrowsAt 41 = .ok (.goto (-37), 3) := by decide +kernel
theorem dX2_innerArrowsAt_44 : decode cX2_innerArrowsAt 44 = .ok (.iload_n 2, 1) := by decide +kernel
theorem dX2_innerArrowsAt_45 : decode cX2_innerArrowsAt 45 = .ok (.ireturn, 1) := by decide +kernel
abbrev rX2_innerArrowsAt : Room := { frames := 1, cells := 0, slots := 0, locals := 21 }
abbrev mX2_innerArrowsAt : gY := (cX2_innerArrowsAt, RX2, 4, rX2_innerArrowsAt)
def fX2_innerArrowsAt_b38 (t0 : Nat) (x1 : Int32) (x2 : Int32) (x3 : Int32) (M0 : gMem) : Option ((Int32 × Int32) ⊕ Int32) :=
  some (.inl (x2, x3 + (1 : Int32)))
set_option maxRecDepth 20000 in
theorem tX2_innerArrowsAt_b38 {X : gX} {V : gEnv} {t0 : Nat} {x1 : Int32} {x2 : Int32} {x3 : Int32} {M0 : gMem} (ht0 : gNet gShC t0) {o : ((Int32 × Int32) ⊕ Int32)} (h : fX2_innerArrowsAt_b38 t0 x1 x2 x3 M0 = some o) (Kc : ∀ s9, o = .inl s9 → gG X V mX2_innerArrowsAt gShC M0 0 0 4 [(0, .ref (gAd V t0)), (1, .int x1), (2, .int s9.1), (3, .int s9.2)] []) (Kx : ∀ e9, o = .inr e9 → gG X V mX2_innerArrowsAt gShC M0 0 0 44 [(2, .int e9)] []) : gG X V mX2_innerArrowsAt gShC M0 0 0 38 [(0, .ref (gAd V t0)), (1, .int x1), (2, .int x2), (3, .int x3)] [] := by
  unfold fX2_innerArrowsAt_b38 at h
  refine g_iinc (j := 3) (v := x3 + (1 : Int32)) (ls' := [(3, .int (x3 + (1 : Int32))), (0, .ref (gAd V t0)), (1, .int x1), (2, .int x2)]) rfl rfl (Nat.le_of_ble_eq_true rfl) rfl dX2_innerArrowsAt_38 ?_
  refine g_goto (tgt := 4) rfl dX2_innerArrowsAt_41 ?_
  cases h
  refine g_sub [1, 2, 3, 0] rfl ?_
  exact Kc (x2, x3 + (1 : Int32)) rfl
def fX2_innerArrowsAt_l4 (t0 : Nat) (x1 : Int32) (M0 : gMem) (x2 : Int32) (x3 : Int32) : Option ((Int32 × Int32) ⊕ Int32) :=
  if (M0.1 t0 10) ≤ x3 then (some (.inr x2)) else (fX2_isInner t0 x3 M0).bind fun v2 => if v2 = 0 then (fX2_innerArrowsAt_b38 t0 x1 x2 x3 M0) else (rI M0 (t0 + 3) 60 x3).bind fun v4 => (rI M0 (t0 + 8) 24 v4).bind fun v5 => if v5 = x1 then (fX2_innerArrowsAt_b38 t0 x1 (x2 + (1 : Int32)) x3 M0) else fX2_innerArrowsAt_b38 t0 x1 x2 x3 M0
set_option maxRecDepth 20000 in
theorem tX2_innerArrowsAt_l4 {X : gX} {V : gEnv} {t0 : Nat} {x1 : Int32} {M0 : gMem} {x2 : Int32} {x3 : Int32} (ht0 : gNet gShC t0) {o : ((Int32 × Int32) ⊕ Int32)} (h : fX2_innerArrowsAt_l4 t0 x1 M0 x2 x3 = some o) (Kc : ∀ s9, o = .inl s9 → gG X V mX2_innerArrowsAt gShC M0 0 0 4 [(0, .ref (gAd V t0)), (1, .int x1), (2, .int s9.1), (3, .int s9.2)] []) (Kx : ∀ e9, o = .inr e9 → gG X V mX2_innerArrowsAt gShC M0 0 0 44 [(2, .int e9)] []) : gG X V mX2_innerArrowsAt gShC M0 0 0 4 [(0, .ref (gAd V t0)), (1, .int x1), (2, .int x2), (3, .int x3)] [] := by
  unfold fX2_innerArrowsAt_l4 at h
  refine g_iload_n 3 rfl rfl dX2_innerArrowsAt_4 ?_
  refine g_aload_n 0 rfl rfl dX2_innerArrowsAt_5 ?_
  refine g_getI FX2_44 ht0.1 rfl dX2_innerArrowsAt_6 ?_
  rcases g_ite h with ⟨c1, h⟩ | ⟨c1, h⟩
  · refine g_icmp_ge_t c1 (tgt := 44) rfl dX2_innerArrowsAt_9 ?_
    cases h
    refine g_sub [2] rfl ?_
    exact Kx x2 rfl
  · refine g_icmp_ge_f c1 (tgt := 44) rfl dX2_innerArrowsAt_9 ?_
    refine g_aload_n 0 rfl rfl dX2_innerArrowsAt_12 ?_
    refine g_iload_n 3 rfl rfl dX2_innerArrowsAt_13 ?_
    obtain ⟨v2, ev2, h⟩ := g_bnd h
    refine g_callV LX2_79 ht0.1 rfl (kX2_isInner ht0 ev2) rfl rfl (Nat.le_of_ble_eq_true rfl) ⟨Nat.le_of_ble_eq_true rfl, Nat.le_of_ble_eq_true rfl⟩ ⟨Nat.le_of_ble_eq_true rfl, Nat.le_of_ble_eq_true rfl⟩ dX2_innerArrowsAt_14 rfl ?_
    rcases g_ite h with ⟨c3, h⟩ | ⟨c3, h⟩
    · refine g_if_eq_t c3 (tgt := 38) rfl dX2_innerArrowsAt_17 ?_
      exact tX2_innerArrowsAt_b38 ht0 h Kc Kx
    · refine g_if_eq_f c3 (tgt := 38) rfl dX2_innerArrowsAt_17 ?_
      refine g_aload_n 0 rfl rfl dX2_innerArrowsAt_20 ?_
      refine g_getR FX2_34 ht0.1 rfl dX2_innerArrowsAt_21 ?_
      refine g_aload_n 0 rfl rfl dX2_innerArrowsAt_24 ?_
      refine g_getR FX2_19 ht0.1 rfl dX2_innerArrowsAt_25 ?_
      refine g_iload_n 3 rfl rfl dX2_innerArrowsAt_28 ?_
      obtain ⟨v4, ev4, h⟩ := g_bnd h
      refine g_iald' ev4 ht0.2.2.2.1 dX2_innerArrowsAt_29 ?_
      obtain ⟨v5, ev5, h⟩ := g_bnd h
      refine g_iald' ev5 ht0.2.2.2.2.2.2.2.2.1 dX2_innerArrowsAt_30 ?_
      refine g_iload_n 1 rfl rfl dX2_innerArrowsAt_31 ?_
      rcases g_ite h with ⟨c6, h⟩ | ⟨c6, h⟩
      · refine g_icmp_ne_f c6 (tgt := 38) rfl dX2_innerArrowsAt_32 ?_
        refine g_iinc (j := 2) (v := x2 + (1 : Int32)) (ls' := [(2, .int (x2 + (1 : Int32))), (0, .ref (gAd V t0)), (1, .int x1), (3, .int x3)]) rfl rfl (Nat.le_of_ble_eq_true rfl) rfl dX2_innerArrowsAt_35 ?_
        refine g_sub [1, 2, 0, 3] rfl ?_
        exact tX2_innerArrowsAt_b38 ht0 h Kc Kx
      · refine g_icmp_ne_t c6 (tgt := 38) rfl dX2_innerArrowsAt_32 ?_
        exact tX2_innerArrowsAt_b38 ht0 h Kc Kx
def fX2_innerArrowsAt (t0 : Nat) (x1 : Int32) (M0 : gMem) : Option Int32 :=
  (gLoop (fun z9 => fX2_innerArrowsAt_l4 t0 x1 M0 z9.1 z9.2) gFu ((0 : Int32), (0 : Int32))).bind fun w7 => some w7
set_option maxRecDepth 20000 in
theorem tX2_innerArrowsAt {X : gX} {V : gEnv} {t0 : Nat} {x1 : Int32} {M0 : gMem} (ht0 : gNet gShC t0) {o : Int32} (h : fX2_innerArrowsAt t0 x1 M0 = some o) (O : gO X V mX2_innerArrowsAt gShC (some .int) (some (.int o)) M0) : gG X V mX2_innerArrowsAt gShC M0 0 0 0 [(0, .ref (gAd V t0)), (1, .int x1)] [] := by
  unfold fX2_innerArrowsAt at h
  refine g_iconst (v := 0) rfl dX2_innerArrowsAt_0 ?_
  refine g_istore_n (ls' := [(2, .int (0 : Int32)), (0, .ref (gAd V t0)), (1, .int x1)]) rfl (Nat.le_of_ble_eq_true rfl) rfl dX2_innerArrowsAt_1 ?_
  refine g_iconst (v := 0) rfl dX2_innerArrowsAt_2 ?_
  refine g_istore_n (ls' := [(3, .int (0 : Int32)), (2, .int (0 : Int32)), (0, .ref (gAd V t0)), (1, .int x1)]) rfl (Nat.le_of_ble_eq_true rfl) rfl dX2_innerArrowsAt_3 ?_
  obtain ⟨w7, ew7, h⟩ := g_bnd h
  refine g_sub [2, 3, 1, 0] rfl ?_
  have KX : gG X V mX2_innerArrowsAt gShC M0 0 0 44 [(2, .int w7)] [] := by
    refine g_iload_n 0 rfl rfl dX2_innerArrowsAt_44 ?_
    cases h
    exact g_iret O ⟨Nat.le_of_ble_eq_true rfl, Nat.le_of_ble_eq_true rfl⟩ rfl dX2_innerArrowsAt_45
  exact gLoop_Q ew7 (fun z9 => gG X V mX2_innerArrowsAt gShC M0 0 0 4 [(0, .ref (gAd V t0)), (1, .int x1), (2, .int z9.1), (3, .int z9.2)] []) (fun s9 o9 hb9 hc9 hx9 => tX2_innerArrowsAt_l4 ht0 hb9 hc9 (fun e9 he9 => by cases hx9 _ he9; exact KX))
theorem kX2_innerArrowsAt {l : Launch} {V : gEnv} {M0 : gMem} {t0 : Nat} {x1 : Int32} (ht0 : gNet gShC t0) {o : Int32} (h : fX2_innerArrowsAt t0 x1 M0 = some o) : gM l yX2_innerArrowsAt cX2_innerArrowsAt 4 (some .int) rX2_innerArrowsAt V gShC [.ref (gAd V t0), .int x1] M0 (some (.int o)) M0 :=
  gM.of (by decide) (Nat.le_of_ble_eq_true rfl) rfl (fun X _ O => tX2_innerArrowsAt ht0 h O)
