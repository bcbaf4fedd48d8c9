/-! METHODS, by program: pure functions and contracts -/
theorem dX10_leastPlace_0 : decode cX10_leastPlace 0 = .ok (.aload_n 0, 1) := by decide +kernel
theorem dX10_leastPlace_1 : decode cX10_leastPlace 1 = .ok (.iload_n 1, 1) := by decide +kernel
theorem dX10_leastPlace_2 : decode cX10_leastPlace 2 = .ok (.invokevirtual 170, 3) := by decide +kernel
theorem dX10_leastPlace_5 : decode cX10_leastPlace 5 = .ok (.aload_n 0, 1) := by decide +kernel
theorem dX10_leastPlace_6 : decode cX10_leastPlace 6 = .ok (.getfield 12, 3) := by decide +kernel
theorem dX10_leastPlace_9 : decode cX10_leastPlace 9 = .ok (.getfield 180, 3) := by decide +kernel
theorem dX10_leastPlace_12 : decode cX10_leastPlace 12 = .ok (.iload_n 1, 1) := by decide +kernel
theorem dX10_leastPlace_13 : decode cX10_leastPlace 13 = .ok (.iaload, 1) := by decide +kernel
theorem dX10_leastPlace_14 : decode cX10_leastPlace 14 = .ok (.istore_n 2, 1) := by decide +kernel
theorem dX10_leastPlace_15 : decode cX10_leastPlace 15 = .ok (.iconst 0, 1) := by decide +kernel
theorem dX10_leastPlace_16 : decode cX10_leastPlace 16 = .ok (.istore_n 3, 1) := by decide +kernel
theorem dX10_leastPlace_17 : decode cX10_leastPlace 17 = .ok (.iconst 0, 1) := by decide +kernel
theorem dX10_leastPlace_18 : decode cX10_leastPlace 18 = .ok (.istore 4, 2) := by decide +kernel
theorem dX10_leastPlace_20 : decode cX10_leastPlace 20 = .ok (.iload 4, 2) := by decide +kernel
theorem dX10_leastPlace_22 : decode cX10_leastPlace 22 = .ok (.aload_n 0, 1) := by decide +kernel
theorem dX10_leastPlace_23 : decode cX10_leastPlace 23 = .ok (.getfield 12, 3) := by decide +kernel
theorem dX10_leastPlace_26 : decode cX10_leastPlace 26 = .ok (.getfield 146, 3) := by decide +kernel
theorem dX10_leastPlace_29 : decode cX10_leastPlace 29 = .ok (.if_icmp .ge 68, 3) := by decide +kernel
theorem dX10_leastPlace_32 : decode cX10_leastPlace 32 = .ok (.aload_n 0, 1) := by decide +kernel
theorem dX10_leastPlace_33 : decode cX10_leastPlace 33 = .ok (.getfield 12, 3) := by decide +kernel
theorem dX10_leastPlace_36 : decode cX10_leastPlace 36 = .ok (.getfield 180, 3) := by decide +kernel
theorem dX10_leastPlace_39 : decode cX10_leastPlace 39 = .ok (.aload_n 0, 1) := by decide +kernel
theorem dX10_leastPlace_40 : decode cX10_leastPlace 40 = .ok (.getfield 12, 3) := by decide +kernel
theorem dX10_leastPlace_43 : decode cX10_leastPlace 43 = .ok (.getfield 246, 3) := by decide +kernel
theorem dX10_leastPlace_46 : decode cX10_leastPlace 46 = .ok (.iload 4, 2) := by decide +kernel
theorem dX10_leastPlace_48 : decode cX10_leastPlace 48 = .ok (.iaload, 1) := by decide +kernel
theorem dX10_leastPlace_49 : decode cX10_leastPlace 49 = .ok (.iaload, 1) := by decide +kernel
theorem dX10_leastPlace_50 : decode cX10_leastPlace 50 = .ok (.iload_n 2, 1) := by decide +kernel
theorem dX10_leastPlace_51 : decode cX10_leastPlace 51 = .ok (.if_icmp .ne 40, 3) := by decide +kernel
theorem dX10_leastPlace_54 : decode cX10_leastPlace 54 = .ok (.aload_n 0, 1) := by decide +kernel
theorem dX10_leastPlace_55 : decode cX10_leastPlace 55 = .ok (.getfield 12, 3) := by decide +kernel
theorem dX10_leastPlace_58 : decode cX10_leastPlace 58 = .ok (.iload 4, 2) := by decide +kernel
theorem dX10_leastPlace_60 : decode cX10_leastPlace 60 = .ok (.invokevirtual 249, 3) := by decide +kernel
theorem dX10_leastPlace_63 : decode cX10_leastPlace 63 = .ok (.ifCond .ne 28, 3) := by decide +kernel
theorem dX10_leastPlace_66 : decode cX10_leastPlace 66 = .ok (.iload_n 3, 1) := by decide +kernel
theorem dX10_leastPlace_67 : decode cX10_leastPlace 67 = .ok (.aload_n 0, 1) := by decide +kernel
theorem dX10_leastPlace_68 : decode cX10_leastPlace 68 = .ok (.getfield 12, 3) := by decide +kernel
theorem dX10_leastPlace_71 : decode cX10_leastPlace 71 = .ok (.getfield 180, 3) := by decide +kernel
theorem dX10_leastPlace_74 : decode cX10_leastPlace 74 = .ok (.aload_n 0, 1) := by decide +kernel
theorem dX10_leastPlace_75 : decode cX10_leastPlace 75 = .ok (.getfield 12, 3) := by decide +kernel
theorem dX10_leastPlace_78 : decode cX10_leastPlace 78 = .ok (.getfield 243, 3) := by decide +kernel
theorem dX10_leastPlace_81 : decode cX10_leastPlace 81 = .ok (.iload 4, 2) := by decide +kernel
theorem dX10_leastPlace_83 : decode cX10_leastPlace 83 = .ok (.iaload, 1) := by decide +kernel
theorem dX10_leastPlace_84 : decode cX10_leastPlace 84 = .ok (.iaload, 1) := by decide +kernel
theorem dX10_leastPlace_85 : decode cX10_leastPlace 85 = .ok (.iconst 1, 1) := by decide +kernel
theorem dX10_leastPlace_86 : decode cX10_leastPlace 86 = .ok (.iadd, 1) := by decide +kernel
theorem dX10_leastPlace_87 : decode cX10_leastPlace 87 = .ok (.invokestatic 299, 3) := by decide +kernel
theorem dX10_leastPlace_90 : decode cX10_leastPlace 90 = .ok (.istore_n 3, 1) := by decide +kernel
theorem dX10_leastPlace_91 : decode cX10_leastPlace 91 = .ok (.iinc 4 1, 3) := by decide +kernel
theorem dX10_leastPlace_94 : decode cX10_leastPlace 94 = .ok (.goto (-74), 3) := by decide +kernel
theorem dX10_leastPlace_97 : decode cX10_leastPlace 97 = .ok (.iload_n 3, 1) := by decide +kernel
theorem dX10_leastPlace_98 : decode cX10_leastPlace 98 = .ok (.ireturn, 1) := by decide +kernel
abbrev rX10_leastPlace : Room := { frames := 7, cells := 1, slots := 6, locals := 111 }
abbrev mX10_leastPlace : gY := (cX10_leastPlace, RX10, 5, rX10_leastPlace)
def fX10_leastPlace_b91 (x2 : Int32) (x3 : Int32) (x4 : Int32) (M0 : gMem) : Option ((Int32 × Int32) ⊕ Int32) :=
  some (.inl (x3, x4 + (1 : Int32)))
set_option maxRecDepth 20000 in
theorem tX10_leastPlace_b91 {X : gX} {V : gEnv} {x2 : Int32} {x3 : Int32} {x4 : Int32} {M0 : gMem}  {o : ((Int32 × Int32) ⊕ Int32)} (h : fX10_leastPlace_b91 x2 x3 x4 M0 = some o) (Kc : ∀ s9, o = .inl s9 → gG X V mX10_leastPlace gShC M0 1 6 20 [(0, .ref (gAd V 0)), (2, .int x2), (3, .int s9.1), (4, .int s9.2)] []) (Kx : ∀ e9, o = .inr e9 → gG X V mX10_leastPlace gShC M0 1 6 97 [(3, .int e9)] []) : gG X V mX10_leastPlace gShC M0 1 6 91 [(0, .ref (gAd V 0)), (2, .int x2), (3, .int x3), (4, .int x4)] [] := by
  unfold fX10_leastPlace_b91 at h
  refine g_iinc (j := 3) (v := x4 + (1 : Int32)) (ls' := [(4, .int (x4 + (1 : Int32))), (0, .ref (gAd V 0)), (2, .int x2), (3, .int x3)]) rfl rfl (Nat.le_of_ble_eq_true rfl) rfl dX10_leastPlace_91 ?_
  refine g_goto (tgt := 20) rfl dX10_leastPlace_94 ?_
  cases h
  refine g_sub [1, 2, 3, 0] rfl ?_
  exact Kc (x3, x4 + (1 : Int32)) rfl
def fX10_leastPlace_l20 (x2 : Int32) (M0 : gMem) (x3 : Int32) (x4 : Int32) : Option ((Int32 × Int32) ⊕ Int32) :=
  if (M0.1 1 10) ≤ x4 then (some (.inr x3)) else (rI M0 5 60 x4).bind fun v6 => (rI M0 9 24 v6).bind fun v7 => if v7 = x2 then ((fX2_isInner 1 x4 M0).bind fun v9 => if v9 = 0 then ((rI M0 4 60 x4).bind fun v11 => (rI M0 9 24 v11).bind fun v12 => (nm (if x3 < (v12 + (1 : Int32)) then (v12 + (1 : Int32)) else x3)).bind fun v13 => fX10_leastPlace_b91 x2 v13 x4 M0) else fX10_leastPlace_b91 x2 x3 x4 M0) else fX10_leastPlace_b91 x2 x3 x4 M0
set_option maxRecDepth 20000 in
theorem tX10_leastPlace_l20 {X : gX} {V : gEnv} {x2 : Int32} {M0 : gMem} {x3 : Int32} {x4 : Int32}  {o : ((Int32 × Int32) ⊕ Int32)} (h : fX10_leastPlace_l20 x2 M0 x3 x4 = some o) (Kc : ∀ s9, o = .inl s9 → gG X V mX10_leastPlace gShC M0 1 6 20 [(0, .ref (gAd V 0)), (2, .int x2), (3, .int s9.1), (4, .int s9.2)] []) (Kx : ∀ e9, o = .inr e9 → gG X V mX10_leastPlace gShC M0 1 6 97 [(3, .int e9)] []) : gG X V mX10_leastPlace gShC M0 1 6 20 [(0, .ref (gAd V 0)), (2, .int x2), (3, .int x3), (4, .int x4)] [] := by
  unfold fX10_leastPlace_l20 at h
  refine g_iload 3 rfl dX10_leastPlace_20 ?_
  refine g_aload_n 0 rfl rfl dX10_leastPlace_22 ?_
  refine g_getR FX10_12 sC_0 rfl dX10_leastPlace_23 ?_
  refine g_getI FX10_146 sC_1 rfl dX10_leastPlace_26 ?_
  rcases g_ite h with ⟨c5, h⟩ | ⟨c5, h⟩
  · refine g_icmp_ge_t c5 (tgt := 97) rfl dX10_leastPlace_29 ?_
    cases h
    refine g_sub [2] rfl ?_
    exact Kx x3 rfl
  · refine g_icmp_ge_f c5 (tgt := 97) rfl dX10_leastPlace_29 ?_
    refine g_aload_n 0 rfl rfl dX10_leastPlace_32 ?_
    refine g_getR FX10_12 sC_0 rfl dX10_leastPlace_33 ?_
    refine g_getR FX10_180 sC_1 rfl dX10_leastPlace_36 ?_
    refine g_aload_n 0 rfl rfl dX10_leastPlace_39 ?_
    refine g_getR FX10_12 sC_0 rfl dX10_leastPlace_40 ?_
    refine g_getR FX10_246 sC_1 rfl dX10_leastPlace_43 ?_
    refine g_iload 3 rfl dX10_leastPlace_46 ?_
    obtain ⟨v6, ev6, h⟩ := g_bnd h
    refine g_iald' ev6 sC_5 dX10_leastPlace_48 ?_
    obtain ⟨v7, ev7, h⟩ := g_bnd h
    refine g_iald' ev7 sC_9 dX10_leastPlace_49 ?_
    refine g_iload_n 1 rfl rfl dX10_leastPlace_50 ?_
    rcases g_ite h with ⟨c8, h⟩ | ⟨c8, h⟩
    · refine g_icmp_ne_f c8 (tgt := 91) rfl dX10_leastPlace_51 ?_
      refine g_aload_n 0 rfl rfl dX10_leastPlace_54 ?_
      refine g_getR FX10_12 sC_0 rfl dX10_leastPlace_55 ?_
      refine g_iload 3 rfl dX10_leastPlace_58 ?_
      obtain ⟨v9, ev9, h⟩ := g_bnd h
      refine g_callV LX10_249 sC_1 rfl (kX2_isInner nC_1 ev9) rfl rfl (Nat.le_of_ble_eq_true rfl) ⟨Nat.le_of_ble_eq_true rfl, Nat.le_of_ble_eq_true rfl⟩ ⟨Nat.le_of_ble_eq_true rfl, Nat.le_of_ble_eq_true rfl⟩ dX10_leastPlace_60 rfl ?_
      rcases g_ite h with ⟨c10, h⟩ | ⟨c10, h⟩
      · refine g_if_ne_f c10 (tgt := 91) rfl dX10_leastPlace_63 ?_
        refine g_iload_n 2 rfl rfl dX10_leastPlace_66 ?_
        refine g_aload_n 0 rfl rfl dX10_leastPlace_67 ?_
        refine g_getR FX10_12 sC_0 rfl dX10_leastPlace_68 ?_
        refine g_getR FX10_180 sC_1 rfl dX10_leastPlace_71 ?_
        refine g_aload_n 0 rfl rfl dX10_leastPlace_74 ?_
        refine g_getR FX10_12 sC_0 rfl dX10_leastPlace_75 ?_
        refine g_getR FX10_243 sC_1 rfl dX10_leastPlace_78 ?_
        refine g_iload 3 rfl dX10_leastPlace_81 ?_
        obtain ⟨v11, ev11, h⟩ := g_bnd h
        refine g_iald' ev11 sC_4 dX10_leastPlace_83 ?_
        obtain ⟨v12, ev12, h⟩ := g_bnd h
        refine g_iald' ev12 sC_9 dX10_leastPlace_84 ?_
        refine g_iconst (v := 1) rfl dX10_leastPlace_85 ?_
        refine g_iadd dX10_leastPlace_86 ?_
        refine g_max ZmaxX10_299 Zmax_s Zm_i Zmax_c ⟨Nat.le_of_ble_eq_true rfl, Nat.le_of_ble_eq_true rfl⟩ ⟨Nat.le_of_ble_eq_true rfl, Nat.le_of_ble_eq_true rfl⟩ dX10_leastPlace_87 ?_
        obtain ⟨v13, ev13, h⟩ := g_bnd h
        refine g_nmI ev13 ?_
        refine g_istore_n (ls' := [(3, .int v13), (0, .ref (gAd V 0)), (2, .int x2), (4, .int x4)]) rfl (Nat.le_of_ble_eq_true rfl) rfl dX10_leastPlace_90 ?_
        refine g_sub [1, 2, 0, 3] rfl ?_
        exact tX10_leastPlace_b91  h Kc Kx
      · refine g_if_ne_t c10 (tgt := 91) rfl dX10_leastPlace_63 ?_
        exact tX10_leastPlace_b91  h Kc Kx
    · refine g_icmp_ne_t c8 (tgt := 91) rfl dX10_leastPlace_51 ?_
      exact tX10_leastPlace_b91  h Kc Kx
def fX10_leastPlace (x1 : Int32) (M0 : gMem) : Option (Int32 ⊕ Nat) :=
  (fX10_checkTask x1 M0).bind fun v1 => gSE v1 (fun u2 => (rI M0 9 24 x1).bind fun v4 => (gLoop (fun z9 => fX10_leastPlace_l20 v4 M0 z9.1 z9.2) gFu ((0 : Int32), (0 : Int32))).bind fun w14 => some (.inl w14)) (fun x3 => some (.inr x3))
set_option maxRecDepth 20000 in
theorem tX10_leastPlace {X : gX} {V : gEnv} {x1 : Int32} {M0 : gMem}  {o : (Int32 ⊕ Nat)} (h : fX10_leastPlace x1 M0 = some o) (O : gOX X V mX10_leastPlace gShC (some .int) (gOI o) M0) : gG X V mX10_leastPlace gShC M0 0 0 0 [(0, .ref (gAd V 0)), (1, .int x1)] [] := by
  unfold fX10_leastPlace at h
  refine g_aload_n 0 rfl rfl dX10_leastPlace_0 ?_
  refine g_iload_n 1 rfl rfl dX10_leastPlace_1 ?_
  obtain ⟨v1, ev1, h⟩ := g_bnd h
  rcases v1 with u2 | x3
  · have h := g_sl h
    refine g_callVX LX10_170 sC_0 rfl (kX10_checkTask O.2.2.1 ev1) rfl rfl (Nat.le_of_ble_eq_true rfl) ⟨Nat.le_of_ble_eq_true rfl, Nat.le_of_ble_eq_true rfl⟩ ⟨Nat.le_of_ble_eq_true rfl, Nat.le_of_ble_eq_true rfl⟩ dX10_leastPlace_2 rfl ?_
    refine g_aload_n 0 rfl rfl dX10_leastPlace_5 ?_
    refine g_getR FX10_12 sC_0 rfl dX10_leastPlace_6 ?_
    refine g_getR FX10_180 sC_1 rfl dX10_leastPlace_9 ?_
    refine g_iload_n 1 rfl rfl dX10_leastPlace_12 ?_
    obtain ⟨v4, ev4, h⟩ := g_bnd h
    refine g_iald' ev4 sC_9 dX10_leastPlace_13 ?_
    refine g_istore_n (ls' := [(2, .int v4), (0, .ref (gAd V 0)), (1, .int x1)]) rfl (Nat.le_of_ble_eq_true rfl) rfl dX10_leastPlace_14 ?_
    refine g_iconst (v := 0) rfl dX10_leastPlace_15 ?_
    refine g_istore_n (ls' := [(3, .int (0 : Int32)), (2, .int v4), (0, .ref (gAd V 0)), (1, .int x1)]) rfl (Nat.le_of_ble_eq_true rfl) rfl dX10_leastPlace_16 ?_
    refine g_iconst (v := 0) rfl dX10_leastPlace_17 ?_
    refine g_istore (ls' := [(4, .int (0 : Int32)), (3, .int (0 : Int32)), (2, .int v4), (0, .ref (gAd V 0)), (1, .int x1)]) (Nat.le_of_ble_eq_true rfl) rfl dX10_leastPlace_18 ?_
    obtain ⟨w14, ew14, h⟩ := g_bnd h
    refine g_sub [3, 2, 1, 0] rfl ?_
    have KX : gG X V mX10_leastPlace gShC M0 1 6 97 [(3, .int w14)] [] := by
      refine g_iload_n 0 rfl rfl dX10_leastPlace_97 ?_
      cases h
      exact g_iretX O ⟨Nat.le_of_ble_eq_true rfl, Nat.le_of_ble_eq_true rfl⟩ rfl dX10_leastPlace_98
    exact gLoop_Q ew14 (fun z9 => gG X V mX10_leastPlace gShC M0 1 6 20 [(0, .ref (gAd V 0)), (2, .int v4), (3, .int z9.1), (4, .int z9.2)] []) (fun s9 o9 hb9 hc9 hx9 => tX10_leastPlace_l20  hb9 hc9 (fun e9 he9 => by cases hx9 _ he9; exact KX))
  · have h := g_sr h
    cases h
    exact g_callVT LX10_170 sC_0 rfl O (kX10_checkTask O.2.2.1 ev1) rfl rfl (Nat.le_of_ble_eq_true rfl) ⟨Nat.le_of_ble_eq_true rfl, Nat.le_of_ble_eq_true rfl⟩ ⟨Nat.le_of_ble_eq_true rfl, Nat.le_of_ble_eq_true rfl⟩ dX10_leastPlace_2
theorem kX10_leastPlace {l : Launch} {V : gEnv} {M0 : gMem} {x1 : Int32} (hst : l.stackTraces = false)  {o : (Int32 ⊕ Nat)} (h : fX10_leastPlace x1 M0 = some o) : gMX l yX10_leastPlace cX10_leastPlace 5 (some .int) rX10_leastPlace V gShC [.ref (gAd V 0), .int x1] M0 (gOI o) M0 :=
  gMX.of hst (by decide) (Nat.le_of_ble_eq_true rfl) rfl (fun X _ O => tX10_leastPlace  h O)
theorem dX10_mostPlace_0 : decode cX10_mostPlace 0 = .ok (.aload_n 0, 1) := by decide +kernel
theorem dX10_mostPlace_1 : decode cX10_mostPlace 1 = .ok (.iload_n 1, 1) := by decide +kernel
theorem dX10_mostPlace_2 : decode cX10_mostPlace 2 = .ok (.invokevirtual 170, 3) := by decide +kernel
theorem dX10_mostPlace_5 : decode cX10_mostPlace 5 = .ok (.aload_n 0, 1) := by decide +kernel
theorem dX10_mostPlace_6 : decode cX10_mostPlace 6 = .ok (.getfield 12, 3) := by decide +kernel
theorem dX10_mostPlace_9 : decode cX10_mostPlace 9 = .ok (.getfield 180, 3) := by decide +kernel
theorem dX10_mostPlace_12 : decode cX10_mostPlace 12 = .ok (.iload_n 1, 1) := by decide +kernel
theorem dX10_mostPlace_13 : decode cX10_mostPlace 13 = .ok (.iaload, 1) := by decide +kernel
theorem dX10_mostPlace_14 : decode cX10_mostPlace 14 = .ok (.istore_n 2, 1) := by decide +kernel
theorem dX10_mostPlace_15 : decode cX10_mostPlace 15 = .ok (.aload_n 0, 1) := by decide +kernel
theorem dX10_mostPlace_16 : decode cX10_mostPlace 16 = .ok (.getfield 12, 3) := by decide +kernel
theorem dX10_mostPlace_19 : decode cX10_mostPlace 19 = .ok (.getfield 149, 3) := by decide +kernel
theorem dX10_mostPlace_22 : decode cX10_mostPlace 22 = .ok (.iconst 1, 1) := by decide +kernel
theorem dX10_mostPlace_23 : decode cX10_mostPlace 23 = .ok (.isub, 1) := by decide +kernel
theorem dX10_mostPlace_24 : decode cX10_mostPlace 24 = .ok (.istore_n 3, 1) := by decide +kernel
theorem dX10_mostPlace_25 : decode cX10_mostPlace 25 = .ok (.iconst 0, 1) := by decide +kernel
theorem dX10_mostPlace_26 : decode cX10_mostPlace 26 = .ok (.istore 4, 2) := by decide +kernel
theorem dX10_mostPlace_28 : decode cX10_mostPlace 28 = .ok (.iload 4, 2) := by decide +kernel
theorem dX10_mostPlace_30 : decode cX10_mostPlace 30 = .ok (.aload_n 0, 1) := by decide +kernel
theorem dX10_mostPlace_31 : decode cX10_mostPlace 31 = .ok (.getfield 12, 3) := by decide +kernel
theorem dX10_mostPlace_34 : decode cX10_mostPlace 34 = .ok (.getfield 146, 3) := by decide +kernel
theorem dX10_mostPlace_37 : decode cX10_mostPlace 37 = .ok (.if_icmp .ge 68, 3) := by decide +kernel
theorem dX10_mostPlace_40 : decode cX10_mostPlace 40 = .ok (.aload_n 0, 1) := by decide +kernel
theorem dX10_mostPlace_41 : decode cX10_mostPlace 41 = .ok (.getfield 12, 3) := by decide +kernel
theorem dX10_mostPlace_44 : decode cX10_mostPlace 44 = .ok (.getfield 180, 3) := by decide +kernel
theorem dX10_mostPlace_47 : decode cX10_mostPlace 47 = .ok (.aload_n 0, 1) := by decide +kernel
theorem dX10_mostPlace_48 : decode cX10_mostPlace 48 = .ok (.getfield 12, 3) := by decide +kernel
theorem dX10_mostPlace_51 : decode cX10_mostPlace 51 = .ok (.getfield 243, 3) := by decide +kernel
theorem dX10_mostPlace_54 : decode cX10_mostPlace 54 = .ok (.iload 4, 2) := by decide +kernel
theorem dX10_mostPlace_56 : decode cX10_mostPlace 56 = .ok (.iaload, 1) := by decide +kernel
theorem dX10_mostPlace_57 : decode cX10_mostPlace 57 = .ok (.iaload, 1) := by decide +kernel
theorem dX10_mostPlace_58 : decode cX10_mostPlace 58 = .ok (.iload_n 2, 1) := by decide +kernel
theorem dX10_mostPlace_59 : decode cX10_mostPlace 59 = .ok (.if_icmp .ne 40, 3) := by decide +kernel
theorem dX10_mostPlace_62 : decode cX10_mostPlace 62 = .ok (.aload_n 0, 1) := by decide +kernel
theorem dX10_mostPlace_63 : decode cX10_mostPlace 63 = .ok (.getfield 12, 3) := by decide +kernel
theorem dX10_mostPlace_66 : decode cX10_mostPlace 66 = .ok (.iload 4, 2) := by decide +kernel
theorem dX10_mostPlace_68 : decode cX10_mostPlace 68 = .ok (.invokevirtual 249, 3) := by decide +kernel
theorem dX10_mostPlace_71 : decode cX10_mostPlace 71 = .ok (.ifCond .ne 28, 3) := by decide +kernel
theorem dX10_mostPlace_74 : decode cX10_mostPlace 74 = .ok (.iload_n 3, 1) := by decide +kernel
theorem dX10_mostPlace_75 : decode cX10_mostPlace 75 = .ok (.aload_n 0, 1) := by decide +kernel
theorem dX10_mostPlace_76 : decode cX10_mostPlace 76 = .ok (.getfield 12, 3) := by decide +kernel
theorem dX10_mostPlace_79 : decode cX10_mostPlace 79 = .ok (.getfield 180, 3) := by decide +kernel
theorem dX10_mostPlace_82 : decode cX10_mostPlace 82 = .ok (.aload_n 0, 1) := by decide +kernel
theorem dX10_mostPlace_83 : decode cX10_mostPlace 83 = .ok (.getfield 12, 3) := by decide +kernel
theorem dX10_mostPlace_86 : decode cX10_mostPlace 86 = .ok (.getfield 246, 3) := by decide +kernel
theorem dX10_mostPlace_89 : decode cX10_mostPlace 89 = .ok (.iload 4, 2) := by decide +kernel
theorem dX10_mostPlace_91 : decode cX10_mostPlace 91 = .ok (.iaload, 1) := by decide +kernel
theorem dX10_mostPlace_92 : decode cX10_mostPlace 92 = .ok (.iaload, 1) := by decide +kernel
theorem dX10_mostPlace_93 : decode cX10_mostPlace 93 = .ok (.iconst 1, 1) := by decide +kernel
theorem dX10_mostPlace_94 : decode cX10_mostPlace 94 = .ok (.isub, 1) := by decide +kernel
theorem dX10_mostPlace_95 : decode cX10_mostPlace 95 = .ok (.invokestatic 304, 3) := by decide +kernel
theorem dX10_mostPlace_98 : decode cX10_mostPlace 98 = .ok (.istore_n 3, 1) := by decide +kernel
theorem dX10_mostPlace_99 : decode cX10_mostPlace 99 = .ok (.iinc 4 1, 3) := by decide +kernel
theorem dX10_mostPlace_102 : decode cX10_mostPlace 102 = .ok (.goto (-74), 3) := by decide +kernel
theorem dX10_mostPlace_105 : decode cX10_mostPlace 105 = .ok (.iload_n 3, 1) := by decide +kernel
theorem dX10_mostPlace_106 : decode cX10_mostPlace 106 = .ok (.ireturn, 1) := by decide +kernel
abbrev rX10_mostPlace : Room := { frames := 7, cells := 1, slots := 6, locals := 111 }
abbrev mX10_mostPlace : gY := (cX10_mostPlace, RX10, 5, rX10_mostPlace)
def fX10_mostPlace_b99 (x2 : Int32) (x3 : Int32) (x4 : Int32) (M0 : gMem) : Option ((Int32 × Int32) ⊕ Int32) :=
  some (.inl (x3, x4 + (1 : Int32)))
set_option maxRecDepth 20000 in
theorem tX10_mostPlace_b99 {X : gX} {V : gEnv} {x2 : Int32} {x3 : Int32} {x4 : Int32} {M0 : gMem}  {o : ((Int32 × Int32) ⊕ Int32)} (h : fX10_mostPlace_b99 x2 x3 x4 M0 = some o) (Kc : ∀ s9, o = .inl s9 → gG X V mX10_mostPlace gShC M0 1 6 28 [(0, .ref (gAd V 0)), (2, .int x2), (3, .int s9.1), (4, .int s9.2)] []) (Kx : ∀ e9, o = .inr e9 → gG X V mX10_mostPlace gShC M0 1 6 105 [(3, .int e9)] []) : gG X V mX10_mostPlace gShC M0 1 6 99 [(0, .ref (gAd V 0)), (2, .int x2), (3, .int x3), (4, .int x4)] [] := by
  unfold fX10_mostPlace_b99 at h
  refine g_iinc (j := 3) (v := x4 + (1 : Int32)) (ls' := [(4, .int (x4 + (1 : Int32))), (0, .ref (gAd V 0)), (2, .int x2), (3, .int x3)]) rfl rfl (Nat.le_of_ble_eq_true rfl) rfl dX10_mostPlace_99 ?_
  refine g_goto (tgt := 28) rfl dX10_mostPlace_102 ?_
  cases h
  refine g_sub [1, 2, 3, 0] rfl ?_
  exact Kc (x3, x4 + (1 : Int32)) rfl
def fX10_mostPlace_l28 (x2 : Int32) (M0 : gMem) (x3 : Int32) (x4 : Int32) : Option ((Int32 × Int32) ⊕ Int32) :=
  if (M0.1 1 10) ≤ x4 then (some (.inr x3)) else (rI M0 4 60 x4).bind fun v7 => (rI M0 9 24 v7).bind fun v8 => if v8 = x2 then ((fX2_isInner 1 x4 M0).bind fun v10 => if v10 = 0 then ((rI M0 5 60 x4).bind fun v12 => (rI M0 9 24 v12).bind fun v13 => (nm (if (v13 - (1 : Int32)) < x3 then (v13 - (1 : Int32)) else x3)).bind fun v14 => fX10_mostPlace_b99 x2 v14 x4 M0) else fX10_mostPlace_b99 x2 x3 x4 M0) else fX10_mostPlace_b99 x2 x3 x4 M0
set_option maxRecDepth 20000 in
theorem tX10_mostPlace_l28 {X : gX} {V : gEnv} {x2 : Int32} {M0 : gMem} {x3 : Int32} {x4 : Int32}  {o : ((Int32 × Int32) ⊕ Int32)} (h : fX10_mostPlace_l28 x2 M0 x3 x4 = some o) (Kc : ∀ s9, o = .inl s9 → gG X V mX10_mostPlace gShC M0 1 6 28 [(0, .ref (gAd V 0)), (2, .int x2), (3, .int s9.1), (4, .int s9.2)] []) (Kx : ∀ e9, o = .inr e9 → gG X V mX10_mostPlace gShC M0 1 6 105 [(3, .int e9)] []) : gG X V mX10_mostPlace gShC M0 1 6 28 [(0, .ref (gAd V 0)), (2, .int x2), (3, .int x3), (4, .int x4)] [] := by
  unfold fX10_mostPlace_l28 at h
  refine g_iload 3 rfl dX10_mostPlace_28 ?_
  refine g_aload_n 0 rfl rfl dX10_mostPlace_30 ?_
  refine g_getR FX10_12 sC_0 rfl dX10_mostPlace_31 ?_
  refine g_getI FX10_146 sC_1 rfl dX10_mostPlace_34 ?_
  rcases g_ite h with ⟨c6, h⟩ | ⟨c6, h⟩
  · refine g_icmp_ge_t c6 (tgt := 105) rfl dX10_mostPlace_37 ?_
    cases h
    refine g_sub [2] rfl ?_
    exact Kx x3 rfl
  · refine g_icmp_ge_f c6 (tgt := 105) rfl dX10_mostPlace_37 ?_
    refine g_aload_n 0 rfl rfl dX10_mostPlace_40 ?_
    refine g_getR FX10_12 sC_0 rfl dX10_mostPlace_41 ?_
    refine g_getR FX10_180 sC_1 rfl dX10_mostPlace_44 ?_
    refine g_aload_n 0 rfl rfl dX10_mostPlace_47 ?_
    refine g_getR FX10_12 sC_0 rfl dX10_mostPlace_48 ?_
    refine g_getR FX10_243 sC_1 rfl dX10_mostPlace_51 ?_
    refine g_iload 3 rfl dX10_mostPlace_54 ?_
    obtain ⟨v7, ev7, h⟩ := g_bnd h
    refine g_iald' ev7 sC_4 dX10_mostPlace_56 ?_
    obtain ⟨v8, ev8, h⟩ := g_bnd h
    refine g_iald' ev8 sC_9 dX10_mostPlace_57 ?_
    refine g_iload_n 1 rfl rfl dX10_mostPlace_58 ?_
    rcases g_ite h with ⟨c9, h⟩ | ⟨c9, h⟩
    · refine g_icmp_ne_f c9 (tgt := 99) rfl dX10_mostPlace_59 ?_
      refine g_aload_n 0 rfl rfl dX10_mostPlace_62 ?_
      refine g_getR FX10_12 sC_0 rfl dX10_mostPlace_63 ?_
      refine g_iload 3 rfl dX10_mostPlace_66 ?_
      obtain ⟨v10, ev10, h⟩ := g_bnd h
      refine g_callV LX10_249 sC_1 rfl (kX2_isInner nC_1 ev10) rfl rfl (Nat.le_of_ble_eq_true rfl) ⟨Nat.le_of_ble_eq_true rfl, Nat.le_of_ble_eq_true rfl⟩ ⟨Nat.le_of_ble_eq_true rfl, Nat.le_of_ble_eq_true rfl⟩ dX10_mostPlace_68 rfl ?_
      rcases g_ite h with ⟨c11, h⟩ | ⟨c11, h⟩
      · refine g_if_ne_f c11 (tgt := 99) rfl dX10_mostPlace_71 ?_
        refine g_iload_n 2 rfl rfl dX10_mostPlace_74 ?_
        refine g_aload_n 0 rfl rfl dX10_mostPlace_75 ?_
        refine g_getR FX10_12 sC_0 rfl dX10_mostPlace_76 ?_
        refine g_getR FX10_180 sC_1 rfl dX10_mostPlace_79 ?_
        refine g_aload_n 0 rfl rfl dX10_mostPlace_82 ?_
        refine g_getR FX10_12 sC_0 rfl dX10_mostPlace_83 ?_
        refine g_getR FX10_246 sC_1 rfl dX10_mostPlace_86 ?_
        refine g_iload 3 rfl dX10_mostPlace_89 ?_
        obtain ⟨v12, ev12, h⟩ := g_bnd h
        refine g_iald' ev12 sC_5 dX10_mostPlace_91 ?_
        obtain ⟨v13, ev13, h⟩ := g_bnd h
        refine g_iald' ev13 sC_9 dX10_mostPlace_92 ?_
        refine g_iconst (v := 1) rfl dX10_mostPlace_93 ?_
        refine g_isub dX10_mostPlace_94 ?_
        refine g_min ZminX10_304 Zmin_s Zm_i Zmin_c ⟨Nat.le_of_ble_eq_true rfl, Nat.le_of_ble_eq_true rfl⟩ ⟨Nat.le_of_ble_eq_true rfl, Nat.le_of_ble_eq_true rfl⟩ dX10_mostPlace_95 ?_
        obtain ⟨v14, ev14, h⟩ := g_bnd h
        refine g_nmI ev14 ?_
        refine g_istore_n (ls' := [(3, .int v14), (0, .ref (gAd V 0)), (2, .int x2), (4, .int x4)]) rfl (Nat.le_of_ble_eq_true rfl) rfl dX10_mostPlace_98 ?_
        refine g_sub [1, 2, 0, 3] rfl ?_
        exact tX10_mostPlace_b99  h Kc Kx
      · refine g_if_ne_t c11 (tgt := 99) rfl dX10_mostPlace_71 ?_
        exact tX10_mostPlace_b99  h Kc Kx
    · refine g_icmp_ne_t c9 (tgt := 99) rfl dX10_mostPlace_59 ?_
      exact tX10_mostPlace_b99  h Kc Kx
def fX10_mostPlace (x1 : Int32) (M0 : gMem) : Option (Int32 ⊕ Nat) :=
  (fX10_checkTask x1 M0).bind fun v1 => gSE v1 (fun u2 => (rI M0 9 24 x1).bind fun v4 => (nm ((M0.1 1 11) - (1 : Int32))).bind fun v5 => (gLoop (fun z9 => fX10_mostPlace_l28 v4 M0 z9.1 z9.2) gFu (v5, (0 : Int32))).bind fun w15 => some (.inl w15)) (fun x3 => some (.inr x3))
set_option maxRecDepth 20000 in
theorem tX10_mostPlace {X : gX} {V : gEnv} {x1 : Int32} {M0 : gMem}  {o : (Int32 ⊕ Nat)} (h : fX10_mostPlace x1 M0 = some o) (O : gOX X V mX10_mostPlace gShC (some .int) (gOI o) M0) : gG X V mX10_mostPlace gShC M0 0 0 0 [(0, .ref (gAd V 0)), (1, .int x1)] [] := by
  unfold fX10_mostPlace at h
  refine g_aload_n 0 rfl rfl dX10_mostPlace_0 ?_
  refine g_iload_n 1 rfl rfl dX10_mostPlace_1 ?_
  obtain ⟨v1, ev1, h⟩ := g_bnd h
  rcases v1 with u2 | x3
  · have h := g_sl h
    refine g_callVX LX10_170 sC_0 rfl (kX10_checkTask O.2.2.1 ev1) rfl rfl (Nat.le_of_ble_eq_true rfl) ⟨Nat.le_of_ble_eq_true rfl, Nat.le_of_ble_eq_true rfl⟩ ⟨Nat.le_of_ble_eq_true rfl, Nat.le_of_ble_eq_true rfl⟩ dX10_mostPlace_2 rfl ?_
    refine g_aload_n 0 rfl rfl dX10_mostPlace_5 ?_
    refine g_getR FX10_12 sC_0 rfl dX10_mostPlace_6 ?_
    refine g_getR FX10_180 sC_1 rfl dX10_mostPlace_9 ?_
    refine g_iload_n 1 rfl rfl dX10_mostPlace_12 ?_
    obtain ⟨v4, ev4, h⟩ := g_bnd h
    refine g_iald' ev4 sC_9 dX10_mostPlace_13 ?_
    refine g_istore_n (ls' := [(2, .int v4), (0, .ref (gAd V 0)), (1, .int x1)]) rfl (Nat.le_of_ble_eq_true rfl) rfl dX10_mostPlace_14 ?_
    refine g_aload_n 1 rfl rfl dX10_mostPlace_15 ?_
    refine g_getR FX10_12 sC_0 rfl dX10_mostPlace_16 ?_
    refine g_getI FX10_149 sC_1 rfl dX10_mostPlace_19 ?_
    refine g_iconst (v := 1) rfl dX10_mostPlace_22 ?_
    refine g_isub dX10_mostPlace_23 ?_
    obtain ⟨v5, ev5, h⟩ := g_bnd h
    refine g_nmI ev5 ?_
    refine g_istore_n (ls' := [(3, .int v5), (2, .int v4), (0, .ref (gAd V 0)), (1, .int x1)]) rfl (Nat.le_of_ble_eq_true rfl) rfl dX10_mostPlace_24 ?_
    refine g_iconst (v := 0) rfl dX10_mostPlace_25 ?_
    refine g_istore (ls' := [(4, .int (0 : Int32)), (3, .int v5), (2, .int v4), (0, .ref (gAd V 0)), (1, .int x1)]) (Nat.le_of_ble_eq_true rfl) rfl dX10_mostPlace_26 ?_
    obtain ⟨w15, ew15, h⟩ := g_bnd h
    refine g_sub [3, 2, 1, 0] rfl ?_
    have KX : gG X V mX10_mostPlace gShC M0 1 6 105 [(3, .int w15)] [] := by
      refine g_iload_n 0 rfl rfl dX10_mostPlace_105 ?_
      cases h
      exact g_iretX O ⟨Nat.le_of_ble_eq_true rfl, Nat.le_of_ble_eq_true rfl⟩ rfl dX10_mostPlace_106
    exact gLoop_Q ew15 (fun z9 => gG X V mX10_mostPlace gShC M0 1 6 28 [(0, .ref (gAd V 0)), (2, .int v4), (3, .int z9.1), (4, .int z9.2)] []) (fun s9 o9 hb9 hc9 hx9 => tX10_mostPlace_l28  hb9 hc9 (fun e9 he9 => by cases hx9 _ he9; exact KX))
  · have h := g_sr h
    cases h
    exact g_callVT LX10_170 sC_0 rfl O (kX10_checkTask O.2.2.1 ev1) rfl rfl (Nat.le_of_ble_eq_true rfl) ⟨Nat.le_of_ble_eq_true rfl, Nat.le_of_ble_eq_true rfl⟩ ⟨Nat.le_of_ble_eq_true rfl, Nat.le_of_ble_eq_true rfl⟩ dX10_mostPlace_2
theorem kX10_mostPlace {l : Launch} {V : gEnv} {M0 : gMem} {x1 : Int32} (hst : l.stackTraces = false)  {o : (Int32 ⊕ Nat)} (h : fX10_mostPlace x1 M0 = some o) : gMX l yX10_mostPlace cX10_mostPlace 5 (some .int) rX10_mostPlace V gShC [.ref (gAd V 0), .int x1] M0 (gOI o) M0 :=
  gMX.of hst (by decide) (Nat.le_of_ble_eq_true rfl) rfl (fun X _ O => tX10_mostPlace  h O)
theorem dX10_fresh_0 : decode cX10_fresh 0 = .ok (.iload_n 1, 1) := by decide +kernel
theorem dX10_fresh_1 : decode cX10_fresh 1 = .ok (.aload_n 0, 1) := by decide +kernel
theorem dX10_fresh_2 : decode cX10_fresh 2 = .ok (.getfield 12, 3) := by decide +kernel
theorem dX10_fresh_5 : decode cX10_fresh 5 = .ok (.getfield 149, 3) := by decide +kernel
theorem dX10_fresh_8 : decode cX10_fresh 8 = .ok (.invokestatic 218, 3) := by decide +kernel
theorem dX10_fresh_11 : decode cX10_fresh 11 = .ok (.aload_n 0, 1) := by decide +kernel
theorem dX10_fresh_12 : decode cX10_fresh 12 = .ok (.getfield 72, 3) := by decide +kernel
theorem dX10_fresh_15 : decode cX10_fresh 15 = .ok (.aload_n 0, 1) := by decide +kernel
theorem dX10_fresh_16 : decode cX10_fresh 16 = .ok (.getfield 12, 3) := by decide +kernel
theorem dX10_fresh_19 : decode cX10_fresh 19 = .ok (.invokevirtual 307, 3) := by decide +kernel
theorem dX10_fresh_22 : decode cX10_fresh 22 = .ok (.aload_n 0, 1) := by decide +kernel
theorem dX10_fresh_23 : decode cX10_fresh 23 = .ok (.getfield 72, 3) := by decide +kernel
theorem dX10_fresh_26 : decode cX10_fresh 26 = .ok (.getfield 310, 3) := by decide +kernel
theorem dX10_fresh_29 : decode cX10_fresh 29 = .ok (.getfield 314, 3) := by decide +kernel
theorem dX10_fresh_32 : decode cX10_fresh 32 = .ok (.iload_n 1, 1) := by decide +kernel
theorem dX10_fresh_33 : decode cX10_fresh 33 = .ok (.iaload, 1) := by decide +kernel
theorem dX10_fresh_34 : decode cX10_fresh 34 = .ok (.invokestatic 183, 3) := by decide +kernel
theorem dX10_fresh_37 : decode cX10_fresh 37 = .ok (.ireturn, 1) := by decide +kernel
abbrev rX10_fresh : Room := { frames := 7, cells := 1, slots := 6, locals := 111 }
abbrev mX10_fresh : gY := (cX10_fresh, RX10, 2, rX10_fresh)
def fX10_fresh (x1 : Int32) (M0 : gMem) : Option ((Int32 ⊕ Nat) × gMem) :=
  (fX10_checkPlace x1 (M0.1 1 11)).bind fun v1 => gSE v1 (fun u2 => (fX8_sortAll 1 M0).bind fun v4 => (rI v4 46 24 x1).bind fun v5 => (fX10_headOf v5).bind fun v6 => some (.inl v6, v4)) (fun x3 => some (.inr x3, M0))
set_option maxRecDepth 20000 in
theorem tX10_fresh {X : gX} {V : gEnv} {x1 : Int32} {M0 : gMem}  {o : ((Int32 ⊕ Nat) × gMem)} (h : fX10_fresh x1 M0 = some o) (O : gOX X V mX10_fresh gShC (some .int) (gOI o.1) o.2) : gG X V mX10_fresh gShC M0 0 0 0 [(0, .ref (gAd V 0)), (1, .int x1)] [] := by
  unfold fX10_fresh at h
  refine g_iload_n 1 rfl rfl dX10_fresh_0 ?_
  refine g_aload_n 0 rfl rfl dX10_fresh_1 ?_
  refine g_getR FX10_12 sC_0 rfl dX10_fresh_2 ?_
  refine g_getI FX10_149 sC_1 rfl dX10_fresh_5 ?_
  obtain ⟨v1, ev1, h⟩ := g_bnd h
  rcases v1 with u2 | x3
  · have h := g_sl h
    refine g_callSX LX10_218 (kX10_checkPlace O.2.2.1 ev1) rfl rfl (Nat.le_of_ble_eq_true rfl) ⟨Nat.le_of_ble_eq_true rfl, Nat.le_of_ble_eq_true rfl⟩ ⟨Nat.le_of_ble_eq_true rfl, Nat.le_of_ble_eq_true rfl⟩ dX10_fresh_8 rfl ?_
    refine g_aload_n 0 rfl rfl dX10_fresh_11 ?_
    refine g_getR FX10_72 sC_0 rfl dX10_fresh_12 ?_
    refine g_aload_n 0 rfl rfl dX10_fresh_15 ?_
    refine g_getR FX10_12 sC_0 rfl dX10_fresh_16 ?_
    obtain ⟨v4, ev4, h⟩ := g_bnd h
    refine g_callV LX10_307 sC_44 rfl (kX8_sortAll nC_1 ev4) rfl rfl (Nat.le_of_ble_eq_true rfl) ⟨Nat.le_of_ble_eq_true rfl, Nat.le_of_ble_eq_true rfl⟩ ⟨Nat.le_of_ble_eq_true rfl, Nat.le_of_ble_eq_true rfl⟩ dX10_fresh_19 rfl ?_
    refine g_aload_n 0 rfl rfl dX10_fresh_22 ?_
    refine g_getR FX10_72 sC_0 rfl dX10_fresh_23 ?_
    refine g_getR FX10_310 sC_44 rfl dX10_fresh_26 ?_
    refine g_getR FX10_314 sC_45 rfl dX10_fresh_29 ?_
    refine g_iload_n 1 rfl rfl dX10_fresh_32 ?_
    obtain ⟨v5, ev5, h⟩ := g_bnd h
    refine g_iald' ev5 sC_46 dX10_fresh_33 ?_
    obtain ⟨v6, ev6, h⟩ := g_bnd h
    refine g_callS LX10_183 (kX10_headOf ev6) rfl rfl (Nat.le_of_ble_eq_true rfl) ⟨Nat.le_of_ble_eq_true rfl, Nat.le_of_ble_eq_true rfl⟩ ⟨Nat.le_of_ble_eq_true rfl, Nat.le_of_ble_eq_true rfl⟩ dX10_fresh_34 rfl ?_
    cases h
    exact g_iretX O ⟨Nat.le_of_ble_eq_true rfl, Nat.le_of_ble_eq_true rfl⟩ rfl dX10_fresh_37
  · have h := g_sr h
    cases h
    exact g_callST LX10_218 O (kX10_checkPlace O.2.2.1 ev1) rfl rfl (Nat.le_of_ble_eq_true rfl) ⟨Nat.le_of_ble_eq_true rfl, Nat.le_of_ble_eq_true rfl⟩ ⟨Nat.le_of_ble_eq_true rfl, Nat.le_of_ble_eq_true rfl⟩ dX10_fresh_8
theorem kX10_fresh {l : Launch} {V : gEnv} {M0 : gMem} {x1 : Int32} (hst : l.stackTraces = false)  {o : ((Int32 ⊕ Nat) × gMem)} (h : fX10_fresh x1 M0 = some o) : gMX l yX10_fresh cX10_fresh 2 (some .int) rX10_fresh V gShC [.ref (gAd V 0), .int x1] M0 (gOI o.1) o.2 :=
  gMX.of hst (by decide) (Nat.le_of_ble_eq_true rfl) rfl (fun X _ O => tX10_fresh  h O)
theorem dX10_turned_0 : decode cX10_turned 0 = .ok (.aload_n 0, 1) := by decide +kernel
theorem dX10_turned_1 : decode cX10_turned 1 = .ok (.getfield 72, 3) := by decide +kernel
theorem dX10_turned_4 : decode cX10_turned 4 = .ok (.aload_n 0, 1) := by decide +kernel
theorem dX10_turned_5 : decode cX10_turned 5 = .ok (.getfield 12, 3) := by decide +kernel
theorem dX10_turned_8 : decode cX10_turned 8 = .ok (.invokevirtual 307, 3) := by decide +kernel
theorem dX10_turned_11 : decode cX10_turned 11 = .ok (.aload_n 0, 1) := by decide +kernel
theorem dX10_turned_12 : decode cX10_turned 12 = .ok (.getfield 72, 3) := by decide +kernel
theorem dX10_turned_15 : decode cX10_turned 15 = .ok (.aload_n 0, 1) := by decide +kernel
theorem dX10_turned_16 : decode cX10_turned 16 = .ok (.getfield 12, 3) := by decide +kernel
theorem dX10_turned_19 : decode cX10_turned 19 = .ok (.invokevirtual 318, 3) := by decide +kernel
theorem dX10_turned_22 : decode cX10_turned 22 = .ok (.ireturn, 1) := by decide +kernel
abbrev rX10_turned : Room := { frames := 4, cells := 0, slots := 0, locals := 96 }
abbrev mX10_turned : gY := (cX10_turned, RX10, 1, rX10_turned)
def fX10_turned (M0 : gMem) : Option (Int32 × gMem) :=
  (fX8_sortAll 1 M0).bind fun v1 => (fX8_turnedPairs 1 v1).bind fun v2 => some (v2, v1)
set_option maxRecDepth 20000 in
theorem tX10_turned {X : gX} {V : gEnv} {M0 : gMem}  {o : (Int32 × gMem)} (h : fX10_turned M0 = some o) (O : gO X V mX10_turned gShC (some .int) (some (.int o.1)) o.2) : gG X V mX10_turned gShC M0 0 0 0 [(0, .ref (gAd V 0))] [] := by
  unfold fX10_turned at h
  refine g_aload_n 0 rfl rfl dX10_turned_0 ?_
  refine g_getR FX10_72 sC_0 rfl dX10_turned_1 ?_
  refine g_aload_n 0 rfl rfl dX10_turned_4 ?_
  refine g_getR FX10_12 sC_0 rfl dX10_turned_5 ?_
  obtain ⟨v1, ev1, h⟩ := g_bnd h
  refine g_callV LX10_307 sC_44 rfl (kX8_sortAll nC_1 ev1) rfl rfl (Nat.le_of_ble_eq_true rfl) ⟨Nat.le_of_ble_eq_true rfl, Nat.le_of_ble_eq_true rfl⟩ ⟨Nat.le_of_ble_eq_true rfl, Nat.le_of_ble_eq_true rfl⟩ dX10_turned_8 rfl ?_
  refine g_aload_n 0 rfl rfl dX10_turned_11 ?_
  refine g_getR FX10_72 sC_0 rfl dX10_turned_12 ?_
  refine g_aload_n 0 rfl rfl dX10_turned_15 ?_
  refine g_getR FX10_12 sC_0 rfl dX10_turned_16 ?_
  obtain ⟨v2, ev2, h⟩ := g_bnd h
  refine g_callV LX10_318 sC_44 rfl (kX8_turnedPairs nC_1 ev2) rfl rfl (Nat.le_of_ble_eq_true rfl) ⟨Nat.le_of_ble_eq_true rfl, Nat.le_of_ble_eq_true rfl⟩ ⟨Nat.le_of_ble_eq_true rfl, Nat.le_of_ble_eq_true rfl⟩ dX10_turned_19 rfl ?_
  cases h
  exact g_iret O ⟨Nat.le_of_ble_eq_true rfl, Nat.le_of_ble_eq_true rfl⟩ rfl dX10_turned_22
theorem kX10_turned {l : Launch} {V : gEnv} {M0 : gMem}   {o : (Int32 × gMem)} (h : fX10_turned M0 = some o) : gM l yX10_turned cX10_turned 1 (some .int) rX10_turned V gShC [.ref (gAd V 0)] M0 (some (.int o.1)) o.2 :=
  gM.of (by decide) (Nat.le_of_ble_eq_true rfl) rfl (fun X _ O => tX10_turned  h O)
theorem dX10_length_0 : decode cX10_length 0 = .ok (.aload_n 0, 1) := by decide +kernel
theorem dX10_length_1 : decode cX10_length 1 = .ok (.getfield 79, 3) := by decide +kernel
theorem dX10_length_4 : decode cX10_length 4 = .ok (.aload_n 0, 1) := by decide +kernel
theorem dX10_length_5 : decode cX10_length 5 = .ok (.getfield 12, 3) := by decide +kernel
theorem dX10_length_8 : decode cX10_length 8 = .ok (.invokevirtual 227, 3) := by decide +kernel
theorem dX10_length_11 : decode cX10_length 11 = .ok (.aload_n 0, 1) := by decide +kernel
theorem dX10_length_12 : decode cX10_length 12 = .ok (.getfield 79, 3) := by decide +kernel
theorem dX10_length_15 : decode cX10_length 15 = .ok (.getfield 322, 3) := by decide +kernel
theorem dX10_length_18 : decode cX10_length 18 = .ok (.ireturn, 1) := by decide +kernel
abbrev rX10_length : Room := { frames := 3, cells := 0, slots := 0, locals := 76 }
abbrev mX10_length : gY := (cX10_length, RX10, 1, rX10_length)
def fX10_length (M0 : gMem) : Option (Int32 × gMem) :=
  (fX0_measure 1 M0).bind fun v1 => some (v1.1 50 4, v1)
set_option maxRecDepth 20000 in
theorem tX10_length {X : gX} {V : gEnv} {M0 : gMem}  {o : (Int32 × gMem)} (h : fX10_length M0 = some o) (O : gO X V mX10_length gShC (some .int) (some (.int o.1)) o.2) : gG X V mX10_length gShC M0 0 0 0 [(0, .ref (gAd V 0))] [] := by
  unfold fX10_length at h
  refine g_aload_n 0 rfl rfl dX10_length_0 ?_
  refine g_getR FX10_79 sC_0 rfl dX10_length_1 ?_
  refine g_aload_n 0 rfl rfl dX10_length_4 ?_
  refine g_getR FX10_12 sC_0 rfl dX10_length_5 ?_
  obtain ⟨v1, ev1, h⟩ := g_bnd h
  refine g_callV LX10_227 sC_50 rfl (kX0_measure nC_1 ev1) rfl rfl (Nat.le_of_ble_eq_true rfl) ⟨Nat.le_of_ble_eq_true rfl, Nat.le_of_ble_eq_true rfl⟩ ⟨Nat.le_of_ble_eq_true rfl, Nat.le_of_ble_eq_true rfl⟩ dX10_length_8 rfl ?_
  refine g_aload_n 0 rfl rfl dX10_length_11 ?_
  refine g_getR FX10_79 sC_0 rfl dX10_length_12 ?_
  refine g_getI FX10_322 sC_50 rfl dX10_length_15 ?_
  cases h
  exact g_iret O ⟨Nat.le_of_ble_eq_true rfl, Nat.le_of_ble_eq_true rfl⟩ rfl dX10_length_18
theorem kX10_length {l : Launch} {V : gEnv} {M0 : gMem}   {o : (Int32 × gMem)} (h : fX10_length M0 = some o) : gM l yX10_length cX10_length 1 (some .int) rX10_length V gShC [.ref (gAd V 0)] M0 (some (.int o.1)) o.2 :=
  gM.of (by decide) (Nat.le_of_ble_eq_true rfl) rfl (fun X _ O => tX10_length  h O)
theorem dX10_tight_0 : decode cX10_tight 0 = .ok (.aload_n 0, 1) := by decide +kernel
theorem dX10_tight_1 : decode cX10_tight 1 = .ok (.getfield 79, 3) := by decide +kernel
theorem dX10_tight_4 : decode cX10_tight 4 = .ok (.aload_n 0, 1) := by decide +kernel
theorem dX10_tight_5 : decode cX10_tight 5 = .ok (.getfield 12, 3) := by decide +kernel
theorem dX10_tight_8 : decode cX10_tight 8 = .ok (.invokevirtual 227, 3) := by decide +kernel
theorem dX10_tight_11 : decode cX10_tight 11 = .ok (.iconst 0, 1) := by decide +kernel
theorem dX10_tight_12 : decode cX10_tight 12 = .ok (.istore_n 1, 1) := by decide +kernel
theorem dX10_tight_13 : decode cX10_tight 13 = .ok (.iconst 0, 1) := by decide +kernel
theorem dX10_tight_14 : decode cX10_tight 14 = .ok (.istore_n 2, 1) := by decide +kernel
theorem dX10_tight_15 : decode cX10_tight 15 = .ok (.iload_n 2, 1) := by decide +kernel
theorem dX10_tight_16 : decode cX10_tight 16 = .ok (.aload_n 0, 1) := by decide +kernel
theorem dX10_tight_17 : decode cX10_tight 17 = .ok (.getfield 12, 3) := by decide +kernel
theorem dX10_tight_20 : decode cX10_tight 20 = .ok (.getfield 149, 3) := by decide +kernel
theorem dX10_tight_23 : decode cX10_tight 23 = .ok (.if_icmp .ge 37, 3) := by decide +kernel
theorem dX10_tight_26 : decode cX10_tight 26 = .ok (.aload_n 0, 1) := by decide +kernel
theorem dX10_tight_27 : decode cX10_tight 27 = .ok (.getfield 79, 3) := by decide +kernel
theorem dX10_tight_30 : decode cX10_tight 30 = .ok (.iload_n 2, 1) := by decide +kernel
theorem dX10_tight_31 : decode cX10_tight 31 = .ok (.invokevirtual 237, 3) := by decide +kernel
theorem dX10_tight_34 : decode cX10_tight 34 = .ok (.ifCond .ne 20, 3) := by decide +kernel
theorem dX10_tight_37 : decode cX10_tight 37 = .ok (.iload_n 1, 1) := by decide +kernel
theorem dX10_tight_38 : decode cX10_tight 38 = .ok (.iconst 1, 1) := by decide +kernel
theorem dX10_tight_39 : decode cX10_tight 39 = .ok (.aload_n 0, 1) := by decide +kernel
theorem dX10_tight_40 : decode cX10_tight 40 = .ok (.getfield 12, 3) := by decide +kernel
theorem dX10_tight_43 : decode cX10_tight 43 = .ok (.getfield 177, 3) := by decide +kernel
theorem dX10_tight_46 : decode cX10_tight 46 = .ok (.iload_n 2, 1) := by decide +kernel
theorem dX10_tight_47 : decode cX10_tight 47 = .ok (.iaload, 1) := by decide +kernel
theorem dX10_tight_48 : decode cX10_tight 48 = .ok (.invokestatic 183, 3) := by decide +kernel
theorem dX10_tight_51 : decode cX10_tight 51 = .ok (.ishl, 1) := by decide +kernel
theorem dX10_tight_52 : decode cX10_tight 52 = .ok (.ior, 1) := by decide +kernel
theorem dX10_tight_53 : decode cX10_tight 53 = .ok (.istore_n 1, 1) := by decide +kernel
theorem dX10_tight_54 : decode cX10_tight 54 = .ok (.iinc 2 1, 3) := by decide +kernel
theorem dX10_tight_57 : decode cX10_tight 57 = .ok (.goto (-42), 3) := by decide +kernel
theorem dX10_tight_60 : decode cX10_tight 60 = .ok (.iload_n 1, 1) := by decide +kernel
theorem dX10_tight_61 : decode cX10_tight 61 = .ok (.ireturn, 1) := by decide +kernel
abbrev rX10_tight : Room := { frames := 3, cells := 0, slots := 0, locals := 76 }
abbrev mX10_tight : gY := (cX10_tight, RX10, 3, rX10_tight)
def fX10_tight_b54 (x1 : Int32) (x2 : Int32) (M0 : gMem) : Option ((Int32 × Int32) ⊕ Int32) :=
  some (.inl (x1, x2 + (1 : Int32)))
set_option maxRecDepth 20000 in
theorem tX10_tight_b54 {X : gX} {V : gEnv} {x1 : Int32} {x2 : Int32} {M0 : gMem}  {o : ((Int32 × Int32) ⊕ Int32)} (h : fX10_tight_b54 x1 x2 M0 = some o) (Kc : ∀ s9, o = .inl s9 → gG X V mX10_tight gShC M0 0 0 15 [(0, .ref (gAd V 0)), (1, .int s9.1), (2, .int s9.2)] []) (Kx : ∀ e9, o = .inr e9 → gG X V mX10_tight gShC M0 0 0 60 [(1, .int e9)] []) : gG X V mX10_tight gShC M0 0 0 54 [(0, .ref (gAd V 0)), (1, .int x1), (2, .int x2)] [] := by
  unfold fX10_tight_b54 at h
  refine g_iinc (j := 2) (v := x2 + (1 : Int32)) (ls' := [(2, .int (x2 + (1 : Int32))), (0, .ref (gAd V 0)), (1, .int x1)]) rfl rfl (Nat.le_of_ble_eq_true rfl) rfl dX10_tight_54 ?_
  refine g_goto (tgt := 15) rfl dX10_tight_57 ?_
  cases h
  refine g_sub [1, 2, 0] rfl ?_
  exact Kc (x1, x2 + (1 : Int32)) rfl
def fX10_tight_l15 (M0 : gMem) (x1 : Int32) (x2 : Int32) : Option ((Int32 × Int32) ⊕ Int32) :=
  if (M0.1 1 11) ≤ x2 then (some (.inr x1)) else (fX0_slackAt x2 M0).bind fun v3 => if v3 = 0 then ((rI M0 8 24 x2).bind fun v5 => (fX10_headOf v5).bind fun v6 => (nm (x1 ||| ((1 : Int32) <<< (v6 &&& 31)))).bind fun v7 => fX10_tight_b54 v7 x2 M0) else fX10_tight_b54 x1 x2 M0
set_option maxRecDepth 20000 in
theorem tX10_tight_l15 {X : gX} {V : gEnv} {M0 : gMem} {x1 : Int32} {x2 : Int32}  {o : ((Int32 × Int32) ⊕ Int32)} (h : fX10_tight_l15 M0 x1 x2 = some o) (Kc : ∀ s9, o = .inl s9 → gG X V mX10_tight gShC M0 0 0 15 [(0, .ref (gAd V 0)), (1, .int s9.1), (2, .int s9.2)] []) (Kx : ∀ e9, o = .inr e9 → gG X V mX10_tight gShC M0 0 0 60 [(1, .int e9)] []) : gG X V mX10_tight gShC M0 0 0 15 [(0, .ref (gAd V 0)), (1, .int x1), (2, .int x2)] [] := by
  unfold fX10_tight_l15 at h
  refine g_iload_n 2 rfl rfl dX10_tight_15 ?_
  refine g_aload_n 0 rfl rfl dX10_tight_16 ?_
  refine g_getR FX10_12 sC_0 rfl dX10_tight_17 ?_
  refine g_getI FX10_149 sC_1 rfl dX10_tight_20 ?_
  rcases g_ite h with ⟨c2, h⟩ | ⟨c2, h⟩
  · refine g_icmp_ge_t c2 (tgt := 60) rfl dX10_tight_23 ?_
    cases h
    refine g_sub [1] rfl ?_
    exact Kx x1 rfl
  · refine g_icmp_ge_f c2 (tgt := 60) rfl dX10_tight_23 ?_
    refine g_aload_n 0 rfl rfl dX10_tight_26 ?_
    refine g_getR FX10_79 sC_0 rfl dX10_tight_27 ?_
    refine g_iload_n 2 rfl rfl dX10_tight_30 ?_
    obtain ⟨v3, ev3, h⟩ := g_bnd h
    refine g_callV LX10_237 sC_50 rfl (kX0_slackAt ev3) rfl rfl (Nat.le_of_ble_eq_true rfl) ⟨Nat.le_of_ble_eq_true rfl, Nat.le_of_ble_eq_true rfl⟩ ⟨Nat.le_of_ble_eq_true rfl, Nat.le_of_ble_eq_true rfl⟩ dX10_tight_31 rfl ?_
    rcases g_ite h with ⟨c4, h⟩ | ⟨c4, h⟩
    · refine g_if_ne_f c4 (tgt := 54) rfl dX10_tight_34 ?_
      refine g_iload_n 1 rfl rfl dX10_tight_37 ?_
      refine g_iconst (v := 1) rfl dX10_tight_38 ?_
      refine g_aload_n 0 rfl rfl dX10_tight_39 ?_
      refine g_getR FX10_12 sC_0 rfl dX10_tight_40 ?_
      refine g_getR FX10_177 sC_1 rfl dX10_tight_43 ?_
      refine g_iload_n 2 rfl rfl dX10_tight_46 ?_
      obtain ⟨v5, ev5, h⟩ := g_bnd h
      refine g_iald' ev5 sC_8 dX10_tight_47 ?_
      obtain ⟨v6, ev6, h⟩ := g_bnd h
      refine g_callS LX10_183 (kX10_headOf ev6) rfl rfl (Nat.le_of_ble_eq_true rfl) ⟨Nat.le_of_ble_eq_true rfl, Nat.le_of_ble_eq_true rfl⟩ ⟨Nat.le_of_ble_eq_true rfl, Nat.le_of_ble_eq_true rfl⟩ dX10_tight_48 rfl ?_
      refine g_ishl dX10_tight_51 ?_
      refine g_ior dX10_tight_52 ?_
      obtain ⟨v7, ev7, h⟩ := g_bnd h
      refine g_nmI ev7 ?_
      refine g_istore_n (ls' := [(1, .int v7), (0, .ref (gAd V 0)), (2, .int x2)]) rfl (Nat.le_of_ble_eq_true rfl) rfl dX10_tight_53 ?_
      refine g_sub [1, 0, 2] rfl ?_
      exact tX10_tight_b54  h Kc Kx
    · refine g_if_ne_t c4 (tgt := 54) rfl dX10_tight_34 ?_
      exact tX10_tight_b54  h Kc Kx
def fX10_tight (M0 : gMem) : Option (Int32 × gMem) :=
  (fX0_measure 1 M0).bind fun v1 => (gLoop (fun z9 => fX10_tight_l15 v1 z9.1 z9.2) gFu ((0 : Int32), (0 : Int32))).bind fun w8 => some (w8, v1)
set_option maxRecDepth 20000 in
theorem tX10_tight {X : gX} {V : gEnv} {M0 : gMem}  {o : (Int32 × gMem)} (h : fX10_tight M0 = some o) (O : gO X V mX10_tight gShC (some .int) (some (.int o.1)) o.2) : gG X V mX10_tight gShC M0 0 0 0 [(0, .ref (gAd V 0))] [] := by
  unfold fX10_tight at h
  refine g_aload_n 0 rfl rfl dX10_tight_0 ?_
  refine g_getR FX10_79 sC_0 rfl dX10_tight_1 ?_
  refine g_aload_n 0 rfl rfl dX10_tight_4 ?_
  refine g_getR FX10_12 sC_0 rfl dX10_tight_5 ?_
  obtain ⟨v1, ev1, h⟩ := g_bnd h
  refine g_callV LX10_227 sC_50 rfl (kX0_measure nC_1 ev1) rfl rfl (Nat.le_of_ble_eq_true rfl) ⟨Nat.le_of_ble_eq_true rfl, Nat.le_of_ble_eq_true rfl⟩ ⟨Nat.le_of_ble_eq_true rfl, Nat.le_of_ble_eq_true rfl⟩ dX10_tight_8 rfl ?_
  refine g_iconst (v := 0) rfl dX10_tight_11 ?_
  refine g_istore_n (ls' := [(1, .int (0 : Int32)), (0, .ref (gAd V 0))]) rfl (Nat.le_of_ble_eq_true rfl) rfl dX10_tight_12 ?_
  refine g_iconst (v := 0) rfl dX10_tight_13 ?_
  refine g_istore_n (ls' := [(2, .int (0 : Int32)), (1, .int (0 : Int32)), (0, .ref (gAd V 0))]) rfl (Nat.le_of_ble_eq_true rfl) rfl dX10_tight_14 ?_
  obtain ⟨w8, ew8, h⟩ := g_bnd h
  refine g_sub [2, 1, 0] rfl ?_
  have KX : gG X V mX10_tight gShC v1 0 0 60 [(1, .int w8)] [] := by
    refine g_iload_n 0 rfl rfl dX10_tight_60 ?_
    cases h
    exact g_iret O ⟨Nat.le_of_ble_eq_true rfl, Nat.le_of_ble_eq_true rfl⟩ rfl dX10_tight_61
  exact gLoop_Q ew8 (fun z9 => gG X V mX10_tight gShC v1 0 0 15 [(0, .ref (gAd V 0)), (1, .int z9.1), (2, .int z9.2)] []) (fun s9 o9 hb9 hc9 hx9 => tX10_tight_l15  hb9 hc9 (fun e9 he9 => by cases hx9 _ he9; exact KX))
theorem kX10_tight {l : Launch} {V : gEnv} {M0 : gMem}   {o : (Int32 × gMem)} (h : fX10_tight M0 = some o) : gM l yX10_tight cX10_tight 3 (some .int) rX10_tight V gShC [.ref (gAd V 0)] M0 (some (.int o.1)) o.2 :=
  gM.of (by decide) (Nat.le_of_ble_eq_true rfl) rfl (fun X _ O => tX10_tight  h O)
theorem dX10_gap_0 : decode cX10_gap 0 = .ok (.aload_n 0, 1) := by decide +kernel
theorem dX10_gap_1 : decode cX10_gap 1 = .ok (.getfield 12, 3) := by decide +kernel
theorem dX10_gap_4 : decode cX10_gap 4 = .ok (.invokevirtual 325, 3) := by decide +kernel
theorem dX10_gap_7 : decode cX10_gap 7 = .ok (.aload_n 0, 1) := by decide +kernel
theorem dX10_gap_8 : decode cX10_gap 8 = .ok (.getfield 12, 3) := by decide +kernel
theorem dX10_gap_11 : decode cX10_gap 11 = .ok (.invokevirtual 328, 3) := by decide +kernel
theorem dX10_gap_14 : decode cX10_gap 14 = .ok (.iadd, 1) := by decide +kernel
theorem dX10_gap_15 : decode cX10_gap 15 = .ok (.ireturn, 1) := by decide +kernel
abbrev rX10_gap : Room := { frames := 2, cells := 0, slots := 0, locals := 45 }
abbrev mX10_gap : gY := (cX10_gap, RX10, 1, rX10_gap)
def fX10_gap (M0 : gMem) : Option Int32 :=
  (fX2_wrongArrows 1 M0).bind fun v1 => (fX2_wrongPairs 1 M0).bind fun v2 => some (v1 + v2)
set_option maxRecDepth 20000 in
theorem tX10_gap {X : gX} {V : gEnv} {M0 : gMem}  {o : Int32} (h : fX10_gap M0 = some o) (O : gO X V mX10_gap gShC (some .int) (some (.int o)) M0) : gG X V mX10_gap gShC M0 0 0 0 [(0, .ref (gAd V 0))] [] := by
  unfold fX10_gap at h
  refine g_aload_n 0 rfl rfl dX10_gap_0 ?_
  refine g_getR FX10_12 sC_0 rfl dX10_gap_1 ?_
  obtain ⟨v1, ev1, h⟩ := g_bnd h
  refine g_callV LX10_325 sC_1 rfl (kX2_wrongArrows nC_1 ev1) rfl rfl (Nat.le_of_ble_eq_true rfl) ⟨Nat.le_of_ble_eq_true rfl, Nat.le_of_ble_eq_true rfl⟩ ⟨Nat.le_of_ble_eq_true rfl, Nat.le_of_ble_eq_true rfl⟩ dX10_gap_4 rfl ?_
  refine g_aload_n 0 rfl rfl dX10_gap_7 ?_
  refine g_getR FX10_12 sC_0 rfl dX10_gap_8 ?_
  obtain ⟨v2, ev2, h⟩ := g_bnd h
  refine g_callV LX10_328 sC_1 rfl (kX2_wrongPairs nC_1 ev2) rfl rfl (Nat.le_of_ble_eq_true rfl) ⟨Nat.le_of_ble_eq_true rfl, Nat.le_of_ble_eq_true rfl⟩ ⟨Nat.le_of_ble_eq_true rfl, Nat.le_of_ble_eq_true rfl⟩ dX10_gap_11 rfl ?_
  refine g_iadd dX10_gap_14 ?_
  cases h
  exact g_iret O ⟨Nat.le_of_ble_eq_true rfl, Nat.le_of_ble_eq_true rfl⟩ rfl dX10_gap_15
theorem kX10_gap {l : Launch} {V : gEnv} {M0 : gMem}   {o : Int32} (h : fX10_gap M0 = some o) : gM l yX10_gap cX10_gap 1 (some .int) rX10_gap V gShC [.ref (gAd V 0)] M0 (some (.int o)) M0 :=
  gM.of (by decide) (Nat.le_of_ble_eq_true rfl) rfl (fun X _ O => tX10_gap  h O)
theorem dX10_weakest_0 : decode cX10_weakest 0 = .ok (.iconst (-1), 1) := by decide +kernel
theorem dX10_weakest_1 : decode cX10_weakest 1 = .ok (.istore_n 1, 1) := by decide +kernel
theorem dX10_weakest_2 : decode cX10_weakest 2 = .ok (.iconst 1, 1) := by decide +kernel
theorem dX10_weakest_3 : decode cX10_weakest 3 = .ok (.istore_n 2, 1) := by decide +kernel
theorem dX10_weakest_4 : decode cX10_weakest 4 = .ok (.iconst 0, 1) := by decide +kernel
theorem dX10_weakest_5 : decode cX10_weakest 5 = .ok (.istore_n 3, 1) := by decide +kernel
theorem dX10_weakest_6 : decode cX10_weakest 6 = .ok (.iload_n 3, 1) := by decide +kernel
theorem dX10_weakest_7 : decode cX10_weakest 7 = .ok (.aload_n 0, 1) := by decide +kernel
theorem dX10_weakest_8 : decode cX10_weakest 8 = .ok (.getfield 12, 3) := by decide +kernel
theorem dX10_weakest_11 : decode cX10_weakest 11 = .ok (.getfield 146, 3) := by decide +kernel
theorem dX10_weakest_14 : decode cX10_weakest 14 = .ok (.if_icmp .ge 56, 3) := by decide +kernel
theorem dX10_weakest_17 : decode cX10_weakest 17 = .ok (.aload_n 0, 1) := by decide +kernel
theorem dX10_weakest_18 : decode cX10_weakest 18 = .ok (.getfield 12, 3) := by decide +kernel
theorem dX10_weakest_21 : decode cX10_weakest 21 = .ok (.iload_n 3, 1) := by decide +kernel
theorem dX10_weakest_22 : decode cX10_weakest 22 = .ok (.invokevirtual 249, 3) := by decide +kernel
theorem dX10_weakest_25 : decode cX10_weakest 25 = .ok (.ifCond .eq 39, 3) := by decide +kernel
theorem dX10_weakest_28 : decode cX10_weakest 28 = .ok (.aload_n 0, 1) := by decide +kernel
theorem dX10_weakest_29 : decode cX10_weakest 29 = .ok (.getfield 12, 3) := by decide +kernel
theorem dX10_weakest_32 : decode cX10_weakest 32 = .ok (.iload_n 3, 1) := by decide +kernel
theorem dX10_weakest_33 : decode cX10_weakest 33 = .ok (.invokevirtual 331, 3) := by decide +kernel
theorem dX10_weakest_36 : decode cX10_weakest 36 = .ok (.ifCond .ne 28, 3) := by decide +kernel
theorem dX10_weakest_39 : decode cX10_weakest 39 = .ok (.aload_n 0, 1) := by decide +kernel
theorem dX10_weakest_40 : decode cX10_weakest 40 = .ok (.getfield 72, 3) := by decide +kernel
theorem dX10_weakest_43 : decode cX10_weakest 43 = .ok (.aload_n 0, 1) := by decide +kernel
theorem dX10_weakest_44 : decode cX10_weakest 44 = .ok (.getfield 12, 3) := by decide +kernel
theorem dX10_weakest_47 : decode cX10_weakest 47 = .ok (.iload_n 3, 1) := by decide +kernel
theorem dX10_weakest_48 : decode cX10_weakest 48 = .ok (.invokevirtual 334, 3) := by decide +kernel
theorem dX10_weakest_51 : decode cX10_weakest 51 = .ok (.istore 4, 2) := by decide +kernel
theorem dX10_weakest_53 : decode cX10_weakest 53 = .ok (.iload 4, 2) := by decide +kernel
theorem dX10_weakest_55 : decode cX10_weakest 55 = .ok (.iload_n 2, 1) := by decide +kernel
theorem dX10_weakest_56 : decode cX10_weakest 56 = .ok (.if_icmp .le 8, 3) := by decide +kernel
theorem dX10_weakest_59 : decode cX10_weakest 59 = .ok (.iload_n 3, 1) := by decide +kernel
theorem dX10_weakest_60 : decode cX10_weakest 60 = .ok (.istore_n 1, 1) := by decide +kernel
theorem dX10_weakest_61 : decode cX10_weakest 61 = .ok (.iload 4, 2) := by decide +kernel
theorem dX10_weakest_63 : decode cX10_weakest 63 = .ok (.istore_n 2, 1) := by decide +kernel
theorem dX10_weakest_64 : decode cX10_weakest 64 = .ok (.iinc 3 1, 3) := by decide +kernel
theorem dX10_weakest_67 : decode cX10_weakest 67 = .ok (.goto (-61), 3) := by decide +kernel
theorem dX10_weakest_70 : decode cX10_weakest 70 = .ok (.iload_n 1, 1) := by decide +kernel
theorem dX10_weakest_71 : decode cX10_weakest 71 = .ok (.ireturn, 1) := by decide +kernel
abbrev rX10_weakest : Room := { frames := 3, cells := 0, slots := 0, locals := 71 }
abbrev mX10_weakest : gY := (cX10_weakest, RX10, 5, rX10_weakest)
def fX10_weakest_b64 (x1 : Int32) (x2 : Int32) (x3 : Int32) (M0 : gMem) : Option ((Int32 × Int32 × Int32 × gMem) ⊕ (Int32 × gMem)) :=
  some (.inl (x1, x2, x3 + (1 : Int32), M0))
set_option maxRecDepth 20000 in
theorem tX10_weakest_b64 {X : gX} {V : gEnv} {x1 : Int32} {x2 : Int32} {x3 : Int32} {M0 : gMem}  {o : ((Int32 × Int32 × Int32 × gMem) ⊕ (Int32 × gMem))} (h : fX10_weakest_b64 x1 x2 x3 M0 = some o) (Kc : ∀ s9, o = .inl s9 → gG X V mX10_weakest gShC s9.2.2.2 0 0 6 [(0, .ref (gAd V 0)), (1, .int s9.1), (2, .int s9.2.1), (3, .int s9.2.2.1)] []) (Kx : ∀ e9, o = .inr e9 → gG X V mX10_weakest gShC e9.2 0 0 70 [(1, .int e9.1)] []) : gG X V mX10_weakest gShC M0 0 0 64 [(0, .ref (gAd V 0)), (1, .int x1), (2, .int x2), (3, .int x3)] [] := by
  unfold fX10_weakest_b64 at h
  refine g_iinc (j := 3) (v := x3 + (1 : Int32)) (ls' := [(3, .int (x3 + (1 : Int32))), (0, .ref (gAd V 0)), (1, .int x1), (2, .int x2)]) rfl rfl (Nat.le_of_ble_eq_true rfl) rfl dX10_weakest_64 ?_
  refine g_goto (tgt := 6) rfl dX10_weakest_67 ?_
  cases h
  refine g_sub [1, 2, 3, 0] rfl ?_
  exact Kc (x1, x2, x3 + (1 : Int32), M0) rfl
def fX10_weakest_l6 (x1 : Int32) (x2 : Int32) (x3 : Int32) (M0 : gMem) : Option ((Int32 × Int32 × Int32 × gMem) ⊕ (Int32 × gMem)) :=
  if (M0.1 1 10) ≤ x3 then (some (.inr (x1, M0))) else (fX2_isInner 1 x3 M0).bind fun v2 => if v2 = 0 then (fX10_weakest_b64 x1 x2 x3 M0) else (fX2_isNeedless 1 x3 M0).bind fun v4 => if v4 = 0 then ((fX8_partsWithout 1 x3 M0).bind fun v6 => if v6.1 ≤ x2 then (fX10_weakest_b64 x1 x2 x3 v6.2) else fX10_weakest_b64 x3 v6.1 x3 v6.2) else fX10_weakest_b64 x1 x2 x3 M0
set_option maxRecDepth 20000 in
theorem tX10_weakest_l6 {X : gX} {V : gEnv} {x1 : Int32} {x2 : Int32} {x3 : Int32} {M0 : gMem}  {o : ((Int32 × Int32 × Int32 × gMem) ⊕ (Int32 × gMem))} (h : fX10_weakest_l6 x1 x2 x3 M0 = some o) (Kc : ∀ s9, o = .inl s9 → gG X V mX10_weakest gShC s9.2.2.2 0 0 6 [(0, .ref (gAd V 0)), (1, .int s9.1), (2, .int s9.2.1), (3, .int s9.2.2.1)] []) (Kx : ∀ e9, o = .inr e9 → gG X V mX10_weakest gShC e9.2 0 0 70 [(1, .int e9.1)] []) : gG X V mX10_weakest gShC M0 0 0 6 [(0, .ref (gAd V 0)), (1, .int x1), (2, .int x2), (3, .int x3)] [] := by
  unfold fX10_weakest_l6 at h
  refine g_iload_n 3 rfl rfl dX10_weakest_6 ?_
  refine g_aload_n 0 rfl rfl dX10_weakest_7 ?_
  refine g_getR FX10_12 sC_0 rfl dX10_weakest_8 ?_
  refine g_getI FX10_146 sC_1 rfl dX10_weakest_11 ?_
  rcases g_ite h with ⟨c1, h⟩ | ⟨c1, h⟩
  · refine g_icmp_ge_t c1 (tgt := 70) rfl dX10_weakest_14 ?_
    cases h
    refine g_sub [1] rfl ?_
    exact Kx (x1, M0) rfl
  · refine g_icmp_ge_f c1 (tgt := 70) rfl dX10_weakest_14 ?_
    refine g_aload_n 0 rfl rfl dX10_weakest_17 ?_
    refine g_getR FX10_12 sC_0 rfl dX10_weakest_18 ?_
    refine g_iload_n 3 rfl rfl dX10_weakest_21 ?_
    obtain ⟨v2, ev2, h⟩ := g_bnd h
    refine g_callV LX10_249 sC_1 rfl (kX2_isInner nC_1 ev2) rfl rfl (Nat.le_of_ble_eq_true rfl) ⟨Nat.le_of_ble_eq_true rfl, Nat.le_of_ble_eq_true rfl⟩ ⟨Nat.le_of_ble_eq_true rfl, Nat.le_of_ble_eq_true rfl⟩ dX10_weakest_22 rfl ?_
    rcases g_ite h with ⟨c3, h⟩ | ⟨c3, h⟩
    · refine g_if_eq_t c3 (tgt := 64) rfl dX10_weakest_25 ?_
      exact tX10_weakest_b64  h Kc Kx
    · refine g_if_eq_f c3 (tgt := 64) rfl dX10_weakest_25 ?_
      refine g_aload_n 0 rfl rfl dX10_weakest_28 ?_
      refine g_getR FX10_12 sC_0 rfl dX10_weakest_29 ?_
      refine g_iload_n 3 rfl rfl dX10_weakest_32 ?_
      obtain ⟨v4, ev4, h⟩ := g_bnd h
      refine g_callV LX10_331 sC_1 rfl (kX2_isNeedless nC_1 ev4) rfl rfl (Nat.le_of_ble_eq_true rfl) ⟨Nat.le_of_ble_eq_true rfl, Nat.le_of_ble_eq_true rfl⟩ ⟨Nat.le_of_ble_eq_true rfl, Nat.le_of_ble_eq_true rfl⟩ dX10_weakest_33 rfl ?_
      rcases g_ite h with ⟨c5, h⟩ | ⟨c5, h⟩
      · refine g_if_ne_f c5 (tgt := 64) rfl dX10_weakest_36 ?_
        refine g_aload_n 0 rfl rfl dX10_weakest_39 ?_
        refine g_getR FX10_72 sC_0 rfl dX10_weakest_40 ?_
        refine g_aload_n 0 rfl rfl dX10_weakest_43 ?_
        refine g_getR FX10_12 sC_0 rfl dX10_weakest_44 ?_
        refine g_iload_n 3 rfl rfl dX10_weakest_47 ?_
        obtain ⟨v6, ev6, h⟩ := g_bnd h
        refine g_callV LX10_334 sC_44 rfl (kX8_partsWithout nC_1 ev6) rfl rfl (Nat.le_of_ble_eq_true rfl) ⟨Nat.le_of_ble_eq_true rfl, Nat.le_of_ble_eq_true rfl⟩ ⟨Nat.le_of_ble_eq_true rfl, Nat.le_of_ble_eq_true rfl⟩ dX10_weakest_48 rfl ?_
        refine g_istore (ls' := [(4, .int v6.1), (0, .ref (gAd V 0)), (1, .int x1), (2, .int x2), (3, .int x3)]) (Nat.le_of_ble_eq_true rfl) rfl dX10_weakest_51 ?_
        refine g_iload 0 rfl dX10_weakest_53 ?_
        refine g_iload_n 3 rfl rfl dX10_weakest_55 ?_
        rcases g_ite h with ⟨c7, h⟩ | ⟨c7, h⟩
        · refine g_icmp_le_t c7 (tgt := 64) rfl dX10_weakest_56 ?_
          refine g_sub [1, 2, 3, 4] rfl ?_
          exact tX10_weakest_b64  h Kc Kx
        · refine g_icmp_le_f c7 (tgt := 64) rfl dX10_weakest_56 ?_
          refine g_iload_n 4 rfl rfl dX10_weakest_59 ?_
          refine g_istore_n (ls' := [(1, .int x3), (4, .int v6.1), (0, .ref (gAd V 0)), (2, .int x2), (3, .int x3)]) rfl (Nat.le_of_ble_eq_true rfl) rfl dX10_weakest_60 ?_
          refine g_iload 1 rfl dX10_weakest_61 ?_
          refine g_istore_n (ls' := [(2, .int v6.1), (1, .int x3), (4, .int v6.1), (0, .ref (gAd V 0)), (3, .int x3)]) rfl (Nat.le_of_ble_eq_true rfl) rfl dX10_weakest_63 ?_
          refine g_sub [3, 1, 0, 4] rfl ?_
          exact tX10_weakest_b64  h Kc Kx
      · refine g_if_ne_t c5 (tgt := 64) rfl dX10_weakest_36 ?_
        exact tX10_weakest_b64  h Kc Kx
def fX10_weakest (M0 : gMem) : Option (Int32 × gMem) :=
  (gLoop (fun z9 => fX10_weakest_l6 z9.1 z9.2.1 z9.2.2.1 z9.2.2.2) gFu ((-1 : Int32), (1 : Int32), (0 : Int32), M0)).bind fun w8 => some (w8.1, w8.2)
set_option maxRecDepth 20000 in
theorem tX10_weakest {X : gX} {V : gEnv} {M0 : gMem}  {o : (Int32 × gMem)} (h : fX10_weakest M0 = some o) (O : gO X V mX10_weakest gShC (some .int) (some (.int o.1)) o.2) : gG X V mX10_weakest gShC M0 0 0 0 [(0, .ref (gAd V 0))] [] := by
  unfold fX10_weakest at h
  refine g_iconst (v := -1) rfl dX10_weakest_0 ?_
  refine g_istore_n (ls' := [(1, .int (-1 : Int32)), (0, .ref (gAd V 0))]) rfl (Nat.le_of_ble_eq_true rfl) rfl dX10_weakest_1 ?_
  refine g_iconst (v := 1) rfl dX10_weakest_2 ?_
  refine g_istore_n (ls' := [(2, .int (1 : Int32)), (1, .int (-1 : Int32)), (0, .ref (gAd V 0))]) rfl (Nat.le_of_ble_eq_true rfl) rfl dX10_weakest_3 ?_
  refine g_iconst (v := 0) rfl dX10_weakest_4 ?_
  refine g_istore_n (ls' := [(3, .int (0 : Int32)), (2, .int (1 : Int32)), (1, .int (-1 : Int32)), (0, .ref (gAd V 0))]) rfl (Nat.le_of_ble_eq_true rfl) rfl dX10_weakest_5 ?_
  obtain ⟨w8, ew8, h⟩ := g_bnd h
  refine g_sub [3, 2, 1, 0] rfl ?_
  have KX : gG X V mX10_weakest gShC w8.2 0 0 70 [(1, .int w8.1)] [] := by
    refine g_iload_n 0 rfl rfl dX10_weakest_70 ?_
    cases h
    exact g_iret O ⟨Nat.le_of_ble_eq_true rfl, Nat.le_of_ble_eq_true rfl⟩ rfl dX10_weakest_71
  exact gLoop_Q ew8 (fun z9 => gG X V mX10_weakest gShC z9.2.2.2 0 0 6 [(0, .ref (gAd V 0)), (1, .int z9.1), (2, .int z9.2.1), (3, .int z9.2.2.1)] []) (fun s9 o9 hb9 hc9 hx9 => tX10_weakest_l6  hb9 hc9 (fun e9 he9 => by cases hx9 _ he9; exact KX))
theorem kX10_weakest {l : Launch} {V : gEnv} {M0 : gMem}   {o : (Int32 × gMem)} (h : fX10_weakest M0 = some o) : gM l yX10_weakest cX10_weakest 5 (some .int) rX10_weakest V gShC [.ref (gAd V 0)] M0 (some (.int o.1)) o.2 :=
  gM.of (by decide) (Nat.le_of_ble_eq_true rfl) rfl (fun X _ O => tX10_weakest  h O)
theorem dX10_needless_0 : decode cX10_needless 0 = .ok (.iconst 0, 1) := by decide +kernel
theorem dX10_needless_1 : decode cX10_needless 1 = .ok (.istore_n 1, 1) := by decide +kernel
theorem dX10_needless_2 : decode cX10_needless 2 = .ok (.iconst 0, 1) := by decide +kernel
theorem dX10_needless_3 : decode cX10_needless 3 = .ok (.istore_n 2, 1) := by decide +kernel
theorem dX10_needless_4 : decode cX10_needless 4 = .ok (.iload_n 2, 1) := by decide +kernel
theorem dX10_needless_5 : decode cX10_needless 5 = .ok (.aload_n 0, 1) := by decide +kernel
theorem dX10_needless_6 : decode cX10_needless 6 = .ok (.getfield 12, 3) := by decide +kernel
theorem dX10_needless_9 : decode cX10_needless 9 = .ok (.getfield 146, 3) := by decide +kernel
theorem dX10_needless_12 : decode cX10_needless 12 = .ok (.if_icmp .ge 23, 3) := by decide +kernel
theorem dX10_needless_15 : decode cX10_needless 15 = .ok (.aload_n 0, 1) := by decide +kernel
theorem dX10_needless_16 : decode cX10_needless 16 = .ok (.getfield 12, 3) := by decide +kernel
theorem dX10_needless_19 : decode cX10_needless 19 = .ok (.iload_n 2, 1) := by decide +kernel
theorem dX10_needless_20 : decode cX10_needless 20 = .ok (.invokevirtual 331, 3) := by decide +kernel
theorem dX10_needless_23 : decode cX10_needless 23 = .ok (.ifCond .eq 6, 3) := by decide +kernel
theorem dX10_needless_26 : decode cX10_needless 26 = .ok (.iinc 1 1, 3) := by decide +kernel
theorem dX10_needless_29 : decode cX10_needless 29 = .ok (.iinc 2 1, 3) := by decide +kernel
theorem dX10_needless_32 : decode cX10_needless 32 = .ok (.goto (-28), 3) := by decide +kernel
theorem dX10_needless_35 : decode cX10_needless 35 = .ok (.iload_n 1, 1) := by decide +kernel
theorem dX10_needless_36 : decode cX10_needless 36 = .ok (.ireturn, 1) := by decide +kernel
abbrev rX10_needless : Room := { frames := 2, cells := 0, slots := 0, locals := 49 }
abbrev mX10_needless : gY := (cX10_needless, RX10, 3, rX10_needless)
def fX10_needless_b29 (x1 : Int32) (x2 : Int32) (M0 : gMem) : Option ((Int32 × Int32) ⊕ Int32) :=
  some (.inl (x1, x2 + (1 : Int32)))
set_option maxRecDepth 20000 in
theorem tX10_needless_b29 {X : gX} {V : gEnv} {x1 : Int32} {x2 : Int32} {M0 : gMem}  {o : ((Int32 × Int32) ⊕ Int32)} (h : fX10_needless_b29 x1 x2 M0 = some o) (Kc : ∀ s9, o = .inl s9 → gG X V mX10_needless gShC M0 0 0 4 [(0, .ref (gAd V 0)), (1, .int s9.1), (2, .int s9.2)] []) (Kx : ∀ e9, o = .inr e9 → gG X V mX10_needless gShC M0 0 0 35 [(1, .int e9)] []) : gG X V mX10_needless gShC M0 0 0 29 [(0, .ref (gAd V 0)), (1, .int x1), (2, .int x2)] [] := by
  unfold fX10_needless_b29 at h
  refine g_iinc (j := 2) (v := x2 + (1 : Int32)) (ls' := [(2, .int (x2 + (1 : Int32))), (0, .ref (gAd V 0)), (1, .int x1)]) rfl rfl (Nat.le_of_ble_eq_true rfl) rfl dX10_needless_29 ?_
  refine g_goto (tgt := 4) rfl dX10_needless_32 ?_
  cases h
  refine g_sub [1, 2, 0] rfl ?_
  exact Kc (x1, x2 + (1 : Int32)) rfl
def fX10_needless_l4 (M0 : gMem) (x1 : Int32) (x2 : Int32) : Option ((Int32 × Int32) ⊕ Int32) :=
  if (M0.1 1 10) ≤ x2 then (some (.inr x1)) else (fX2_isNeedless 1 x2 M0).bind fun v2 => if v2 = 0 then (fX10_needless_b29 x1 x2 M0) else fX10_needless_b29 (x1 + (1 : Int32)) x2 M0
set_option maxRecDepth 20000 in
theorem tX10_needless_l4 {X : gX} {V : gEnv} {M0 : gMem} {x1 : Int32} {x2 : Int32}  {o : ((Int32 × Int32) ⊕ Int32)} (h : fX10_needless_l4 M0 x1 x2 = some o) (Kc : ∀ s9, o = .inl s9 → gG X V mX10_needless gShC M0 0 0 4 [(0, .ref (gAd V 0)), (1, .int s9.1), (2, .int s9.2)] []) (Kx : ∀ e9, o = .inr e9 → gG X V mX10_needless gShC M0 0 0 35 [(1, .int e9)] []) : gG X V mX10_needless gShC M0 0 0 4 [(0, .ref (gAd V 0)), (1, .int x1), (2, .int x2)] [] := by
  unfold fX10_needless_l4 at h
  refine g_iload_n 2 rfl rfl dX10_needless_4 ?_
  refine g_aload_n 0 rfl rfl dX10_needless_5 ?_
  refine g_getR FX10_12 sC_0 rfl dX10_needless_6 ?_
  refine g_getI FX10_146 sC_1 rfl dX10_needless_9 ?_
  rcases g_ite h with ⟨c1, h⟩ | ⟨c1, h⟩
  · refine g_icmp_ge_t c1 (tgt := 35) rfl dX10_needless_12 ?_
    cases h
    refine g_sub [1] rfl ?_
    exact Kx x1 rfl
  · refine g_icmp_ge_f c1 (tgt := 35) rfl dX10_needless_12 ?_
    refine g_aload_n 0 rfl rfl dX10_needless_15 ?_
    refine g_getR FX10_12 sC_0 rfl dX10_needless_16 ?_
    refine g_iload_n 2 rfl rfl dX10_needless_19 ?_
    obtain ⟨v2, ev2, h⟩ := g_bnd h
    refine g_callV LX10_331 sC_1 rfl (kX2_isNeedless nC_1 ev2) rfl rfl (Nat.le_of_ble_eq_true rfl) ⟨Nat.le_of_ble_eq_true rfl, Nat.le_of_ble_eq_true rfl⟩ ⟨Nat.le_of_ble_eq_true rfl, Nat.le_of_ble_eq_true rfl⟩ dX10_needless_20 rfl ?_
    rcases g_ite h with ⟨c3, h⟩ | ⟨c3, h⟩
    · refine g_if_eq_t c3 (tgt := 29) rfl dX10_needless_23 ?_
      exact tX10_needless_b29  h Kc Kx
    · refine g_if_eq_f c3 (tgt := 29) rfl dX10_needless_23 ?_
      refine g_iinc (j := 1) (v := x1 + (1 : Int32)) (ls' := [(1, .int (x1 + (1 : Int32))), (0, .ref (gAd V 0)), (2, .int x2)]) rfl rfl (Nat.le_of_ble_eq_true rfl) rfl dX10_needless_26 ?_
      refine g_sub [1, 0, 2] rfl ?_
      exact tX10_needless_b29  h Kc Kx
def fX10_needless (M0 : gMem) : Option Int32 :=
  (gLoop (fun z9 => fX10_needless_l4 M0 z9.1 z9.2) gFu ((0 : Int32), (0 : Int32))).bind fun w4 => some w4
set_option maxRecDepth 20000 in
theorem tX10_needless {X : gX} {V : gEnv} {M0 : gMem}  {o : Int32} (h : fX10_needless M0 = some o) (O : gO X V mX10_needless gShC (some .int) (some (.int o)) M0) : gG X V mX10_needless gShC M0 0 0 0 [(0, .ref (gAd V 0))] [] := by
  unfold fX10_needless at h
  refine g_iconst (v := 0) rfl dX10_needless_0 ?_
  refine g_istore_n (ls' := [(1, .int (0 : Int32)), (0, .ref (gAd V 0))]) rfl (Nat.le_of_ble_eq_true rfl) rfl dX10_needless_1 ?_
  refine g_iconst (v := 0) rfl dX10_needless_2 ?_
  refine g_istore_n (ls' := [(2, .int (0 : Int32)), (1, .int (0 : Int32)), (0, .ref (gAd V 0))]) rfl (Nat.le_of_ble_eq_true rfl) rfl dX10_needless_3 ?_
  obtain ⟨w4, ew4, h⟩ := g_bnd h
  refine g_sub [2, 1, 0] rfl ?_
  have KX : gG X V mX10_needless gShC M0 0 0 35 [(1, .int w4)] [] := by
    refine g_iload_n 0 rfl rfl dX10_needless_35 ?_
    cases h
    exact g_iret O ⟨Nat.le_of_ble_eq_true rfl, Nat.le_of_ble_eq_true rfl⟩ rfl dX10_needless_36
  exact gLoop_Q ew4 (fun z9 => gG X V mX10_needless gShC M0 0 0 4 [(0, .ref (gAd V 0)), (1, .int z9.1), (2, .int z9.2)] []) (fun s9 o9 hb9 hc9 hx9 => tX10_needless_l4  hb9 hc9 (fun e9 he9 => by cases hx9 _ he9; exact KX))
theorem kX10_needless {l : Launch} {V : gEnv} {M0 : gMem}   {o : Int32} (h : fX10_needless M0 = some o) : gM l yX10_needless cX10_needless 3 (some .int) rX10_needless V gShC [.ref (gAd V 0)] M0 (some (.int o)) M0 :=
  gM.of (by decide) (Nat.le_of_ble_eq_true rfl) rfl (fun X _ O => tX10_needless  h O)
theorem dX10_account_0 : decode cX10_account 0 = .ok (.iload_n 1, 1) := by decide +kernel
theorem dX10_account_1 : decode cX10_account 1 = .ok (.ifCond .lt 9, 3) := by decide +kernel
theorem dX10_account_4 : decode cX10_account 4 = .ok (.iload_n 1, 1) := by decide +kernel
theorem dX10_account_5 : decode cX10_account 5 = .ok (.bipush 9, 2) := by decide +kernel
theorem dX10_account_7 : decode cX10_account 7 = .ok (.if_icmp .lt 14, 3) := by decide +kernel
theorem dX10_account_10 : decode cX10_account 10 = .ok (.new 110, 3) := by decide +kernel
theorem dX10_account_13 : decode cX10_account 13 = .ok (.dup, 1) := by decide +kernel
theorem dX10_account_14 : decode cX10_account 14 = .ok (.ldc_w 337, 3) := by decide +kernel
theorem dX10_account_17 : decode cX10_account 17 = .ok (.invokespecial 114, 3) := by decide +kernel
theorem dX10_account_20 : decode cX10_account 20 = .ok (.athrow, 1) := by decide +kernel
theorem dX10_account_21 : decode cX10_account 21 = .ok (.aload_n 0, 1) := by decide +kernel
theorem dX10_account_22 : decode cX10_account 22 = .ok (.getfield 12, 3) := by decide +kernel
theorem dX10_account_25 : decode cX10_account 25 = .ok (.getfield 339, 3) := by decide +kernel
theorem dX10_account_28 : decode cX10_account 28 = .ok (.iload_n 1, 1) := by decide +kernel
theorem dX10_account_29 : decode cX10_account 29 = .ok (.laload, 1) := by decide +kernel
theorem dX10_account_30 : decode cX10_account 30 = .ok (.lreturn, 1) := by decide +kernel
abbrev rX10_account : Room := { frames := 6, cells := 1, slots := 6, locals := 90 }
abbrev mX10_account : gY := (cX10_account, RX10, 2, rX10_account)
def fX10_account_b10 (M0 : gMem) : Option (Int64 ⊕ Nat) :=
  some (.inr 1)
set_option maxRecDepth 20000 in
theorem tX10_account_b10 {X : gX} {V : gEnv} {M0 : gMem}  {o : (Int64 ⊕ Nat)} (h : fX10_account_b10 M0 = some o) (O : gOX X V mX10_account gShC (some .long) (gOJ o) M0) : gG X V mX10_account gShC M0 0 0 10 [] [] := by
  unfold fX10_account_b10 at h
  cases h
  exact g_throwW O U_1 SX10_337 ⟨Nat.le_of_ble_eq_true rfl, Nat.le_of_ble_eq_true rfl⟩ ⟨Nat.le_of_ble_eq_true rfl, Nat.le_of_ble_eq_true rfl⟩ dX10_account_10 dX10_account_13 dX10_account_14 dX10_account_17 dX10_account_20
def fX10_account (x1 : Int32) (M0 : gMem) : Option (Int64 ⊕ Nat) :=
  if x1 < 0 then (fX10_account_b10 M0) else if x1 < (9 : Int32) then ((rL M0 10 9 x1).bind fun v3 => some (.inl v3)) else fX10_account_b10 M0
set_option maxRecDepth 20000 in
theorem tX10_account {X : gX} {V : gEnv} {x1 : Int32} {M0 : gMem}  {o : (Int64 ⊕ Nat)} (h : fX10_account x1 M0 = some o) (O : gOX X V mX10_account gShC (some .long) (gOJ o) M0) : gG X V mX10_account gShC M0 0 0 0 [(0, .ref (gAd V 0)), (1, .int x1)] [] := by
  unfold fX10_account at h
  refine g_iload_n 1 rfl rfl dX10_account_0 ?_
  rcases g_ite h with ⟨c1, h⟩ | ⟨c1, h⟩
  · refine g_if_lt_t c1 (tgt := 10) rfl dX10_account_1 ?_
    refine g_sub [] rfl ?_
    exact tX10_account_b10  h O
  · refine g_if_lt_f c1 (tgt := 10) rfl dX10_account_1 ?_
    refine g_iload_n 1 rfl rfl dX10_account_4 ?_
    refine g_bipush (v := 9) rfl dX10_account_5 ?_
    rcases g_ite h with ⟨c2, h⟩ | ⟨c2, h⟩
    · refine g_icmp_lt_t c2 (tgt := 21) rfl dX10_account_7 ?_
      refine g_aload_n 0 rfl rfl dX10_account_21 ?_
      refine g_getR FX10_12 sC_0 rfl dX10_account_22 ?_
      refine g_getR FX10_339 sC_1 rfl dX10_account_25 ?_
      refine g_iload_n 1 rfl rfl dX10_account_28 ?_
      obtain ⟨v3, ev3, h⟩ := g_bnd h
      refine g_lald' ev3 sC_10 dX10_account_29 ?_
      cases h
      exact g_lretX O ⟨Nat.le_of_ble_eq_true rfl, Nat.le_of_ble_eq_true rfl⟩ dX10_account_30
    · refine g_icmp_lt_f c2 (tgt := 21) rfl dX10_account_7 ?_
      refine g_sub [] rfl ?_
      exact tX10_account_b10  h O
theorem kX10_account {l : Launch} {V : gEnv} {M0 : gMem} {x1 : Int32} (hst : l.stackTraces = false)  {o : (Int64 ⊕ Nat)} (h : fX10_account x1 M0 = some o) : gMX l yX10_account cX10_account 2 (some .long) rX10_account V gShC [.ref (gAd V 0), .int x1] M0 (gOJ o) M0 :=
  gMX.of hst (by decide) (Nat.le_of_ble_eq_true rfl) rfl (fun X _ O => tX10_account  h O)
theorem dX10_innerShare_0 : decode cX10_innerShare 0 = .ok (.aload_n 0, 1) := by decide +kernel
theorem dX10_innerShare_1 : decode cX10_innerShare 1 = .ok (.getfield 12, 3) := by decide +kernel
theorem dX10_innerShare_4 : decode cX10_innerShare 4 = .ok (.getfield 146, 3) := by decide +kernel
theorem dX10_innerShare_7 : decode cX10_innerShare 7 = .ok (.ifCond .ne 7, 3) := by decide +kernel
theorem dX10_innerShare_10 : decode cX10_innerShare 10 = .ok (.fconst 0, 1) := by decide +kernel
theorem dX10_innerShare_11 : decode cX10_innerShare 11 = .ok (.goto 20, 3) := by decide +kernel
theorem dX10_innerShare_14 : decode cX10_innerShare 14 = .ok (.aload_n 0, 1) := by decide +kernel
theorem dX10_innerShare_15 : decode cX10_innerShare 15 = .ok (.getfield 12, 3) := by decide +kernel
theorem dX10_innerShare_18 : decode cX10_innerShare 18 = .ok (.invokevirtual 162, 3) := by decide +kernel
theorem dX10_innerShare_21 : decode cX10_innerShare 21 = .ok (.i2f, 1) := by decide +kernel
theorem dX10_innerShare_22 : decode cX10_innerShare 22 = .ok (.aload_n 0, 1) := by decide +kernel
theorem dX10_innerShare_23 : decode cX10_innerShare 23 = .ok (.getfield 12, 3) := by decide +kernel
theorem dX10_innerShare_26 : decode cX10_innerShare 26 = .ok (.getfield 146, 3) := by decide +kernel
theorem dX10_innerShare_29 : decode cX10_innerShare 29 = .ok (.i2f, 1) := by decide +kernel
theorem dX10_innerShare_30 : decode cX10_innerShare 30 = .ok (.fdiv, 1) := by decide +kernel
theorem dX10_innerShare_31 : decode cX10_innerShare 31 = .ok (.freturn, 1) := by decide +kernel
abbrev rX10_innerShare : Room := { frames := 2, cells := 0, slots := 0, locals := 43 }
abbrev mX10_innerShare : gY := (cX10_innerShare, RX10, 1, rX10_innerShare)
def fX10_innerShare (M0 : gMem) : Option UInt32 :=
  if (M0.1 1 10) = 0 then (some FP.fconst0) else (fX2_innerArrows 1 M0).bind fun v2 => (fdivO (FP.i2f v2) (FP.i2f (M0.1 1 10))).bind fun v3 => some v3
set_option maxRecDepth 20000 in
theorem tX10_innerShare {X : gX} {V : gEnv} {M0 : gMem}  {o : UInt32} (h : fX10_innerShare M0 = some o) (O : gO X V mX10_innerShare gShC (some .float) (some (.float o)) M0) : gG X V mX10_innerShare gShC M0 0 0 0 [(0, .ref (gAd V 0))] [] := by
  unfold fX10_innerShare at h
  refine g_aload_n 0 rfl rfl dX10_innerShare_0 ?_
  refine g_getR FX10_12 sC_0 rfl dX10_innerShare_1 ?_
  refine g_getI FX10_146 sC_1 rfl dX10_innerShare_4 ?_
  rcases g_ite h with ⟨c1, h⟩ | ⟨c1, h⟩
  · refine g_if_ne_f c1 (tgt := 14) rfl dX10_innerShare_7 ?_
    refine g_fconst0 dX10_innerShare_10 ?_
    refine g_goto (tgt := 31) rfl dX10_innerShare_11 ?_
    cases h
    exact g_fret O ⟨Nat.le_of_ble_eq_true rfl, Nat.le_of_ble_eq_true rfl⟩ dX10_innerShare_31
  · refine g_if_ne_t c1 (tgt := 14) rfl dX10_innerShare_7 ?_
    refine g_aload_n 0 rfl rfl dX10_innerShare_14 ?_
    refine g_getR FX10_12 sC_0 rfl dX10_innerShare_15 ?_
    obtain ⟨v2, ev2, h⟩ := g_bnd h
    refine g_callV LX10_162 sC_1 rfl (kX2_innerArrows nC_1 ev2) rfl rfl (Nat.le_of_ble_eq_true rfl) ⟨Nat.le_of_ble_eq_true rfl, Nat.le_of_ble_eq_true rfl⟩ ⟨Nat.le_of_ble_eq_true rfl, Nat.le_of_ble_eq_true rfl⟩ dX10_innerShare_18 rfl ?_
    refine g_i2f dX10_innerShare_21 ?_
    refine g_aload_n 0 rfl rfl dX10_innerShare_22 ?_
    refine g_getR FX10_12 sC_0 rfl dX10_innerShare_23 ?_
    refine g_getI FX10_146 sC_1 rfl dX10_innerShare_26 ?_
    refine g_i2f dX10_innerShare_29 ?_
    obtain ⟨v3, ev3, h⟩ := g_bnd h
    refine g_fdiv' ev3 dX10_innerShare_30 ?_
    cases h
    exact g_fret O ⟨Nat.le_of_ble_eq_true rfl, Nat.le_of_ble_eq_true rfl⟩ dX10_innerShare_31
theorem kX10_innerShare {l : Launch} {V : gEnv} {M0 : gMem}   {o : UInt32} (h : fX10_innerShare M0 = some o) : gM l yX10_innerShare cX10_innerShare 1 (some .float) rX10_innerShare V gShC [.ref (gAd V 0)] M0 (some (.float o)) M0 :=
  gM.of (by decide) (Nat.le_of_ble_eq_true rfl) rfl (fun X _ O => tX10_innerShare  h O)
theorem dX10_meanMoved_0 : decode cX10_meanMoved 0 = .ok (.aload_n 0, 1) := by decide +kernel
theorem dX10_meanMoved_1 : decode cX10_meanMoved 1 = .ok (.getfield 12, 3) := by decide +kernel
theorem dX10_meanMoved_4 : decode cX10_meanMoved 4 = .ok (.getfield 339, 3) := by decide +kernel
theorem dX10_meanMoved_7 : decode cX10_meanMoved 7 = .ok (.iconst 2, 1) := by decide +kernel
theorem dX10_meanMoved_8 : decode cX10_meanMoved 8 = .ok (.laload, 1) := by decide +kernel
theorem dX10_meanMoved_9 : decode cX10_meanMoved 9 = .ok (.lstore_n 1, 1) := by decide +kernel
theorem dX10_meanMoved_10 : decode cX10_meanMoved 10 = .ok (.lload_n 1, 1) := by decide +kernel
theorem dX10_meanMoved_11 : decode cX10_meanMoved 11 = .ok (.lconst 0, 1) := by decide +kernel
theorem dX10_meanMoved_12 : decode cX10_meanMoved 12 = .ok (.lcmp, 1) := by decide +kernel
theorem dX10_meanMoved_13 : decode cX10_meanMoved 13 = .ok (.ifCond .ne 7, 3) := by decide +kernel
theorem dX10_meanMoved_16 : decode cX10_meanMoved 16 = .ok (.dconst 0, 1) := by decide +kernel
theorem dX10_meanMoved_17 : decode cX10_meanMoved 17 = .ok (.goto 16, 3) := by decide +kernel
theorem dX10_meanMoved_20 : decode cX10_meanMoved 20 = .ok (.aload_n 0, 1) := by decide +kernel
theorem dX10_meanMoved_21 : decode cX10_meanMoved 21 = .ok (.getfield 12, 3) := by decide +kernel
theorem dX10_meanMoved_24 : decode cX10_meanMoved 24 = .ok (.getfield 339, 3) := by decide +kernel
theorem dX10_meanMoved_27 : decode cX10_meanMoved 27 = .ok (.iconst 5, 1) := by decide +kernel
theorem dX10_meanMoved_28 : decode cX10_meanMoved 28 = .ok (.laload, 1) := by decide +kernel
theorem dX10_meanMoved_29 : decode cX10_meanMoved 29 = .ok (.l2d, 1) := by decide +kernel
theorem dX10_meanMoved_30 : decode cX10_meanMoved 30 = .ok (.lload_n 1, 1) := by decide +kernel
theorem dX10_meanMoved_31 : decode cX10_meanMoved 31 = .ok (.l2d, 1) := by decide +kernel
theorem dX10_meanMoved_32 : decode cX10_meanMoved 32 = .ok (.ddiv, 1) := by decide +kernel
theorem dX10_meanMoved_33 : decode cX10_meanMoved 33 = .ok (.dreturn, 1) := by decide +kernel
abbrev rX10_meanMoved : Room := { frames := 0, cells := 0, slots := 0, locals := 0 }
abbrev mX10_meanMoved : gY := (cX10_meanMoved, RX10, 3, rX10_meanMoved)
def fX10_meanMoved (M0 : gMem) : Option UInt64 :=
  (rL M0 10 9 (2 : Int32)).bind fun v1 => if (lg_cmp v1 (0 : Int64)) = 0 then (some FP.dconst0) else (rL M0 10 9 (5 : Int32)).bind fun v3 => (ddivO (FP.l2d v3) (FP.l2d v1)).bind fun v4 => some v4
set_option maxRecDepth 20000 in
theorem tX10_meanMoved {X : gX} {V : gEnv} {M0 : gMem}  {o : UInt64} (h : fX10_meanMoved M0 = some o) (O : gO X V mX10_meanMoved gShC (some .double) (some (.double o)) M0) : gG X V mX10_meanMoved gShC M0 0 0 0 [(0, .ref (gAd V 0))] [] := by
  unfold fX10_meanMoved at h
  refine g_aload_n 0 rfl rfl dX10_meanMoved_0 ?_
  refine g_getR FX10_12 sC_0 rfl dX10_meanMoved_1 ?_
  refine g_getR FX10_339 sC_1 rfl dX10_meanMoved_4 ?_
  refine g_iconst (v := 2) rfl dX10_meanMoved_7 ?_
  obtain ⟨v1, ev1, h⟩ := g_bnd h
  refine g_lald' ev1 sC_10 dX10_meanMoved_8 ?_
  refine g_lstore_n (ls' := [(1, .long v1), (0, .ref (gAd V 0))]) rfl (Nat.le_of_ble_eq_true rfl) rfl dX10_meanMoved_9 ?_
  refine g_lload_n 0 rfl rfl dX10_meanMoved_10 ?_
  refine g_lconst (v := 0) rfl dX10_meanMoved_11 ?_
  refine g_lcmp dX10_meanMoved_12 ?_
  rcases g_ite h with ⟨c2, h⟩ | ⟨c2, h⟩
  · refine g_if_ne_f c2 (tgt := 20) rfl dX10_meanMoved_13 ?_
    refine g_dconst0 dX10_meanMoved_16 ?_
    refine g_goto (tgt := 33) rfl dX10_meanMoved_17 ?_
    cases h
    exact g_dret O ⟨Nat.le_of_ble_eq_true rfl, Nat.le_of_ble_eq_true rfl⟩ dX10_meanMoved_33
  · refine g_if_ne_t c2 (tgt := 20) rfl dX10_meanMoved_13 ?_
    refine g_aload_n 1 rfl rfl dX10_meanMoved_20 ?_
    refine g_getR FX10_12 sC_0 rfl dX10_meanMoved_21 ?_
    refine g_getR FX10_339 sC_1 rfl dX10_meanMoved_24 ?_
    refine g_iconst (v := 5) rfl dX10_meanMoved_27 ?_
    obtain ⟨v3, ev3, h⟩ := g_bnd h
    refine g_lald' ev3 sC_10 dX10_meanMoved_28 ?_
    refine g_l2d dX10_meanMoved_29 ?_
    refine g_lload_n 0 rfl rfl dX10_meanMoved_30 ?_
    refine g_l2d dX10_meanMoved_31 ?_
    obtain ⟨v4, ev4, h⟩ := g_bnd h
    refine g_ddiv' ev4 dX10_meanMoved_32 ?_
    cases h
    exact g_dret O ⟨Nat.le_of_ble_eq_true rfl, Nat.le_of_ble_eq_true rfl⟩ dX10_meanMoved_33
theorem kX10_meanMoved {l : Launch} {V : gEnv} {M0 : gMem}   {o : UInt64} (h : fX10_meanMoved M0 = some o) : gM l yX10_meanMoved cX10_meanMoved 3 (some .double) rX10_meanMoved V gShC [.ref (gAd V 0)] M0 (some (.double o)) M0 :=
  gM.of (by decide) (Nat.le_of_ble_eq_true rfl) rfl (fun X _ O => tX10_meanMoved  h O)
