/-! METHODS, by program: pure functions and contracts -/
theorem dX11_laysFresh_0 : decode cX11_laysFresh 0 = .ok (.iconst 0, 1) := by decide +kernel
theorem dX11_laysFresh_1 : decode cX11_laysFresh 1 = .ok (.istore_n 1, 1) := by decide +kernel
theorem dX11_laysFresh_2 : decode cX11_laysFresh 2 = .ok (.iconst 0, 1) := by decide +kernel
theorem dX11_laysFresh_3 : decode cX11_laysFresh 3 = .ok (.istore_n 2, 1) := by decide +kernel
theorem dX11_laysFresh_4 : decode cX11_laysFresh 4 = .ok (.iload_n 2, 1) := by decide +kernel
theorem dX11_laysFresh_5 : decode cX11_laysFresh 5 = .ok (.aload_n 0, 1) := by decide +kernel
theorem dX11_laysFresh_6 : decode cX11_laysFresh 6 = .ok (.getfield 9, 3) := by decide +kernel
theorem dX11_laysFresh_9 : decode cX11_laysFresh 9 = .ok (.iconst 0, 1) := by decide +kernel
theorem dX11_laysFresh_10 : decode cX11_laysFresh 10 = .ok (.iaload, 1) := by decide +kernel
theorem dX11_laysFresh_11 : decode cX11_laysFresh 11 = .ok (.if_icmp .ge 29, 3) := by decide +kernel
theorem dX11_laysFresh_14 : decode cX11_laysFresh 14 = .ok (.aload_n 0, 1) := by decide +kernel
theorem dX11_laysFresh_15 : decode cX11_laysFresh 15 = .ok (.iload_n 2, 1) := by decide +kernel
theorem dX11_laysFresh_16 : decode cX11_laysFresh 16 = .ok (.iconst 1, 1) := by decide +kernel
theorem dX11_laysFresh_17 : decode cX11_laysFresh 17 = .ok (.invokevirtual 82, 3) := by decide +kernel
theorem dX11_laysFresh_20 : decode cX11_laysFresh 20 = .ok (.iload_n 2, 1) := by decide +kernel
theorem dX11_laysFresh_21 : decode cX11_laysFresh 21 = .ok (.if_icmp .ne 13, 3) := by decide +kernel
theorem dX11_laysFresh_24 : decode cX11_laysFresh 24 = .ok (.aload_n 0, 1) := by decide +kernel
theorem dX11_laysFresh_25 : decode cX11_laysFresh 25 = .ok (.getfield 40, 3) := by decide +kernel
theorem dX11_laysFresh_28 : decode cX11_laysFresh 28 = .ok (.iload_n 1, 1) := by decide +kernel
theorem dX11_laysFresh_29 : decode cX11_laysFresh 29 = .ok (.iload_n 2, 1) := by decide +kernel
theorem dX11_laysFresh_30 : decode cX11_laysFresh 30 = .ok (.iastore, 1) := by decide +kernel
theorem dX11_laysFresh_31 : decode cX11_laysFresh 31 = .ok (.iinc 1 1, 3) := by decide +kernel
theorem dX11_laysFresh_34 : decode cX11_laysFresh 34 = .ok (.iinc 2 1, 3) := by decide +kernel
theorem dX11_laysFresh_37 : decode cX11_laysFresh 37 = .ok (.goto (-33), 3) := by decide +kernel
theorem dX11_laysFresh_40 : decode cX11_laysFresh 40 = .ok (.aload_n 0, 1) := by decide +kernel
theorem dX11_laysFresh_41 : decode cX11_laysFresh 41 = .ok (.iload_n 1, 1) := by decide +kernel
theorem dX11_laysFresh_42 : decode cX11_laysFresh 42 = .ok (.invokevirtual 203, 3) := by decide +kernel
theorem dX11_laysFresh_45 : decode cX11_laysFresh 45 = .ok (.return_, 1) := by decide +kernel
abbrev rX11_laysFresh : Room := { frames := 4, cells := 0, slots := 0, locals := 94 }
abbrev mX11_laysFresh : gY := (cX11_laysFresh, RX11, 3, rX11_laysFresh)
def fX11_laysFresh_b34 (x1 : Int32) (x2 : Int32) (M0 : gMem) : Option ((Int32 × Int32 × gMem) ⊕ (Int32 × gMem)) :=
  some (.inl (x1, x2 + (1 : Int32), M0))
set_option maxRecDepth 20000 in
theorem tX11_laysFresh_b34 {X : gX} {V : gEnv} {x1 : Int32} {x2 : Int32} {M0 : gMem}  {o : ((Int32 × Int32 × gMem) ⊕ (Int32 × gMem))} (h : fX11_laysFresh_b34 x1 x2 M0 = some o) (Kc : ∀ s9, o = .inl s9 → gG X V mX11_laysFresh gShM s9.2.2 0 0 4 [(0, .ref (gAd V 0)), (1, .int s9.1), (2, .int s9.2.1)] []) (Kx : ∀ e9, o = .inr e9 → gG X V mX11_laysFresh gShM e9.2 0 0 40 [(0, .ref (gAd V 0)), (1, .int e9.1)] []) : gG X V mX11_laysFresh gShM M0 0 0 34 [(0, .ref (gAd V 0)), (1, .int x1), (2, .int x2)] [] := by
  unfold fX11_laysFresh_b34 at h
  refine g_iinc (j := 2) (v := x2 + (1 : Int32)) (ls' := [(2, .int (x2 + (1 : Int32))), (0, .ref (gAd V 0)), (1, .int x1)]) rfl rfl (Nat.le_of_ble_eq_true rfl) rfl dX11_laysFresh_34 ?_
  refine g_goto (tgt := 4) rfl dX11_laysFresh_37 ?_
  cases h
  refine g_sub [1, 2, 0] rfl ?_
  exact Kc (x1, x2 + (1 : Int32), M0) rfl
def fX11_laysFresh_l4 (x1 : Int32) (x2 : Int32) (M0 : gMem) : Option ((Int32 × Int32 × gMem) ⊕ (Int32 × gMem)) :=
  (rI M0 1 374 (0 : Int32)).bind fun v1 => if v1 ≤ x2 then (some (.inr (x1, M0))) else (fX11_of x2 (1 : Int32) M0).bind fun v3 => if v3 = x2 then ((wI M0 11 24 x1 x2).bind fun M5 => fX11_laysFresh_b34 (x1 + (1 : Int32)) x2 M5) else fX11_laysFresh_b34 x1 x2 M0
set_option maxRecDepth 20000 in
theorem tX11_laysFresh_l4 {X : gX} {V : gEnv} {x1 : Int32} {x2 : Int32} {M0 : gMem}  {o : ((Int32 × Int32 × gMem) ⊕ (Int32 × gMem))} (h : fX11_laysFresh_l4 x1 x2 M0 = some o) (Kc : ∀ s9, o = .inl s9 → gG X V mX11_laysFresh gShM s9.2.2 0 0 4 [(0, .ref (gAd V 0)), (1, .int s9.1), (2, .int s9.2.1)] []) (Kx : ∀ e9, o = .inr e9 → gG X V mX11_laysFresh gShM e9.2 0 0 40 [(0, .ref (gAd V 0)), (1, .int e9.1)] []) : gG X V mX11_laysFresh gShM M0 0 0 4 [(0, .ref (gAd V 0)), (1, .int x1), (2, .int x2)] [] := by
  unfold fX11_laysFresh_l4 at h
  refine g_iload_n 2 rfl rfl dX11_laysFresh_4 ?_
  refine g_aload_n 0 rfl rfl dX11_laysFresh_5 ?_
  refine g_getR FX11_9 sM_0 rfl dX11_laysFresh_6 ?_
  refine g_iconst (v := 0) rfl dX11_laysFresh_9 ?_
  obtain ⟨v1, ev1, h⟩ := g_bnd h
  refine g_iald' ev1 sM_1 dX11_laysFresh_10 ?_
  rcases g_ite h with ⟨c2, h⟩ | ⟨c2, h⟩
  · refine g_icmp_ge_t c2 (tgt := 40) rfl dX11_laysFresh_11 ?_
    cases h
    refine g_sub [0, 1] rfl ?_
    exact Kx (x1, M0) rfl
  · refine g_icmp_ge_f c2 (tgt := 40) rfl dX11_laysFresh_11 ?_
    refine g_aload_n 0 rfl rfl dX11_laysFresh_14 ?_
    refine g_iload_n 2 rfl rfl dX11_laysFresh_15 ?_
    refine g_iconst (v := 1) rfl dX11_laysFresh_16 ?_
    obtain ⟨v3, ev3, h⟩ := g_bnd h
    refine g_callV LX11_82 sM_0 rfl (kX11_of ev3) rfl rfl (Nat.le_of_ble_eq_true rfl) ⟨Nat.le_of_ble_eq_true rfl, Nat.le_of_ble_eq_true rfl⟩ ⟨Nat.le_of_ble_eq_true rfl, Nat.le_of_ble_eq_true rfl⟩ dX11_laysFresh_17 rfl ?_
    refine g_iload_n 2 rfl rfl dX11_laysFresh_20 ?_
    rcases g_ite h with ⟨c4, h⟩ | ⟨c4, h⟩
    · refine g_icmp_ne_f c4 (tgt := 34) rfl dX11_laysFresh_21 ?_
      refine g_aload_n 0 rfl rfl dX11_laysFresh_24 ?_
      refine g_getR FX11_40 sM_0 rfl dX11_laysFresh_25 ?_
      refine g_iload_n 1 rfl rfl dX11_laysFresh_28 ?_
      refine g_iload_n 2 rfl rfl dX11_laysFresh_29 ?_
      obtain ⟨M5, eM5, h⟩ := g_bnd h
      refine g_iast' eM5 sM_11 dX11_laysFresh_30 ?_
      refine g_iinc (j := 1) (v := x1 + (1 : Int32)) (ls' := [(1, .int (x1 + (1 : Int32))), (0, .ref (gAd V 0)), (2, .int x2)]) rfl rfl (Nat.le_of_ble_eq_true rfl) rfl dX11_laysFresh_31 ?_
      refine g_sub [1, 0, 2] rfl ?_
      exact tX11_laysFresh_b34  h Kc Kx
    · refine g_icmp_ne_t c4 (tgt := 34) rfl dX11_laysFresh_21 ?_
      exact tX11_laysFresh_b34  h Kc Kx
def fX11_laysFresh (M0 : gMem) : Option gMem :=
  (gLoop (fun z9 => fX11_laysFresh_l4 z9.1 z9.2.1 z9.2.2) gFu ((0 : Int32), (0 : Int32), M0)).bind fun w6 => (fX11_sortsHeads w6.1 w6.2).bind fun v7 => some v7
set_option maxRecDepth 20000 in
theorem tX11_laysFresh {X : gX} {V : gEnv} {M0 : gMem}  {o : gMem} (h : fX11_laysFresh M0 = some o) (O : gO X V mX11_laysFresh gShM none none o) : gG X V mX11_laysFresh gShM M0 0 0 0 [(0, .ref (gAd V 0))] [] := by
  unfold fX11_laysFresh at h
  refine g_iconst (v := 0) rfl dX11_laysFresh_0 ?_
  refine g_istore_n (ls' := [(1, .int (0 : Int32)), (0, .ref (gAd V 0))]) rfl (Nat.le_of_ble_eq_true rfl) rfl dX11_laysFresh_1 ?_
  refine g_iconst (v := 0) rfl dX11_laysFresh_2 ?_
  refine g_istore_n (ls' := [(2, .int (0 : Int32)), (1, .int (0 : Int32)), (0, .ref (gAd V 0))]) rfl (Nat.le_of_ble_eq_true rfl) rfl dX11_laysFresh_3 ?_
  obtain ⟨w6, ew6, h⟩ := g_bnd h
  refine g_sub [2, 1, 0] rfl ?_
  have KX : gG X V mX11_laysFresh gShM w6.2 0 0 40 [(0, .ref (gAd V 0)), (1, .int w6.1)] [] := by
    refine g_aload_n 0 rfl rfl dX11_laysFresh_40 ?_
    refine g_iload_n 1 rfl rfl dX11_laysFresh_41 ?_
    obtain ⟨v7, ev7, h⟩ := g_bnd h
    refine g_callV LX11_203 sM_0 rfl (kX11_sortsHeads ev7) rfl rfl (Nat.le_of_ble_eq_true rfl) ⟨Nat.le_of_ble_eq_true rfl, Nat.le_of_ble_eq_true rfl⟩ ⟨Nat.le_of_ble_eq_true rfl, Nat.le_of_ble_eq_true rfl⟩ dX11_laysFresh_42 rfl ?_
    cases h
    exact g_vret O ⟨Nat.le_of_ble_eq_true rfl, Nat.le_of_ble_eq_true rfl⟩ dX11_laysFresh_45
  exact gLoop_Q ew6 (fun z9 => gG X V mX11_laysFresh gShM z9.2.2 0 0 4 [(0, .ref (gAd V 0)), (1, .int z9.1), (2, .int z9.2.1)] []) (fun s9 o9 hb9 hc9 hx9 => tX11_laysFresh_l4  hb9 hc9 (fun e9 he9 => by cases hx9 _ he9; exact KX))
theorem kX11_laysFresh {l : Launch} {V : gEnv} {M0 : gMem}   {o : gMem} (h : fX11_laysFresh M0 = some o) : gM l yX11_laysFresh cX11_laysFresh 3 none rX11_laysFresh V gShM [.ref (gAd V 0)] M0 none o :=
  gM.of (by decide) (Nat.le_of_ble_eq_true rfl) rfl (fun X _ O => tX11_laysFresh  h O)
theorem dX11_refreshes_0 : decode cX11_refreshes 0 = .ok (.aload_n 0, 1) := by decide +kernel
theorem dX11_refreshes_1 : decode cX11_refreshes 1 = .ok (.invokevirtual 206, 3) := by decide +kernel
theorem dX11_refreshes_4 : decode cX11_refreshes 4 = .ok (.iconst 0, 1) := by decide +kernel
theorem dX11_refreshes_5 : decode cX11_refreshes 5 = .ok (.istore_n 1, 1) := by decide +kernel
theorem dX11_refreshes_6 : decode cX11_refreshes 6 = .ok (.iconst 0, 1) := by decide +kernel
theorem dX11_refreshes_7 : decode cX11_refreshes 7 = .ok (.istore_n 2, 1) := by decide +kernel
theorem dX11_refreshes_8 : decode cX11_refreshes 8 = .ok (.iload_n 2, 1) := by decide +kernel
theorem dX11_refreshes_9 : decode cX11_refreshes 9 = .ok (.aload_n 0, 1) := by decide +kernel
theorem dX11_refreshes_10 : decode cX11_refreshes 10 = .ok (.getfield 9, 3) := by decide +kernel
theorem dX11_refreshes_13 : decode cX11_refreshes 13 = .ok (.iconst 2, 1) := by decide +kernel
theorem dX11_refreshes_14 : decode cX11_refreshes 14 = .ok (.iaload, 1) := by decide +kernel
theorem dX11_refreshes_15 : decode cX11_refreshes 15 = .ok (.if_icmp .ge 50, 3) := by decide +kernel
theorem dX11_refreshes_18 : decode cX11_refreshes 18 = .ok (.iload_n 1, 1) := by decide +kernel
theorem dX11_refreshes_19 : decode cX11_refreshes 19 = .ok (.aload_n 0, 1) := by decide +kernel
theorem dX11_refreshes_20 : decode cX11_refreshes 20 = .ok (.getfield 9, 3) := by decide +kernel
theorem dX11_refreshes_23 : decode cX11_refreshes 23 = .ok (.bipush 14, 2) := by decide +kernel
theorem dX11_refreshes_25 : decode cX11_refreshes 25 = .ok (.iload_n 2, 1) := by decide +kernel
theorem dX11_refreshes_26 : decode cX11_refreshes 26 = .ok (.iadd, 1) := by decide +kernel
theorem dX11_refreshes_27 : decode cX11_refreshes 27 = .ok (.iaload, 1) := by decide +kernel
theorem dX11_refreshes_28 : decode cX11_refreshes 28 = .ok (.aload_n 0, 1) := by decide +kernel
theorem dX11_refreshes_29 : decode cX11_refreshes 29 = .ok (.getfield 40, 3) := by decide +kernel
theorem dX11_refreshes_32 : decode cX11_refreshes 32 = .ok (.iload_n 2, 1) := by decide +kernel
theorem dX11_refreshes_33 : decode cX11_refreshes 33 = .ok (.iaload, 1) := by decide +kernel
theorem dX11_refreshes_34 : decode cX11_refreshes 34 = .ok (.if_icmp .eq 7, 3) := by decide +kernel
theorem dX11_refreshes_37 : decode cX11_refreshes 37 = .ok (.iconst 1, 1) := by decide +kernel
theorem dX11_refreshes_38 : decode cX11_refreshes 38 = .ok (.goto 4, 3) := by decide +kernel
theorem dX11_refreshes_41 : decode cX11_refreshes 41 = .ok (.iconst 0, 1) := by decide +kernel
theorem dX11_refreshes_42 : decode cX11_refreshes 42 = .ok (.iadd, 1) := by decide +kernel
theorem dX11_refreshes_43 : decode cX11_refreshes 43 = .ok (.istore_n 1, 1) := by decide +kernel
theorem dX11_refreshes_44 : decode cX11_refreshes 44 = .ok (.aload_n 0, 1) := by decide +kernel
theorem dX11_refreshes_45 : decode cX11_refreshes 45 = .ok (.getfield 9, 3) := by decide +kernel
theorem dX11_refreshes_48 : decode cX11_refreshes 48 = .ok (.bipush 14, 2) := by decide +kernel
theorem dX11_refreshes_50 : decode cX11_refreshes 50 = .ok (.iload_n 2, 1) := by decide +kernel
theorem dX11_refreshes_51 : decode cX11_refreshes 51 = .ok (.iadd, 1) := by decide +kernel
theorem dX11_refreshes_52 : decode cX11_refreshes 52 = .ok (.aload_n 0, 1) := by decide +kernel
theorem dX11_refreshes_53 : decode cX11_refreshes 53 = .ok (.getfield 40, 3) := by decide +kernel
theorem dX11_refreshes_56 : decode cX11_refreshes 56 = .ok (.iload_n 2, 1) := by decide +kernel
theorem dX11_refreshes_57 : decode cX11_refreshes 57 = .ok (.iaload, 1) := by decide +kernel
theorem dX11_refreshes_58 : decode cX11_refreshes 58 = .ok (.iastore, 1) := by decide +kernel
theorem dX11_refreshes_59 : decode cX11_refreshes 59 = .ok (.iinc 2 1, 3) := by decide +kernel
theorem dX11_refreshes_62 : decode cX11_refreshes 62 = .ok (.goto (-54), 3) := by decide +kernel
theorem dX11_refreshes_65 : decode cX11_refreshes 65 = .ok (.iload_n 1, 1) := by decide +kernel
theorem dX11_refreshes_66 : decode cX11_refreshes 66 = .ok (.ireturn, 1) := by decide +kernel
abbrev rX11_refreshes : Room := { frames := 5, cells := 0, slots := 0, locals := 116 }
abbrev mX11_refreshes : gY := (cX11_refreshes, RX11, 3, rX11_refreshes)
def fX11_refreshes_l8 (x1 : Int32) (x2 : Int32) (M0 : gMem) : Option ((Int32 × Int32 × gMem) ⊕ (Int32 × gMem)) :=
  (rI M0 1 374 (2 : Int32)).bind fun v2 => if v2 ≤ x2 then (some (.inr (x1, M0))) else (rI M0 1 374 ((14 : Int32) + x2)).bind fun v4 => (rI M0 11 24 x2).bind fun v5 => (nm (x1 + (if v4 = v5 then (0 : Int32) else (1 : Int32)))).bind fun v7 => (rI M0 11 24 x2).bind fun v8 => (wI M0 1 374 ((14 : Int32) + x2) v8).bind fun M9 => some (.inl (v7, x2 + (1 : Int32), M9))
set_option maxRecDepth 20000 in
theorem tX11_refreshes_l8 {X : gX} {V : gEnv} {x1 : Int32} {x2 : Int32} {M0 : gMem}  {o : ((Int32 × Int32 × gMem) ⊕ (Int32 × gMem))} (h : fX11_refreshes_l8 x1 x2 M0 = some o) (Kc : ∀ s9, o = .inl s9 → gG X V mX11_refreshes gShM s9.2.2 0 0 8 [(0, .ref (gAd V 0)), (1, .int s9.1), (2, .int s9.2.1)] []) (Kx : ∀ e9, o = .inr e9 → gG X V mX11_refreshes gShM e9.2 0 0 65 [(1, .int e9.1)] []) : gG X V mX11_refreshes gShM M0 0 0 8 [(0, .ref (gAd V 0)), (1, .int x1), (2, .int x2)] [] := by
  unfold fX11_refreshes_l8 at h
  refine g_iload_n 2 rfl rfl dX11_refreshes_8 ?_
  refine g_aload_n 0 rfl rfl dX11_refreshes_9 ?_
  refine g_getR FX11_9 sM_0 rfl dX11_refreshes_10 ?_
  refine g_iconst (v := 2) rfl dX11_refreshes_13 ?_
  obtain ⟨v2, ev2, h⟩ := g_bnd h
  refine g_iald' ev2 sM_1 dX11_refreshes_14 ?_
  rcases g_ite h with ⟨c3, h⟩ | ⟨c3, h⟩
  · refine g_icmp_ge_t c3 (tgt := 65) rfl dX11_refreshes_15 ?_
    cases h
    refine g_sub [1] rfl ?_
    exact Kx (x1, M0) rfl
  · refine g_icmp_ge_f c3 (tgt := 65) rfl dX11_refreshes_15 ?_
    refine g_iload_n 1 rfl rfl dX11_refreshes_18 ?_
    refine g_aload_n 0 rfl rfl dX11_refreshes_19 ?_
    refine g_getR FX11_9 sM_0 rfl dX11_refreshes_20 ?_
    refine g_bipush (v := 14) rfl dX11_refreshes_23 ?_
    refine g_iload_n 2 rfl rfl dX11_refreshes_25 ?_
    refine g_iadd dX11_refreshes_26 ?_
    obtain ⟨v4, ev4, h⟩ := g_bnd h
    refine g_iald' ev4 sM_1 dX11_refreshes_27 ?_
    refine g_aload_n 0 rfl rfl dX11_refreshes_28 ?_
    refine g_getR FX11_40 sM_0 rfl dX11_refreshes_29 ?_
    refine g_iload_n 2 rfl rfl dX11_refreshes_32 ?_
    obtain ⟨v5, ev5, h⟩ := g_bnd h
    refine g_iald' ev5 sM_11 dX11_refreshes_33 ?_
    have KJ : gG X V mX11_refreshes gShM M0 0 0 42 [(0, .ref (gAd V 0)), (1, .int x1), (2, .int x2)] [.int (if v4 = v5 then (0 : Int32) else (1 : Int32)), .int x1] := by
      refine g_iadd dX11_refreshes_42 ?_
      obtain ⟨v7, ev7, h⟩ := g_bnd h
      refine g_nmI ev7 ?_
      refine g_istore_n (ls' := [(1, .int v7), (0, .ref (gAd V 0)), (2, .int x2)]) rfl (Nat.le_of_ble_eq_true rfl) rfl dX11_refreshes_43 ?_
      refine g_aload_n 1 rfl rfl dX11_refreshes_44 ?_
      refine g_getR FX11_9 sM_0 rfl dX11_refreshes_45 ?_
      refine g_bipush (v := 14) rfl dX11_refreshes_48 ?_
      refine g_iload_n 2 rfl rfl dX11_refreshes_50 ?_
      refine g_iadd dX11_refreshes_51 ?_
      refine g_aload_n 1 rfl rfl dX11_refreshes_52 ?_
      refine g_getR FX11_40 sM_0 rfl dX11_refreshes_53 ?_
      refine g_iload_n 2 rfl rfl dX11_refreshes_56 ?_
      obtain ⟨v8, ev8, h⟩ := g_bnd h
      refine g_iald' ev8 sM_11 dX11_refreshes_57 ?_
      obtain ⟨M9, eM9, h⟩ := g_bnd h
      refine g_iast' eM9 sM_1 dX11_refreshes_58 ?_
      refine g_iinc (j := 2) (v := x2 + (1 : Int32)) (ls' := [(2, .int (x2 + (1 : Int32))), (1, .int v7), (0, .ref (gAd V 0))]) rfl rfl (Nat.le_of_ble_eq_true rfl) rfl dX11_refreshes_59 ?_
      refine g_goto (tgt := 8) rfl dX11_refreshes_62 ?_
      cases h
      refine g_sub [2, 1, 0] rfl ?_
      exact Kc (v7, x2 + (1 : Int32), M9) rfl
    by_cases c6 : v4 = v5
    · rw [if_pos c6] at KJ
      refine g_icmp_eq_t c6 (tgt := 41) rfl dX11_refreshes_34 ?_
      refine g_iconst (v := 0) rfl dX11_refreshes_41 ?_
      exact KJ
    · rw [if_neg c6] at KJ
      refine g_icmp_eq_f c6 (tgt := 41) rfl dX11_refreshes_34 ?_
      refine g_iconst (v := 1) rfl dX11_refreshes_37 ?_
      refine g_goto (tgt := 42) rfl dX11_refreshes_38 ?_
      exact KJ
def fX11_refreshes (M0 : gMem) : Option (Int32 × gMem) :=
  (fX11_laysFresh M0).bind fun v1 => (gLoop (fun z9 => fX11_refreshes_l8 z9.1 z9.2.1 z9.2.2) gFu ((0 : Int32), (0 : Int32), v1)).bind fun w10 => some (w10.1, w10.2)
set_option maxRecDepth 20000 in
theorem tX11_refreshes {X : gX} {V : gEnv} {M0 : gMem}  {o : (Int32 × gMem)} (h : fX11_refreshes M0 = some o) (O : gO X V mX11_refreshes gShM (some .int) (some (.int o.1)) o.2) : gG X V mX11_refreshes gShM M0 0 0 0 [(0, .ref (gAd V 0))] [] := by
  unfold fX11_refreshes at h
  refine g_aload_n 0 rfl rfl dX11_refreshes_0 ?_
  obtain ⟨v1, ev1, h⟩ := g_bnd h
  refine g_callV LX11_206 sM_0 rfl (kX11_laysFresh ev1) rfl rfl (Nat.le_of_ble_eq_true rfl) ⟨Nat.le_of_ble_eq_true rfl, Nat.le_of_ble_eq_true rfl⟩ ⟨Nat.le_of_ble_eq_true rfl, Nat.le_of_ble_eq_true rfl⟩ dX11_refreshes_1 rfl ?_
  refine g_iconst (v := 0) rfl dX11_refreshes_4 ?_
  refine g_istore_n (ls' := [(1, .int (0 : Int32)), (0, .ref (gAd V 0))]) rfl (Nat.le_of_ble_eq_true rfl) rfl dX11_refreshes_5 ?_
  refine g_iconst (v := 0) rfl dX11_refreshes_6 ?_
  refine g_istore_n (ls' := [(2, .int (0 : Int32)), (1, .int (0 : Int32)), (0, .ref (gAd V 0))]) rfl (Nat.le_of_ble_eq_true rfl) rfl dX11_refreshes_7 ?_
  obtain ⟨w10, ew10, h⟩ := g_bnd h
  refine g_sub [2, 1, 0] rfl ?_
  have KX : gG X V mX11_refreshes gShM w10.2 0 0 65 [(1, .int w10.1)] [] := by
    refine g_iload_n 0 rfl rfl dX11_refreshes_65 ?_
    cases h
    exact g_iret O ⟨Nat.le_of_ble_eq_true rfl, Nat.le_of_ble_eq_true rfl⟩ rfl dX11_refreshes_66
  exact gLoop_Q ew10 (fun z9 => gG X V mX11_refreshes gShM z9.2.2 0 0 8 [(0, .ref (gAd V 0)), (1, .int z9.1), (2, .int z9.2.1)] []) (fun s9 o9 hb9 hc9 hx9 => tX11_refreshes_l8  hb9 hc9 (fun e9 he9 => by cases hx9 _ he9; exact KX))
theorem kX11_refreshes {l : Launch} {V : gEnv} {M0 : gMem}   {o : (Int32 × gMem)} (h : fX11_refreshes M0 = some o) : gM l yX11_refreshes cX11_refreshes 3 (some .int) rX11_refreshes V gShM [.ref (gAd V 0)] M0 (some (.int o.1)) o.2 :=
  gM.of (by decide) (Nat.le_of_ble_eq_true rfl) rfl (fun X _ O => tX11_refreshes  h O)
theorem dX11_four_0 : decode cX11_four 0 = .ok (.bipush 24, 2) := by decide +kernel
theorem dX11_four_2 : decode cX11_four 2 = .ok (.istore_n 2, 1) := by decide +kernel
theorem dX11_four_3 : decode cX11_four 3 = .ok (.iload_n 2, 1) := by decide +kernel
theorem dX11_four_4 : decode cX11_four 4 = .ok (.ifCond .lt 35, 3) := by decide +kernel
theorem dX11_four_7 : decode cX11_four 7 = .ok (.aload_n 0, 1) := by decide +kernel
theorem dX11_four_8 : decode cX11_four 8 = .ok (.getfield 43, 3) := by decide +kernel
theorem dX11_four_11 : decode cX11_four 11 = .ok (.aload_n 0, 1) := by decide +kernel
theorem dX11_four_12 : decode cX11_four 12 = .ok (.getfield 209, 3) := by decide +kernel
theorem dX11_four_15 : decode cX11_four 15 = .ok (.iload_n 1, 1) := by decide +kernel
theorem dX11_four_16 : decode cX11_four 16 = .ok (.iload_n 2, 1) := by decide +kernel
theorem dX11_four_17 : decode cX11_four 17 = .ok (.ishr, 1) := by decide +kernel
theorem dX11_four_18 : decode cX11_four 18 = .ok (.sipush 255, 3) := by decide +kernel
theorem dX11_four_21 : decode cX11_four 21 = .ok (.iand, 1) := by decide +kernel
theorem dX11_four_22 : decode cX11_four 22 = .ok (.iastore, 1) := by decide +kernel
theorem dX11_four_23 : decode cX11_four 23 = .ok (.aload_n 0, 1) := by decide +kernel
theorem dX11_four_24 : decode cX11_four 24 = .ok (.dup, 1) := by decide +kernel
theorem dX11_four_25 : decode cX11_four 25 = .ok (.getfield 209, 3) := by decide +kernel
theorem dX11_four_28 : decode cX11_four 28 = .ok (.iconst 1, 1) := by decide +kernel
theorem dX11_four_29 : decode cX11_four 29 = .ok (.iadd, 1) := by decide +kernel
theorem dX11_four_30 : decode cX11_four 30 = .ok (.putfield 209, 3) := by decide +kernel
theorem dX11_four_33 : decode cX11_four 33 = .ok (.iinc 2 (-8), 3) := by decide +kernel
theorem dX11_four_36 : decode cX11_four 36 = .ok (.goto (-33), 3) := by decide +kernel
theorem dX11_four_39 : decode cX11_four 39 = .ok (.return_, 1) := by decide +kernel
abbrev rX11_four : Room := { frames := 0, cells := 0, slots := 0, locals := 0 }
abbrev mX11_four : gY := (cX11_four, RX11, 3, rX11_four)
def fX11_four_l3 (x1 : Int32) (x2 : Int32) (M0 : gMem) : Option ((Int32 × gMem) ⊕ gMem) :=
  if x2 < 0 then (some (.inr M0)) else (wI M0 12 900 (M0.1 0 21) ((x1 >>> (x2 &&& 31)) &&& (255 : Int32))).bind fun M2 => (wF M2 0 21 ((M2.1 0 21) + (1 : Int32))).bind fun M3 => some (.inl (x2 + (-8 : Int32), M3))
set_option maxRecDepth 20000 in
theorem tX11_four_l3 {X : gX} {V : gEnv} {x1 : Int32} {x2 : Int32} {M0 : gMem}  {o : ((Int32 × gMem) ⊕ gMem)} (h : fX11_four_l3 x1 x2 M0 = some o) (Kc : ∀ s9, o = .inl s9 → gG X V mX11_four gShM s9.2 0 0 3 [(0, .ref (gAd V 0)), (1, .int x1), (2, .int s9.1)] []) (Kx : ∀ e9, o = .inr e9 → gG X V mX11_four gShM e9 0 0 39 [] []) : gG X V mX11_four gShM M0 0 0 3 [(0, .ref (gAd V 0)), (1, .int x1), (2, .int x2)] [] := by
  unfold fX11_four_l3 at h
  refine g_iload_n 2 rfl rfl dX11_four_3 ?_
  rcases g_ite h with ⟨c1, h⟩ | ⟨c1, h⟩
  · refine g_if_lt_t c1 (tgt := 39) rfl dX11_four_4 ?_
    cases h
    refine g_sub [] rfl ?_
    exact Kx M0 rfl
  · refine g_if_lt_f c1 (tgt := 39) rfl dX11_four_4 ?_
    refine g_aload_n 0 rfl rfl dX11_four_7 ?_
    refine g_getR FX11_43 sM_0 rfl dX11_four_8 ?_
    refine g_aload_n 0 rfl rfl dX11_four_11 ?_
    refine g_getI FX11_209 sM_0 rfl dX11_four_12 ?_
    refine g_iload_n 1 rfl rfl dX11_four_15 ?_
    refine g_iload_n 2 rfl rfl dX11_four_16 ?_
    refine g_ishr dX11_four_17 ?_
    refine g_sipush (v := 255) rfl dX11_four_18 ?_
    refine g_iand dX11_four_21 ?_
    obtain ⟨M2, eM2, h⟩ := g_bnd h
    refine g_iast' eM2 sM_12 dX11_four_22 ?_
    refine g_aload_n 0 rfl rfl dX11_four_23 ?_
    refine g_dup rfl dX11_four_24 ?_
    refine g_getI FX11_209 sM_0 rfl dX11_four_25 ?_
    refine g_iconst (v := 1) rfl dX11_four_28 ?_
    refine g_iadd dX11_four_29 ?_
    obtain ⟨M3, eM3, h⟩ := g_bnd h
    refine g_putI' eM3 FX11_209 jX11 sM_0 rfl rfl rfl dX11_four_30 ?_
    refine g_iinc (j := 2) (v := x2 + (-8 : Int32)) (ls' := [(2, .int (x2 + (-8 : Int32))), (0, .ref (gAd V 0)), (1, .int x1)]) rfl (congrArg (fun z => x2 + z) (by decide)) (Nat.le_of_ble_eq_true rfl) rfl dX11_four_33 ?_
    refine g_goto (tgt := 3) rfl dX11_four_36 ?_
    cases h
    refine g_sub [1, 2, 0] rfl ?_
    exact Kc (x2 + (-8 : Int32), M3) rfl
def fX11_four (x1 : Int32) (M0 : gMem) : Option gMem :=
  (gLoop (fun z9 => fX11_four_l3 x1 z9.1 z9.2) gFu ((24 : Int32), M0)).bind fun w4 => some w4
set_option maxRecDepth 20000 in
theorem tX11_four {X : gX} {V : gEnv} {x1 : Int32} {M0 : gMem}  {o : gMem} (h : fX11_four x1 M0 = some o) (O : gO X V mX11_four gShM none none o) : gG X V mX11_four gShM M0 0 0 0 [(0, .ref (gAd V 0)), (1, .int x1)] [] := by
  unfold fX11_four at h
  refine g_bipush (v := 24) rfl dX11_four_0 ?_
  refine g_istore_n (ls' := [(2, .int (24 : Int32)), (0, .ref (gAd V 0)), (1, .int x1)]) rfl (Nat.le_of_ble_eq_true rfl) rfl dX11_four_2 ?_
  obtain ⟨w4, ew4, h⟩ := g_bnd h
  refine g_sub [1, 2, 0] rfl ?_
  have KX : gG X V mX11_four gShM w4 0 0 39 [] [] := by
    cases h
    exact g_vret O ⟨Nat.le_of_ble_eq_true rfl, Nat.le_of_ble_eq_true rfl⟩ dX11_four_39
  exact gLoop_Q ew4 (fun z9 => gG X V mX11_four gShM z9.2 0 0 3 [(0, .ref (gAd V 0)), (1, .int x1), (2, .int z9.1)] []) (fun s9 o9 hb9 hc9 hx9 => tX11_four_l3  hb9 hc9 (fun e9 he9 => by cases hx9 _ he9; exact KX))
theorem kX11_four {l : Launch} {V : gEnv} {M0 : gMem} {x1 : Int32}  {o : gMem} (h : fX11_four x1 M0 = some o) : gM l yX11_four cX11_four 3 none rX11_four V gShM [.ref (gAd V 0), .int x1] M0 none o :=
  gM.of (by decide) (Nat.le_of_ble_eq_true rfl) rfl (fun X _ O => tX11_four  h O)
theorem dX11_append_0 : decode cX11_append 0 = .ok (.aload_n 0, 1) := by decide +kernel
theorem dX11_append_1 : decode cX11_append 1 = .ok (.aload_n 0, 1) := by decide +kernel
theorem dX11_append_2 : decode cX11_append 2 = .ok (.getfield 209, 3) := by decide +kernel
theorem dX11_append_5 : decode cX11_append 5 = .ok (.bipush 20, 2) := by decide +kernel
theorem dX11_append_7 : decode cX11_append 7 = .ok (.iadd, 1) := by decide +kernel
theorem dX11_append_8 : decode cX11_append 8 = .ok (.sipush 900, 3) := by decide +kernel
theorem dX11_append_11 : decode cX11_append 11 = .ok (.if_icmp .le 7, 3) := by decide +kernel
theorem dX11_append_14 : decode cX11_append 14 = .ok (.iconst 1, 1) := by decide +kernel
theorem dX11_append_15 : decode cX11_append 15 = .ok (.goto 4, 3) := by decide +kernel
theorem dX11_append_18 : decode cX11_append 18 = .ok (.iconst 0, 1) := by decide +kernel
theorem dX11_append_19 : decode cX11_append 19 = .ok (.invokevirtual 212, 3) := by decide +kernel
theorem dX11_append_22 : decode cX11_append 22 = .ok (.ifCond .eq 5, 3) := by decide +kernel
theorem dX11_append_25 : decode cX11_append 25 = .ok (.iconst 0, 1) := by decide +kernel
theorem dX11_append_26 : decode cX11_append 26 = .ok (.ireturn, 1) := by decide +kernel
theorem dX11_append_27 : decode cX11_append 27 = .ok (.aload_n 0, 1) := by decide +kernel
theorem dX11_append_28 : decode cX11_append 28 = .ok (.iload_n 1, 1) := by decide +kernel
theorem dX11_append_29 : decode cX11_append 29 = .ok (.invokevirtual 216, 3) := by decide +kernel
theorem dX11_append_32 : decode cX11_append 32 = .ok (.aload_n 0, 1) := by decide +kernel
theorem dX11_append_33 : decode cX11_append 33 = .ok (.iload_n 2, 1) := by decide +kernel
theorem dX11_append_34 : decode cX11_append 34 = .ok (.invokevirtual 216, 3) := by decide +kernel
theorem dX11_append_37 : decode cX11_append 37 = .ok (.aload_n 0, 1) := by decide +kernel
theorem dX11_append_38 : decode cX11_append 38 = .ok (.iload_n 3, 1) := by decide +kernel
theorem dX11_append_39 : decode cX11_append 39 = .ok (.invokevirtual 216, 3) := by decide +kernel
theorem dX11_append_42 : decode cX11_append 42 = .ok (.aload_n 0, 1) := by decide +kernel
theorem dX11_append_43 : decode cX11_append 43 = .ok (.iload 4, 2) := by decide +kernel
theorem dX11_append_45 : decode cX11_append 45 = .ok (.invokevirtual 216, 3) := by decide +kernel
theorem dX11_append_48 : decode cX11_append 48 = .ok (.aload_n 0, 1) := by decide +kernel
theorem dX11_append_49 : decode cX11_append 49 = .ok (.iload 5, 2) := by decide +kernel
theorem dX11_append_51 : decode cX11_append 51 = .ok (.invokevirtual 216, 3) := by decide +kernel
theorem dX11_append_54 : decode cX11_append 54 = .ok (.aload_n 0, 1) := by decide +kernel
theorem dX11_append_55 : decode cX11_append 55 = .ok (.getfield 209, 3) := by decide +kernel
theorem dX11_append_58 : decode cX11_append 58 = .ok (.ireturn, 1) := by decide +kernel
abbrev rX11_append : Room := { frames := 1, cells := 0, slots := 0, locals := 22 }
abbrev mX11_append : gY := (cX11_append, RX11, 6, rX11_append)
def fX11_append (x1 : Int32) (x2 : Int32) (x3 : Int32) (x4 : Int32) (x5 : Int32) (M0 : gMem) : Option (Int32 × gMem) :=
  (fX11_wrong (if ((M0.1 0 21) + (20 : Int32)) ≤ (900 : Int32) then (0 : Int32) else (1 : Int32)) M0).bind fun v2 => if v2.1 = 0 then ((fX11_four x1 v2.2).bind fun v4 => (fX11_four x2 v4).bind fun v5 => (fX11_four x3 v5).bind fun v6 => (fX11_four x4 v6).bind fun v7 => (fX11_four x5 v7).bind fun v8 => some (v8.1 0 21, v8)) else some ((0 : Int32), v2.2)
set_option maxRecDepth 20000 in
theorem tX11_append {X : gX} {V : gEnv} {x1 : Int32} {x2 : Int32} {x3 : Int32} {x4 : Int32} {x5 : Int32} {M0 : gMem}  {o : (Int32 × gMem)} (h : fX11_append x1 x2 x3 x4 x5 M0 = some o) (O : gO X V mX11_append gShM (some .int) (some (.int o.1)) o.2) : gG X V mX11_append gShM M0 0 0 0 [(0, .ref (gAd V 0)), (1, .int x1), (2, .int x2), (3, .int x3), (4, .int x4), (5, .int x5)] [] := by
  unfold fX11_append at h
  refine g_aload_n 0 rfl rfl dX11_append_0 ?_
  refine g_aload_n 0 rfl rfl dX11_append_1 ?_
  refine g_getI FX11_209 sM_0 rfl dX11_append_2 ?_
  refine g_bipush (v := 20) rfl dX11_append_5 ?_
  refine g_iadd dX11_append_7 ?_
  refine g_sipush (v := 900) rfl dX11_append_8 ?_
  have KJ : gG X V mX11_append gShM M0 0 0 19 [(0, .ref (gAd V 0)), (1, .int x1), (2, .int x2), (3, .int x3), (4, .int x4), (5, .int x5)] [.int (if ((M0.1 0 21) + (20 : Int32)) ≤ (900 : Int32) then (0 : Int32) else (1 : Int32)), .ref (gAd V 0)] := by
    obtain ⟨v2, ev2, h⟩ := g_bnd h
    refine g_callV LX11_212 sM_0 rfl (kX11_wrong ev2) rfl rfl (Nat.le_of_ble_eq_true rfl) ⟨Nat.le_of_ble_eq_true rfl, Nat.le_of_ble_eq_true rfl⟩ ⟨Nat.le_of_ble_eq_true rfl, Nat.le_of_ble_eq_true rfl⟩ dX11_append_19 rfl ?_
    rcases g_ite h with ⟨c3, h⟩ | ⟨c3, h⟩
    · refine g_if_eq_t c3 (tgt := 27) rfl dX11_append_22 ?_
      refine g_aload_n 0 rfl rfl dX11_append_27 ?_
      refine g_iload_n 1 rfl rfl dX11_append_28 ?_
      obtain ⟨v4, ev4, h⟩ := g_bnd h
      refine g_callV LX11_216 sM_0 rfl (kX11_four ev4) rfl rfl (Nat.le_of_ble_eq_true rfl) ⟨Nat.le_of_ble_eq_true rfl, Nat.le_of_ble_eq_true rfl⟩ ⟨Nat.le_of_ble_eq_true rfl, Nat.le_of_ble_eq_true rfl⟩ dX11_append_29 rfl ?_
      refine g_aload_n 0 rfl rfl dX11_append_32 ?_
      refine g_iload_n 2 rfl rfl dX11_append_33 ?_
      obtain ⟨v5, ev5, h⟩ := g_bnd h
      refine g_callV LX11_216 sM_0 rfl (kX11_four ev5) rfl rfl (Nat.le_of_ble_eq_true rfl) ⟨Nat.le_of_ble_eq_true rfl, Nat.le_of_ble_eq_true rfl⟩ ⟨Nat.le_of_ble_eq_true rfl, Nat.le_of_ble_eq_true rfl⟩ dX11_append_34 rfl ?_
      refine g_aload_n 0 rfl rfl dX11_append_37 ?_
      refine g_iload_n 3 rfl rfl dX11_append_38 ?_
      obtain ⟨v6, ev6, h⟩ := g_bnd h
      refine g_callV LX11_216 sM_0 rfl (kX11_four ev6) rfl rfl (Nat.le_of_ble_eq_true rfl) ⟨Nat.le_of_ble_eq_true rfl, Nat.le_of_ble_eq_true rfl⟩ ⟨Nat.le_of_ble_eq_true rfl, Nat.le_of_ble_eq_true rfl⟩ dX11_append_39 rfl ?_
      refine g_aload_n 0 rfl rfl dX11_append_42 ?_
      refine g_iload 4 rfl dX11_append_43 ?_
      obtain ⟨v7, ev7, h⟩ := g_bnd h
      refine g_callV LX11_216 sM_0 rfl (kX11_four ev7) rfl rfl (Nat.le_of_ble_eq_true rfl) ⟨Nat.le_of_ble_eq_true rfl, Nat.le_of_ble_eq_true rfl⟩ ⟨Nat.le_of_ble_eq_true rfl, Nat.le_of_ble_eq_true rfl⟩ dX11_append_45 rfl ?_
      refine g_aload_n 0 rfl rfl dX11_append_48 ?_
      refine g_iload 5 rfl dX11_append_49 ?_
      obtain ⟨v8, ev8, h⟩ := g_bnd h
      refine g_callV LX11_216 sM_0 rfl (kX11_four ev8) rfl rfl (Nat.le_of_ble_eq_true rfl) ⟨Nat.le_of_ble_eq_true rfl, Nat.le_of_ble_eq_true rfl⟩ ⟨Nat.le_of_ble_eq_true rfl, Nat.le_of_ble_eq_true rfl⟩ dX11_append_51 rfl ?_
      refine g_aload_n 0 rfl rfl dX11_append_54 ?_
      refine g_getI FX11_209 sM_0 rfl dX11_append_55 ?_
      cases h
      exact g_iret O ⟨Nat.le_of_ble_eq_true rfl, Nat.le_of_ble_eq_true rfl⟩ rfl dX11_append_58
    · refine g_if_eq_f c3 (tgt := 27) rfl dX11_append_22 ?_
      refine g_iconst (v := 0) rfl dX11_append_25 ?_
      cases h
      exact g_iret O ⟨Nat.le_of_ble_eq_true rfl, Nat.le_of_ble_eq_true rfl⟩ rfl dX11_append_26
  by_cases c1 : ((M0.1 0 21) + (20 : Int32)) ≤ (900 : Int32)
  · rw [if_pos c1] at KJ
    refine g_icmp_le_t c1 (tgt := 18) rfl dX11_append_11 ?_
    refine g_iconst (v := 0) rfl dX11_append_18 ?_
    exact KJ
  · rw [if_neg c1] at KJ
    refine g_icmp_le_f c1 (tgt := 18) rfl dX11_append_11 ?_
    refine g_iconst (v := 1) rfl dX11_append_14 ?_
    refine g_goto (tgt := 19) rfl dX11_append_15 ?_
    exact KJ
theorem kX11_append {l : Launch} {V : gEnv} {M0 : gMem} {x1 : Int32} {x2 : Int32} {x3 : Int32} {x4 : Int32} {x5 : Int32}  {o : (Int32 × gMem)} (h : fX11_append x1 x2 x3 x4 x5 M0 = some o) : gM l yX11_append cX11_append 6 (some .int) rX11_append V gShM [.ref (gAd V 0), .int x1, .int x2, .int x3, .int x4, .int x5] M0 (some (.int o.1)) o.2 :=
  gM.of (by decide) (Nat.le_of_ble_eq_true rfl) rfl (fun X _ O => tX11_append  h O)
theorem dX11_truncate_0 : decode cX11_truncate 0 = .ok (.aload_n 0, 1) := by decide +kernel
theorem dX11_truncate_1 : decode cX11_truncate 1 = .ok (.iload_n 1, 1) := by decide +kernel
theorem dX11_truncate_2 : decode cX11_truncate 2 = .ok (.iconst 0, 1) := by decide +kernel
theorem dX11_truncate_3 : decode cX11_truncate 3 = .ok (.aload_n 0, 1) := by decide +kernel
theorem dX11_truncate_4 : decode cX11_truncate 4 = .ok (.getfield 209, 3) := by decide +kernel
theorem dX11_truncate_7 : decode cX11_truncate 7 = .ok (.invokestatic 172, 3) := by decide +kernel
theorem dX11_truncate_10 : decode cX11_truncate 10 = .ok (.ifCond .ne 7, 3) := by decide +kernel
theorem dX11_truncate_13 : decode cX11_truncate 13 = .ok (.iconst 1, 1) := by decide +kernel
theorem dX11_truncate_14 : decode cX11_truncate 14 = .ok (.goto 4, 3) := by decide +kernel
theorem dX11_truncate_17 : decode cX11_truncate 17 = .ok (.iconst 0, 1) := by decide +kernel
theorem dX11_truncate_18 : decode cX11_truncate 18 = .ok (.invokevirtual 212, 3) := by decide +kernel
theorem dX11_truncate_21 : decode cX11_truncate 21 = .ok (.ifCond .eq 5, 3) := by decide +kernel
theorem dX11_truncate_24 : decode cX11_truncate 24 = .ok (.iconst 0, 1) := by decide +kernel
theorem dX11_truncate_25 : decode cX11_truncate 25 = .ok (.ireturn, 1) := by decide +kernel
theorem dX11_truncate_26 : decode cX11_truncate 26 = .ok (.aload_n 0, 1) := by decide +kernel
theorem dX11_truncate_27 : decode cX11_truncate 27 = .ok (.iload_n 1, 1) := by decide +kernel
theorem dX11_truncate_28 : decode cX11_truncate 28 = .ok (.putfield 209, 3) := by decide +kernel
theorem dX11_truncate_31 : decode cX11_truncate 31 = .ok (.aload_n 0, 1) := by decide +kernel
theorem dX11_truncate_32 : decode cX11_truncate 32 = .ok (.getfield 209, 3) := by decide +kernel
theorem dX11_truncate_35 : decode cX11_truncate 35 = .ok (.ireturn, 1) := by decide +kernel
abbrev rX11_truncate : Room := { frames := 1, cells := 0, slots := 0, locals := 22 }
abbrev mX11_truncate : gY := (cX11_truncate, RX11, 2, rX11_truncate)
def fX11_truncate (x1 : Int32) (M0 : gMem) : Option (Int32 × gMem) :=
  (fX11_in x1 (0 : Int32) (M0.1 0 21)).bind fun v1 => (fX11_wrong (if v1 = 0 then (1 : Int32) else (0 : Int32)) M0).bind fun v3 => if v3.1 = 0 then ((wF v3.2 0 21 x1).bind fun M5 => some (M5.1 0 21, M5)) else some ((0 : Int32), v3.2)
set_option maxRecDepth 20000 in
theorem tX11_truncate {X : gX} {V : gEnv} {x1 : Int32} {M0 : gMem}  {o : (Int32 × gMem)} (h : fX11_truncate x1 M0 = some o) (O : gO X V mX11_truncate gShM (some .int) (some (.int o.1)) o.2) : gG X V mX11_truncate gShM M0 0 0 0 [(0, .ref (gAd V 0)), (1, .int x1)] [] := by
  unfold fX11_truncate at h
  refine g_aload_n 0 rfl rfl dX11_truncate_0 ?_
  refine g_iload_n 1 rfl rfl dX11_truncate_1 ?_
  refine g_iconst (v := 0) rfl dX11_truncate_2 ?_
  refine g_aload_n 0 rfl rfl dX11_truncate_3 ?_
  refine g_getI FX11_209 sM_0 rfl dX11_truncate_4 ?_
  obtain ⟨v1, ev1, h⟩ := g_bnd h
  refine g_callS LX11_172 (kX11_in ev1) rfl rfl (Nat.le_of_ble_eq_true rfl) ⟨Nat.le_of_ble_eq_true rfl, Nat.le_of_ble_eq_true rfl⟩ ⟨Nat.le_of_ble_eq_true rfl, Nat.le_of_ble_eq_true rfl⟩ dX11_truncate_7 rfl ?_
  have KJ : gG X V mX11_truncate gShM M0 0 0 18 [(0, .ref (gAd V 0)), (1, .int x1)] [.int (if v1 = 0 then (1 : Int32) else (0 : Int32)), .ref (gAd V 0)] := by
    obtain ⟨v3, ev3, h⟩ := g_bnd h
    refine g_callV LX11_212 sM_0 rfl (kX11_wrong ev3) rfl rfl (Nat.le_of_ble_eq_true rfl) ⟨Nat.le_of_ble_eq_true rfl, Nat.le_of_ble_eq_true rfl⟩ ⟨Nat.le_of_ble_eq_true rfl, Nat.le_of_ble_eq_true rfl⟩ dX11_truncate_18 rfl ?_
    rcases g_ite h with ⟨c4, h⟩ | ⟨c4, h⟩
    · refine g_if_eq_t c4 (tgt := 26) rfl dX11_truncate_21 ?_
      refine g_aload_n 0 rfl rfl dX11_truncate_26 ?_
      refine g_iload_n 1 rfl rfl dX11_truncate_27 ?_
      obtain ⟨M5, eM5, h⟩ := g_bnd h
      refine g_putI' eM5 FX11_209 jX11 sM_0 rfl rfl rfl dX11_truncate_28 ?_
      refine g_aload_n 0 rfl rfl dX11_truncate_31 ?_
      refine g_getI FX11_209 sM_0 rfl dX11_truncate_32 ?_
      cases h
      exact g_iret O ⟨Nat.le_of_ble_eq_true rfl, Nat.le_of_ble_eq_true rfl⟩ rfl dX11_truncate_35
    · refine g_if_eq_f c4 (tgt := 26) rfl dX11_truncate_21 ?_
      refine g_iconst (v := 0) rfl dX11_truncate_24 ?_
      cases h
      exact g_iret O ⟨Nat.le_of_ble_eq_true rfl, Nat.le_of_ble_eq_true rfl⟩ rfl dX11_truncate_25
  by_cases c2 : v1 = 0
  · rw [if_pos c2] at KJ
    refine g_if_ne_f c2 (tgt := 17) rfl dX11_truncate_10 ?_
    refine g_iconst (v := 1) rfl dX11_truncate_13 ?_
    refine g_goto (tgt := 18) rfl dX11_truncate_14 ?_
    exact KJ
  · rw [if_neg c2] at KJ
    refine g_if_ne_t c2 (tgt := 17) rfl dX11_truncate_10 ?_
    refine g_iconst (v := 0) rfl dX11_truncate_17 ?_
    exact KJ
theorem kX11_truncate {l : Launch} {V : gEnv} {M0 : gMem} {x1 : Int32}  {o : (Int32 × gMem)} (h : fX11_truncate x1 M0 = some o) : gM l yX11_truncate cX11_truncate 2 (some .int) rX11_truncate V gShM [.ref (gAd V 0), .int x1] M0 (some (.int o.1)) o.2 :=
  gM.of (by decide) (Nat.le_of_ble_eq_true rfl) rfl (fun X _ O => tX11_truncate  h O)
theorem dX11_at_0 : decode cX11_at 0 = .ok (.iload_n 1, 1) := by decide +kernel
theorem dX11_at_1 : decode cX11_at 1 = .ok (.aload_n 0, 1) := by decide +kernel
theorem dX11_at_2 : decode cX11_at 2 = .ok (.getfield 209, 3) := by decide +kernel
theorem dX11_at_5 : decode cX11_at 5 = .ok (.if_icmp .ge 12, 3) := by decide +kernel
theorem dX11_at_8 : decode cX11_at 8 = .ok (.aload_n 0, 1) := by decide +kernel
theorem dX11_at_9 : decode cX11_at 9 = .ok (.getfield 43, 3) := by decide +kernel
theorem dX11_at_12 : decode cX11_at 12 = .ok (.iload_n 1, 1) := by decide +kernel
theorem dX11_at_13 : decode cX11_at 13 = .ok (.iaload, 1) := by decide +kernel
theorem dX11_at_14 : decode cX11_at 14 = .ok (.goto 4, 3) := by decide +kernel
theorem dX11_at_17 : decode cX11_at 17 = .ok (.iconst (-1), 1) := by decide +kernel
theorem dX11_at_18 : decode cX11_at 18 = .ok (.ireturn, 1) := by decide +kernel
abbrev rX11_at : Room := { frames := 0, cells := 0, slots := 0, locals := 0 }
abbrev mX11_at : gY := (cX11_at, RX11, 2, rX11_at)
def fX11_at (x1 : Int32) (M0 : gMem) : Option Int32 :=
  if (M0.1 0 21) ≤ x1 then (some (-1 : Int32)) else (rI M0 12 900 x1).bind fun v2 => some v2
set_option maxRecDepth 20000 in
theorem tX11_at {X : gX} {V : gEnv} {x1 : Int32} {M0 : gMem}  {o : Int32} (h : fX11_at x1 M0 = some o) (O : gO X V mX11_at gShM (some .int) (some (.int o)) M0) : gG X V mX11_at gShM M0 0 0 0 [(0, .ref (gAd V 0)), (1, .int x1)] [] := by
  unfold fX11_at at h
  refine g_iload_n 1 rfl rfl dX11_at_0 ?_
  refine g_aload_n 0 rfl rfl dX11_at_1 ?_
  refine g_getI FX11_209 sM_0 rfl dX11_at_2 ?_
  rcases g_ite h with ⟨c1, h⟩ | ⟨c1, h⟩
  · refine g_icmp_ge_t c1 (tgt := 17) rfl dX11_at_5 ?_
    refine g_iconst (v := -1) rfl dX11_at_17 ?_
    cases h
    exact g_iret O ⟨Nat.le_of_ble_eq_true rfl, Nat.le_of_ble_eq_true rfl⟩ rfl dX11_at_18
  · refine g_icmp_ge_f c1 (tgt := 17) rfl dX11_at_5 ?_
    refine g_aload_n 0 rfl rfl dX11_at_8 ?_
    refine g_getR FX11_43 sM_0 rfl dX11_at_9 ?_
    refine g_iload_n 1 rfl rfl dX11_at_12 ?_
    obtain ⟨v2, ev2, h⟩ := g_bnd h
    refine g_iald' ev2 sM_12 dX11_at_13 ?_
    refine g_goto (tgt := 18) rfl dX11_at_14 ?_
    cases h
    exact g_iret O ⟨Nat.le_of_ble_eq_true rfl, Nat.le_of_ble_eq_true rfl⟩ rfl dX11_at_18
theorem kX11_at {l : Launch} {V : gEnv} {M0 : gMem} {x1 : Int32}  {o : Int32} (h : fX11_at x1 M0 = some o) : gM l yX11_at cX11_at 2 (some .int) rX11_at V gShM [.ref (gAd V 0), .int x1] M0 (some (.int o)) M0 :=
  gM.of (by decide) (Nat.le_of_ble_eq_true rfl) rfl (fun X _ O => tX11_at  h O)
theorem dX11_isLetter_0 : decode cX11_isLetter 0 = .ok (.aload_n 0, 1) := by decide +kernel
theorem dX11_isLetter_1 : decode cX11_isLetter 1 = .ok (.iload_n 1, 1) := by decide +kernel
theorem dX11_isLetter_2 : decode cX11_isLetter 2 = .ok (.invokevirtual 219, 3) := by decide +kernel
theorem dX11_isLetter_5 : decode cX11_isLetter 5 = .ok (.bipush 97, 2) := by decide +kernel
theorem dX11_isLetter_7 : decode cX11_isLetter 7 = .ok (.bipush 122, 2) := by decide +kernel
theorem dX11_isLetter_9 : decode cX11_isLetter 9 = .ok (.invokestatic 172, 3) := by decide +kernel
theorem dX11_isLetter_12 : decode cX11_isLetter 12 = .ok (.ireturn, 1) := by decide +kernel
abbrev rX11_isLetter : Room := { frames := 1, cells := 0, slots := 0, locals := 22 }
abbrev mX11_isLetter : gY := (cX11_isLetter, RX11, 2, rX11_isLetter)
def fX11_isLetter (x1 : Int32) (M0 : gMem) : Option Int32 :=
  (fX11_at x1 M0).bind fun v1 => (fX11_in v1 (97 : Int32) (122 : Int32)).bind fun v2 => (zv v2).bind fun v3 => some v3
set_option maxRecDepth 20000 in
theorem tX11_isLetter {X : gX} {V : gEnv} {x1 : Int32} {M0 : gMem}  {o : Int32} (h : fX11_isLetter x1 M0 = some o) (O : gO X V mX11_isLetter gShM (some .boolean) (some (.int o)) M0) : gG X V mX11_isLetter gShM M0 0 0 0 [(0, .ref (gAd V 0)), (1, .int x1)] [] := by
  unfold fX11_isLetter at h
  refine g_aload_n 0 rfl rfl dX11_isLetter_0 ?_
  refine g_iload_n 1 rfl rfl dX11_isLetter_1 ?_
  obtain ⟨v1, ev1, h⟩ := g_bnd h
  refine g_callV LX11_219 sM_0 rfl (kX11_at ev1) rfl rfl (Nat.le_of_ble_eq_true rfl) ⟨Nat.le_of_ble_eq_true rfl, Nat.le_of_ble_eq_true rfl⟩ ⟨Nat.le_of_ble_eq_true rfl, Nat.le_of_ble_eq_true rfl⟩ dX11_isLetter_2 rfl ?_
  refine g_bipush (v := 97) rfl dX11_isLetter_5 ?_
  refine g_bipush (v := 122) rfl dX11_isLetter_7 ?_
  obtain ⟨v2, ev2, h⟩ := g_bnd h
  refine g_callS LX11_172 (kX11_in ev2) rfl rfl (Nat.le_of_ble_eq_true rfl) ⟨Nat.le_of_ble_eq_true rfl, Nat.le_of_ble_eq_true rfl⟩ ⟨Nat.le_of_ble_eq_true rfl, Nat.le_of_ble_eq_true rfl⟩ dX11_isLetter_9 rfl ?_
  obtain ⟨v3, ev3, h⟩ := g_bnd h
  refine g_zv ev3 ?_
  cases h
  exact g_iret O ⟨Nat.le_of_ble_eq_true rfl, Nat.le_of_ble_eq_true rfl⟩ (g_nz (zv_ok ev3)) dX11_isLetter_12
theorem kX11_isLetter {l : Launch} {V : gEnv} {M0 : gMem} {x1 : Int32}  {o : Int32} (h : fX11_isLetter x1 M0 = some o) : gM l yX11_isLetter cX11_isLetter 2 (some .boolean) rX11_isLetter V gShM [.ref (gAd V 0), .int x1] M0 (some (.int o)) M0 :=
  gM.of (by decide) (Nat.le_of_ble_eq_true rfl) rfl (fun X _ O => tX11_isLetter  h O)
theorem dX11_isDigit_0 : decode cX11_isDigit 0 = .ok (.aload_n 0, 1) := by decide +kernel
theorem dX11_isDigit_1 : decode cX11_isDigit 1 = .ok (.iload_n 1, 1) := by decide +kernel
theorem dX11_isDigit_2 : decode cX11_isDigit 2 = .ok (.invokevirtual 219, 3) := by decide +kernel
theorem dX11_isDigit_5 : decode cX11_isDigit 5 = .ok (.bipush 48, 2) := by decide +kernel
theorem dX11_isDigit_7 : decode cX11_isDigit 7 = .ok (.bipush 57, 2) := by decide +kernel
theorem dX11_isDigit_9 : decode cX11_isDigit 9 = .ok (.invokestatic 172, 3) := by decide +kernel
theorem dX11_isDigit_12 : decode cX11_isDigit 12 = .ok (.ireturn, 1) := by decide +kernel
abbrev rX11_isDigit : Room := { frames := 1, cells := 0, slots := 0, locals := 22 }
abbrev mX11_isDigit : gY := (cX11_isDigit, RX11, 2, rX11_isDigit)
def fX11_isDigit (x1 : Int32) (M0 : gMem) : Option Int32 :=
  (fX11_at x1 M0).bind fun v1 => (fX11_in v1 (48 : Int32) (57 : Int32)).bind fun v2 => (zv v2).bind fun v3 => some v3
set_option maxRecDepth 20000 in
theorem tX11_isDigit {X : gX} {V : gEnv} {x1 : Int32} {M0 : gMem}  {o : Int32} (h : fX11_isDigit x1 M0 = some o) (O : gO X V mX11_isDigit gShM (some .boolean) (some (.int o)) M0) : gG X V mX11_isDigit gShM M0 0 0 0 [(0, .ref (gAd V 0)), (1, .int x1)] [] := by
  unfold fX11_isDigit at h
  refine g_aload_n 0 rfl rfl dX11_isDigit_0 ?_
  refine g_iload_n 1 rfl rfl dX11_isDigit_1 ?_
  obtain ⟨v1, ev1, h⟩ := g_bnd h
  refine g_callV LX11_219 sM_0 rfl (kX11_at ev1) rfl rfl (Nat.le_of_ble_eq_true rfl) ⟨Nat.le_of_ble_eq_true rfl, Nat.le_of_ble_eq_true rfl⟩ ⟨Nat.le_of_ble_eq_true rfl, Nat.le_of_ble_eq_true rfl⟩ dX11_isDigit_2 rfl ?_
  refine g_bipush (v := 48) rfl dX11_isDigit_5 ?_
  refine g_bipush (v := 57) rfl dX11_isDigit_7 ?_
  obtain ⟨v2, ev2, h⟩ := g_bnd h
  refine g_callS LX11_172 (kX11_in ev2) rfl rfl (Nat.le_of_ble_eq_true rfl) ⟨Nat.le_of_ble_eq_true rfl, Nat.le_of_ble_eq_true rfl⟩ ⟨Nat.le_of_ble_eq_true rfl, Nat.le_of_ble_eq_true rfl⟩ dX11_isDigit_9 rfl ?_
  obtain ⟨v3, ev3, h⟩ := g_bnd h
  refine g_zv ev3 ?_
  cases h
  exact g_iret O ⟨Nat.le_of_ble_eq_true rfl, Nat.le_of_ble_eq_true rfl⟩ (g_nz (zv_ok ev3)) dX11_isDigit_12
theorem kX11_isDigit {l : Launch} {V : gEnv} {M0 : gMem} {x1 : Int32}  {o : Int32} (h : fX11_isDigit x1 M0 = some o) : gM l yX11_isDigit cX11_isDigit 2 (some .boolean) rX11_isDigit V gShM [.ref (gAd V 0), .int x1] M0 (some (.int o)) M0 :=
  gM.of (by decide) (Nat.le_of_ble_eq_true rfl) rfl (fun X _ O => tX11_isDigit  h O)
theorem dX11_goesOn_0 : decode cX11_goesOn 0 = .ok (.aload_n 0, 1) := by decide +kernel
theorem dX11_goesOn_1 : decode cX11_goesOn 1 = .ok (.aload_n 0, 1) := by decide +kernel
theorem dX11_goesOn_2 : decode cX11_goesOn 2 = .ok (.getfield 222, 3) := by decide +kernel
theorem dX11_goesOn_5 : decode cX11_goesOn 5 = .ok (.invokevirtual 219, 3) := by decide +kernel
theorem dX11_goesOn_8 : decode cX11_goesOn 8 = .ok (.bipush 32, 2) := by decide +kernel
theorem dX11_goesOn_10 : decode cX11_goesOn 10 = .ok (.if_icmp .ne 16, 3) := by decide +kernel
theorem dX11_goesOn_13 : decode cX11_goesOn 13 = .ok (.aload_n 0, 1) := by decide +kernel
theorem dX11_goesOn_14 : decode cX11_goesOn 14 = .ok (.dup, 1) := by decide +kernel
theorem dX11_goesOn_15 : decode cX11_goesOn 15 = .ok (.getfield 222, 3) := by decide +kernel
theorem dX11_goesOn_18 : decode cX11_goesOn 18 = .ok (.iconst 1, 1) := by decide +kernel
theorem dX11_goesOn_19 : decode cX11_goesOn 19 = .ok (.iadd, 1) := by decide +kernel
theorem dX11_goesOn_20 : decode cX11_goesOn 20 = .ok (.putfield 222, 3) := by decide +kernel
theorem dX11_goesOn_23 : decode cX11_goesOn 23 = .ok (.goto (-23), 3) := by decide +kernel
theorem dX11_goesOn_26 : decode cX11_goesOn 26 = .ok (.aload_n 0, 1) := by decide +kernel
theorem dX11_goesOn_27 : decode cX11_goesOn 27 = .ok (.aload_n 0, 1) := by decide +kernel
theorem dX11_goesOn_28 : decode cX11_goesOn 28 = .ok (.getfield 222, 3) := by decide +kernel
theorem dX11_goesOn_31 : decode cX11_goesOn 31 = .ok (.putfield 225, 3) := by decide +kernel
theorem dX11_goesOn_34 : decode cX11_goesOn 34 = .ok (.aload_n 0, 1) := by decide +kernel
theorem dX11_goesOn_35 : decode cX11_goesOn 35 = .ok (.iconst 0, 1) := by decide +kernel
theorem dX11_goesOn_36 : decode cX11_goesOn 36 = .ok (.putfield 228, 3) := by decide +kernel
theorem dX11_goesOn_39 : decode cX11_goesOn 39 = .ok (.aload_n 0, 1) := by decide +kernel
theorem dX11_goesOn_40 : decode cX11_goesOn 40 = .ok (.getfield 225, 3) := by decide +kernel
theorem dX11_goesOn_43 : decode cX11_goesOn 43 = .ok (.aload_n 0, 1) := by decide +kernel
theorem dX11_goesOn_44 : decode cX11_goesOn 44 = .ok (.getfield 209, 3) := by decide +kernel
theorem dX11_goesOn_47 : decode cX11_goesOn 47 = .ok (.if_icmp .ne 11, 3) := by decide +kernel
theorem dX11_goesOn_50 : decode cX11_goesOn 50 = .ok (.aload_n 0, 1) := by decide +kernel
theorem dX11_goesOn_51 : decode cX11_goesOn 51 = .ok (.iconst 0, 1) := by decide +kernel
theorem dX11_goesOn_52 : decode cX11_goesOn 52 = .ok (.putfield 231, 3) := by decide +kernel
theorem dX11_goesOn_55 : decode cX11_goesOn 55 = .ok (.goto 158, 3) := by decide +kernel
theorem dX11_goesOn_58 : decode cX11_goesOn 58 = .ok (.aload_n 0, 1) := by decide +kernel
theorem dX11_goesOn_59 : decode cX11_goesOn 59 = .ok (.aload_n 0, 1) := by decide +kernel
theorem dX11_goesOn_60 : decode cX11_goesOn 60 = .ok (.getfield 225, 3) := by decide +kernel
theorem dX11_goesOn_63 : decode cX11_goesOn 63 = .ok (.invokevirtual 234, 3) := by decide +kernel
theorem dX11_goesOn_66 : decode cX11_goesOn 66 = .ok (.ifCond .eq 32, 3) := by decide +kernel
theorem dX11_goesOn_69 : decode cX11_goesOn 69 = .ok (.aload_n 0, 1) := by decide +kernel
theorem dX11_goesOn_70 : decode cX11_goesOn 70 = .ok (.iconst 1, 1) := by decide +kernel
theorem dX11_goesOn_71 : decode cX11_goesOn 71 = .ok (.putfield 231, 3) := by decide +kernel
theorem dX11_goesOn_74 : decode cX11_goesOn 74 = .ok (.aload_n 0, 1) := by decide +kernel
theorem dX11_goesOn_75 : decode cX11_goesOn 75 = .ok (.aload_n 0, 1) := by decide +kernel
theorem dX11_goesOn_76 : decode cX11_goesOn 76 = .ok (.getfield 222, 3) := by decide +kernel
theorem dX11_goesOn_79 : decode cX11_goesOn 79 = .ok (.invokevirtual 234, 3) := by decide +kernel
theorem dX11_goesOn_82 : decode cX11_goesOn 82 = .ok (.ifCond .eq 131, 3) := by decide +kernel
theorem dX11_goesOn_85 : decode cX11_goesOn 85 = .ok (.aload_n 0, 1) := by decide +kernel
theorem dX11_goesOn_86 : decode cX11_goesOn 86 = .ok (.dup, 1) := by decide +kernel
theorem dX11_goesOn_87 : decode cX11_goesOn 87 = .ok (.getfield 222, 3) := by decide +kernel
theorem dX11_goesOn_90 : decode cX11_goesOn 90 = .ok (.iconst 1, 1) := by decide +kernel
theorem dX11_goesOn_91 : decode cX11_goesOn 91 = .ok (.iadd, 1) := by decide +kernel
theorem dX11_goesOn_92 : decode cX11_goesOn 92 = .ok (.putfield 222, 3) := by decide +kernel
theorem dX11_goesOn_95 : decode cX11_goesOn 95 = .ok (.goto (-21), 3) := by decide +kernel
theorem dX11_goesOn_98 : decode cX11_goesOn 98 = .ok (.aload_n 0, 1) := by decide +kernel
theorem dX11_goesOn_99 : decode cX11_goesOn 99 = .ok (.aload_n 0, 1) := by decide +kernel
theorem dX11_goesOn_100 : decode cX11_goesOn 100 = .ok (.getfield 225, 3) := by decide +kernel
theorem dX11_goesOn_103 : decode cX11_goesOn 103 = .ok (.invokevirtual 237, 3) := by decide +kernel
theorem dX11_goesOn_106 : decode cX11_goesOn 106 = .ok (.ifCond .eq 75, 3) := by decide +kernel
theorem dX11_goesOn_109 : decode cX11_goesOn 109 = .ok (.aload_n 0, 1) := by decide +kernel
theorem dX11_goesOn_110 : decode cX11_goesOn 110 = .ok (.iconst 2, 1) := by decide +kernel
theorem dX11_goesOn_111 : decode cX11_goesOn 111 = .ok (.putfield 231, 3) := by decide +kernel
theorem dX11_goesOn_114 : decode cX11_goesOn 114 = .ok (.aload_n 0, 1) := by decide +kernel
theorem dX11_goesOn_115 : decode cX11_goesOn 115 = .ok (.aload_n 0, 1) := by decide +kernel
theorem dX11_goesOn_116 : decode cX11_goesOn 116 = .ok (.getfield 222, 3) := by decide +kernel
theorem dX11_goesOn_119 : decode cX11_goesOn 119 = .ok (.invokevirtual 237, 3) := by decide +kernel
theorem dX11_goesOn_122 : decode cX11_goesOn 122 = .ok (.ifCond .eq 91, 3) := by decide +kernel
theorem dX11_goesOn_125 : decode cX11_goesOn 125 = .ok (.aload_n 0, 1) := by decide +kernel
theorem dX11_goesOn_126 : decode cX11_goesOn 126 = .ok (.aload_n 0, 1) := by decide +kernel
theorem dX11_goesOn_127 : decode cX11_goesOn 127 = .ok (.getfield 222, 3) := by decide +kernel
theorem dX11_goesOn_130 : decode cX11_goesOn 130 = .ok (.aload_n 0, 1) := by decide +kernel
theorem dX11_goesOn_131 : decode cX11_goesOn 131 = .ok (.getfield 225, 3) := by decide +kernel
theorem dX11_goesOn_134 : decode cX11_goesOn 134 = .ok (.isub, 1) := by decide +kernel
theorem dX11_goesOn_135 : decode cX11_goesOn 135 = .ok (.iconst 3, 1) := by decide +kernel
theorem dX11_goesOn_136 : decode cX11_goesOn 136 = .ok (.if_icmp .ge 25, 3) := by decide +kernel
theorem dX11_goesOn_139 : decode cX11_goesOn 139 = .ok (.bipush 10, 2) := by decide +kernel
theorem dX11_goesOn_141 : decode cX11_goesOn 141 = .ok (.aload_n 0, 1) := by decide +kernel
theorem dX11_goesOn_142 : decode cX11_goesOn 142 = .ok (.getfield 228, 3) := by decide +kernel
theorem dX11_goesOn_145 : decode cX11_goesOn 145 = .ok (.imul, 1) := by decide +kernel
theorem dX11_goesOn_146 : decode cX11_goesOn 146 = .ok (.aload_n 0, 1) := by decide +kernel
theorem dX11_goesOn_147 : decode cX11_goesOn 147 = .ok (.aload_n 0, 1) := by decide +kernel
theorem dX11_goesOn_148 : decode cX11_goesOn 148 = .ok (.getfield 222, 3) := by decide +kernel
theorem dX11_goesOn_151 : decode cX11_goesOn 151 = .ok (.invokevirtual 219, 3) := by decide +kernel
theorem dX11_goesOn_154 : decode cX11_goesOn 154 = .ok (.iadd, 1) := by decide +kernel
theorem dX11_goesOn_155 : decode cX11_goesOn 155 = .ok (.bipush 48, 2) := by decide +kernel
theorem dX11_goesOn_157 : decode cX11_goesOn 157 = .ok (.isub, 1) := by decide +kernel
theorem dX11_goesOn_158 : decode cX11_goesOn 158 = .ok (.goto 7, 3) := by decide +kernel
theorem dX11_goesOn_161 : decode cX11_goesOn 161 = .ok (.aload_n 0, 1) := by decide +kernel
theorem dX11_goesOn_162 : decode cX11_goesOn 162 = .ok (.getfield 228, 3) := by decide +kernel
theorem dX11_goesOn_165 : decode cX11_goesOn 165 = .ok (.putfield 228, 3) := by decide +kernel
theorem dX11_goesOn_168 : decode cX11_goesOn 168 = .ok (.aload_n 0, 1) := by decide +kernel
theorem dX11_goesOn_169 : decode cX11_goesOn 169 = .ok (.dup, 1) := by decide +kernel
theorem dX11_goesOn_170 : decode cX11_goesOn 170 = .ok (.getfield 222, 3) := by decide +kernel
theorem dX11_goesOn_173 : decode cX11_goesOn 173 = .ok (.iconst 1, 1) := by decide +kernel
theorem dX11_goesOn_174 : decode cX11_goesOn 174 = .ok (.iadd, 1) := by decide +kernel
theorem dX11_goesOn_175 : decode cX11_goesOn 175 = .ok (.putfield 222, 3) := by decide +kernel
theorem dX11_goesOn_178 : decode cX11_goesOn 178 = .ok (.goto (-64), 3) := by decide +kernel
theorem dX11_goesOn_181 : decode cX11_goesOn 181 = .ok (.aload_n 0, 1) := by decide +kernel
theorem dX11_goesOn_182 : decode cX11_goesOn 182 = .ok (.aload_n 0, 1) := by decide +kernel
theorem dX11_goesOn_183 : decode cX11_goesOn 183 = .ok (.aload_n 0, 1) := by decide +kernel
theorem dX11_goesOn_184 : decode cX11_goesOn 184 = .ok (.getfield 225, 3) := by decide +kernel
theorem dX11_goesOn_187 : decode cX11_goesOn 187 = .ok (.invokevirtual 219, 3) := by decide +kernel
theorem dX11_goesOn_190 : decode cX11_goesOn 190 = .ok (.bipush 59, 2) := by decide +kernel
theorem dX11_goesOn_192 : decode cX11_goesOn 192 = .ok (.if_icmp .ne 7, 3) := by decide +kernel
theorem dX11_goesOn_195 : decode cX11_goesOn 195 = .ok (.iconst 3, 1) := by decide +kernel
theorem dX11_goesOn_196 : decode cX11_goesOn 196 = .ok (.goto 4, 3) := by decide +kernel
theorem dX11_goesOn_199 : decode cX11_goesOn 199 = .ok (.iconst 4, 1) := by decide +kernel
theorem dX11_goesOn_200 : decode cX11_goesOn 200 = .ok (.putfield 231, 3) := by decide +kernel
theorem dX11_goesOn_203 : decode cX11_goesOn 203 = .ok (.aload_n 0, 1) := by decide +kernel
theorem dX11_goesOn_204 : decode cX11_goesOn 204 = .ok (.dup, 1) := by decide +kernel
theorem dX11_goesOn_205 : decode cX11_goesOn 205 = .ok (.getfield 222, 3) := by decide +kernel
theorem dX11_goesOn_208 : decode cX11_goesOn 208 = .ok (.iconst 1, 1) := by decide +kernel
theorem dX11_goesOn_209 : decode cX11_goesOn 209 = .ok (.iadd, 1) := by decide +kernel
theorem dX11_goesOn_210 : decode cX11_goesOn 210 = .ok (.putfield 222, 3) := by decide +kernel
theorem dX11_goesOn_213 : decode cX11_goesOn 213 = .ok (.return_, 1) := by decide +kernel
abbrev rX11_goesOn : Room := { frames := 2, cells := 0, slots := 0, locals := 43 }
abbrev mX11_goesOn : gY := (cX11_goesOn, RX11, 1, rX11_goesOn)
def fX11_goesOn_l0 (M0 : gMem) : Option (gMem ⊕ gMem) :=
  (fX11_at (M0.1 0 22) M0).bind fun v1 => if v1 = (32 : Int32) then ((wF M0 0 22 ((M0.1 0 22) + (1 : Int32))).bind fun M3 => some (.inl M3)) else some (.inr M0)
set_option maxRecDepth 20000 in
theorem tX11_goesOn_l0 {X : gX} {V : gEnv} {M0 : gMem}  {o : (gMem ⊕ gMem)} (h : fX11_goesOn_l0 M0 = some o) (Kc : ∀ s9, o = .inl s9 → gG X V mX11_goesOn gShM s9 0 0 0 [(0, .ref (gAd V 0))] []) (Kx : ∀ e9, o = .inr e9 → gG X V mX11_goesOn gShM e9 0 0 26 [(0, .ref (gAd V 0))] []) : gG X V mX11_goesOn gShM M0 0 0 0 [(0, .ref (gAd V 0))] [] := by
  unfold fX11_goesOn_l0 at h
  refine g_aload_n 0 rfl rfl dX11_goesOn_0 ?_
  refine g_aload_n 0 rfl rfl dX11_goesOn_1 ?_
  refine g_getI FX11_222 sM_0 rfl dX11_goesOn_2 ?_
  obtain ⟨v1, ev1, h⟩ := g_bnd h
  refine g_callV LX11_219 sM_0 rfl (kX11_at ev1) rfl rfl (Nat.le_of_ble_eq_true rfl) ⟨Nat.le_of_ble_eq_true rfl, Nat.le_of_ble_eq_true rfl⟩ ⟨Nat.le_of_ble_eq_true rfl, Nat.le_of_ble_eq_true rfl⟩ dX11_goesOn_5 rfl ?_
  refine g_bipush (v := 32) rfl dX11_goesOn_8 ?_
  rcases g_ite h with ⟨c2, h⟩ | ⟨c2, h⟩
  · refine g_icmp_ne_f c2 (tgt := 26) rfl dX11_goesOn_10 ?_
    refine g_aload_n 0 rfl rfl dX11_goesOn_13 ?_
    refine g_dup rfl dX11_goesOn_14 ?_
    refine g_getI FX11_222 sM_0 rfl dX11_goesOn_15 ?_
    refine g_iconst (v := 1) rfl dX11_goesOn_18 ?_
    refine g_iadd dX11_goesOn_19 ?_
    obtain ⟨M3, eM3, h⟩ := g_bnd h
    refine g_putI' eM3 FX11_222 jX11 sM_0 rfl rfl rfl dX11_goesOn_20 ?_
    refine g_goto (tgt := 0) rfl dX11_goesOn_23 ?_
    cases h
    exact Kc M3 rfl
  · refine g_icmp_ne_t c2 (tgt := 26) rfl dX11_goesOn_10 ?_
    cases h
    exact Kx M0 rfl
def fX11_goesOn_b165 (s1 : Int32) (M0 : gMem) : Option (gMem ⊕ gMem) :=
  (wF M0 0 24 s1).bind fun M21 => (wF M21 0 22 ((M21.1 0 22) + (1 : Int32))).bind fun M22 => some (.inl M22)
set_option maxRecDepth 20000 in
theorem tX11_goesOn_b165 {X : gX} {V : gEnv} {s1 : Int32} {M0 : gMem}  {o : (gMem ⊕ gMem)} (h : fX11_goesOn_b165 s1 M0 = some o) (Kc : ∀ s9, o = .inl s9 → gG X V mX11_goesOn gShM s9 0 0 114 [(0, .ref (gAd V 0))] []) (Kx : ∀ e9, o = .inr e9 → gG X V mX11_goesOn gShM e9 0 0 213 [] []) : gG X V mX11_goesOn gShM M0 0 0 165 [(0, .ref (gAd V 0))] [.int s1, .ref (gAd V 0)] := by
  unfold fX11_goesOn_b165 at h
  obtain ⟨M21, eM21, h⟩ := g_bnd h
  refine g_putI' eM21 FX11_228 jX11 sM_0 rfl rfl rfl dX11_goesOn_165 ?_
  refine g_aload_n 0 rfl rfl dX11_goesOn_168 ?_
  refine g_dup rfl dX11_goesOn_169 ?_
  refine g_getI FX11_222 sM_0 rfl dX11_goesOn_170 ?_
  refine g_iconst (v := 1) rfl dX11_goesOn_173 ?_
  refine g_iadd dX11_goesOn_174 ?_
  obtain ⟨M22, eM22, h⟩ := g_bnd h
  refine g_putI' eM22 FX11_222 jX11 sM_0 rfl rfl rfl dX11_goesOn_175 ?_
  refine g_goto (tgt := 114) rfl dX11_goesOn_178 ?_
  cases h
  exact Kc M22 rfl
def fX11_goesOn_l114 (M0 : gMem) : Option (gMem ⊕ gMem) :=
  (fX11_isDigit (M0.1 0 22) M0).bind fun v18 => if v18 = 0 then (some (.inr M0)) else if (3 : Int32) ≤ ((M0.1 0 22) - (M0.1 0 23)) then (fX11_goesOn_b165 (M0.1 0 24) M0) else (fX11_at (M0.1 0 22) M0).bind fun v23 => fX11_goesOn_b165 ((((10 : Int32) * (M0.1 0 24)) + v23) - (48 : Int32)) M0
set_option maxRecDepth 20000 in
theorem tX11_goesOn_l114 {X : gX} {V : gEnv} {M0 : gMem}  {o : (gMem ⊕ gMem)} (h : fX11_goesOn_l114 M0 = some o) (Kc : ∀ s9, o = .inl s9 → gG X V mX11_goesOn gShM s9 0 0 114 [(0, .ref (gAd V 0))] []) (Kx : ∀ e9, o = .inr e9 → gG X V mX11_goesOn gShM e9 0 0 213 [] []) : gG X V mX11_goesOn gShM M0 0 0 114 [(0, .ref (gAd V 0))] [] := by
  unfold fX11_goesOn_l114 at h
  refine g_aload_n 0 rfl rfl dX11_goesOn_114 ?_
  refine g_aload_n 0 rfl rfl dX11_goesOn_115 ?_
  refine g_getI FX11_222 sM_0 rfl dX11_goesOn_116 ?_
  obtain ⟨v18, ev18, h⟩ := g_bnd h
  refine g_callV LX11_237 sM_0 rfl (kX11_isDigit ev18) rfl rfl (Nat.le_of_ble_eq_true rfl) ⟨Nat.le_of_ble_eq_true rfl, Nat.le_of_ble_eq_true rfl⟩ ⟨Nat.le_of_ble_eq_true rfl, Nat.le_of_ble_eq_true rfl⟩ dX11_goesOn_119 rfl ?_
  rcases g_ite h with ⟨c19, h⟩ | ⟨c19, h⟩
  · refine g_if_eq_t c19 (tgt := 213) rfl dX11_goesOn_122 ?_
    cases h
    refine g_sub [] rfl ?_
    exact Kx M0 rfl
  · refine g_if_eq_f c19 (tgt := 213) rfl dX11_goesOn_122 ?_
    refine g_aload_n 0 rfl rfl dX11_goesOn_125 ?_
    refine g_aload_n 0 rfl rfl dX11_goesOn_126 ?_
    refine g_getI FX11_222 sM_0 rfl dX11_goesOn_127 ?_
    refine g_aload_n 0 rfl rfl dX11_goesOn_130 ?_
    refine g_getI FX11_225 sM_0 rfl dX11_goesOn_131 ?_
    refine g_isub dX11_goesOn_134 ?_
    refine g_iconst (v := 3) rfl dX11_goesOn_135 ?_
    rcases g_ite h with ⟨c20, h⟩ | ⟨c20, h⟩
    · refine g_icmp_ge_t c20 (tgt := 161) rfl dX11_goesOn_136 ?_
      refine g_aload_n 0 rfl rfl dX11_goesOn_161 ?_
      refine g_getI FX11_228 sM_0 rfl dX11_goesOn_162 ?_
      exact tX11_goesOn_b165  h Kc Kx
    · refine g_icmp_ge_f c20 (tgt := 161) rfl dX11_goesOn_136 ?_
      refine g_bipush (v := 10) rfl dX11_goesOn_139 ?_
      refine g_aload_n 0 rfl rfl dX11_goesOn_141 ?_
      refine g_getI FX11_228 sM_0 rfl dX11_goesOn_142 ?_
      refine g_imul dX11_goesOn_145 ?_
      refine g_aload_n 0 rfl rfl dX11_goesOn_146 ?_
      refine g_aload_n 0 rfl rfl dX11_goesOn_147 ?_
      refine g_getI FX11_222 sM_0 rfl dX11_goesOn_148 ?_
      obtain ⟨v23, ev23, h⟩ := g_bnd h
      refine g_callV LX11_219 sM_0 rfl (kX11_at ev23) rfl rfl (Nat.le_of_ble_eq_true rfl) ⟨Nat.le_of_ble_eq_true rfl, Nat.le_of_ble_eq_true rfl⟩ ⟨Nat.le_of_ble_eq_true rfl, Nat.le_of_ble_eq_true rfl⟩ dX11_goesOn_151 rfl ?_
      refine g_iadd dX11_goesOn_154 ?_
      refine g_bipush (v := 48) rfl dX11_goesOn_155 ?_
      refine g_isub dX11_goesOn_157 ?_
      refine g_goto (tgt := 165) rfl dX11_goesOn_158 ?_
      exact tX11_goesOn_b165  h Kc Kx
def fX11_goesOn_l74 (M0 : gMem) : Option (gMem ⊕ gMem) :=
  (fX11_isLetter (M0.1 0 22) M0).bind fun v26 => if v26 = 0 then (some (.inr M0)) else (wF M0 0 22 ((M0.1 0 22) + (1 : Int32))).bind fun M28 => some (.inl M28)
set_option maxRecDepth 20000 in
theorem tX11_goesOn_l74 {X : gX} {V : gEnv} {M0 : gMem}  {o : (gMem ⊕ gMem)} (h : fX11_goesOn_l74 M0 = some o) (Kc : ∀ s9, o = .inl s9 → gG X V mX11_goesOn gShM s9 0 0 74 [(0, .ref (gAd V 0))] []) (Kx : ∀ e9, o = .inr e9 → gG X V mX11_goesOn gShM e9 0 0 213 [] []) : gG X V mX11_goesOn gShM M0 0 0 74 [(0, .ref (gAd V 0))] [] := by
  unfold fX11_goesOn_l74 at h
  refine g_aload_n 0 rfl rfl dX11_goesOn_74 ?_
  refine g_aload_n 0 rfl rfl dX11_goesOn_75 ?_
  refine g_getI FX11_222 sM_0 rfl dX11_goesOn_76 ?_
  obtain ⟨v26, ev26, h⟩ := g_bnd h
  refine g_callV LX11_234 sM_0 rfl (kX11_isLetter ev26) rfl rfl (Nat.le_of_ble_eq_true rfl) ⟨Nat.le_of_ble_eq_true rfl, Nat.le_of_ble_eq_true rfl⟩ ⟨Nat.le_of_ble_eq_true rfl, Nat.le_of_ble_eq_true rfl⟩ dX11_goesOn_79 rfl ?_
  rcases g_ite h with ⟨c27, h⟩ | ⟨c27, h⟩
  · refine g_if_eq_t c27 (tgt := 213) rfl dX11_goesOn_82 ?_
    cases h
    refine g_sub [] rfl ?_
    exact Kx M0 rfl
  · refine g_if_eq_f c27 (tgt := 213) rfl dX11_goesOn_82 ?_
    refine g_aload_n 0 rfl rfl dX11_goesOn_85 ?_
    refine g_dup rfl dX11_goesOn_86 ?_
    refine g_getI FX11_222 sM_0 rfl dX11_goesOn_87 ?_
    refine g_iconst (v := 1) rfl dX11_goesOn_90 ?_
    refine g_iadd dX11_goesOn_91 ?_
    obtain ⟨M28, eM28, h⟩ := g_bnd h
    refine g_putI' eM28 FX11_222 jX11 sM_0 rfl rfl rfl dX11_goesOn_92 ?_
    refine g_goto (tgt := 74) rfl dX11_goesOn_95 ?_
    cases h
    exact Kc M28 rfl
def fX11_goesOn (M0 : gMem) : Option gMem :=
  (gLoop (fun z9 => fX11_goesOn_l0 z9) gFu M0).bind fun w4 => (wF w4 0 23 (w4.1 0 22)).bind fun M5 => (wF M5 0 24 (0 : Int32)).bind fun M6 => if (M6.1 0 23) = (M6.1 0 21) then ((wF M6 0 25 (0 : Int32)).bind fun M8 => some M8) else (fX11_isLetter (M6.1 0 23) M6).bind fun v9 => if v9 = 0 then ((fX11_isDigit (M6.1 0 23) M6).bind fun v11 => if v11 = 0 then ((fX11_at (M6.1 0 23) M6).bind fun v13 => (wF M6 0 25 (if v13 = (59 : Int32) then (3 : Int32) else (4 : Int32))).bind fun M15 => (wF M15 0 22 ((M15.1 0 22) + (1 : Int32))).bind fun M16 => some M16) else (wF M6 0 25 (2 : Int32)).bind fun M17 => (gLoop (fun z9 => fX11_goesOn_l114 z9) gFu M17).bind fun w24 => some w24) else (wF M6 0 25 (1 : Int32)).bind fun M25 => (gLoop (fun z9 => fX11_goesOn_l74 z9) gFu M25).bind fun w29 => some w29
set_option maxRecDepth 20000 in
theorem tX11_goesOn {X : gX} {V : gEnv} {M0 : gMem}  {o : gMem} (h : fX11_goesOn M0 = some o) (O : gO X V mX11_goesOn gShM none none o) : gG X V mX11_goesOn gShM M0 0 0 0 [(0, .ref (gAd V 0))] [] := by
  unfold fX11_goesOn at h
  obtain ⟨w4, ew4, h⟩ := g_bnd h
  have KX : gG X V mX11_goesOn gShM w4 0 0 26 [(0, .ref (gAd V 0))] [] := by
    refine g_aload_n 0 rfl rfl dX11_goesOn_26 ?_
    refine g_aload_n 0 rfl rfl dX11_goesOn_27 ?_
    refine g_getI FX11_222 sM_0 rfl dX11_goesOn_28 ?_
    obtain ⟨M5, eM5, h⟩ := g_bnd h
    refine g_putI' eM5 FX11_225 jX11 sM_0 rfl rfl rfl dX11_goesOn_31 ?_
    refine g_aload_n 0 rfl rfl dX11_goesOn_34 ?_
    refine g_iconst (v := 0) rfl dX11_goesOn_35 ?_
    obtain ⟨M6, eM6, h⟩ := g_bnd h
    refine g_putI' eM6 FX11_228 jX11 sM_0 rfl rfl rfl dX11_goesOn_36 ?_
    refine g_aload_n 0 rfl rfl dX11_goesOn_39 ?_
    refine g_getI FX11_225 sM_0 rfl dX11_goesOn_40 ?_
    refine g_aload_n 0 rfl rfl dX11_goesOn_43 ?_
    refine g_getI FX11_209 sM_0 rfl dX11_goesOn_44 ?_
    rcases g_ite h with ⟨c7, h⟩ | ⟨c7, h⟩
    · refine g_icmp_ne_f c7 (tgt := 58) rfl dX11_goesOn_47 ?_
      refine g_aload_n 0 rfl rfl dX11_goesOn_50 ?_
      refine g_iconst (v := 0) rfl dX11_goesOn_51 ?_
      obtain ⟨M8, eM8, h⟩ := g_bnd h
      refine g_putI' eM8 FX11_231 jX11 sM_0 rfl rfl rfl dX11_goesOn_52 ?_
      refine g_goto (tgt := 213) rfl dX11_goesOn_55 ?_
      cases h
      exact g_vret O ⟨Nat.le_of_ble_eq_true rfl, Nat.le_of_ble_eq_true rfl⟩ dX11_goesOn_213
    · refine g_icmp_ne_t c7 (tgt := 58) rfl dX11_goesOn_47 ?_
      refine g_aload_n 0 rfl rfl dX11_goesOn_58 ?_
      refine g_aload_n 0 rfl rfl dX11_goesOn_59 ?_
      refine g_getI FX11_225 sM_0 rfl dX11_goesOn_60 ?_
      obtain ⟨v9, ev9, h⟩ := g_bnd h
      refine g_callV LX11_234 sM_0 rfl (kX11_isLetter ev9) rfl rfl (Nat.le_of_ble_eq_true rfl) ⟨Nat.le_of_ble_eq_true rfl, Nat.le_of_ble_eq_true rfl⟩ ⟨Nat.le_of_ble_eq_true rfl, Nat.le_of_ble_eq_true rfl⟩ dX11_goesOn_63 rfl ?_
      rcases g_ite h with ⟨c10, h⟩ | ⟨c10, h⟩
      · refine g_if_eq_t c10 (tgt := 98) rfl dX11_goesOn_66 ?_
        refine g_aload_n 0 rfl rfl dX11_goesOn_98 ?_
        refine g_aload_n 0 rfl rfl dX11_goesOn_99 ?_
        refine g_getI FX11_225 sM_0 rfl dX11_goesOn_100 ?_
        obtain ⟨v11, ev11, h⟩ := g_bnd h
        refine g_callV LX11_237 sM_0 rfl (kX11_isDigit ev11) rfl rfl (Nat.le_of_ble_eq_true rfl) ⟨Nat.le_of_ble_eq_true rfl, Nat.le_of_ble_eq_true rfl⟩ ⟨Nat.le_of_ble_eq_true rfl, Nat.le_of_ble_eq_true rfl⟩ dX11_goesOn_103 rfl ?_
        rcases g_ite h with ⟨c12, h⟩ | ⟨c12, h⟩
        · refine g_if_eq_t c12 (tgt := 181) rfl dX11_goesOn_106 ?_
          refine g_aload_n 0 rfl rfl dX11_goesOn_181 ?_
          refine g_aload_n 0 rfl rfl dX11_goesOn_182 ?_
          refine g_aload_n 0 rfl rfl dX11_goesOn_183 ?_
          refine g_getI FX11_225 sM_0 rfl dX11_goesOn_184 ?_
          obtain ⟨v13, ev13, h⟩ := g_bnd h
          refine g_callV LX11_219 sM_0 rfl (kX11_at ev13) rfl rfl (Nat.le_of_ble_eq_true rfl) ⟨Nat.le_of_ble_eq_true rfl, Nat.le_of_ble_eq_true rfl⟩ ⟨Nat.le_of_ble_eq_true rfl, Nat.le_of_ble_eq_true rfl⟩ dX11_goesOn_187 rfl ?_
          refine g_bipush (v := 59) rfl dX11_goesOn_190 ?_
          have KJ : gG X V mX11_goesOn gShM M6 0 0 200 [(0, .ref (gAd V 0))] [.int (if v13 = (59 : Int32) then (3 : Int32) else (4 : Int32)), .ref (gAd V 0)] := by
            obtain ⟨M15, eM15, h⟩ := g_bnd h
            refine g_putI' eM15 FX11_231 jX11 sM_0 rfl rfl rfl dX11_goesOn_200 ?_
            refine g_aload_n 0 rfl rfl dX11_goesOn_203 ?_
            refine g_dup rfl dX11_goesOn_204 ?_
            refine g_getI FX11_222 sM_0 rfl dX11_goesOn_205 ?_
            refine g_iconst (v := 1) rfl dX11_goesOn_208 ?_
            refine g_iadd dX11_goesOn_209 ?_
            obtain ⟨M16, eM16, h⟩ := g_bnd h
            refine g_putI' eM16 FX11_222 jX11 sM_0 rfl rfl rfl dX11_goesOn_210 ?_
            cases h
            exact g_vret O ⟨Nat.le_of_ble_eq_true rfl, Nat.le_of_ble_eq_true rfl⟩ dX11_goesOn_213
          by_cases c14 : v13 = (59 : Int32)
          · rw [if_pos c14] at KJ
            refine g_icmp_ne_f c14 (tgt := 199) rfl dX11_goesOn_192 ?_
            refine g_iconst (v := 3) rfl dX11_goesOn_195 ?_
            refine g_goto (tgt := 200) rfl dX11_goesOn_196 ?_
            exact KJ
          · rw [if_neg c14] at KJ
            refine g_icmp_ne_t c14 (tgt := 199) rfl dX11_goesOn_192 ?_
            refine g_iconst (v := 4) rfl dX11_goesOn_199 ?_
            exact KJ
        · refine g_if_eq_f c12 (tgt := 181) rfl dX11_goesOn_106 ?_
          refine g_aload_n 0 rfl rfl dX11_goesOn_109 ?_
          refine g_iconst (v := 2) rfl dX11_goesOn_110 ?_
          obtain ⟨M17, eM17, h⟩ := g_bnd h
          refine g_putI' eM17 FX11_231 jX11 sM_0 rfl rfl rfl dX11_goesOn_111 ?_
          obtain ⟨w24, ew24, h⟩ := g_bnd h
          have KX : gG X V mX11_goesOn gShM w24 0 0 213 [] [] := by
            cases h
            exact g_vret O ⟨Nat.le_of_ble_eq_true rfl, Nat.le_of_ble_eq_true rfl⟩ dX11_goesOn_213
          exact gLoop_Q ew24 (fun z9 => gG X V mX11_goesOn gShM z9 0 0 114 [(0, .ref (gAd V 0))] []) (fun s9 o9 hb9 hc9 hx9 => tX11_goesOn_l114  hb9 hc9 (fun e9 he9 => by cases hx9 _ he9; exact KX))
      · refine g_if_eq_f c10 (tgt := 98) rfl dX11_goesOn_66 ?_
        refine g_aload_n 0 rfl rfl dX11_goesOn_69 ?_
        refine g_iconst (v := 1) rfl dX11_goesOn_70 ?_
        obtain ⟨M25, eM25, h⟩ := g_bnd h
        refine g_putI' eM25 FX11_231 jX11 sM_0 rfl rfl rfl dX11_goesOn_71 ?_
        obtain ⟨w29, ew29, h⟩ := g_bnd h
        have KX : gG X V mX11_goesOn gShM w29 0 0 213 [] [] := by
          cases h
          exact g_vret O ⟨Nat.le_of_ble_eq_true rfl, Nat.le_of_ble_eq_true rfl⟩ dX11_goesOn_213
        exact gLoop_Q ew29 (fun z9 => gG X V mX11_goesOn gShM z9 0 0 74 [(0, .ref (gAd V 0))] []) (fun s9 o9 hb9 hc9 hx9 => tX11_goesOn_l74  hb9 hc9 (fun e9 he9 => by cases hx9 _ he9; exact KX))
  exact gLoop_Q ew4 (fun z9 => gG X V mX11_goesOn gShM z9 0 0 0 [(0, .ref (gAd V 0))] []) (fun s9 o9 hb9 hc9 hx9 => tX11_goesOn_l0  hb9 hc9 (fun e9 he9 => by cases hx9 _ he9; exact KX))
theorem kX11_goesOn {l : Launch} {V : gEnv} {M0 : gMem}   {o : gMem} (h : fX11_goesOn M0 = some o) : gM l yX11_goesOn cX11_goesOn 1 none rX11_goesOn V gShM [.ref (gAd V 0)] M0 none o :=
  gM.of (by decide) (Nat.le_of_ble_eq_true rfl) rfl (fun X _ O => tX11_goesOn  h O)
theorem dX11_fails_0 : decode cX11_fails 0 = .ok (.aload_n 0, 1) := by decide +kernel
theorem dX11_fails_1 : decode cX11_fails 1 = .ok (.getfield 240, 3) := by decide +kernel
theorem dX11_fails_4 : decode cX11_fails 4 = .ok (.ifCond .ne 16, 3) := by decide +kernel
theorem dX11_fails_7 : decode cX11_fails 7 = .ok (.aload_n 0, 1) := by decide +kernel
theorem dX11_fails_8 : decode cX11_fails 8 = .ok (.iload_n 1, 1) := by decide +kernel
theorem dX11_fails_9 : decode cX11_fails 9 = .ok (.putfield 240, 3) := by decide +kernel
theorem dX11_fails_12 : decode cX11_fails 12 = .ok (.aload_n 0, 1) := by decide +kernel
theorem dX11_fails_13 : decode cX11_fails 13 = .ok (.aload_n 0, 1) := by decide +kernel
theorem dX11_fails_14 : decode cX11_fails 14 = .ok (.getfield 225, 3) := by decide +kernel
theorem dX11_fails_17 : decode cX11_fails 17 = .ok (.putfield 243, 3) := by decide +kernel
theorem dX11_fails_20 : decode cX11_fails 20 = .ok (.iconst 0, 1) := by decide +kernel
theorem dX11_fails_21 : decode cX11_fails 21 = .ok (.ireturn, 1) := by decide +kernel
abbrev rX11_fails : Room := { frames := 0, cells := 0, slots := 0, locals := 0 }
abbrev mX11_fails : gY := (cX11_fails, RX11, 2, rX11_fails)
def fX11_fails (x1 : Int32) (M0 : gMem) : Option (Int32 × gMem) :=
  if (M0.1 0 26) = 0 then ((wF M0 0 26 x1).bind fun M2 => (wF M2 0 27 (M2.1 0 23)).bind fun M3 => some ((0 : Int32), M3)) else some ((0 : Int32), M0)
set_option maxRecDepth 20000 in
theorem tX11_fails {X : gX} {V : gEnv} {x1 : Int32} {M0 : gMem}  {o : (Int32 × gMem)} (h : fX11_fails x1 M0 = some o) (O : gO X V mX11_fails gShM (some .boolean) (some (.int o.1)) o.2) : gG X V mX11_fails gShM M0 0 0 0 [(0, .ref (gAd V 0)), (1, .int x1)] [] := by
  unfold fX11_fails at h
  refine g_aload_n 0 rfl rfl dX11_fails_0 ?_
  refine g_getI FX11_240 sM_0 rfl dX11_fails_1 ?_
  rcases g_ite h with ⟨c1, h⟩ | ⟨c1, h⟩
  · refine g_if_ne_f c1 (tgt := 20) rfl dX11_fails_4 ?_
    refine g_aload_n 0 rfl rfl dX11_fails_7 ?_
    refine g_iload_n 1 rfl rfl dX11_fails_8 ?_
    obtain ⟨M2, eM2, h⟩ := g_bnd h
    refine g_putI' eM2 FX11_240 jX11 sM_0 rfl rfl rfl dX11_fails_9 ?_
    refine g_aload_n 0 rfl rfl dX11_fails_12 ?_
    refine g_aload_n 0 rfl rfl dX11_fails_13 ?_
    refine g_getI FX11_225 sM_0 rfl dX11_fails_14 ?_
    obtain ⟨M3, eM3, h⟩ := g_bnd h
    refine g_putI' eM3 FX11_243 jX11 sM_0 rfl rfl rfl dX11_fails_17 ?_
    refine g_iconst (v := 0) rfl dX11_fails_20 ?_
    cases h
    exact g_iret O ⟨Nat.le_of_ble_eq_true rfl, Nat.le_of_ble_eq_true rfl⟩ rfl dX11_fails_21
  · refine g_if_ne_t c1 (tgt := 20) rfl dX11_fails_4 ?_
    refine g_iconst (v := 0) rfl dX11_fails_20 ?_
    cases h
    exact g_iret O ⟨Nat.le_of_ble_eq_true rfl, Nat.le_of_ble_eq_true rfl⟩ rfl dX11_fails_21
theorem kX11_fails {l : Launch} {V : gEnv} {M0 : gMem} {x1 : Int32}  {o : (Int32 × gMem)} (h : fX11_fails x1 M0 = some o) : gM l yX11_fails cX11_fails 2 (some .boolean) rX11_fails V gShM [.ref (gAd V 0), .int x1] M0 (some (.int o.1)) o.2 :=
  gM.of (by decide) (Nat.le_of_ble_eq_true rfl) rfl (fun X _ O => tX11_fails  h O)
