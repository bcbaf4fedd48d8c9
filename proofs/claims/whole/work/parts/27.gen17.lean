/-! METHODS, by program: pure functions and contracts -/
theorem dX11_writeOrder_0 : decode cX11_writeOrder 0 = .ok (.aload_n 0, 1) := by decide +kernel
theorem dX11_writeOrder_1 : decode cX11_writeOrder 1 = .ok (.iconst 0, 1) := by decide +kernel
theorem dX11_writeOrder_2 : decode cX11_writeOrder 2 = .ok (.putfield 72, 3) := by decide +kernel
theorem dX11_writeOrder_5 : decode cX11_writeOrder 5 = .ok (.aload_n 0, 1) := by decide +kernel
theorem dX11_writeOrder_6 : decode cX11_writeOrder 6 = .ok (.iconst 0, 1) := by decide +kernel
theorem dX11_writeOrder_7 : decode cX11_writeOrder 7 = .ok (.putfield 451, 3) := by decide +kernel
theorem dX11_writeOrder_10 : decode cX11_writeOrder 10 = .ok (.iconst 0, 1) := by decide +kernel
theorem dX11_writeOrder_11 : decode cX11_writeOrder 11 = .ok (.istore_n 1, 1) := by decide +kernel
theorem dX11_writeOrder_12 : decode cX11_writeOrder 12 = .ok (.iload_n 1, 1) := by decide +kernel
theorem dX11_writeOrder_13 : decode cX11_writeOrder 13 = .ok (.aload_n 0, 1) := by decide +kernel
theorem dX11_writeOrder_14 : decode cX11_writeOrder 14 = .ok (.getfield 9, 3) := by decide +kernel
theorem dX11_writeOrder_17 : decode cX11_writeOrder 17 = .ok (.iconst 2, 1) := by decide +kernel
theorem dX11_writeOrder_18 : decode cX11_writeOrder 18 = .ok (.iaload, 1) := by decide +kernel
theorem dX11_writeOrder_19 : decode cX11_writeOrder 19 = .ok (.if_icmp .ge 24, 3) := by decide +kernel
theorem dX11_writeOrder_22 : decode cX11_writeOrder 22 = .ok (.iload_n 1, 1) := by decide +kernel
theorem dX11_writeOrder_23 : decode cX11_writeOrder 23 = .ok (.ifCond .le 9, 3) := by decide +kernel
theorem dX11_writeOrder_26 : decode cX11_writeOrder 26 = .ok (.aload_n 0, 1) := by decide +kernel
theorem dX11_writeOrder_27 : decode cX11_writeOrder 27 = .ok (.bipush 32, 2) := by decide +kernel
theorem dX11_writeOrder_29 : decode cX11_writeOrder 29 = .ok (.invokevirtual 454, 3) := by decide +kernel
theorem dX11_writeOrder_32 : decode cX11_writeOrder 32 = .ok (.aload_n 0, 1) := by decide +kernel
theorem dX11_writeOrder_33 : decode cX11_writeOrder 33 = .ok (.iload_n 1, 1) := by decide +kernel
theorem dX11_writeOrder_34 : decode cX11_writeOrder 34 = .ok (.invokevirtual 460, 3) := by decide +kernel
theorem dX11_writeOrder_37 : decode cX11_writeOrder 37 = .ok (.iinc 1 1, 3) := by decide +kernel
theorem dX11_writeOrder_40 : decode cX11_writeOrder 40 = .ok (.goto (-28), 3) := by decide +kernel
theorem dX11_writeOrder_43 : decode cX11_writeOrder 43 = .ok (.aload_n 0, 1) := by decide +kernel
theorem dX11_writeOrder_44 : decode cX11_writeOrder 44 = .ok (.getfield 451, 3) := by decide +kernel
theorem dX11_writeOrder_47 : decode cX11_writeOrder 47 = .ok (.ireturn, 1) := by decide +kernel
abbrev rX11_writeOrder : Room := { frames := 4, cells := 0, slots := 0, locals := 90 }
abbrev mX11_writeOrder : gY := (cX11_writeOrder, RX11, 2, rX11_writeOrder)
def fX11_writeOrder_b32 (x1 : Int32) (M0 : gMem) : Option ((Int32 × gMem) ⊕ gMem) :=
  (fX11_tellsGroup x1 M0).bind fun v6 => some (.inl (x1 + (1 : Int32), v6))
set_option maxRecDepth 20000 in
theorem tX11_writeOrder_b32 {X : gX} {V : gEnv} {x1 : Int32} {M0 : gMem}  {o : ((Int32 × gMem) ⊕ gMem)} (h : fX11_writeOrder_b32 x1 M0 = some o) (Kc : ∀ s9, o = .inl s9 → gG X V mX11_writeOrder gShM s9.2 0 0 12 [(0, .ref (gAd V 0)), (1, .int s9.1)] []) (Kx : ∀ e9, o = .inr e9 → gG X V mX11_writeOrder gShM e9 0 0 43 [(0, .ref (gAd V 0))] []) : gG X V mX11_writeOrder gShM M0 0 0 32 [(0, .ref (gAd V 0)), (1, .int x1)] [] := by
  unfold fX11_writeOrder_b32 at h
  refine g_aload_n 0 rfl rfl dX11_writeOrder_32 ?_
  refine g_iload_n 1 rfl rfl dX11_writeOrder_33 ?_
  obtain ⟨v6, ev6, h⟩ := g_bnd h
  refine g_callV LX11_460 sM_0 rfl (kX11_tellsGroup ev6) rfl rfl (Nat.le_of_ble_eq_true rfl) ⟨Nat.le_of_ble_eq_true rfl, Nat.le_of_ble_eq_true rfl⟩ ⟨Nat.le_of_ble_eq_true rfl, Nat.le_of_ble_eq_true rfl⟩ dX11_writeOrder_34 rfl ?_
  refine g_iinc (j := 1) (v := x1 + (1 : Int32)) (ls' := [(1, .int (x1 + (1 : Int32))), (0, .ref (gAd V 0))]) rfl rfl (Nat.le_of_ble_eq_true rfl) rfl dX11_writeOrder_37 ?_
  refine g_goto (tgt := 12) rfl dX11_writeOrder_40 ?_
  cases h
  refine g_sub [1, 0] rfl ?_
  exact Kc (x1 + (1 : Int32), v6) rfl
def fX11_writeOrder_l12 (x1 : Int32) (M0 : gMem) : Option ((Int32 × gMem) ⊕ gMem) :=
  (rI M0 1 374 (2 : Int32)).bind fun v3 => if v3 ≤ x1 then (some (.inr M0)) else if x1 ≤ 0 then (fX11_writeOrder_b32 x1 M0) else (fX11_tells (32 : Int32) M0).bind fun v7 => fX11_writeOrder_b32 x1 v7
set_option maxRecDepth 20000 in
theorem tX11_writeOrder_l12 {X : gX} {V : gEnv} {x1 : Int32} {M0 : gMem}  {o : ((Int32 × gMem) ⊕ gMem)} (h : fX11_writeOrder_l12 x1 M0 = some o) (Kc : ∀ s9, o = .inl s9 → gG X V mX11_writeOrder gShM s9.2 0 0 12 [(0, .ref (gAd V 0)), (1, .int s9.1)] []) (Kx : ∀ e9, o = .inr e9 → gG X V mX11_writeOrder gShM e9 0 0 43 [(0, .ref (gAd V 0))] []) : gG X V mX11_writeOrder gShM M0 0 0 12 [(0, .ref (gAd V 0)), (1, .int x1)] [] := by
  unfold fX11_writeOrder_l12 at h
  refine g_iload_n 1 rfl rfl dX11_writeOrder_12 ?_
  refine g_aload_n 0 rfl rfl dX11_writeOrder_13 ?_
  refine g_getR FX11_9 sM_0 rfl dX11_writeOrder_14 ?_
  refine g_iconst (v := 2) rfl dX11_writeOrder_17 ?_
  obtain ⟨v3, ev3, h⟩ := g_bnd h
  refine g_iald' ev3 sM_1 dX11_writeOrder_18 ?_
  rcases g_ite h with ⟨c4, h⟩ | ⟨c4, h⟩
  · refine g_icmp_ge_t c4 (tgt := 43) rfl dX11_writeOrder_19 ?_
    cases h
    refine g_sub [0] rfl ?_
    exact Kx M0 rfl
  · refine g_icmp_ge_f c4 (tgt := 43) rfl dX11_writeOrder_19 ?_
    refine g_iload_n 1 rfl rfl dX11_writeOrder_22 ?_
    rcases g_ite h with ⟨c5, h⟩ | ⟨c5, h⟩
    · refine g_if_le_t c5 (tgt := 32) rfl dX11_writeOrder_23 ?_
      exact tX11_writeOrder_b32  h Kc Kx
    · refine g_if_le_f c5 (tgt := 32) rfl dX11_writeOrder_23 ?_
      refine g_aload_n 0 rfl rfl dX11_writeOrder_26 ?_
      refine g_bipush (v := 32) rfl dX11_writeOrder_27 ?_
      obtain ⟨v7, ev7, h⟩ := g_bnd h
      refine g_callV LX11_454 sM_0 rfl (kX11_tells ev7) rfl rfl (Nat.le_of_ble_eq_true rfl) ⟨Nat.le_of_ble_eq_true rfl, Nat.le_of_ble_eq_true rfl⟩ ⟨Nat.le_of_ble_eq_true rfl, Nat.le_of_ble_eq_true rfl⟩ dX11_writeOrder_29 rfl ?_
      exact tX11_writeOrder_b32  h Kc Kx
def fX11_writeOrder (M0 : gMem) : Option (Int32 × gMem) :=
  (wF M0 0 0 (0 : Int32)).bind fun M1 => (wF M1 0 40 (0 : Int32)).bind fun M2 => (gLoop (fun z9 => fX11_writeOrder_l12 z9.1 z9.2) gFu ((0 : Int32), M2)).bind fun w8 => some (w8.1 0 40, w8)
set_option maxRecDepth 20000 in
theorem tX11_writeOrder {X : gX} {V : gEnv} {M0 : gMem}  {o : (Int32 × gMem)} (h : fX11_writeOrder M0 = some o) (O : gO X V mX11_writeOrder gShM (some .int) (some (.int o.1)) o.2) : gG X V mX11_writeOrder gShM M0 0 0 0 [(0, .ref (gAd V 0))] [] := by
  unfold fX11_writeOrder at h
  refine g_aload_n 0 rfl rfl dX11_writeOrder_0 ?_
  refine g_iconst (v := 0) rfl dX11_writeOrder_1 ?_
  obtain ⟨M1, eM1, h⟩ := g_bnd h
  refine g_putI' eM1 FX11_72 jX11 sM_0 rfl rfl rfl dX11_writeOrder_2 ?_
  refine g_aload_n 0 rfl rfl dX11_writeOrder_5 ?_
  refine g_iconst (v := 0) rfl dX11_writeOrder_6 ?_
  obtain ⟨M2, eM2, h⟩ := g_bnd h
  refine g_putI' eM2 FX11_451 jX11 sM_0 rfl rfl rfl dX11_writeOrder_7 ?_
  refine g_iconst (v := 0) rfl dX11_writeOrder_10 ?_
  refine g_istore_n (ls' := [(1, .int (0 : Int32)), (0, .ref (gAd V 0))]) rfl (Nat.le_of_ble_eq_true rfl) rfl dX11_writeOrder_11 ?_
  obtain ⟨w8, ew8, h⟩ := g_bnd h
  refine g_sub [1, 0] rfl ?_
  have KX : gG X V mX11_writeOrder gShM w8 0 0 43 [(0, .ref (gAd V 0))] [] := by
    refine g_aload_n 0 rfl rfl dX11_writeOrder_43 ?_
    refine g_getI FX11_451 sM_0 rfl dX11_writeOrder_44 ?_
    cases h
    exact g_iret O ⟨Nat.le_of_ble_eq_true rfl, Nat.le_of_ble_eq_true rfl⟩ rfl dX11_writeOrder_47
  exact gLoop_Q ew8 (fun z9 => gG X V mX11_writeOrder gShM z9.2 0 0 12 [(0, .ref (gAd V 0)), (1, .int z9.1)] []) (fun s9 o9 hb9 hc9 hx9 => tX11_writeOrder_l12  hb9 hc9 (fun e9 he9 => by cases hx9 _ he9; exact KX))
theorem kX11_writeOrder {l : Launch} {V : gEnv} {M0 : gMem}   {o : (Int32 × gMem)} (h : fX11_writeOrder M0 = some o) : gM l yX11_writeOrder cX11_writeOrder 2 (some .int) rX11_writeOrder V gShM [.ref (gAd V 0)] M0 (some (.int o.1)) o.2 :=
  gM.of (by decide) (Nat.le_of_ble_eq_true rfl) rfl (fun X _ O => tX11_writeOrder  h O)
theorem dX11_writeArrows_0 : decode cX11_writeArrows 0 = .ok (.aload_n 0, 1) := by decide +kernel
theorem dX11_writeArrows_1 : decode cX11_writeArrows 1 = .ok (.iload_n 1, 1) := by decide +kernel
theorem dX11_writeArrows_2 : decode cX11_writeArrows 2 = .ok (.invokevirtual 389, 3) := by decide +kernel
theorem dX11_writeArrows_5 : decode cX11_writeArrows 5 = .ok (.ifCond .eq 5, 3) := by decide +kernel
theorem dX11_writeArrows_8 : decode cX11_writeArrows 8 = .ok (.iconst 0, 1) := by decide +kernel
theorem dX11_writeArrows_9 : decode cX11_writeArrows 9 = .ok (.ireturn, 1) := by decide +kernel
theorem dX11_writeArrows_10 : decode cX11_writeArrows 10 = .ok (.aload_n 0, 1) := by decide +kernel
theorem dX11_writeArrows_11 : decode cX11_writeArrows 11 = .ok (.iconst 0, 1) := by decide +kernel
theorem dX11_writeArrows_12 : decode cX11_writeArrows 12 = .ok (.putfield 451, 3) := by decide +kernel
theorem dX11_writeArrows_15 : decode cX11_writeArrows 15 = .ok (.iconst 0, 1) := by decide +kernel
theorem dX11_writeArrows_16 : decode cX11_writeArrows 16 = .ok (.istore_n 2, 1) := by decide +kernel
theorem dX11_writeArrows_17 : decode cX11_writeArrows 17 = .ok (.iload_n 2, 1) := by decide +kernel
theorem dX11_writeArrows_18 : decode cX11_writeArrows 18 = .ok (.aload_n 0, 1) := by decide +kernel
theorem dX11_writeArrows_19 : decode cX11_writeArrows 19 = .ok (.getfield 9, 3) := by decide +kernel
theorem dX11_writeArrows_22 : decode cX11_writeArrows 22 = .ok (.iconst 1, 1) := by decide +kernel
theorem dX11_writeArrows_23 : decode cX11_writeArrows 23 = .ok (.iaload, 1) := by decide +kernel
theorem dX11_writeArrows_24 : decode cX11_writeArrows 24 = .ok (.if_icmp .ge 70, 3) := by decide +kernel
theorem dX11_writeArrows_27 : decode cX11_writeArrows 27 = .ok (.aload_n 0, 1) := by decide +kernel
theorem dX11_writeArrows_28 : decode cX11_writeArrows 28 = .ok (.getfield 9, 3) := by decide +kernel
theorem dX11_writeArrows_31 : decode cX11_writeArrows 31 = .ok (.bipush 38, 2) := by decide +kernel
theorem dX11_writeArrows_33 : decode cX11_writeArrows 33 = .ok (.iload_n 2, 1) := by decide +kernel
theorem dX11_writeArrows_34 : decode cX11_writeArrows 34 = .ok (.iadd, 1) := by decide +kernel
theorem dX11_writeArrows_35 : decode cX11_writeArrows 35 = .ok (.iaload, 1) := by decide +kernel
theorem dX11_writeArrows_36 : decode cX11_writeArrows 36 = .ok (.iload_n 1, 1) := by decide +kernel
theorem dX11_writeArrows_37 : decode cX11_writeArrows 37 = .ok (.if_icmp .eq 6, 3) := by decide +kernel
theorem dX11_writeArrows_40 : decode cX11_writeArrows 40 = .ok (.goto 48, 3) := by decide +kernel
theorem dX11_writeArrows_43 : decode cX11_writeArrows 43 = .ok (.aload_n 0, 1) := by decide +kernel
theorem dX11_writeArrows_44 : decode cX11_writeArrows 44 = .ok (.getfield 451, 3) := by decide +kernel
theorem dX11_writeArrows_47 : decode cX11_writeArrows 47 = .ok (.ifCond .le 9, 3) := by decide +kernel
theorem dX11_writeArrows_50 : decode cX11_writeArrows 50 = .ok (.aload_n 0, 1) := by decide +kernel
theorem dX11_writeArrows_51 : decode cX11_writeArrows 51 = .ok (.bipush 32, 2) := by decide +kernel
theorem dX11_writeArrows_53 : decode cX11_writeArrows 53 = .ok (.invokevirtual 454, 3) := by decide +kernel
theorem dX11_writeArrows_56 : decode cX11_writeArrows 56 = .ok (.aload_n 0, 1) := by decide +kernel
theorem dX11_writeArrows_57 : decode cX11_writeArrows 57 = .ok (.aload_n 0, 1) := by decide +kernel
theorem dX11_writeArrows_58 : decode cX11_writeArrows 58 = .ok (.iload_n 2, 1) := by decide +kernel
theorem dX11_writeArrows_59 : decode cX11_writeArrows 59 = .ok (.invokevirtual 97, 3) := by decide +kernel
theorem dX11_writeArrows_62 : decode cX11_writeArrows 62 = .ok (.ifCond .eq 8, 3) := by decide +kernel
theorem dX11_writeArrows_65 : decode cX11_writeArrows 65 = .ok (.bipush 61, 2) := by decide +kernel
theorem dX11_writeArrows_67 : decode cX11_writeArrows 67 = .ok (.goto 5, 3) := by decide +kernel
theorem dX11_writeArrows_70 : decode cX11_writeArrows 70 = .ok (.bipush 62, 2) := by decide +kernel
theorem dX11_writeArrows_72 : decode cX11_writeArrows 72 = .ok (.invokevirtual 454, 3) := by decide +kernel
theorem dX11_writeArrows_75 : decode cX11_writeArrows 75 = .ok (.aload_n 0, 1) := by decide +kernel
theorem dX11_writeArrows_76 : decode cX11_writeArrows 76 = .ok (.aload_n 0, 1) := by decide +kernel
theorem dX11_writeArrows_77 : decode cX11_writeArrows 77 = .ok (.getfield 9, 3) := by decide +kernel
theorem dX11_writeArrows_80 : decode cX11_writeArrows 80 = .ok (.bipush 98, 2) := by decide +kernel
theorem dX11_writeArrows_82 : decode cX11_writeArrows 82 = .ok (.iload_n 2, 1) := by decide +kernel
theorem dX11_writeArrows_83 : decode cX11_writeArrows 83 = .ok (.iadd, 1) := by decide +kernel
theorem dX11_writeArrows_84 : decode cX11_writeArrows 84 = .ok (.iaload, 1) := by decide +kernel
theorem dX11_writeArrows_85 : decode cX11_writeArrows 85 = .ok (.invokevirtual 457, 3) := by decide +kernel
theorem dX11_writeArrows_88 : decode cX11_writeArrows 88 = .ok (.iinc 2 1, 3) := by decide +kernel
theorem dX11_writeArrows_91 : decode cX11_writeArrows 91 = .ok (.goto (-74), 3) := by decide +kernel
theorem dX11_writeArrows_94 : decode cX11_writeArrows 94 = .ok (.aload_n 0, 1) := by decide +kernel
theorem dX11_writeArrows_95 : decode cX11_writeArrows 95 = .ok (.getfield 451, 3) := by decide +kernel
theorem dX11_writeArrows_98 : decode cX11_writeArrows 98 = .ok (.ireturn, 1) := by decide +kernel
abbrev rX11_writeArrows : Room := { frames := 2, cells := 0, slots := 0, locals := 44 }
abbrev mX11_writeArrows : gY := (cX11_writeArrows, RX11, 3, rX11_writeArrows)
def fX11_writeArrows_b88 (x1 : Int32) (x2 : Int32) (M0 : gMem) : Option ((Int32 × gMem) ⊕ gMem) :=
  some (.inl (x2 + (1 : Int32), M0))
set_option maxRecDepth 20000 in
theorem tX11_writeArrows_b88 {X : gX} {V : gEnv} {x1 : Int32} {x2 : Int32} {M0 : gMem}  {o : ((Int32 × gMem) ⊕ gMem)} (h : fX11_writeArrows_b88 x1 x2 M0 = some o) (Kc : ∀ s9, o = .inl s9 → gG X V mX11_writeArrows gShM s9.2 0 0 17 [(0, .ref (gAd V 0)), (1, .int x1), (2, .int s9.1)] []) (Kx : ∀ e9, o = .inr e9 → gG X V mX11_writeArrows gShM e9 0 0 94 [(0, .ref (gAd V 0))] []) : gG X V mX11_writeArrows gShM M0 0 0 88 [(0, .ref (gAd V 0)), (1, .int x1), (2, .int x2)] [] := by
  unfold fX11_writeArrows_b88 at h
  refine g_iinc (j := 2) (v := x2 + (1 : Int32)) (ls' := [(2, .int (x2 + (1 : Int32))), (0, .ref (gAd V 0)), (1, .int x1)]) rfl rfl (Nat.le_of_ble_eq_true rfl) rfl dX11_writeArrows_88 ?_
  refine g_goto (tgt := 17) rfl dX11_writeArrows_91 ?_
  cases h
  refine g_sub [1, 2, 0] rfl ?_
  exact Kc (x2 + (1 : Int32), M0) rfl
def fX11_writeArrows_b56 (x1 : Int32) (x2 : Int32) (M0 : gMem) : Option ((Int32 × gMem) ⊕ gMem) :=
  (fX11_isInner x2 M0).bind fun v9 => (fX11_tells (if v9 = 0 then (62 : Int32) else (61 : Int32)) M0).bind fun v11 => (rI v11 1 374 ((98 : Int32) + x2)).bind fun v12 => (fX11_tellsName v12 v11).bind fun v13 => fX11_writeArrows_b88 x1 x2 v13
set_option maxRecDepth 20000 in
theorem tX11_writeArrows_b56 {X : gX} {V : gEnv} {x1 : Int32} {x2 : Int32} {M0 : gMem}  {o : ((Int32 × gMem) ⊕ gMem)} (h : fX11_writeArrows_b56 x1 x2 M0 = some o) (Kc : ∀ s9, o = .inl s9 → gG X V mX11_writeArrows gShM s9.2 0 0 17 [(0, .ref (gAd V 0)), (1, .int x1), (2, .int s9.1)] []) (Kx : ∀ e9, o = .inr e9 → gG X V mX11_writeArrows gShM e9 0 0 94 [(0, .ref (gAd V 0))] []) : gG X V mX11_writeArrows gShM M0 0 0 56 [(0, .ref (gAd V 0)), (1, .int x1), (2, .int x2)] [] := by
  unfold fX11_writeArrows_b56 at h
  refine g_aload_n 0 rfl rfl dX11_writeArrows_56 ?_
  refine g_aload_n 0 rfl rfl dX11_writeArrows_57 ?_
  refine g_iload_n 2 rfl rfl dX11_writeArrows_58 ?_
  obtain ⟨v9, ev9, h⟩ := g_bnd h
  refine g_callV LX11_97 sM_0 rfl (kX11_isInner ev9) rfl rfl (Nat.le_of_ble_eq_true rfl) ⟨Nat.le_of_ble_eq_true rfl, Nat.le_of_ble_eq_true rfl⟩ ⟨Nat.le_of_ble_eq_true rfl, Nat.le_of_ble_eq_true rfl⟩ dX11_writeArrows_59 rfl ?_
  have KJ : gG X V mX11_writeArrows gShM M0 0 0 72 [(0, .ref (gAd V 0)), (1, .int x1), (2, .int x2)] [.int (if v9 = 0 then (62 : Int32) else (61 : Int32)), .ref (gAd V 0)] := by
    obtain ⟨v11, ev11, h⟩ := g_bnd h
    refine g_callV LX11_454 sM_0 rfl (kX11_tells ev11) rfl rfl (Nat.le_of_ble_eq_true rfl) ⟨Nat.le_of_ble_eq_true rfl, Nat.le_of_ble_eq_true rfl⟩ ⟨Nat.le_of_ble_eq_true rfl, Nat.le_of_ble_eq_true rfl⟩ dX11_writeArrows_72 rfl ?_
    refine g_aload_n 0 rfl rfl dX11_writeArrows_75 ?_
    refine g_aload_n 0 rfl rfl dX11_writeArrows_76 ?_
    refine g_getR FX11_9 sM_0 rfl dX11_writeArrows_77 ?_
    refine g_bipush (v := 98) rfl dX11_writeArrows_80 ?_
    refine g_iload_n 2 rfl rfl dX11_writeArrows_82 ?_
    refine g_iadd dX11_writeArrows_83 ?_
    obtain ⟨v12, ev12, h⟩ := g_bnd h
    refine g_iald' ev12 sM_1 dX11_writeArrows_84 ?_
    obtain ⟨v13, ev13, h⟩ := g_bnd h
    refine g_callV LX11_457 sM_0 rfl (kX11_tellsName ev13) rfl rfl (Nat.le_of_ble_eq_true rfl) ⟨Nat.le_of_ble_eq_true rfl, Nat.le_of_ble_eq_true rfl⟩ ⟨Nat.le_of_ble_eq_true rfl, Nat.le_of_ble_eq_true rfl⟩ dX11_writeArrows_85 rfl ?_
    exact tX11_writeArrows_b88  h Kc Kx
  by_cases c10 : v9 = 0
  · rw [if_pos c10] at KJ
    refine g_if_eq_t c10 (tgt := 70) rfl dX11_writeArrows_62 ?_
    refine g_bipush (v := 62) rfl dX11_writeArrows_70 ?_
    exact KJ
  · rw [if_neg c10] at KJ
    refine g_if_eq_f c10 (tgt := 70) rfl dX11_writeArrows_62 ?_
    refine g_bipush (v := 61) rfl dX11_writeArrows_65 ?_
    refine g_goto (tgt := 72) rfl dX11_writeArrows_67 ?_
    exact KJ
def fX11_writeArrows_l17 (x1 : Int32) (x2 : Int32) (M0 : gMem) : Option ((Int32 × gMem) ⊕ gMem) :=
  (rI M0 1 374 (1 : Int32)).bind fun v4 => if v4 ≤ x2 then (some (.inr M0)) else (rI M0 1 374 ((38 : Int32) + x2)).bind fun v6 => if v6 = x1 then (if (M0.1 0 40) ≤ 0 then (fX11_writeArrows_b56 x1 x2 M0) else (fX11_tells (32 : Int32) M0).bind fun v14 => fX11_writeArrows_b56 x1 x2 v14) else fX11_writeArrows_b88 x1 x2 M0
set_option maxRecDepth 20000 in
theorem tX11_writeArrows_l17 {X : gX} {V : gEnv} {x1 : Int32} {x2 : Int32} {M0 : gMem}  {o : ((Int32 × gMem) ⊕ gMem)} (h : fX11_writeArrows_l17 x1 x2 M0 = some o) (Kc : ∀ s9, o = .inl s9 → gG X V mX11_writeArrows gShM s9.2 0 0 17 [(0, .ref (gAd V 0)), (1, .int x1), (2, .int s9.1)] []) (Kx : ∀ e9, o = .inr e9 → gG X V mX11_writeArrows gShM e9 0 0 94 [(0, .ref (gAd V 0))] []) : gG X V mX11_writeArrows gShM M0 0 0 17 [(0, .ref (gAd V 0)), (1, .int x1), (2, .int x2)] [] := by
  unfold fX11_writeArrows_l17 at h
  refine g_iload_n 2 rfl rfl dX11_writeArrows_17 ?_
  refine g_aload_n 0 rfl rfl dX11_writeArrows_18 ?_
  refine g_getR FX11_9 sM_0 rfl dX11_writeArrows_19 ?_
  refine g_iconst (v := 1) rfl dX11_writeArrows_22 ?_
  obtain ⟨v4, ev4, h⟩ := g_bnd h
  refine g_iald' ev4 sM_1 dX11_writeArrows_23 ?_
  rcases g_ite h with ⟨c5, h⟩ | ⟨c5, h⟩
  · refine g_icmp_ge_t c5 (tgt := 94) rfl dX11_writeArrows_24 ?_
    cases h
    refine g_sub [0] rfl ?_
    exact Kx M0 rfl
  · refine g_icmp_ge_f c5 (tgt := 94) rfl dX11_writeArrows_24 ?_
    refine g_aload_n 0 rfl rfl dX11_writeArrows_27 ?_
    refine g_getR FX11_9 sM_0 rfl dX11_writeArrows_28 ?_
    refine g_bipush (v := 38) rfl dX11_writeArrows_31 ?_
    refine g_iload_n 2 rfl rfl dX11_writeArrows_33 ?_
    refine g_iadd dX11_writeArrows_34 ?_
    obtain ⟨v6, ev6, h⟩ := g_bnd h
    refine g_iald' ev6 sM_1 dX11_writeArrows_35 ?_
    refine g_iload_n 1 rfl rfl dX11_writeArrows_36 ?_
    rcases g_ite h with ⟨c7, h⟩ | ⟨c7, h⟩
    · refine g_icmp_eq_t c7 (tgt := 43) rfl dX11_writeArrows_37 ?_
      refine g_aload_n 0 rfl rfl dX11_writeArrows_43 ?_
      refine g_getI FX11_451 sM_0 rfl dX11_writeArrows_44 ?_
      rcases g_ite h with ⟨c8, h⟩ | ⟨c8, h⟩
      · refine g_if_le_t c8 (tgt := 56) rfl dX11_writeArrows_47 ?_
        exact tX11_writeArrows_b56  h Kc Kx
      · refine g_if_le_f c8 (tgt := 56) rfl dX11_writeArrows_47 ?_
        refine g_aload_n 0 rfl rfl dX11_writeArrows_50 ?_
        refine g_bipush (v := 32) rfl dX11_writeArrows_51 ?_
        obtain ⟨v14, ev14, h⟩ := g_bnd h
        refine g_callV LX11_454 sM_0 rfl (kX11_tells ev14) rfl rfl (Nat.le_of_ble_eq_true rfl) ⟨Nat.le_of_ble_eq_true rfl, Nat.le_of_ble_eq_true rfl⟩ ⟨Nat.le_of_ble_eq_true rfl, Nat.le_of_ble_eq_true rfl⟩ dX11_writeArrows_53 rfl ?_
        exact tX11_writeArrows_b56  h Kc Kx
    · refine g_icmp_eq_f c7 (tgt := 43) rfl dX11_writeArrows_37 ?_
      refine g_goto (tgt := 88) rfl dX11_writeArrows_40 ?_
      exact tX11_writeArrows_b88  h Kc Kx
def fX11_writeArrows (x1 : Int32) (M0 : gMem) : Option (Int32 × gMem) :=
  (fX11_noTask x1 M0).bind fun v1 => if v1.1 = 0 then ((wF v1.2 0 40 (0 : Int32)).bind fun M3 => (gLoop (fun z9 => fX11_writeArrows_l17 x1 z9.1 z9.2) gFu ((0 : Int32), M3)).bind fun w15 => some (w15.1 0 40, w15)) else some ((0 : Int32), v1.2)
set_option maxRecDepth 20000 in
theorem tX11_writeArrows {X : gX} {V : gEnv} {x1 : Int32} {M0 : gMem}  {o : (Int32 × gMem)} (h : fX11_writeArrows x1 M0 = some o) (O : gO X V mX11_writeArrows gShM (some .int) (some (.int o.1)) o.2) : gG X V mX11_writeArrows gShM M0 0 0 0 [(0, .ref (gAd V 0)), (1, .int x1)] [] := by
  unfold fX11_writeArrows at h
  refine g_aload_n 0 rfl rfl dX11_writeArrows_0 ?_
  refine g_iload_n 1 rfl rfl dX11_writeArrows_1 ?_
  obtain ⟨v1, ev1, h⟩ := g_bnd h
  refine g_callV LX11_389 sM_0 rfl (kX11_noTask ev1) rfl rfl (Nat.le_of_ble_eq_true rfl) ⟨Nat.le_of_ble_eq_true rfl, Nat.le_of_ble_eq_true rfl⟩ ⟨Nat.le_of_ble_eq_true rfl, Nat.le_of_ble_eq_true rfl⟩ dX11_writeArrows_2 rfl ?_
  rcases g_ite h with ⟨c2, h⟩ | ⟨c2, h⟩
  · refine g_if_eq_t c2 (tgt := 10) rfl dX11_writeArrows_5 ?_
    refine g_aload_n 0 rfl rfl dX11_writeArrows_10 ?_
    refine g_iconst (v := 0) rfl dX11_writeArrows_11 ?_
    obtain ⟨M3, eM3, h⟩ := g_bnd h
    refine g_putI' eM3 FX11_451 jX11 sM_0 rfl rfl rfl dX11_writeArrows_12 ?_
    refine g_iconst (v := 0) rfl dX11_writeArrows_15 ?_
    refine g_istore_n (ls' := [(2, .int (0 : Int32)), (0, .ref (gAd V 0)), (1, .int x1)]) rfl (Nat.le_of_ble_eq_true rfl) rfl dX11_writeArrows_16 ?_
    obtain ⟨w15, ew15, h⟩ := g_bnd h
    refine g_sub [1, 2, 0] rfl ?_
    have KX : gG X V mX11_writeArrows gShM w15 0 0 94 [(0, .ref (gAd V 0))] [] := by
      refine g_aload_n 0 rfl rfl dX11_writeArrows_94 ?_
      refine g_getI FX11_451 sM_0 rfl dX11_writeArrows_95 ?_
      cases h
      exact g_iret O ⟨Nat.le_of_ble_eq_true rfl, Nat.le_of_ble_eq_true rfl⟩ rfl dX11_writeArrows_98
    exact gLoop_Q ew15 (fun z9 => gG X V mX11_writeArrows gShM z9.2 0 0 17 [(0, .ref (gAd V 0)), (1, .int x1), (2, .int z9.1)] []) (fun s9 o9 hb9 hc9 hx9 => tX11_writeArrows_l17  hb9 hc9 (fun e9 he9 => by cases hx9 _ he9; exact KX))
  · refine g_if_eq_f c2 (tgt := 10) rfl dX11_writeArrows_5 ?_
    refine g_iconst (v := 0) rfl dX11_writeArrows_8 ?_
    cases h
    exact g_iret O ⟨Nat.le_of_ble_eq_true rfl, Nat.le_of_ble_eq_true rfl⟩ rfl dX11_writeArrows_9
theorem kX11_writeArrows {l : Launch} {V : gEnv} {M0 : gMem} {x1 : Int32}  {o : (Int32 × gMem)} (h : fX11_writeArrows x1 M0 = some o) : gM l yX11_writeArrows cX11_writeArrows 3 (some .int) rX11_writeArrows V gShM [.ref (gAd V 0), .int x1] M0 (some (.int o.1)) o.2 :=
  gM.of (by decide) (Nat.le_of_ble_eq_true rfl) rfl (fun X _ O => tX11_writeArrows  h O)
theorem dX11_outputByte_0 : decode cX11_outputByte 0 = .ok (.aload_n 0, 1) := by decide +kernel
theorem dX11_outputByte_1 : decode cX11_outputByte 1 = .ok (.iconst 0, 1) := by decide +kernel
theorem dX11_outputByte_2 : decode cX11_outputByte 2 = .ok (.putfield 72, 3) := by decide +kernel
theorem dX11_outputByte_5 : decode cX11_outputByte 5 = .ok (.iload_n 1, 1) := by decide +kernel
theorem dX11_outputByte_6 : decode cX11_outputByte 6 = .ok (.iconst 0, 1) := by decide +kernel
theorem dX11_outputByte_7 : decode cX11_outputByte 7 = .ok (.aload_n 0, 1) := by decide +kernel
theorem dX11_outputByte_8 : decode cX11_outputByte 8 = .ok (.getfield 451, 3) := by decide +kernel
theorem dX11_outputByte_11 : decode cX11_outputByte 11 = .ok (.iconst 1, 1) := by decide +kernel
theorem dX11_outputByte_12 : decode cX11_outputByte 12 = .ok (.isub, 1) := by decide +kernel
theorem dX11_outputByte_13 : decode cX11_outputByte 13 = .ok (.invokestatic 172, 3) := by decide +kernel
theorem dX11_outputByte_16 : decode cX11_outputByte 16 = .ok (.ifCond .eq 12, 3) := by decide +kernel
theorem dX11_outputByte_19 : decode cX11_outputByte 19 = .ok (.aload_n 0, 1) := by decide +kernel
theorem dX11_outputByte_20 : decode cX11_outputByte 20 = .ok (.getfield 65, 3) := by decide +kernel
theorem dX11_outputByte_23 : decode cX11_outputByte 23 = .ok (.iload_n 1, 1) := by decide +kernel
theorem dX11_outputByte_24 : decode cX11_outputByte 24 = .ok (.iaload, 1) := by decide +kernel
theorem dX11_outputByte_25 : decode cX11_outputByte 25 = .ok (.goto 4, 3) := by decide +kernel
theorem dX11_outputByte_28 : decode cX11_outputByte 28 = .ok (.iconst (-1), 1) := by decide +kernel
theorem dX11_outputByte_29 : decode cX11_outputByte 29 = .ok (.ireturn, 1) := by decide +kernel
abbrev rX11_outputByte : Room := { frames := 1, cells := 0, slots := 0, locals := 22 }
abbrev mX11_outputByte : gY := (cX11_outputByte, RX11, 2, rX11_outputByte)
def fX11_outputByte (x1 : Int32) (M0 : gMem) : Option (Int32 × gMem) :=
  (wF M0 0 0 (0 : Int32)).bind fun M1 => (fX11_in x1 (0 : Int32) ((M1.1 0 40) - (1 : Int32))).bind fun v2 => if v2 = 0 then (some ((-1 : Int32), M1)) else (rI M1 18 600 x1).bind fun v4 => some (v4, M1)
set_option maxRecDepth 20000 in
theorem tX11_outputByte {X : gX} {V : gEnv} {x1 : Int32} {M0 : gMem}  {o : (Int32 × gMem)} (h : fX11_outputByte x1 M0 = some o) (O : gO X V mX11_outputByte gShM (some .int) (some (.int o.1)) o.2) : gG X V mX11_outputByte gShM M0 0 0 0 [(0, .ref (gAd V 0)), (1, .int x1)] [] := by
  unfold fX11_outputByte at h
  refine g_aload_n 0 rfl rfl dX11_outputByte_0 ?_
  refine g_iconst (v := 0) rfl dX11_outputByte_1 ?_
  obtain ⟨M1, eM1, h⟩ := g_bnd h
  refine g_putI' eM1 FX11_72 jX11 sM_0 rfl rfl rfl dX11_outputByte_2 ?_
  refine g_iload_n 1 rfl rfl dX11_outputByte_5 ?_
  refine g_iconst (v := 0) rfl dX11_outputByte_6 ?_
  refine g_aload_n 0 rfl rfl dX11_outputByte_7 ?_
  refine g_getI FX11_451 sM_0 rfl dX11_outputByte_8 ?_
  refine g_iconst (v := 1) rfl dX11_outputByte_11 ?_
  refine g_isub dX11_outputByte_12 ?_
  obtain ⟨v2, ev2, h⟩ := g_bnd h
  refine g_callS LX11_172 (kX11_in ev2) rfl rfl (Nat.le_of_ble_eq_true rfl) ⟨Nat.le_of_ble_eq_true rfl, Nat.le_of_ble_eq_true rfl⟩ ⟨Nat.le_of_ble_eq_true rfl, Nat.le_of_ble_eq_true rfl⟩ dX11_outputByte_13 rfl ?_
  rcases g_ite h with ⟨c3, h⟩ | ⟨c3, h⟩
  · refine g_if_eq_t c3 (tgt := 28) rfl dX11_outputByte_16 ?_
    refine g_iconst (v := -1) rfl dX11_outputByte_28 ?_
    cases h
    exact g_iret O ⟨Nat.le_of_ble_eq_true rfl, Nat.le_of_ble_eq_true rfl⟩ rfl dX11_outputByte_29
  · refine g_if_eq_f c3 (tgt := 28) rfl dX11_outputByte_16 ?_
    refine g_aload_n 0 rfl rfl dX11_outputByte_19 ?_
    refine g_getR FX11_65 sM_0 rfl dX11_outputByte_20 ?_
    refine g_iload_n 1 rfl rfl dX11_outputByte_23 ?_
    obtain ⟨v4, ev4, h⟩ := g_bnd h
    refine g_iald' ev4 sM_18 dX11_outputByte_24 ?_
    refine g_goto (tgt := 29) rfl dX11_outputByte_25 ?_
    cases h
    exact g_iret O ⟨Nat.le_of_ble_eq_true rfl, Nat.le_of_ble_eq_true rfl⟩ rfl dX11_outputByte_29
theorem kX11_outputByte {l : Launch} {V : gEnv} {M0 : gMem} {x1 : Int32}  {o : (Int32 × gMem)} (h : fX11_outputByte x1 M0 = some o) : gM l yX11_outputByte cX11_outputByte 2 (some .int) rX11_outputByte V gShM [.ref (gAd V 0), .int x1] M0 (some (.int o.1)) o.2 :=
  gM.of (by decide) (Nat.le_of_ble_eq_true rfl) rfl (fun X _ O => tX11_outputByte  h O)
theorem dX11_undo_0 : decode cX11_undo 0 = .ok (.aload_n 0, 1) := by decide +kernel
theorem dX11_undo_1 : decode cX11_undo 1 = .ok (.iconst 0, 1) := by decide +kernel
theorem dX11_undo_2 : decode cX11_undo 2 = .ok (.putfield 72, 3) := by decide +kernel
theorem dX11_undo_5 : decode cX11_undo 5 = .ok (.aload_n 0, 1) := by decide +kernel
theorem dX11_undo_6 : decode cX11_undo 6 = .ok (.getfield 75, 3) := by decide +kernel
theorem dX11_undo_9 : decode cX11_undo 9 = .ok (.ifCond .ne 5, 3) := by decide +kernel
theorem dX11_undo_12 : decode cX11_undo 12 = .ok (.iconst (-1), 1) := by decide +kernel
theorem dX11_undo_13 : decode cX11_undo 13 = .ok (.ireturn, 1) := by decide +kernel
theorem dX11_undo_14 : decode cX11_undo 14 = .ok (.aload_n 0, 1) := by decide +kernel
theorem dX11_undo_15 : decode cX11_undo 15 = .ok (.dup, 1) := by decide +kernel
theorem dX11_undo_16 : decode cX11_undo 16 = .ok (.getfield 75, 3) := by decide +kernel
theorem dX11_undo_19 : decode cX11_undo 19 = .ok (.iconst 1, 1) := by decide +kernel
theorem dX11_undo_20 : decode cX11_undo 20 = .ok (.isub, 1) := by decide +kernel
theorem dX11_undo_21 : decode cX11_undo 21 = .ok (.putfield 75, 3) := by decide +kernel
theorem dX11_undo_24 : decode cX11_undo 24 = .ok (.iconst 0, 1) := by decide +kernel
theorem dX11_undo_25 : decode cX11_undo 25 = .ok (.istore_n 1, 1) := by decide +kernel
theorem dX11_undo_26 : decode cX11_undo 26 = .ok (.iload_n 1, 1) := by decide +kernel
theorem dX11_undo_27 : decode cX11_undo 27 = .ok (.sipush 374, 3) := by decide +kernel
theorem dX11_undo_30 : decode cX11_undo 30 = .ok (.if_icmp .ge 30, 3) := by decide +kernel
theorem dX11_undo_33 : decode cX11_undo 33 = .ok (.aload_n 0, 1) := by decide +kernel
theorem dX11_undo_34 : decode cX11_undo 34 = .ok (.getfield 9, 3) := by decide +kernel
theorem dX11_undo_37 : decode cX11_undo 37 = .ok (.iload_n 1, 1) := by decide +kernel
theorem dX11_undo_38 : decode cX11_undo 38 = .ok (.aload_n 0, 1) := by decide +kernel
theorem dX11_undo_39 : decode cX11_undo 39 = .ok (.getfield 22, 3) := by decide +kernel
theorem dX11_undo_42 : decode cX11_undo 42 = .ok (.aload_n 0, 1) := by decide +kernel
theorem dX11_undo_43 : decode cX11_undo 43 = .ok (.getfield 75, 3) := by decide +kernel
theorem dX11_undo_46 : decode cX11_undo 46 = .ok (.sipush 374, 3) := by decide +kernel
theorem dX11_undo_49 : decode cX11_undo 49 = .ok (.imul, 1) := by decide +kernel
theorem dX11_undo_50 : decode cX11_undo 50 = .ok (.iload_n 1, 1) := by decide +kernel
theorem dX11_undo_51 : decode cX11_undo 51 = .ok (.iadd, 1) := by decide +kernel
theorem dX11_undo_52 : decode cX11_undo 52 = .ok (.iaload, 1) := by decide +kernel
theorem dX11_undo_53 : decode cX11_undo 53 = .ok (.iastore, 1) := by decide +kernel
theorem dX11_undo_54 : decode cX11_undo 54 = .ok (.iinc 1 1, 3) := by decide +kernel
theorem dX11_undo_57 : decode cX11_undo 57 = .ok (.goto (-31), 3) := by decide +kernel
theorem dX11_undo_60 : decode cX11_undo 60 = .ok (.aload_n 0, 1) := by decide +kernel
theorem dX11_undo_61 : decode cX11_undo 61 = .ok (.getfield 75, 3) := by decide +kernel
theorem dX11_undo_64 : decode cX11_undo 64 = .ok (.ireturn, 1) := by decide +kernel
abbrev rX11_undo : Room := { frames := 0, cells := 0, slots := 0, locals := 0 }
abbrev mX11_undo : gY := (cX11_undo, RX11, 2, rX11_undo)
def fX11_undo_l26 (x1 : Int32) (M0 : gMem) : Option ((Int32 × gMem) ⊕ gMem) :=
  if (374 : Int32) ≤ x1 then (some (.inr M0)) else (rI M0 5 2992 (((M0.1 0 6) * (374 : Int32)) + x1)).bind fun v5 => (wI M0 1 374 x1 v5).bind fun M6 => some (.inl (x1 + (1 : Int32), M6))
set_option maxRecDepth 20000 in
theorem tX11_undo_l26 {X : gX} {V : gEnv} {x1 : Int32} {M0 : gMem}  {o : ((Int32 × gMem) ⊕ gMem)} (h : fX11_undo_l26 x1 M0 = some o) (Kc : ∀ s9, o = .inl s9 → gG X V mX11_undo gShM s9.2 0 0 26 [(0, .ref (gAd V 0)), (1, .int s9.1)] []) (Kx : ∀ e9, o = .inr e9 → gG X V mX11_undo gShM e9 0 0 60 [(0, .ref (gAd V 0))] []) : gG X V mX11_undo gShM M0 0 0 26 [(0, .ref (gAd V 0)), (1, .int x1)] [] := by
  unfold fX11_undo_l26 at h
  refine g_iload_n 1 rfl rfl dX11_undo_26 ?_
  refine g_sipush (v := 374) rfl dX11_undo_27 ?_
  rcases g_ite h with ⟨c4, h⟩ | ⟨c4, h⟩
  · refine g_icmp_ge_t c4 (tgt := 60) rfl dX11_undo_30 ?_
    cases h
    refine g_sub [0] rfl ?_
    exact Kx M0 rfl
  · refine g_icmp_ge_f c4 (tgt := 60) rfl dX11_undo_30 ?_
    refine g_aload_n 0 rfl rfl dX11_undo_33 ?_
    refine g_getR FX11_9 sM_0 rfl dX11_undo_34 ?_
    refine g_iload_n 1 rfl rfl dX11_undo_37 ?_
    refine g_aload_n 0 rfl rfl dX11_undo_38 ?_
    refine g_getR FX11_22 sM_0 rfl dX11_undo_39 ?_
    refine g_aload_n 0 rfl rfl dX11_undo_42 ?_
    refine g_getI FX11_75 sM_0 rfl dX11_undo_43 ?_
    refine g_sipush (v := 374) rfl dX11_undo_46 ?_
    refine g_imul dX11_undo_49 ?_
    refine g_iload_n 1 rfl rfl dX11_undo_50 ?_
    refine g_iadd dX11_undo_51 ?_
    obtain ⟨v5, ev5, h⟩ := g_bnd h
    refine g_iald' ev5 sM_5 dX11_undo_52 ?_
    obtain ⟨M6, eM6, h⟩ := g_bnd h
    refine g_iast' eM6 sM_1 dX11_undo_53 ?_
    refine g_iinc (j := 1) (v := x1 + (1 : Int32)) (ls' := [(1, .int (x1 + (1 : Int32))), (0, .ref (gAd V 0))]) rfl rfl (Nat.le_of_ble_eq_true rfl) rfl dX11_undo_54 ?_
    refine g_goto (tgt := 26) rfl dX11_undo_57 ?_
    cases h
    refine g_sub [1, 0] rfl ?_
    exact Kc (x1 + (1 : Int32), M6) rfl
def fX11_undo (M0 : gMem) : Option (Int32 × gMem) :=
  (wF M0 0 0 (0 : Int32)).bind fun M1 => if (M1.1 0 6) = 0 then (some ((-1 : Int32), M1)) else (wF M1 0 6 ((M1.1 0 6) - (1 : Int32))).bind fun M3 => (gLoop (fun z9 => fX11_undo_l26 z9.1 z9.2) gFu ((0 : Int32), M3)).bind fun w7 => some (w7.1 0 6, w7)
set_option maxRecDepth 20000 in
theorem tX11_undo {X : gX} {V : gEnv} {M0 : gMem}  {o : (Int32 × gMem)} (h : fX11_undo M0 = some o) (O : gO X V mX11_undo gShM (some .int) (some (.int o.1)) o.2) : gG X V mX11_undo gShM M0 0 0 0 [(0, .ref (gAd V 0))] [] := by
  unfold fX11_undo at h
  refine g_aload_n 0 rfl rfl dX11_undo_0 ?_
  refine g_iconst (v := 0) rfl dX11_undo_1 ?_
  obtain ⟨M1, eM1, h⟩ := g_bnd h
  refine g_putI' eM1 FX11_72 jX11 sM_0 rfl rfl rfl dX11_undo_2 ?_
  refine g_aload_n 0 rfl rfl dX11_undo_5 ?_
  refine g_getI FX11_75 sM_0 rfl dX11_undo_6 ?_
  rcases g_ite h with ⟨c2, h⟩ | ⟨c2, h⟩
  · refine g_if_ne_f c2 (tgt := 14) rfl dX11_undo_9 ?_
    refine g_iconst (v := -1) rfl dX11_undo_12 ?_
    cases h
    exact g_iret O ⟨Nat.le_of_ble_eq_true rfl, Nat.le_of_ble_eq_true rfl⟩ rfl dX11_undo_13
  · refine g_if_ne_t c2 (tgt := 14) rfl dX11_undo_9 ?_
    refine g_aload_n 0 rfl rfl dX11_undo_14 ?_
    refine g_dup rfl dX11_undo_15 ?_
    refine g_getI FX11_75 sM_0 rfl dX11_undo_16 ?_
    refine g_iconst (v := 1) rfl dX11_undo_19 ?_
    refine g_isub dX11_undo_20 ?_
    obtain ⟨M3, eM3, h⟩ := g_bnd h
    refine g_putI' eM3 FX11_75 jX11 sM_0 rfl rfl rfl dX11_undo_21 ?_
    refine g_iconst (v := 0) rfl dX11_undo_24 ?_
    refine g_istore_n (ls' := [(1, .int (0 : Int32)), (0, .ref (gAd V 0))]) rfl (Nat.le_of_ble_eq_true rfl) rfl dX11_undo_25 ?_
    obtain ⟨w7, ew7, h⟩ := g_bnd h
    refine g_sub [1, 0] rfl ?_
    have KX : gG X V mX11_undo gShM w7 0 0 60 [(0, .ref (gAd V 0))] [] := by
      refine g_aload_n 0 rfl rfl dX11_undo_60 ?_
      refine g_getI FX11_75 sM_0 rfl dX11_undo_61 ?_
      cases h
      exact g_iret O ⟨Nat.le_of_ble_eq_true rfl, Nat.le_of_ble_eq_true rfl⟩ rfl dX11_undo_64
    exact gLoop_Q ew7 (fun z9 => gG X V mX11_undo gShM z9.2 0 0 26 [(0, .ref (gAd V 0)), (1, .int z9.1)] []) (fun s9 o9 hb9 hc9 hx9 => tX11_undo_l26  hb9 hc9 (fun e9 he9 => by cases hx9 _ he9; exact KX))
theorem kX11_undo {l : Launch} {V : gEnv} {M0 : gMem}   {o : (Int32 × gMem)} (h : fX11_undo M0 = some o) : gM l yX11_undo cX11_undo 2 (some .int) rX11_undo V gShM [.ref (gAd V 0)] M0 (some (.int o.1)) o.2 :=
  gM.of (by decide) (Nat.le_of_ble_eq_true rfl) rfl (fun X _ O => tX11_undo  h O)
theorem dX11_save_0 : decode cX11_save 0 = .ok (.aload_n 0, 1) := by decide +kernel
theorem dX11_save_1 : decode cX11_save 1 = .ok (.iconst 0, 1) := by decide +kernel
theorem dX11_save_2 : decode cX11_save 2 = .ok (.putfield 72, 3) := by decide +kernel
theorem dX11_save_5 : decode cX11_save 5 = .ok (.iconst 0, 1) := by decide +kernel
theorem dX11_save_6 : decode cX11_save 6 = .ok (.istore_n 1, 1) := by decide +kernel
theorem dX11_save_7 : decode cX11_save 7 = .ok (.iload_n 1, 1) := by decide +kernel
theorem dX11_save_8 : decode cX11_save 8 = .ok (.sipush 374, 3) := by decide +kernel
theorem dX11_save_11 : decode cX11_save 11 = .ok (.if_icmp .ge 21, 3) := by decide +kernel
theorem dX11_save_14 : decode cX11_save 14 = .ok (.aload_n 0, 1) := by decide +kernel
theorem dX11_save_15 : decode cX11_save 15 = .ok (.getfield 19, 3) := by decide +kernel
theorem dX11_save_18 : decode cX11_save 18 = .ok (.iload_n 1, 1) := by decide +kernel
theorem dX11_save_19 : decode cX11_save 19 = .ok (.aload_n 0, 1) := by decide +kernel
theorem dX11_save_20 : decode cX11_save 20 = .ok (.getfield 9, 3) := by decide +kernel
theorem dX11_save_23 : decode cX11_save 23 = .ok (.iload_n 1, 1) := by decide +kernel
theorem dX11_save_24 : decode cX11_save 24 = .ok (.iaload, 1) := by decide +kernel
theorem dX11_save_25 : decode cX11_save 25 = .ok (.iastore, 1) := by decide +kernel
theorem dX11_save_26 : decode cX11_save 26 = .ok (.iinc 1 1, 3) := by decide +kernel
theorem dX11_save_29 : decode cX11_save 29 = .ok (.goto (-22), 3) := by decide +kernel
theorem dX11_save_32 : decode cX11_save 32 = .ok (.aload_n 0, 1) := by decide +kernel
theorem dX11_save_33 : decode cX11_save 33 = .ok (.iconst 1, 1) := by decide +kernel
theorem dX11_save_34 : decode cX11_save 34 = .ok (.putfield 463, 3) := by decide +kernel
theorem dX11_save_37 : decode cX11_save 37 = .ok (.aload_n 0, 1) := by decide +kernel
theorem dX11_save_38 : decode cX11_save 38 = .ok (.getfield 9, 3) := by decide +kernel
theorem dX11_save_41 : decode cX11_save 41 = .ok (.iconst 1, 1) := by decide +kernel
theorem dX11_save_42 : decode cX11_save 42 = .ok (.iaload, 1) := by decide +kernel
theorem dX11_save_43 : decode cX11_save 43 = .ok (.ireturn, 1) := by decide +kernel
abbrev rX11_save : Room := { frames := 0, cells := 0, slots := 0, locals := 0 }
abbrev mX11_save : gY := (cX11_save, RX11, 2, rX11_save)
def fX11_save_l7 (x1 : Int32) (M0 : gMem) : Option ((Int32 × gMem) ⊕ gMem) :=
  if (374 : Int32) ≤ x1 then (some (.inr M0)) else (rI M0 1 374 x1).bind fun v3 => (wI M0 4 374 x1 v3).bind fun M4 => some (.inl (x1 + (1 : Int32), M4))
set_option maxRecDepth 20000 in
theorem tX11_save_l7 {X : gX} {V : gEnv} {x1 : Int32} {M0 : gMem}  {o : ((Int32 × gMem) ⊕ gMem)} (h : fX11_save_l7 x1 M0 = some o) (Kc : ∀ s9, o = .inl s9 → gG X V mX11_save gShM s9.2 0 0 7 [(0, .ref (gAd V 0)), (1, .int s9.1)] []) (Kx : ∀ e9, o = .inr e9 → gG X V mX11_save gShM e9 0 0 32 [(0, .ref (gAd V 0))] []) : gG X V mX11_save gShM M0 0 0 7 [(0, .ref (gAd V 0)), (1, .int x1)] [] := by
  unfold fX11_save_l7 at h
  refine g_iload_n 1 rfl rfl dX11_save_7 ?_
  refine g_sipush (v := 374) rfl dX11_save_8 ?_
  rcases g_ite h with ⟨c2, h⟩ | ⟨c2, h⟩
  · refine g_icmp_ge_t c2 (tgt := 32) rfl dX11_save_11 ?_
    cases h
    refine g_sub [0] rfl ?_
    exact Kx M0 rfl
  · refine g_icmp_ge_f c2 (tgt := 32) rfl dX11_save_11 ?_
    refine g_aload_n 0 rfl rfl dX11_save_14 ?_
    refine g_getR FX11_19 sM_0 rfl dX11_save_15 ?_
    refine g_iload_n 1 rfl rfl dX11_save_18 ?_
    refine g_aload_n 0 rfl rfl dX11_save_19 ?_
    refine g_getR FX11_9 sM_0 rfl dX11_save_20 ?_
    refine g_iload_n 1 rfl rfl dX11_save_23 ?_
    obtain ⟨v3, ev3, h⟩ := g_bnd h
    refine g_iald' ev3 sM_1 dX11_save_24 ?_
    obtain ⟨M4, eM4, h⟩ := g_bnd h
    refine g_iast' eM4 sM_4 dX11_save_25 ?_
    refine g_iinc (j := 1) (v := x1 + (1 : Int32)) (ls' := [(1, .int (x1 + (1 : Int32))), (0, .ref (gAd V 0))]) rfl rfl (Nat.le_of_ble_eq_true rfl) rfl dX11_save_26 ?_
    refine g_goto (tgt := 7) rfl dX11_save_29 ?_
    cases h
    refine g_sub [1, 0] rfl ?_
    exact Kc (x1 + (1 : Int32), M4) rfl
def fX11_save (M0 : gMem) : Option (Int32 × gMem) :=
  (wF M0 0 0 (0 : Int32)).bind fun M1 => (gLoop (fun z9 => fX11_save_l7 z9.1 z9.2) gFu ((0 : Int32), M1)).bind fun w5 => (wZ w5 0 7 (1 : Int32)).bind fun M6 => (rI M6 1 374 (1 : Int32)).bind fun v7 => some (v7, M6)
set_option maxRecDepth 20000 in
theorem tX11_save {X : gX} {V : gEnv} {M0 : gMem}  {o : (Int32 × gMem)} (h : fX11_save M0 = some o) (O : gO X V mX11_save gShM (some .int) (some (.int o.1)) o.2) : gG X V mX11_save gShM M0 0 0 0 [(0, .ref (gAd V 0))] [] := by
  unfold fX11_save at h
  refine g_aload_n 0 rfl rfl dX11_save_0 ?_
  refine g_iconst (v := 0) rfl dX11_save_1 ?_
  obtain ⟨M1, eM1, h⟩ := g_bnd h
  refine g_putI' eM1 FX11_72 jX11 sM_0 rfl rfl rfl dX11_save_2 ?_
  refine g_iconst (v := 0) rfl dX11_save_5 ?_
  refine g_istore_n (ls' := [(1, .int (0 : Int32)), (0, .ref (gAd V 0))]) rfl (Nat.le_of_ble_eq_true rfl) rfl dX11_save_6 ?_
  obtain ⟨w5, ew5, h⟩ := g_bnd h
  refine g_sub [1, 0] rfl ?_
  have KX : gG X V mX11_save gShM w5 0 0 32 [(0, .ref (gAd V 0))] [] := by
    refine g_aload_n 0 rfl rfl dX11_save_32 ?_
    refine g_iconst (v := 1) rfl dX11_save_33 ?_
    obtain ⟨M6, eM6, h⟩ := g_bnd h
    refine g_putZ' eM6 FX11_463 jX11 sM_0 rfl rfl rfl dX11_save_34 ?_
    refine g_aload_n 0 rfl rfl dX11_save_37 ?_
    refine g_getR FX11_9 sM_0 rfl dX11_save_38 ?_
    refine g_iconst (v := 1) rfl dX11_save_41 ?_
    obtain ⟨v7, ev7, h⟩ := g_bnd h
    refine g_iald' ev7 sM_1 dX11_save_42 ?_
    cases h
    exact g_iret O ⟨Nat.le_of_ble_eq_true rfl, Nat.le_of_ble_eq_true rfl⟩ rfl dX11_save_43
  exact gLoop_Q ew5 (fun z9 => gG X V mX11_save gShM z9.2 0 0 7 [(0, .ref (gAd V 0)), (1, .int z9.1)] []) (fun s9 o9 hb9 hc9 hx9 => tX11_save_l7  hb9 hc9 (fun e9 he9 => by cases hx9 _ he9; exact KX))
theorem kX11_save {l : Launch} {V : gEnv} {M0 : gMem}   {o : (Int32 × gMem)} (h : fX11_save M0 = some o) : gM l yX11_save cX11_save 2 (some .int) rX11_save V gShM [.ref (gAd V 0)] M0 (some (.int o.1)) o.2 :=
  gM.of (by decide) (Nat.le_of_ble_eq_true rfl) rfl (fun X _ O => tX11_save  h O)
theorem dX11_restore_0 : decode cX11_restore 0 = .ok (.aload_n 0, 1) := by decide +kernel
theorem dX11_restore_1 : decode cX11_restore 1 = .ok (.aload_n 0, 1) := by decide +kernel
theorem dX11_restore_2 : decode cX11_restore 2 = .ok (.getfield 463, 3) := by decide +kernel
theorem dX11_restore_5 : decode cX11_restore 5 = .ok (.ifCond .ne 7, 3) := by decide +kernel
theorem dX11_restore_8 : decode cX11_restore 8 = .ok (.iconst 1, 1) := by decide +kernel
theorem dX11_restore_9 : decode cX11_restore 9 = .ok (.goto 4, 3) := by decide +kernel
theorem dX11_restore_12 : decode cX11_restore 12 = .ok (.iconst 0, 1) := by decide +kernel
theorem dX11_restore_13 : decode cX11_restore 13 = .ok (.invokevirtual 212, 3) := by decide +kernel
theorem dX11_restore_16 : decode cX11_restore 16 = .ok (.ifCond .eq 5, 3) := by decide +kernel
theorem dX11_restore_19 : decode cX11_restore 19 = .ok (.iconst 0, 1) := by decide +kernel
theorem dX11_restore_20 : decode cX11_restore 20 = .ok (.ireturn, 1) := by decide +kernel
theorem dX11_restore_21 : decode cX11_restore 21 = .ok (.iconst 0, 1) := by decide +kernel
theorem dX11_restore_22 : decode cX11_restore 22 = .ok (.istore_n 1, 1) := by decide +kernel
theorem dX11_restore_23 : decode cX11_restore 23 = .ok (.iload_n 1, 1) := by decide +kernel
theorem dX11_restore_24 : decode cX11_restore 24 = .ok (.sipush 374, 3) := by decide +kernel
theorem dX11_restore_27 : decode cX11_restore 27 = .ok (.if_icmp .ge 21, 3) := by decide +kernel
theorem dX11_restore_30 : decode cX11_restore 30 = .ok (.aload_n 0, 1) := by decide +kernel
theorem dX11_restore_31 : decode cX11_restore 31 = .ok (.getfield 9, 3) := by decide +kernel
theorem dX11_restore_34 : decode cX11_restore 34 = .ok (.iload_n 1, 1) := by decide +kernel
theorem dX11_restore_35 : decode cX11_restore 35 = .ok (.aload_n 0, 1) := by decide +kernel
theorem dX11_restore_36 : decode cX11_restore 36 = .ok (.getfield 19, 3) := by decide +kernel
theorem dX11_restore_39 : decode cX11_restore 39 = .ok (.iload_n 1, 1) := by decide +kernel
theorem dX11_restore_40 : decode cX11_restore 40 = .ok (.iaload, 1) := by decide +kernel
theorem dX11_restore_41 : decode cX11_restore 41 = .ok (.iastore, 1) := by decide +kernel
theorem dX11_restore_42 : decode cX11_restore 42 = .ok (.iinc 1 1, 3) := by decide +kernel
theorem dX11_restore_45 : decode cX11_restore 45 = .ok (.goto (-22), 3) := by decide +kernel
theorem dX11_restore_48 : decode cX11_restore 48 = .ok (.aload_n 0, 1) := by decide +kernel
theorem dX11_restore_49 : decode cX11_restore 49 = .ok (.iconst 0, 1) := by decide +kernel
theorem dX11_restore_50 : decode cX11_restore 50 = .ok (.putfield 75, 3) := by decide +kernel
theorem dX11_restore_53 : decode cX11_restore 53 = .ok (.aload_n 0, 1) := by decide +kernel
theorem dX11_restore_54 : decode cX11_restore 54 = .ok (.getfield 9, 3) := by decide +kernel
theorem dX11_restore_57 : decode cX11_restore 57 = .ok (.iconst 1, 1) := by decide +kernel
theorem dX11_restore_58 : decode cX11_restore 58 = .ok (.iaload, 1) := by decide +kernel
theorem dX11_restore_59 : decode cX11_restore 59 = .ok (.ireturn, 1) := by decide +kernel
abbrev rX11_restore : Room := { frames := 1, cells := 0, slots := 0, locals := 21 }
abbrev mX11_restore : gY := (cX11_restore, RX11, 2, rX11_restore)
def fX11_restore_l23 (x1 : Int32) (M0 : gMem) : Option ((Int32 × gMem) ⊕ gMem) :=
  if (374 : Int32) ≤ x1 then (some (.inr M0)) else (rI M0 4 374 x1).bind fun v5 => (wI M0 1 374 x1 v5).bind fun M6 => some (.inl (x1 + (1 : Int32), M6))
set_option maxRecDepth 20000 in
theorem tX11_restore_l23 {X : gX} {V : gEnv} {x1 : Int32} {M0 : gMem}  {o : ((Int32 × gMem) ⊕ gMem)} (h : fX11_restore_l23 x1 M0 = some o) (Kc : ∀ s9, o = .inl s9 → gG X V mX11_restore gShM s9.2 0 0 23 [(0, .ref (gAd V 0)), (1, .int s9.1)] []) (Kx : ∀ e9, o = .inr e9 → gG X V mX11_restore gShM e9 0 0 48 [(0, .ref (gAd V 0))] []) : gG X V mX11_restore gShM M0 0 0 23 [(0, .ref (gAd V 0)), (1, .int x1)] [] := by
  unfold fX11_restore_l23 at h
  refine g_iload_n 1 rfl rfl dX11_restore_23 ?_
  refine g_sipush (v := 374) rfl dX11_restore_24 ?_
  rcases g_ite h with ⟨c4, h⟩ | ⟨c4, h⟩
  · refine g_icmp_ge_t c4 (tgt := 48) rfl dX11_restore_27 ?_
    cases h
    refine g_sub [0] rfl ?_
    exact Kx M0 rfl
  · refine g_icmp_ge_f c4 (tgt := 48) rfl dX11_restore_27 ?_
    refine g_aload_n 0 rfl rfl dX11_restore_30 ?_
    refine g_getR FX11_9 sM_0 rfl dX11_restore_31 ?_
    refine g_iload_n 1 rfl rfl dX11_restore_34 ?_
    refine g_aload_n 0 rfl rfl dX11_restore_35 ?_
    refine g_getR FX11_19 sM_0 rfl dX11_restore_36 ?_
    refine g_iload_n 1 rfl rfl dX11_restore_39 ?_
    obtain ⟨v5, ev5, h⟩ := g_bnd h
    refine g_iald' ev5 sM_4 dX11_restore_40 ?_
    obtain ⟨M6, eM6, h⟩ := g_bnd h
    refine g_iast' eM6 sM_1 dX11_restore_41 ?_
    refine g_iinc (j := 1) (v := x1 + (1 : Int32)) (ls' := [(1, .int (x1 + (1 : Int32))), (0, .ref (gAd V 0))]) rfl rfl (Nat.le_of_ble_eq_true rfl) rfl dX11_restore_42 ?_
    refine g_goto (tgt := 23) rfl dX11_restore_45 ?_
    cases h
    refine g_sub [1, 0] rfl ?_
    exact Kc (x1 + (1 : Int32), M6) rfl
def fX11_restore (M0 : gMem) : Option (Int32 × gMem) :=
  (fX11_wrong (if (M0.1 0 7) = 0 then (1 : Int32) else (0 : Int32)) M0).bind fun v2 => if v2.1 = 0 then ((gLoop (fun z9 => fX11_restore_l23 z9.1 z9.2) gFu ((0 : Int32), v2.2)).bind fun w7 => (wF w7 0 6 (0 : Int32)).bind fun M8 => (rI M8 1 374 (1 : Int32)).bind fun v9 => some (v9, M8)) else some ((0 : Int32), v2.2)
set_option maxRecDepth 20000 in
theorem tX11_restore {X : gX} {V : gEnv} {M0 : gMem}  {o : (Int32 × gMem)} (h : fX11_restore M0 = some o) (O : gO X V mX11_restore gShM (some .int) (some (.int o.1)) o.2) : gG X V mX11_restore gShM M0 0 0 0 [(0, .ref (gAd V 0))] [] := by
  unfold fX11_restore at h
  refine g_aload_n 0 rfl rfl dX11_restore_0 ?_
  refine g_aload_n 0 rfl rfl dX11_restore_1 ?_
  refine g_getI FX11_463 sM_0 rfl dX11_restore_2 ?_
  have KJ : gG X V mX11_restore gShM M0 0 0 13 [(0, .ref (gAd V 0))] [.int (if (M0.1 0 7) = 0 then (1 : Int32) else (0 : Int32)), .ref (gAd V 0)] := by
    obtain ⟨v2, ev2, h⟩ := g_bnd h
    refine g_callV LX11_212 sM_0 rfl (kX11_wrong ev2) rfl rfl (Nat.le_of_ble_eq_true rfl) ⟨Nat.le_of_ble_eq_true rfl, Nat.le_of_ble_eq_true rfl⟩ ⟨Nat.le_of_ble_eq_true rfl, Nat.le_of_ble_eq_true rfl⟩ dX11_restore_13 rfl ?_
    rcases g_ite h with ⟨c3, h⟩ | ⟨c3, h⟩
    · refine g_if_eq_t c3 (tgt := 21) rfl dX11_restore_16 ?_
      refine g_iconst (v := 0) rfl dX11_restore_21 ?_
      refine g_istore_n (ls' := [(1, .int (0 : Int32)), (0, .ref (gAd V 0))]) rfl (Nat.le_of_ble_eq_true rfl) rfl dX11_restore_22 ?_
      obtain ⟨w7, ew7, h⟩ := g_bnd h
      refine g_sub [1, 0] rfl ?_
      have KX : gG X V mX11_restore gShM w7 0 0 48 [(0, .ref (gAd V 0))] [] := by
        refine g_aload_n 0 rfl rfl dX11_restore_48 ?_
        refine g_iconst (v := 0) rfl dX11_restore_49 ?_
        obtain ⟨M8, eM8, h⟩ := g_bnd h
        refine g_putI' eM8 FX11_75 jX11 sM_0 rfl rfl rfl dX11_restore_50 ?_
        refine g_aload_n 0 rfl rfl dX11_restore_53 ?_
        refine g_getR FX11_9 sM_0 rfl dX11_restore_54 ?_
        refine g_iconst (v := 1) rfl dX11_restore_57 ?_
        obtain ⟨v9, ev9, h⟩ := g_bnd h
        refine g_iald' ev9 sM_1 dX11_restore_58 ?_
        cases h
        exact g_iret O ⟨Nat.le_of_ble_eq_true rfl, Nat.le_of_ble_eq_true rfl⟩ rfl dX11_restore_59
      exact gLoop_Q ew7 (fun z9 => gG X V mX11_restore gShM z9.2 0 0 23 [(0, .ref (gAd V 0)), (1, .int z9.1)] []) (fun s9 o9 hb9 hc9 hx9 => tX11_restore_l23  hb9 hc9 (fun e9 he9 => by cases hx9 _ he9; exact KX))
    · refine g_if_eq_f c3 (tgt := 21) rfl dX11_restore_16 ?_
      refine g_iconst (v := 0) rfl dX11_restore_19 ?_
      cases h
      exact g_iret O ⟨Nat.le_of_ble_eq_true rfl, Nat.le_of_ble_eq_true rfl⟩ rfl dX11_restore_20
  by_cases c1 : (M0.1 0 7) = 0
  · rw [if_pos c1] at KJ
    refine g_if_ne_f c1 (tgt := 12) rfl dX11_restore_5 ?_
    refine g_iconst (v := 1) rfl dX11_restore_8 ?_
    refine g_goto (tgt := 13) rfl dX11_restore_9 ?_
    exact KJ
  · rw [if_neg c1] at KJ
    refine g_if_ne_t c1 (tgt := 12) rfl dX11_restore_5 ?_
    refine g_iconst (v := 0) rfl dX11_restore_12 ?_
    exact KJ
theorem kX11_restore {l : Launch} {V : gEnv} {M0 : gMem}   {o : (Int32 × gMem)} (h : fX11_restore M0 = some o) : gM l yX11_restore cX11_restore 2 (some .int) rX11_restore V gShM [.ref (gAd V 0)] M0 (some (.int o.1)) o.2 :=
  gM.of (by decide) (Nat.le_of_ble_eq_true rfl) rfl (fun X _ O => tX11_restore  h O)
theorem dJ7_fill_53178_0 : decode cJ7_fill_53178 0 = .ok (.iconst 0, 1) := by decide +kernel
theorem dJ7_fill_53178_1 : decode cJ7_fill_53178 1 = .ok (.istore_n 2, 1) := by decide +kernel
theorem dJ7_fill_53178_2 : decode cJ7_fill_53178 2 = .ok (.aload_n 0, 1) := by decide +kernel
theorem dJ7_fill_53178_3 : decode cJ7_fill_53178 3 = .ok (.arraylength, 1) := by decide +kernel
theorem dJ7_fill_53178_4 : decode cJ7_fill_53178 4 = .ok (.istore_n 3, 1) := by decide +kernel
theorem dJ7_fill_53178_5 : decode cJ7_fill_53178 5 = .ok (.iload_n 2, 1) := by decide +kernel
theorem dJ7_fill_53178_6 : decode cJ7_fill_53178 6 = .ok (.iload_n 3, 1) := by decide +kernel
theorem dJ7_fill_53178_7 : decode cJ7_fill_53178 7 = .ok (.if_icmp .ge 13, 3) := by decide +kernel
theorem dJ7_fill_53178_10 : decode cJ7_fill_53178 10 = .ok (.aload_n 0, 1) := by decide +kernel
theorem dJ7_fill_53178_11 : decode cJ7_fill_53178 11 = .ok (.iload_n 2, 1) := by decide +kernel
theorem dJ7_fill_53178_12 : decode cJ7_fill_53178 12 = .ok (.iload_n 1, 1) := by decide +kernel
theorem dJ7_fill_53178_13 : decode cJ7_fill_53178 13 = .ok (.iastore, 1) := by decide +kernel
theorem dJ7_fill_53178_14 : decode cJ7_fill_53178 14 = .ok (.iinc 2 1, 3) := by decide +kernel
theorem dJ7_fill_53178_17 : decode cJ7_fill_53178 17 = .ok (.goto (-12), 3) := by decide +kernel
theorem dJ7_fill_53178_20 : decode cJ7_fill_53178 20 = .ok (.return_, 1) := by decide +kernel
abbrev rJ7_fill_53178 : Room := { frames := 0, cells := 0, slots := 0, locals := 0 }
abbrev mJ7_fill_53178 : gY := (cJ7_fill_53178, RJ7, 4, rJ7_fill_53178)
def fJ7_fill_53178_l5 (t0 : Nat) (n0 : Nat) (x1 : Int32) (x3 : Int32) (x2 : Int32) (M0 : gMem) : Option ((Int32 × gMem) ⊕ gMem) :=
  if x3 ≤ x2 then (some (.inr M0)) else (wI M0 t0 n0 x2 x1).bind fun M3 => some (.inl (x2 + (1 : Int32), M3))
set_option maxRecDepth 20000 in
theorem tJ7_fill_53178_l5 {X : gX} {V : gEnv} {Sh : List gShp} {t0 : Nat} {n0 : Nat} {x1 : Int32} {x3 : Int32} {x2 : Int32} {M0 : gMem} (ht0 : Sh[t0]? = some (.inl (0, n0))) {o : ((Int32 × gMem) ⊕ gMem)} (h : fJ7_fill_53178_l5 t0 n0 x1 x3 x2 M0 = some o) (Kc : ∀ s9, o = .inl s9 → gG X V mJ7_fill_53178 Sh s9.2 0 0 5 [(0, .ref (gAd V t0)), (1, .int x1), (2, .int s9.1), (3, .int x3)] []) (Kx : ∀ e9, o = .inr e9 → gG X V mJ7_fill_53178 Sh e9 0 0 20 [] []) : gG X V mJ7_fill_53178 Sh M0 0 0 5 [(0, .ref (gAd V t0)), (1, .int x1), (2, .int x2), (3, .int x3)] [] := by
  unfold fJ7_fill_53178_l5 at h
  refine g_iload_n 2 rfl rfl dJ7_fill_53178_5 ?_
  refine g_iload_n 3 rfl rfl dJ7_fill_53178_6 ?_
  rcases g_ite h with ⟨c2, h⟩ | ⟨c2, h⟩
  · refine g_icmp_ge_t c2 (tgt := 20) rfl dJ7_fill_53178_7 ?_
    cases h
    refine g_sub [] rfl ?_
    exact Kx M0 rfl
  · refine g_icmp_ge_f c2 (tgt := 20) rfl dJ7_fill_53178_7 ?_
    refine g_aload_n 0 rfl rfl dJ7_fill_53178_10 ?_
    refine g_iload_n 2 rfl rfl dJ7_fill_53178_11 ?_
    refine g_iload_n 1 rfl rfl dJ7_fill_53178_12 ?_
    obtain ⟨M3, eM3, h⟩ := g_bnd h
    refine g_iast' eM3 ht0 dJ7_fill_53178_13 ?_
    refine g_iinc (j := 2) (v := x2 + (1 : Int32)) (ls' := [(2, .int (x2 + (1 : Int32))), (0, .ref (gAd V t0)), (1, .int x1), (3, .int x3)]) rfl rfl (Nat.le_of_ble_eq_true rfl) rfl dJ7_fill_53178_14 ?_
    refine g_goto (tgt := 5) rfl dJ7_fill_53178_17 ?_
    cases h
    refine g_sub [1, 2, 0, 3] rfl ?_
    exact Kc (x2 + (1 : Int32), M3) rfl
def fJ7_fill_53178 (t0 : Nat) (n0 : Nat) (x1 : Int32) (M0 : gMem) : Option gMem :=
  (nm (Int32.ofNat n0)).bind fun v1 => (gLoop (fun z9 => fJ7_fill_53178_l5 t0 n0 x1 v1 z9.1 z9.2) gFu ((0 : Int32), M0)).bind fun w4 => some w4
set_option maxRecDepth 20000 in
theorem tJ7_fill_53178 {X : gX} {V : gEnv} {Sh : List gShp} {t0 : Nat} {n0 : Nat} {x1 : Int32} {M0 : gMem} (ht0 : Sh[t0]? = some (.inl (0, n0))) {o : gMem} (h : fJ7_fill_53178 t0 n0 x1 M0 = some o) (O : gO X V mJ7_fill_53178 Sh none none o) : gG X V mJ7_fill_53178 Sh M0 0 0 0 [(0, .ref (gAd V t0)), (1, .int x1)] [] := by
  unfold fJ7_fill_53178 at h
  refine g_iconst (v := 0) rfl dJ7_fill_53178_0 ?_
  refine g_istore_n (ls' := [(2, .int (0 : Int32)), (0, .ref (gAd V t0)), (1, .int x1)]) rfl (Nat.le_of_ble_eq_true rfl) rfl dJ7_fill_53178_1 ?_
  refine g_aload_n 1 rfl rfl dJ7_fill_53178_2 ?_
  refine g_alen ht0 (by decide) rfl dJ7_fill_53178_3 ?_
  obtain ⟨v1, ev1, h⟩ := g_bnd h
  refine g_nmI ev1 ?_
  refine g_istore_n (ls' := [(3, .int v1), (2, .int (0 : Int32)), (0, .ref (gAd V t0)), (1, .int x1)]) rfl (Nat.le_of_ble_eq_true rfl) rfl dJ7_fill_53178_4 ?_
  obtain ⟨w4, ew4, h⟩ := g_bnd h
  refine g_sub [2, 3, 1, 0] rfl ?_
  have KX : gG X V mJ7_fill_53178 Sh w4 0 0 20 [] [] := by
    cases h
    exact g_vret O ⟨Nat.le_of_ble_eq_true rfl, Nat.le_of_ble_eq_true rfl⟩ dJ7_fill_53178_20
  exact gLoop_Q ew4 (fun z9 => gG X V mJ7_fill_53178 Sh z9.2 0 0 5 [(0, .ref (gAd V t0)), (1, .int x1), (2, .int z9.1), (3, .int v1)] []) (fun s9 o9 hb9 hc9 hx9 => tJ7_fill_53178_l5 ht0 hb9 hc9 (fun e9 he9 => by cases hx9 _ he9; exact KX))
theorem kJ7_fill_53178 {l : Launch} {V : gEnv} {Sh : List gShp} {M0 : gMem} {t0 : Nat} {n0 : Nat} {x1 : Int32} (ht0 : Sh[t0]? = some (.inl (0, n0))) {o : gMem} (h : fJ7_fill_53178 t0 n0 x1 M0 = some o) : gM l yJ7_fill_53178 cJ7_fill_53178 4 none rJ7_fill_53178 V Sh [.ref (gAd V t0), .int x1] M0 none o :=
  gM.of (by decide) (Nat.le_of_ble_eq_true rfl) rfl (fun X _ O => tJ7_fill_53178 ht0 h O)
theorem dX0_goOn_0 : decode cX0_goOn 0 = .ok (.iconst 0, 1) := by decide +kernel
theorem dX0_goOn_1 : decode cX0_goOn 1 = .ok (.istore_n 3, 1) := by decide +kernel
theorem dX0_goOn_2 : decode cX0_goOn 2 = .ok (.iload_n 3, 1) := by decide +kernel
theorem dX0_goOn_3 : decode cX0_goOn 3 = .ok (.aload_n 1, 1) := by decide +kernel
theorem dX0_goOn_4 : decode cX0_goOn 4 = .ok (.getfield 59, 3) := by decide +kernel
theorem dX0_goOn_7 : decode cX0_goOn 7 = .ok (.if_icmp .ge 98, 3) := by decide +kernel
theorem dX0_goOn_10 : decode cX0_goOn 10 = .ok (.aload_n 1, 1) := by decide +kernel
theorem dX0_goOn_11 : decode cX0_goOn 11 = .ok (.getfield 39, 3) := by decide +kernel
theorem dX0_goOn_14 : decode cX0_goOn 14 = .ok (.aload_n 1, 1) := by decide +kernel
theorem dX0_goOn_15 : decode cX0_goOn 15 = .ok (.getfield 62, 3) := by decide +kernel
theorem dX0_goOn_18 : decode cX0_goOn 18 = .ok (.iload_n 3, 1) := by decide +kernel
theorem dX0_goOn_19 : decode cX0_goOn 19 = .ok (.iaload, 1) := by decide +kernel
theorem dX0_goOn_20 : decode cX0_goOn 20 = .ok (.iaload, 1) := by decide +kernel
theorem dX0_goOn_21 : decode cX0_goOn 21 = .ok (.istore 4, 2) := by decide +kernel
theorem dX0_goOn_23 : decode cX0_goOn 23 = .ok (.aload_n 1, 1) := by decide +kernel
theorem dX0_goOn_24 : decode cX0_goOn 24 = .ok (.getfield 39, 3) := by decide +kernel
theorem dX0_goOn_27 : decode cX0_goOn 27 = .ok (.aload_n 1, 1) := by decide +kernel
theorem dX0_goOn_28 : decode cX0_goOn 28 = .ok (.getfield 65, 3) := by decide +kernel
theorem dX0_goOn_31 : decode cX0_goOn 31 = .ok (.iload_n 3, 1) := by decide +kernel
theorem dX0_goOn_32 : decode cX0_goOn 32 = .ok (.iaload, 1) := by decide +kernel
theorem dX0_goOn_33 : decode cX0_goOn 33 = .ok (.iaload, 1) := by decide +kernel
theorem dX0_goOn_34 : decode cX0_goOn 34 = .ok (.iload_n 2, 1) := by decide +kernel
theorem dX0_goOn_35 : decode cX0_goOn 35 = .ok (.if_icmp .ne 64, 3) := by decide +kernel
theorem dX0_goOn_38 : decode cX0_goOn 38 = .ok (.iload 4, 2) := by decide +kernel
theorem dX0_goOn_40 : decode cX0_goOn 40 = .ok (.iload_n 2, 1) := by decide +kernel
theorem dX0_goOn_41 : decode cX0_goOn 41 = .ok (.if_icmp .eq 58, 3) := by decide +kernel
theorem dX0_goOn_44 : decode cX0_goOn 44 = .ok (.aload_n 0, 1) := by decide +kernel
theorem dX0_goOn_45 : decode cX0_goOn 45 = .ok (.getfield 15, 3) := by decide +kernel
theorem dX0_goOn_48 : decode cX0_goOn 48 = .ok (.iload 4, 2) := by decide +kernel
theorem dX0_goOn_50 : decode cX0_goOn 50 = .ok (.aload_n 0, 1) := by decide +kernel
theorem dX0_goOn_51 : decode cX0_goOn 51 = .ok (.getfield 15, 3) := by decide +kernel
theorem dX0_goOn_54 : decode cX0_goOn 54 = .ok (.iload 4, 2) := by decide +kernel
theorem dX0_goOn_56 : decode cX0_goOn 56 = .ok (.iaload, 1) := by decide +kernel
theorem dX0_goOn_57 : decode cX0_goOn 57 = .ok (.aload_n 0, 1) := by decide +kernel
theorem dX0_goOn_58 : decode cX0_goOn 58 = .ok (.getfield 15, 3) := by decide +kernel
theorem dX0_goOn_61 : decode cX0_goOn 61 = .ok (.iload_n 2, 1) := by decide +kernel
theorem dX0_goOn_62 : decode cX0_goOn 62 = .ok (.iaload, 1) := by decide +kernel
theorem dX0_goOn_63 : decode cX0_goOn 63 = .ok (.iconst 1, 1) := by decide +kernel
theorem dX0_goOn_64 : decode cX0_goOn 64 = .ok (.iadd, 1) := by decide +kernel
theorem dX0_goOn_65 : decode cX0_goOn 65 = .ok (.invokestatic 50, 3) := by decide +kernel
theorem dX0_goOn_68 : decode cX0_goOn 68 = .ok (.iastore, 1) := by decide +kernel
theorem dX0_goOn_69 : decode cX0_goOn 69 = .ok (.aload_n 0, 1) := by decide +kernel
theorem dX0_goOn_70 : decode cX0_goOn 70 = .ok (.getfield 18, 3) := by decide +kernel
theorem dX0_goOn_73 : decode cX0_goOn 73 = .ok (.iload 4, 2) := by decide +kernel
theorem dX0_goOn_75 : decode cX0_goOn 75 = .ok (.aload_n 0, 1) := by decide +kernel
theorem dX0_goOn_76 : decode cX0_goOn 76 = .ok (.getfield 18, 3) := by decide +kernel
theorem dX0_goOn_79 : decode cX0_goOn 79 = .ok (.iload 4, 2) := by decide +kernel
theorem dX0_goOn_81 : decode cX0_goOn 81 = .ok (.iaload, 1) := by decide +kernel
theorem dX0_goOn_82 : decode cX0_goOn 82 = .ok (.aload_n 0, 1) := by decide +kernel
theorem dX0_goOn_83 : decode cX0_goOn 83 = .ok (.getfield 18, 3) := by decide +kernel
theorem dX0_goOn_86 : decode cX0_goOn 86 = .ok (.iload_n 2, 1) := by decide +kernel
theorem dX0_goOn_87 : decode cX0_goOn 87 = .ok (.iaload, 1) := by decide +kernel
theorem dX0_goOn_88 : decode cX0_goOn 88 = .ok (.aload_n 0, 1) := by decide +kernel
theorem dX0_goOn_89 : decode cX0_goOn 89 = .ok (.getfield 9, 3) := by decide +kernel
theorem dX0_goOn_92 : decode cX0_goOn 92 = .ok (.iload_n 2, 1) := by decide +kernel
theorem dX0_goOn_93 : decode cX0_goOn 93 = .ok (.iaload, 1) := by decide +kernel
theorem dX0_goOn_94 : decode cX0_goOn 94 = .ok (.iadd, 1) := by decide +kernel
theorem dX0_goOn_95 : decode cX0_goOn 95 = .ok (.invokestatic 50, 3) := by decide +kernel
theorem dX0_goOn_98 : decode cX0_goOn 98 = .ok (.iastore, 1) := by decide +kernel
theorem dX0_goOn_99 : decode cX0_goOn 99 = .ok (.iinc 3 1, 3) := by decide +kernel
theorem dX0_goOn_102 : decode cX0_goOn 102 = .ok (.goto (-100), 3) := by decide +kernel
theorem dX0_goOn_105 : decode cX0_goOn 105 = .ok (.return_, 1) := by decide +kernel
abbrev rX0_goOn : Room := { frames := 1, cells := 0, slots := 0, locals := 30 }
abbrev mX0_goOn : gY := (cX0_goOn, RX0, 5, rX0_goOn)
def fX0_goOn_b99 (t1 : Nat) (x2 : Int32) (x3 : Int32) (M0 : gMem) : Option ((Int32 × gMem) ⊕ gMem) :=
  some (.inl (x3 + (1 : Int32), M0))
set_option maxRecDepth 20000 in
theorem tX0_goOn_b99 {X : gX} {V : gEnv} {t1 : Nat} {x2 : Int32} {x3 : Int32} {M0 : gMem} (ht1 : gNet gShC t1) {o : ((Int32 × gMem) ⊕ gMem)} (h : fX0_goOn_b99 t1 x2 x3 M0 = some o) (Kc : ∀ s9, o = .inl s9 → gG X V mX0_goOn gShC s9.2 0 0 2 [(0, .ref (gAd V 50)), (1, .ref (gAd V t1)), (2, .int x2), (3, .int s9.1)] []) (Kx : ∀ e9, o = .inr e9 → gG X V mX0_goOn gShC e9 0 0 105 [] []) : gG X V mX0_goOn gShC M0 0 0 99 [(0, .ref (gAd V 50)), (1, .ref (gAd V t1)), (2, .int x2), (3, .int x3)] [] := by
  unfold fX0_goOn_b99 at h
  refine g_iinc (j := 3) (v := x3 + (1 : Int32)) (ls' := [(3, .int (x3 + (1 : Int32))), (0, .ref (gAd V 50)), (1, .ref (gAd V t1)), (2, .int x2)]) rfl rfl (Nat.le_of_ble_eq_true rfl) rfl dX0_goOn_99 ?_
  refine g_goto (tgt := 2) rfl dX0_goOn_102 ?_
  cases h
  refine g_sub [1, 2, 3, 0] rfl ?_
  exact Kc (x3 + (1 : Int32), M0) rfl
def fX0_goOn_l2 (t1 : Nat) (x2 : Int32) (x3 : Int32) (M0 : gMem) : Option ((Int32 × gMem) ⊕ gMem) :=
  if (M0.1 t1 10) ≤ x3 then (some (.inr M0)) else (rI M0 (t1 + 4) 60 x3).bind fun v2 => (rI M0 (t1 + 8) 24 v2).bind fun v3 => (rI M0 (t1 + 3) 60 x3).bind fun v4 => (rI M0 (t1 + 8) 24 v4).bind fun v5 => if v5 = x2 then (if v3 = x2 then (fX0_goOn_b99 t1 x2 x3 M0) else (rI M0 52 24 v3).bind fun v8 => (rI M0 52 24 x2).bind fun v9 => (wI M0 52 24 v3 (if v8 < (v9 + (1 : Int32)) then (v9 + (1 : Int32)) else v8)).bind fun M10 => (rI M10 53 24 v3).bind fun v11 => (rI M10 53 24 x2).bind fun v12 => (rI M10 51 24 x2).bind fun v13 => (wI M10 53 24 v3 (if v11 < (v12 + v13) then (v12 + v13) else v11)).bind fun M14 => fX0_goOn_b99 t1 x2 x3 M14) else fX0_goOn_b99 t1 x2 x3 M0
set_option maxRecDepth 20000 in
theorem tX0_goOn_l2 {X : gX} {V : gEnv} {t1 : Nat} {x2 : Int32} {x3 : Int32} {M0 : gMem} (ht1 : gNet gShC t1) {o : ((Int32 × gMem) ⊕ gMem)} (h : fX0_goOn_l2 t1 x2 x3 M0 = some o) (Kc : ∀ s9, o = .inl s9 → gG X V mX0_goOn gShC s9.2 0 0 2 [(0, .ref (gAd V 50)), (1, .ref (gAd V t1)), (2, .int x2), (3, .int s9.1)] []) (Kx : ∀ e9, o = .inr e9 → gG X V mX0_goOn gShC e9 0 0 105 [] []) : gG X V mX0_goOn gShC M0 0 0 2 [(0, .ref (gAd V 50)), (1, .ref (gAd V t1)), (2, .int x2), (3, .int x3)] [] := by
  unfold fX0_goOn_l2 at h
  refine g_iload_n 3 rfl rfl dX0_goOn_2 ?_
  refine g_aload_n 1 rfl rfl dX0_goOn_3 ?_
  refine g_getI FX0_59 ht1.1 rfl dX0_goOn_4 ?_
  rcases g_ite h with ⟨c1, h⟩ | ⟨c1, h⟩
  · refine g_icmp_ge_t c1 (tgt := 105) rfl dX0_goOn_7 ?_
    cases h
    refine g_sub [] rfl ?_
    exact Kx M0 rfl
  · refine g_icmp_ge_f c1 (tgt := 105) rfl dX0_goOn_7 ?_
    refine g_aload_n 1 rfl rfl dX0_goOn_10 ?_
    refine g_getR FX0_39 ht1.1 rfl dX0_goOn_11 ?_
    refine g_aload_n 1 rfl rfl dX0_goOn_14 ?_
    refine g_getR FX0_62 ht1.1 rfl dX0_goOn_15 ?_
    refine g_iload_n 3 rfl rfl dX0_goOn_18 ?_
    obtain ⟨v2, ev2, h⟩ := g_bnd h
    refine g_iald' ev2 ht1.2.2.2.2.1 dX0_goOn_19 ?_
    obtain ⟨v3, ev3, h⟩ := g_bnd h
    refine g_iald' ev3 ht1.2.2.2.2.2.2.2.2.1 dX0_goOn_20 ?_
    refine g_istore (ls' := [(4, .int v3), (0, .ref (gAd V 50)), (1, .ref (gAd V t1)), (2, .int x2), (3, .int x3)]) (Nat.le_of_ble_eq_true rfl) rfl dX0_goOn_21 ?_
    refine g_aload_n 2 rfl rfl dX0_goOn_23 ?_
    refine g_getR FX0_39 ht1.1 rfl dX0_goOn_24 ?_
    refine g_aload_n 2 rfl rfl dX0_goOn_27 ?_
    refine g_getR FX0_65 ht1.1 rfl dX0_goOn_28 ?_
    refine g_iload_n 4 rfl rfl dX0_goOn_31 ?_
    obtain ⟨v4, ev4, h⟩ := g_bnd h
    refine g_iald' ev4 ht1.2.2.2.1 dX0_goOn_32 ?_
    obtain ⟨v5, ev5, h⟩ := g_bnd h
    refine g_iald' ev5 ht1.2.2.2.2.2.2.2.2.1 dX0_goOn_33 ?_
    refine g_iload_n 3 rfl rfl dX0_goOn_34 ?_
    rcases g_ite h with ⟨c6, h⟩ | ⟨c6, h⟩
    · refine g_icmp_ne_f c6 (tgt := 99) rfl dX0_goOn_35 ?_
      refine g_iload 0 rfl dX0_goOn_38 ?_
      refine g_iload_n 3 rfl rfl dX0_goOn_40 ?_
      rcases g_ite h with ⟨c7, h⟩ | ⟨c7, h⟩
      · refine g_icmp_eq_t c7 (tgt := 99) rfl dX0_goOn_41 ?_
        refine g_sub [1, 2, 3, 4] rfl ?_
        exact tX0_goOn_b99 ht1 h Kc Kx
      · refine g_icmp_eq_f c7 (tgt := 99) rfl dX0_goOn_41 ?_
        refine g_aload_n 1 rfl rfl dX0_goOn_44 ?_
        refine g_getR FX0_15 sC_50 rfl dX0_goOn_45 ?_
        refine g_iload 0 rfl dX0_goOn_48 ?_
        refine g_aload_n 1 rfl rfl dX0_goOn_50 ?_
        refine g_getR FX0_15 sC_50 rfl dX0_goOn_51 ?_
        refine g_iload 0 rfl dX0_goOn_54 ?_
        obtain ⟨v8, ev8, h⟩ := g_bnd h
        refine g_iald' ev8 sC_52 dX0_goOn_56 ?_
        refine g_aload_n 1 rfl rfl dX0_goOn_57 ?_
        refine g_getR FX0_15 sC_50 rfl dX0_goOn_58 ?_
        refine g_iload_n 3 rfl rfl dX0_goOn_61 ?_
        obtain ⟨v9, ev9, h⟩ := g_bnd h
        refine g_iald' ev9 sC_52 dX0_goOn_62 ?_
        refine g_iconst (v := 1) rfl dX0_goOn_63 ?_
        refine g_iadd dX0_goOn_64 ?_
        refine g_max ZmaxX0_50 Zmax_s Zm_i Zmax_c ⟨Nat.le_of_ble_eq_true rfl, Nat.le_of_ble_eq_true rfl⟩ ⟨Nat.le_of_ble_eq_true rfl, Nat.le_of_ble_eq_true rfl⟩ dX0_goOn_65 ?_
        obtain ⟨M10, eM10, h⟩ := g_bnd h
        refine g_iast' eM10 sC_52 dX0_goOn_68 ?_
        refine g_aload_n 1 rfl rfl dX0_goOn_69 ?_
        refine g_getR FX0_18 sC_50 rfl dX0_goOn_70 ?_
        refine g_iload 0 rfl dX0_goOn_73 ?_
        refine g_aload_n 1 rfl rfl dX0_goOn_75 ?_
        refine g_getR FX0_18 sC_50 rfl dX0_goOn_76 ?_
        refine g_iload 0 rfl dX0_goOn_79 ?_
        obtain ⟨v11, ev11, h⟩ := g_bnd h
        refine g_iald' ev11 sC_53 dX0_goOn_81 ?_
        refine g_aload_n 1 rfl rfl dX0_goOn_82 ?_
        refine g_getR FX0_18 sC_50 rfl dX0_goOn_83 ?_
        refine g_iload_n 3 rfl rfl dX0_goOn_86 ?_
        obtain ⟨v12, ev12, h⟩ := g_bnd h
        refine g_iald' ev12 sC_53 dX0_goOn_87 ?_
        refine g_aload_n 1 rfl rfl dX0_goOn_88 ?_
        refine g_getR FX0_9 sC_50 rfl dX0_goOn_89 ?_
        refine g_iload_n 3 rfl rfl dX0_goOn_92 ?_
        obtain ⟨v13, ev13, h⟩ := g_bnd h
        refine g_iald' ev13 sC_51 dX0_goOn_93 ?_
        refine g_iadd dX0_goOn_94 ?_
        refine g_max ZmaxX0_50 Zmax_s Zm_i Zmax_c ⟨Nat.le_of_ble_eq_true rfl, Nat.le_of_ble_eq_true rfl⟩ ⟨Nat.le_of_ble_eq_true rfl, Nat.le_of_ble_eq_true rfl⟩ dX0_goOn_95 ?_
        obtain ⟨M14, eM14, h⟩ := g_bnd h
        refine g_iast' eM14 sC_53 dX0_goOn_98 ?_
        refine g_sub [1, 2, 3, 4] rfl ?_
        exact tX0_goOn_b99 ht1 h Kc Kx
    · refine g_icmp_ne_t c6 (tgt := 99) rfl dX0_goOn_35 ?_
      refine g_sub [1, 2, 3, 4] rfl ?_
      exact tX0_goOn_b99 ht1 h Kc Kx
def fX0_goOn (t1 : Nat) (x2 : Int32) (M0 : gMem) : Option gMem :=
  (gLoop (fun z9 => fX0_goOn_l2 t1 x2 z9.1 z9.2) gFu ((0 : Int32), M0)).bind fun w15 => some w15
set_option maxRecDepth 20000 in
theorem tX0_goOn {X : gX} {V : gEnv} {t1 : Nat} {x2 : Int32} {M0 : gMem} (ht1 : gNet gShC t1) {o : gMem} (h : fX0_goOn t1 x2 M0 = some o) (O : gO X V mX0_goOn gShC none none o) : gG X V mX0_goOn gShC M0 0 0 0 [(0, .ref (gAd V 50)), (1, .ref (gAd V t1)), (2, .int x2)] [] := by
  unfold fX0_goOn at h
  refine g_iconst (v := 0) rfl dX0_goOn_0 ?_
  refine g_istore_n (ls' := [(3, .int (0 : Int32)), (0, .ref (gAd V 50)), (1, .ref (gAd V t1)), (2, .int x2)]) rfl (Nat.le_of_ble_eq_true rfl) rfl dX0_goOn_1 ?_
  obtain ⟨w15, ew15, h⟩ := g_bnd h
  refine g_sub [1, 2, 3, 0] rfl ?_
  have KX : gG X V mX0_goOn gShC w15 0 0 105 [] [] := by
    cases h
    exact g_vret O ⟨Nat.le_of_ble_eq_true rfl, Nat.le_of_ble_eq_true rfl⟩ dX0_goOn_105
  exact gLoop_Q ew15 (fun z9 => gG X V mX0_goOn gShC z9.2 0 0 2 [(0, .ref (gAd V 50)), (1, .ref (gAd V t1)), (2, .int x2), (3, .int z9.1)] []) (fun s9 o9 hb9 hc9 hx9 => tX0_goOn_l2 ht1 hb9 hc9 (fun e9 he9 => by cases hx9 _ he9; exact KX))
theorem kX0_goOn {l : Launch} {V : gEnv} {M0 : gMem} {t1 : Nat} {x2 : Int32} (ht1 : gNet gShC t1) {o : gMem} (h : fX0_goOn t1 x2 M0 = some o) : gM l yX0_goOn cX0_goOn 5 none rX0_goOn V gShC [.ref (gAd V 50), .ref (gAd V t1), .int x2] M0 none o :=
  gM.of (by decide) (Nat.le_of_ble_eq_true rfl) rfl (fun X _ O => tX0_goOn ht1 h O)
