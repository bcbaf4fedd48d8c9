/-! METHODS, by program: pure functions and contracts -/
theorem dX2_setPlaces_0 : decode cX2_setPlaces 0 = .ok (.iconst 0, 1) := by decide +kernel
theorem dX2_setPlaces_1 : decode cX2_setPlaces 1 = .ok (.istore_n 1, 1) := by decide +kernel
theorem dX2_setPlaces_2 : decode cX2_setPlaces 2 = .ok (.iload_n 1, 1) := by decide +kernel
theorem dX2_setPlaces_3 : decode cX2_setPlaces 3 = .ok (.aload_n 0, 1) := by decide +kernel
theorem dX2_setPlaces_4 : decode cX2_setPlaces 4 = .ok (.getfield 47, 3) := by decide +kernel
theorem dX2_setPlaces_7 : decode cX2_setPlaces 7 = .ok (.if_icmp .ge 45, 3) := by decide +kernel
theorem dX2_setPlaces_10 : decode cX2_setPlaces 10 = .ok (.iconst 0, 1) := by decide +kernel
theorem dX2_setPlaces_11 : decode cX2_setPlaces 11 = .ok (.istore_n 2, 1) := by decide +kernel
theorem dX2_setPlaces_12 : decode cX2_setPlaces 12 = .ok (.iload_n 2, 1) := by decide +kernel
theorem dX2_setPlaces_13 : decode cX2_setPlaces 13 = .ok (.aload_n 0, 1) := by decide +kernel
theorem dX2_setPlaces_14 : decode cX2_setPlaces 14 = .ok (.getfield 40, 3) := by decide +kernel
theorem dX2_setPlaces_17 : decode cX2_setPlaces 17 = .ok (.if_icmp .ge 29, 3) := by decide +kernel
theorem dX2_setPlaces_20 : decode cX2_setPlaces 20 = .ok (.aload_n 0, 1) := by decide +kernel
theorem dX2_setPlaces_21 : decode cX2_setPlaces 21 = .ok (.getfield 31, 3) := by decide +kernel
theorem dX2_setPlaces_24 : decode cX2_setPlaces 24 = .ok (.iload_n 1, 1) := by decide +kernel
theorem dX2_setPlaces_25 : decode cX2_setPlaces 25 = .ok (.iaload, 1) := by decide +kernel
theorem dX2_setPlaces_26 : decode cX2_setPlaces 26 = .ok (.iload_n 2, 1) := by decide +kernel
theorem dX2_setPlaces_27 : decode cX2_setPlaces 27 = .ok (.invokestatic 71, 3) := by decide +kernel
theorem dX2_setPlaces_30 : decode cX2_setPlaces 30 = .ok (.ifCond .eq 10, 3) := by decide +kernel
theorem dX2_setPlaces_33 : decode cX2_setPlaces 33 = .ok (.aload_n 0, 1) := by decide +kernel
theorem dX2_setPlaces_34 : decode cX2_setPlaces 34 = .ok (.getfield 34, 3) := by decide +kernel
theorem dX2_setPlaces_37 : decode cX2_setPlaces 37 = .ok (.iload_n 2, 1) := by decide +kernel
theorem dX2_setPlaces_38 : decode cX2_setPlaces 38 = .ok (.iload_n 1, 1) := by decide +kernel
theorem dX2_setPlaces_39 : decode cX2_setPlaces 39 = .ok (.iastore, 1) := by decide +kernel
theorem dX2_setPlaces_40 : decode cX2_setPlaces 40 = .ok (.iinc 2 1, 3) := by decide +kernel
theorem dX2_setPlaces_43 : decode cX2_setPlaces 43 = .ok (.goto (-31), 3) := by decide +kernel
theorem dX2_setPlaces_46 : decode cX2_setPlaces 46 = .ok (.iinc 1 1, 3) := by decide +kernel
theorem dX2_setPlaces_49 : decode cX2_setPlaces 49 = .ok (.goto (-47), 3) := by decide +kernel
theorem dX2_setPlaces_52 : decode cX2_setPlaces 52 = .ok (.return_, 1) := by decide +kernel
abbrev rX2_setPlaces : Room := { frames := 1, cells := 0, slots := 0, locals := 21 }
abbrev mX2_setPlaces : gY := (cX2_setPlaces, RX2, 3, rX2_setPlaces)
def fX2_setPlaces_b40 (t0 : Nat) (x1 : Int32) (x2 : Int32) (M0 : gMem) : Option ((Int32 × gMem) ⊕ gMem) :=
  some (.inl (x2 + (1 : Int32), M0))
set_option maxRecDepth 20000 in
theorem tX2_setPlaces_b40 {X : gX} {V : gEnv} {t0 : Nat} {x1 : Int32} {x2 : Int32} {M0 : gMem} (ht0 : gNet gShC t0) {o : ((Int32 × gMem) ⊕ gMem)} (h : fX2_setPlaces_b40 t0 x1 x2 M0 = some o) (Kc : ∀ s9, o = .inl s9 → gG X V mX2_setPlaces gShC s9.2 0 0 12 [(0, .ref (gAd V t0)), (1, .int x1), (2, .int s9.1)] []) (Kx : ∀ e9, o = .inr e9 → gG X V mX2_setPlaces gShC e9 0 0 46 [(0, .ref (gAd V t0)), (1, .int x1)] []) : gG X V mX2_setPlaces gShC M0 0 0 40 [(0, .ref (gAd V t0)), (1, .int x1), (2, .int x2)] [] := by
  unfold fX2_setPlaces_b40 at h
  refine g_iinc (j := 2) (v := x2 + (1 : Int32)) (ls' := [(2, .int (x2 + (1 : Int32))), (0, .ref (gAd V t0)), (1, .int x1)]) rfl rfl (Nat.le_of_ble_eq_true rfl) rfl dX2_setPlaces_40 ?_
  refine g_goto (tgt := 12) rfl dX2_setPlaces_43 ?_
  cases h
  refine g_sub [1, 2, 0] rfl ?_
  exact Kc (x2 + (1 : Int32), M0) rfl
def fX2_setPlaces_l12 (t0 : Nat) (x1 : Int32) (x2 : Int32) (M0 : gMem) : Option ((Int32 × gMem) ⊕ gMem) :=
  if (M0.1 t0 9) ≤ x2 then (some (.inr M0)) else (rI M0 (t0 + 7) 24 x1).bind fun v3 => (fX10_has v3 x2).bind fun v4 => if v4 = 0 then (fX2_setPlaces_b40 t0 x1 x2 M0) else (wI M0 (t0 + 8) 24 x2 x1).bind fun M6 => fX2_setPlaces_b40 t0 x1 x2 M6
set_option maxRecDepth 20000 in
theorem tX2_setPlaces_l12 {X : gX} {V : gEnv} {t0 : Nat} {x1 : Int32} {x2 : Int32} {M0 : gMem} (ht0 : gNet gShC t0) {o : ((Int32 × gMem) ⊕ gMem)} (h : fX2_setPlaces_l12 t0 x1 x2 M0 = some o) (Kc : ∀ s9, o = .inl s9 → gG X V mX2_setPlaces gShC s9.2 0 0 12 [(0, .ref (gAd V t0)), (1, .int x1), (2, .int s9.1)] []) (Kx : ∀ e9, o = .inr e9 → gG X V mX2_setPlaces gShC e9 0 0 46 [(0, .ref (gAd V t0)), (1, .int x1)] []) : gG X V mX2_setPlaces gShC M0 0 0 12 [(0, .ref (gAd V t0)), (1, .int x1), (2, .int x2)] [] := by
  unfold fX2_setPlaces_l12 at h
  refine g_iload_n 2 rfl rfl dX2_setPlaces_12 ?_
  refine g_aload_n 0 rfl rfl dX2_setPlaces_13 ?_
  refine g_getI FX2_40 ht0.1 rfl dX2_setPlaces_14 ?_
  rcases g_ite h with ⟨c2, h⟩ | ⟨c2, h⟩
  · refine g_icmp_ge_t c2 (tgt := 46) rfl dX2_setPlaces_17 ?_
    cases h
    refine g_sub [0, 1] rfl ?_
    exact Kx M0 rfl
  · refine g_icmp_ge_f c2 (tgt := 46) rfl dX2_setPlaces_17 ?_
    refine g_aload_n 0 rfl rfl dX2_setPlaces_20 ?_
    refine g_getR FX2_31 ht0.1 rfl dX2_setPlaces_21 ?_
    refine g_iload_n 1 rfl rfl dX2_setPlaces_24 ?_
    obtain ⟨v3, ev3, h⟩ := g_bnd h
    refine g_iald' ev3 ht0.2.2.2.2.2.2.2.1 dX2_setPlaces_25 ?_
    refine g_iload_n 2 rfl rfl dX2_setPlaces_26 ?_
    obtain ⟨v4, ev4, h⟩ := g_bnd h
    refine g_callN LX2_71 (kX10_has ev4) rfl rfl (Nat.le_of_ble_eq_true rfl) ⟨Nat.le_of_ble_eq_true rfl, Nat.le_of_ble_eq_true rfl⟩ ⟨Nat.le_of_ble_eq_true rfl, Nat.le_of_ble_eq_true rfl⟩ dX2_setPlaces_27 rfl ?_
    rcases g_ite h with ⟨c5, h⟩ | ⟨c5, h⟩
    · refine g_if_eq_t c5 (tgt := 40) rfl dX2_setPlaces_30 ?_
      exact tX2_setPlaces_b40 ht0 h Kc Kx
    · refine g_if_eq_f c5 (tgt := 40) rfl dX2_setPlaces_30 ?_
      refine g_aload_n 0 rfl rfl dX2_setPlaces_33 ?_
      refine g_getR FX2_34 ht0.1 rfl dX2_setPlaces_34 ?_
      refine g_iload_n 2 rfl rfl dX2_setPlaces_37 ?_
      refine g_iload_n 1 rfl rfl dX2_setPlaces_38 ?_
      obtain ⟨M6, eM6, h⟩ := g_bnd h
      refine g_iast' eM6 ht0.2.2.2.2.2.2.2.2.1 dX2_setPlaces_39 ?_
      exact tX2_setPlaces_b40 ht0 h Kc Kx
def fX2_setPlaces_l2 (t0 : Nat) (x1 : Int32) (M0 : gMem) : Option ((Int32 × gMem) ⊕ gMem) :=
  if (M0.1 t0 11) ≤ x1 then (some (.inr M0)) else (gLoop (fun z9 => fX2_setPlaces_l12 t0 x1 z9.1 z9.2) gFu ((0 : Int32), M0)).bind fun w7 => some (.inl (x1 + (1 : Int32), w7))
set_option maxRecDepth 20000 in
theorem tX2_setPlaces_l2 {X : gX} {V : gEnv} {t0 : Nat} {x1 : Int32} {M0 : gMem} (ht0 : gNet gShC t0) {o : ((Int32 × gMem) ⊕ gMem)} (h : fX2_setPlaces_l2 t0 x1 M0 = some o) (Kc : ∀ s9, o = .inl s9 → gG X V mX2_setPlaces gShC s9.2 0 0 2 [(0, .ref (gAd V t0)), (1, .int s9.1)] []) (Kx : ∀ e9, o = .inr e9 → gG X V mX2_setPlaces gShC e9 0 0 52 [] []) : gG X V mX2_setPlaces gShC M0 0 0 2 [(0, .ref (gAd V t0)), (1, .int x1)] [] := by
  unfold fX2_setPlaces_l2 at h
  refine g_iload_n 1 rfl rfl dX2_setPlaces_2 ?_
  refine g_aload_n 0 rfl rfl dX2_setPlaces_3 ?_
  refine g_getI FX2_47 ht0.1 rfl dX2_setPlaces_4 ?_
  rcases g_ite h with ⟨c1, h⟩ | ⟨c1, h⟩
  · refine g_icmp_ge_t c1 (tgt := 52) rfl dX2_setPlaces_7 ?_
    cases h
    refine g_sub [] rfl ?_
    exact Kx M0 rfl
  · refine g_icmp_ge_f c1 (tgt := 52) rfl dX2_setPlaces_7 ?_
    refine g_iconst (v := 0) rfl dX2_setPlaces_10 ?_
    refine g_istore_n (ls' := [(2, .int (0 : Int32)), (0, .ref (gAd V t0)), (1, .int x1)]) rfl (Nat.le_of_ble_eq_true rfl) rfl dX2_setPlaces_11 ?_
    obtain ⟨w7, ew7, h⟩ := g_bnd h
    refine g_sub [1, 2, 0] rfl ?_
    have KX : gG X V mX2_setPlaces gShC w7 0 0 46 [(0, .ref (gAd V t0)), (1, .int x1)] [] := by
      refine g_iinc (j := 1) (v := x1 + (1 : Int32)) (ls' := [(1, .int (x1 + (1 : Int32))), (0, .ref (gAd V t0))]) rfl rfl (Nat.le_of_ble_eq_true rfl) rfl dX2_setPlaces_46 ?_
      refine g_goto (tgt := 2) rfl dX2_setPlaces_49 ?_
      cases h
      refine g_sub [1, 0] rfl ?_
      exact Kc (x1 + (1 : Int32), w7) rfl
    exact gLoop_Q ew7 (fun z9 => gG X V mX2_setPlaces gShC z9.2 0 0 12 [(0, .ref (gAd V t0)), (1, .int x1), (2, .int z9.1)] []) (fun s9 o9 hb9 hc9 hx9 => tX2_setPlaces_l12 ht0 hb9 hc9 (fun e9 he9 => by cases hx9 _ he9; exact KX))
def fX2_setPlaces (t0 : Nat) (M0 : gMem) : Option gMem :=
  (gLoop (fun z9 => fX2_setPlaces_l2 t0 z9.1 z9.2) gFu ((0 : Int32), M0)).bind fun w8 => some w8
set_option maxRecDepth 20000 in
theorem tX2_setPlaces {X : gX} {V : gEnv} {t0 : Nat} {M0 : gMem} (ht0 : gNet gShC t0) {o : gMem} (h : fX2_setPlaces t0 M0 = some o) (O : gO X V mX2_setPlaces gShC none none o) : gG X V mX2_setPlaces gShC M0 0 0 0 [(0, .ref (gAd V t0))] [] := by
  unfold fX2_setPlaces at h
  refine g_iconst (v := 0) rfl dX2_setPlaces_0 ?_
  refine g_istore_n (ls' := [(1, .int (0 : Int32)), (0, .ref (gAd V t0))]) rfl (Nat.le_of_ble_eq_true rfl) rfl dX2_setPlaces_1 ?_
  obtain ⟨w8, ew8, h⟩ := g_bnd h
  refine g_sub [1, 0] rfl ?_
  have KX : gG X V mX2_setPlaces gShC w8 0 0 52 [] [] := by
    cases h
    exact g_vret O ⟨Nat.le_of_ble_eq_true rfl, Nat.le_of_ble_eq_true rfl⟩ dX2_setPlaces_52
  exact gLoop_Q ew8 (fun z9 => gG X V mX2_setPlaces gShC z9.2 0 0 2 [(0, .ref (gAd V t0)), (1, .int z9.1)] []) (fun s9 o9 hb9 hc9 hx9 => tX2_setPlaces_l2 ht0 hb9 hc9 (fun e9 he9 => by cases hx9 _ he9; exact KX))
theorem kX2_setPlaces {l : Launch} {V : gEnv} {M0 : gMem} {t0 : Nat} (ht0 : gNet gShC t0) {o : gMem} (h : fX2_setPlaces t0 M0 = some o) : gM l yX2_setPlaces cX2_setPlaces 3 none rX2_setPlaces V gShC [.ref (gAd V t0)] M0 none o :=
  gM.of (by decide) (Nat.le_of_ble_eq_true rfl) rfl (fun X _ O => tX2_setPlaces ht0 h O)
theorem dX2_takeOrder_0 : decode cX2_takeOrder 0 = .ok (.aload_n 0, 1) := by decide +kernel
theorem dX2_takeOrder_1 : decode cX2_takeOrder 1 = .ok (.aload_n 1, 1) := by decide +kernel
theorem dX2_takeOrder_2 : decode cX2_takeOrder 2 = .ok (.getfield 98, 3) := by decide +kernel
theorem dX2_takeOrder_5 : decode cX2_takeOrder 5 = .ok (.putfield 47, 3) := by decide +kernel
theorem dX2_takeOrder_8 : decode cX2_takeOrder 8 = .ok (.iconst 0, 1) := by decide +kernel
theorem dX2_takeOrder_9 : decode cX2_takeOrder 9 = .ok (.istore_n 2, 1) := by decide +kernel
theorem dX2_takeOrder_10 : decode cX2_takeOrder 10 = .ok (.iload_n 2, 1) := by decide +kernel
theorem dX2_takeOrder_11 : decode cX2_takeOrder 11 = .ok (.aload_n 0, 1) := by decide +kernel
theorem dX2_takeOrder_12 : decode cX2_takeOrder 12 = .ok (.getfield 47, 3) := by decide +kernel
theorem dX2_takeOrder_15 : decode cX2_takeOrder 15 = .ok (.if_icmp .ge 21, 3) := by decide +kernel
theorem dX2_takeOrder_18 : decode cX2_takeOrder 18 = .ok (.aload_n 0, 1) := by decide +kernel
theorem dX2_takeOrder_19 : decode cX2_takeOrder 19 = .ok (.getfield 31, 3) := by decide +kernel
theorem dX2_takeOrder_22 : decode cX2_takeOrder 22 = .ok (.iload_n 2, 1) := by decide +kernel
theorem dX2_takeOrder_23 : decode cX2_takeOrder 23 = .ok (.aload_n 1, 1) := by decide +kernel
theorem dX2_takeOrder_24 : decode cX2_takeOrder 24 = .ok (.getfield 103, 3) := by decide +kernel
theorem dX2_takeOrder_27 : decode cX2_takeOrder 27 = .ok (.iload_n 2, 1) := by decide +kernel
theorem dX2_takeOrder_28 : decode cX2_takeOrder 28 = .ok (.iaload, 1) := by decide +kernel
theorem dX2_takeOrder_29 : decode cX2_takeOrder 29 = .ok (.iastore, 1) := by decide +kernel
theorem dX2_takeOrder_30 : decode cX2_takeOrder 30 = .ok (.iinc 2 1, 3) := by decide +kernel
theorem dX2_takeOrder_33 : decode cX2_takeOrder 33 = .ok (.goto (-23), 3) := by decide +kernel
theorem dX2_takeOrder_36 : decode cX2_takeOrder 36 = .ok (.aload_n 0, 1) := by decide +kernel
theorem dX2_takeOrder_37 : decode cX2_takeOrder 37 = .ok (.invokevirtual 95, 3) := by decide +kernel
theorem dX2_takeOrder_40 : decode cX2_takeOrder 40 = .ok (.return_, 1) := by decide +kernel
abbrev rX2_takeOrder : Room := { frames := 2, cells := 0, slots := 0, locals := 43 }
abbrev mX2_takeOrder : gY := (cX2_takeOrder, RX2, 3, rX2_takeOrder)
def fX2_takeOrder_l10 (t0 : Nat) (t1 : Nat) (x2 : Int32) (M0 : gMem) : Option ((Int32 × gMem) ⊕ gMem) :=
  if (M0.1 t0 11) ≤ x2 then (some (.inr M0)) else (rI M0 (t1 + 1) 24 x2).bind fun v3 => (wI M0 (t0 + 7) 24 x2 v3).bind fun M4 => some (.inl (x2 + (1 : Int32), M4))
set_option maxRecDepth 20000 in
theorem tX2_takeOrder_l10 {X : gX} {V : gEnv} {t0 : Nat} {t1 : Nat} {x2 : Int32} {M0 : gMem} (ht0 : gNet gShC t0) (ht1 : gRow gShC t1) {o : ((Int32 × gMem) ⊕ gMem)} (h : fX2_takeOrder_l10 t0 t1 x2 M0 = some o) (Kc : ∀ s9, o = .inl s9 → gG X V mX2_takeOrder gShC s9.2 0 0 10 [(0, .ref (gAd V t0)), (1, .ref (gAd V t1)), (2, .int s9.1)] []) (Kx : ∀ e9, o = .inr e9 → gG X V mX2_takeOrder gShC e9 0 0 36 [(0, .ref (gAd V t0))] []) : gG X V mX2_takeOrder gShC M0 0 0 10 [(0, .ref (gAd V t0)), (1, .ref (gAd V t1)), (2, .int x2)] [] := by
  unfold fX2_takeOrder_l10 at h
  refine g_iload_n 2 rfl rfl dX2_takeOrder_10 ?_
  refine g_aload_n 0 rfl rfl dX2_takeOrder_11 ?_
  refine g_getI FX2_47 ht0.1 rfl dX2_takeOrder_12 ?_
  rcases g_ite h with ⟨c2, h⟩ | ⟨c2, h⟩
  · refine g_icmp_ge_t c2 (tgt := 36) rfl dX2_takeOrder_15 ?_
    cases h
    refine g_sub [0] rfl ?_
    exact Kx M0 rfl
  · refine g_icmp_ge_f c2 (tgt := 36) rfl dX2_takeOrder_15 ?_
    refine g_aload_n 0 rfl rfl dX2_takeOrder_18 ?_
    refine g_getR FX2_31 ht0.1 rfl dX2_takeOrder_19 ?_
    refine g_iload_n 2 rfl rfl dX2_takeOrder_22 ?_
    refine g_aload_n 1 rfl rfl dX2_takeOrder_23 ?_
    refine g_getR FX2_103 ht1.1 rfl dX2_takeOrder_24 ?_
    refine g_iload_n 2 rfl rfl dX2_takeOrder_27 ?_
    obtain ⟨v3, ev3, h⟩ := g_bnd h
    refine g_iald' ev3 ht1.2 dX2_takeOrder_28 ?_
    obtain ⟨M4, eM4, h⟩ := g_bnd h
    refine g_iast' eM4 ht0.2.2.2.2.2.2.2.1 dX2_takeOrder_29 ?_
    refine g_iinc (j := 2) (v := x2 + (1 : Int32)) (ls' := [(2, .int (x2 + (1 : Int32))), (0, .ref (gAd V t0)), (1, .ref (gAd V t1))]) rfl rfl (Nat.le_of_ble_eq_true rfl) rfl dX2_takeOrder_30 ?_
    refine g_goto (tgt := 10) rfl dX2_takeOrder_33 ?_
    cases h
    refine g_sub [1, 2, 0] rfl ?_
    exact Kc (x2 + (1 : Int32), M4) rfl
def fX2_takeOrder (t0 : Nat) (t1 : Nat) (M0 : gMem) : Option gMem :=
  (wF M0 t0 11 (M0.1 t1 1)).bind fun M1 => (gLoop (fun z9 => fX2_takeOrder_l10 t0 t1 z9.1 z9.2) gFu ((0 : Int32), M1)).bind fun w5 => (fX2_setPlaces t0 w5).bind fun v6 => some v6
set_option maxRecDepth 20000 in
theorem tX2_takeOrder {X : gX} {V : gEnv} {t0 : Nat} {t1 : Nat} {M0 : gMem} (ht0 : gNet gShC t0) (ht1 : gRow gShC t1) {o : gMem} (h : fX2_takeOrder t0 t1 M0 = some o) (O : gO X V mX2_takeOrder gShC none none o) : gG X V mX2_takeOrder gShC M0 0 0 0 [(0, .ref (gAd V t0)), (1, .ref (gAd V t1))] [] := by
  unfold fX2_takeOrder at h
  refine g_aload_n 0 rfl rfl dX2_takeOrder_0 ?_
  refine g_aload_n 1 rfl rfl dX2_takeOrder_1 ?_
  refine g_getI FX2_98 ht1.1 rfl dX2_takeOrder_2 ?_
  obtain ⟨M1, eM1, h⟩ := g_bnd h
  refine g_putI' eM1 FX2_47 jX2 ht0.1 rfl rfl rfl dX2_takeOrder_5 ?_
  refine g_iconst (v := 0) rfl dX2_takeOrder_8 ?_
  refine g_istore_n (ls' := [(2, .int (0 : Int32)), (0, .ref (gAd V t0)), (1, .ref (gAd V t1))]) rfl (Nat.le_of_ble_eq_true rfl) rfl dX2_takeOrder_9 ?_
  obtain ⟨w5, ew5, h⟩ := g_bnd h
  refine g_sub [1, 2, 0] rfl ?_
  have KX : gG X V mX2_takeOrder gShC w5 0 0 36 [(0, .ref (gAd V t0))] [] := by
    refine g_aload_n 0 rfl rfl dX2_takeOrder_36 ?_
    obtain ⟨v6, ev6, h⟩ := g_bnd h
    refine g_callV LX2_95 ht0.1 rfl (kX2_setPlaces ht0 ev6) rfl rfl (Nat.le_of_ble_eq_true rfl) ⟨Nat.le_of_ble_eq_true rfl, Nat.le_of_ble_eq_true rfl⟩ ⟨Nat.le_of_ble_eq_true rfl, Nat.le_of_ble_eq_true rfl⟩ dX2_takeOrder_37 rfl ?_
    cases h
    exact g_vret O ⟨Nat.le_of_ble_eq_true rfl, Nat.le_of_ble_eq_true rfl⟩ dX2_takeOrder_40
  exact gLoop_Q ew5 (fun z9 => gG X V mX2_takeOrder gShC z9.2 0 0 10 [(0, .ref (gAd V t0)), (1, .ref (gAd V t1)), (2, .int z9.1)] []) (fun s9 o9 hb9 hc9 hx9 => tX2_takeOrder_l10 ht0 ht1 hb9 hc9 (fun e9 he9 => by cases hx9 _ he9; exact KX))
theorem kX2_takeOrder {l : Launch} {V : gEnv} {M0 : gMem} {t0 : Nat} {t1 : Nat} (ht0 : gNet gShC t0) (ht1 : gRow gShC t1) {o : gMem} (h : fX2_takeOrder t0 t1 M0 = some o) : gM l yX2_takeOrder cX2_takeOrder 3 none rX2_takeOrder V gShC [.ref (gAd V t0), .ref (gAd V t1)] M0 none o :=
  gM.of (by decide) (Nat.le_of_ble_eq_true rfl) rfl (fun X _ O => tX2_takeOrder ht0 ht1 h O)
theorem dX2_putArrow_0 : decode cX2_putArrow 0 = .ok (.aload_n 0, 1) := by decide +kernel
theorem dX2_putArrow_1 : decode cX2_putArrow 1 = .ok (.getfield 44, 3) := by decide +kernel
theorem dX2_putArrow_4 : decode cX2_putArrow 4 = .ok (.bipush 60, 2) := by decide +kernel
theorem dX2_putArrow_6 : decode cX2_putArrow 6 = .ok (.if_icmp .lt 4, 3) := by decide +kernel
theorem dX2_putArrow_9 : decode cX2_putArrow 9 = .ok (.return_, 1) := by decide +kernel
theorem dX2_putArrow_10 : decode cX2_putArrow 10 = .ok (.aload_n 0, 1) := by decide +kernel
theorem dX2_putArrow_11 : decode cX2_putArrow 11 = .ok (.getfield 19, 3) := by decide +kernel
theorem dX2_putArrow_14 : decode cX2_putArrow 14 = .ok (.aload_n 0, 1) := by decide +kernel
theorem dX2_putArrow_15 : decode cX2_putArrow 15 = .ok (.getfield 44, 3) := by decide +kernel
theorem dX2_putArrow_18 : decode cX2_putArrow 18 = .ok (.iload_n 1, 1) := by decide +kernel
theorem dX2_putArrow_19 : decode cX2_putArrow 19 = .ok (.iastore, 1) := by decide +kernel
theorem dX2_putArrow_20 : decode cX2_putArrow 20 = .ok (.aload_n 0, 1) := by decide +kernel
theorem dX2_putArrow_21 : decode cX2_putArrow 21 = .ok (.getfield 22, 3) := by decide +kernel
theorem dX2_putArrow_24 : decode cX2_putArrow 24 = .ok (.aload_n 0, 1) := by decide +kernel
theorem dX2_putArrow_25 : decode cX2_putArrow 25 = .ok (.getfield 44, 3) := by decide +kernel
theorem dX2_putArrow_28 : decode cX2_putArrow 28 = .ok (.iload_n 2, 1) := by decide +kernel
theorem dX2_putArrow_29 : decode cX2_putArrow 29 = .ok (.iastore, 1) := by decide +kernel
theorem dX2_putArrow_30 : decode cX2_putArrow 30 = .ok (.aload_n 0, 1) := by decide +kernel
theorem dX2_putArrow_31 : decode cX2_putArrow 31 = .ok (.dup, 1) := by decide +kernel
theorem dX2_putArrow_32 : decode cX2_putArrow 32 = .ok (.getfield 44, 3) := by decide +kernel
theorem dX2_putArrow_35 : decode cX2_putArrow 35 = .ok (.iconst 1, 1) := by decide +kernel
theorem dX2_putArrow_36 : decode cX2_putArrow 36 = .ok (.iadd, 1) := by decide +kernel
theorem dX2_putArrow_37 : decode cX2_putArrow 37 = .ok (.putfield 44, 3) := by decide +kernel
theorem dX2_putArrow_40 : decode cX2_putArrow 40 = .ok (.aload_n 0, 1) := by decide +kernel
theorem dX2_putArrow_41 : decode cX2_putArrow 41 = .ok (.getfield 25, 3) := by decide +kernel
theorem dX2_putArrow_44 : decode cX2_putArrow 44 = .ok (.iload_n 1, 1) := by decide +kernel
theorem dX2_putArrow_45 : decode cX2_putArrow 45 = .ok (.dup2, 1) := by decide +kernel
theorem dX2_putArrow_46 : decode cX2_putArrow 46 = .ok (.iaload, 1) := by decide +kernel
theorem dX2_putArrow_47 : decode cX2_putArrow 47 = .ok (.iconst 1, 1) := by decide +kernel
theorem dX2_putArrow_48 : decode cX2_putArrow 48 = .ok (.iload_n 2, 1) := by decide +kernel
theorem dX2_putArrow_49 : decode cX2_putArrow 49 = .ok (.ishl, 1) := by decide +kernel
theorem dX2_putArrow_50 : decode cX2_putArrow 50 = .ok (.ior, 1) := by decide +kernel
theorem dX2_putArrow_51 : decode cX2_putArrow 51 = .ok (.iastore, 1) := by decide +kernel
theorem dX2_putArrow_52 : decode cX2_putArrow 52 = .ok (.iconst 0, 1) := by decide +kernel
theorem dX2_putArrow_53 : decode cX2_putArrow 53 = .ok (.istore_n 3, 1) := by decide +kernel
theorem dX2_putArrow_54 : decode cX2_putArrow 54 = .ok (.iload_n 3, 1) := by decide +kernel
theorem dX2_putArrow_55 : decode cX2_putArrow 55 = .ok (.aload_n 0, 1) := by decide +kernel
theorem dX2_putArrow_56 : decode cX2_putArrow 56 = .ok (.getfield 40, 3) := by decide +kernel
theorem dX2_putArrow_59 : decode cX2_putArrow 59 = .ok (.if_icmp .ge 37, 3) := by decide +kernel
theorem dX2_putArrow_62 : decode cX2_putArrow 62 = .ok (.aload_n 0, 1) := by decide +kernel
theorem dX2_putArrow_63 : decode cX2_putArrow 63 = .ok (.getfield 28, 3) := by decide +kernel
theorem dX2_putArrow_66 : decode cX2_putArrow 66 = .ok (.iload_n 3, 1) := by decide +kernel
theorem dX2_putArrow_67 : decode cX2_putArrow 67 = .ok (.iaload, 1) := by decide +kernel
theorem dX2_putArrow_68 : decode cX2_putArrow 68 = .ok (.iload_n 1, 1) := by decide +kernel
theorem dX2_putArrow_69 : decode cX2_putArrow 69 = .ok (.invokestatic 71, 3) := by decide +kernel
theorem dX2_putArrow_72 : decode cX2_putArrow 72 = .ok (.ifCond .eq 18, 3) := by decide +kernel
theorem dX2_putArrow_75 : decode cX2_putArrow 75 = .ok (.aload_n 0, 1) := by decide +kernel
theorem dX2_putArrow_76 : decode cX2_putArrow 76 = .ok (.getfield 28, 3) := by decide +kernel
theorem dX2_putArrow_79 : decode cX2_putArrow 79 = .ok (.iload_n 3, 1) := by decide +kernel
theorem dX2_putArrow_80 : decode cX2_putArrow 80 = .ok (.dup2, 1) := by decide +kernel
theorem dX2_putArrow_81 : decode cX2_putArrow 81 = .ok (.iaload, 1) := by decide +kernel
theorem dX2_putArrow_82 : decode cX2_putArrow 82 = .ok (.aload_n 0, 1) := by decide +kernel
theorem dX2_putArrow_83 : decode cX2_putArrow 83 = .ok (.getfield 28, 3) := by decide +kernel
theorem dX2_putArrow_86 : decode cX2_putArrow 86 = .ok (.iload_n 2, 1) := by decide +kernel
theorem dX2_putArrow_87 : decode cX2_putArrow 87 = .ok (.iaload, 1) := by decide +kernel
theorem dX2_putArrow_88 : decode cX2_putArrow 88 = .ok (.ior, 1) := by decide +kernel
theorem dX2_putArrow_89 : decode cX2_putArrow 89 = .ok (.iastore, 1) := by decide +kernel
theorem dX2_putArrow_90 : decode cX2_putArrow 90 = .ok (.iinc 3 1, 3) := by decide +kernel
theorem dX2_putArrow_93 : decode cX2_putArrow 93 = .ok (.goto (-39), 3) := by decide +kernel
theorem dX2_putArrow_96 : decode cX2_putArrow 96 = .ok (.return_, 1) := by decide +kernel
abbrev rX2_putArrow : Room := { frames := 1, cells := 0, slots := 0, locals := 21 }
abbrev mX2_putArrow : gY := (cX2_putArrow, RX2, 4, rX2_putArrow)
def fX2_putArrow_b90 (t0 : Nat) (x1 : Int32) (x2 : Int32) (x3 : Int32) (M0 : gMem) : Option ((Int32 × gMem) ⊕ gMem) :=
  some (.inl (x3 + (1 : Int32), M0))
set_option maxRecDepth 20000 in
theorem tX2_putArrow_b90 {X : gX} {V : gEnv} {t0 : Nat} {x1 : Int32} {x2 : Int32} {x3 : Int32} {M0 : gMem} (ht0 : gNet gShC t0) {o : ((Int32 × gMem) ⊕ gMem)} (h : fX2_putArrow_b90 t0 x1 x2 x3 M0 = some o) (Kc : ∀ s9, o = .inl s9 → gG X V mX2_putArrow gShC s9.2 0 0 54 [(0, .ref (gAd V t0)), (1, .int x1), (2, .int x2), (3, .int s9.1)] []) (Kx : ∀ e9, o = .inr e9 → gG X V mX2_putArrow gShC e9 0 0 96 [] []) : gG X V mX2_putArrow gShC M0 0 0 90 [(0, .ref (gAd V t0)), (1, .int x1), (2, .int x2), (3, .int x3)] [] := by
  unfold fX2_putArrow_b90 at h
  refine g_iinc (j := 3) (v := x3 + (1 : Int32)) (ls' := [(3, .int (x3 + (1 : Int32))), (0, .ref (gAd V t0)), (1, .int x1), (2, .int x2)]) rfl rfl (Nat.le_of_ble_eq_true rfl) rfl dX2_putArrow_90 ?_
  refine g_goto (tgt := 54) rfl dX2_putArrow_93 ?_
  cases h
  refine g_sub [1, 2, 3, 0] rfl ?_
  exact Kc (x3 + (1 : Int32), M0) rfl
def fX2_putArrow_l54 (t0 : Nat) (x1 : Int32) (x2 : Int32) (x3 : Int32) (M0 : gMem) : Option ((Int32 × gMem) ⊕ gMem) :=
  if (M0.1 t0 9) ≤ x3 then (some (.inr M0)) else (rI M0 (t0 + 6) 24 x3).bind fun v8 => (fX10_has v8 x1).bind fun v9 => if v9 = 0 then (fX2_putArrow_b90 t0 x1 x2 x3 M0) else (rI M0 (t0 + 6) 24 x3).bind fun v11 => (rI M0 (t0 + 6) 24 x2).bind fun v12 => (wI M0 (t0 + 6) 24 x3 (v11 ||| v12)).bind fun M13 => fX2_putArrow_b90 t0 x1 x2 x3 M13
set_option maxRecDepth 20000 in
theorem tX2_putArrow_l54 {X : gX} {V : gEnv} {t0 : Nat} {x1 : Int32} {x2 : Int32} {x3 : Int32} {M0 : gMem} (ht0 : gNet gShC t0) {o : ((Int32 × gMem) ⊕ gMem)} (h : fX2_putArrow_l54 t0 x1 x2 x3 M0 = some o) (Kc : ∀ s9, o = .inl s9 → gG X V mX2_putArrow gShC s9.2 0 0 54 [(0, .ref (gAd V t0)), (1, .int x1), (2, .int x2), (3, .int s9.1)] []) (Kx : ∀ e9, o = .inr e9 → gG X V mX2_putArrow gShC e9 0 0 96 [] []) : gG X V mX2_putArrow gShC M0 0 0 54 [(0, .ref (gAd V t0)), (1, .int x1), (2, .int x2), (3, .int x3)] [] := by
  unfold fX2_putArrow_l54 at h
  refine g_iload_n 3 rfl rfl dX2_putArrow_54 ?_
  refine g_aload_n 0 rfl rfl dX2_putArrow_55 ?_
  refine g_getI FX2_40 ht0.1 rfl dX2_putArrow_56 ?_
  rcases g_ite h with ⟨c7, h⟩ | ⟨c7, h⟩
  · refine g_icmp_ge_t c7 (tgt := 96) rfl dX2_putArrow_59 ?_
    cases h
    refine g_sub [] rfl ?_
    exact Kx M0 rfl
  · refine g_icmp_ge_f c7 (tgt := 96) rfl dX2_putArrow_59 ?_
    refine g_aload_n 0 rfl rfl dX2_putArrow_62 ?_
    refine g_getR FX2_28 ht0.1 rfl dX2_putArrow_63 ?_
    refine g_iload_n 3 rfl rfl dX2_putArrow_66 ?_
    obtain ⟨v8, ev8, h⟩ := g_bnd h
    refine g_iald' ev8 ht0.2.2.2.2.2.2.1 dX2_putArrow_67 ?_
    refine g_iload_n 1 rfl rfl dX2_putArrow_68 ?_
    obtain ⟨v9, ev9, h⟩ := g_bnd h
    refine g_callN LX2_71 (kX10_has ev9) rfl rfl (Nat.le_of_ble_eq_true rfl) ⟨Nat.le_of_ble_eq_true rfl, Nat.le_of_ble_eq_true rfl⟩ ⟨Nat.le_of_ble_eq_true rfl, Nat.le_of_ble_eq_true rfl⟩ dX2_putArrow_69 rfl ?_
    rcases g_ite h with ⟨c10, h⟩ | ⟨c10, h⟩
    · refine g_if_eq_t c10 (tgt := 90) rfl dX2_putArrow_72 ?_
      exact tX2_putArrow_b90 ht0 h Kc Kx
    · refine g_if_eq_f c10 (tgt := 90) rfl dX2_putArrow_72 ?_
      refine g_aload_n 0 rfl rfl dX2_putArrow_75 ?_
      refine g_getR FX2_28 ht0.1 rfl dX2_putArrow_76 ?_
      refine g_iload_n 3 rfl rfl dX2_putArrow_79 ?_
      refine g_dup2 rfl rfl dX2_putArrow_80 ?_
      obtain ⟨v11, ev11, h⟩ := g_bnd h
      refine g_iald' ev11 ht0.2.2.2.2.2.2.1 dX2_putArrow_81 ?_
      refine g_aload_n 0 rfl rfl dX2_putArrow_82 ?_
      refine g_getR FX2_28 ht0.1 rfl dX2_putArrow_83 ?_
      refine g_iload_n 2 rfl rfl dX2_putArrow_86 ?_
      obtain ⟨v12, ev12, h⟩ := g_bnd h
      refine g_iald' ev12 ht0.2.2.2.2.2.2.1 dX2_putArrow_87 ?_
      refine g_ior dX2_putArrow_88 ?_
      obtain ⟨M13, eM13, h⟩ := g_bnd h
      refine g_iast' eM13 ht0.2.2.2.2.2.2.1 dX2_putArrow_89 ?_
      exact tX2_putArrow_b90 ht0 h Kc Kx
def fX2_putArrow (t0 : Nat) (x1 : Int32) (x2 : Int32) (M0 : gMem) : Option gMem :=
  if (M0.1 t0 10) < (60 : Int32) then ((wI M0 (t0 + 3) 60 (M0.1 t0 10) x1).bind fun M2 => (wI M2 (t0 + 4) 60 (M2.1 t0 10) x2).bind fun M3 => (wF M3 t0 10 ((M3.1 t0 10) + (1 : Int32))).bind fun M4 => (rI M4 (t0 + 5) 24 x1).bind fun v5 => (wI M4 (t0 + 5) 24 x1 (v5 ||| ((1 : Int32) <<< (x2 &&& 31)))).bind fun M6 => (gLoop (fun z9 => fX2_putArrow_l54 t0 x1 x2 z9.1 z9.2) gFu ((0 : Int32), M6)).bind fun w14 => some w14) else some M0
set_option maxRecDepth 20000 in
theorem tX2_putArrow {X : gX} {V : gEnv} {t0 : Nat} {x1 : Int32} {x2 : Int32} {M0 : gMem} (ht0 : gNet gShC t0) {o : gMem} (h : fX2_putArrow t0 x1 x2 M0 = some o) (O : gO X V mX2_putArrow gShC none none o) : gG X V mX2_putArrow gShC M0 0 0 0 [(0, .ref (gAd V t0)), (1, .int x1), (2, .int x2)] [] := by
  unfold fX2_putArrow at h
  refine g_aload_n 0 rfl rfl dX2_putArrow_0 ?_
  refine g_getI FX2_44 ht0.1 rfl dX2_putArrow_1 ?_
  refine g_bipush (v := 60) rfl dX2_putArrow_4 ?_
  rcases g_ite h with ⟨c1, h⟩ | ⟨c1, h⟩
  · refine g_icmp_lt_t c1 (tgt := 10) rfl dX2_putArrow_6 ?_
    refine g_aload_n 0 rfl rfl dX2_putArrow_10 ?_
    refine g_getR FX2_19 ht0.1 rfl dX2_putArrow_11 ?_
    refine g_aload_n 0 rfl rfl dX2_putArrow_14 ?_
    refine g_getI FX2_44 ht0.1 rfl dX2_putArrow_15 ?_
    refine g_iload_n 1 rfl rfl dX2_putArrow_18 ?_
    obtain ⟨M2, eM2, h⟩ := g_bnd h
    refine g_iast' eM2 ht0.2.2.2.1 dX2_putArrow_19 ?_
    refine g_aload_n 0 rfl rfl dX2_putArrow_20 ?_
    refine g_getR FX2_22 ht0.1 rfl dX2_putArrow_21 ?_
    refine g_aload_n 0 rfl rfl dX2_putArrow_24 ?_
    refine g_getI FX2_44 ht0.1 rfl dX2_putArrow_25 ?_
    refine g_iload_n 2 rfl rfl dX2_putArrow_28 ?_
    obtain ⟨M3, eM3, h⟩ := g_bnd h
    refine g_iast' eM3 ht0.2.2.2.2.1 dX2_putArrow_29 ?_
    refine g_aload_n 0 rfl rfl dX2_putArrow_30 ?_
    refine g_dup rfl dX2_putArrow_31 ?_
    refine g_getI FX2_44 ht0.1 rfl dX2_putArrow_32 ?_
    refine g_iconst (v := 1) rfl dX2_putArrow_35 ?_
    refine g_iadd dX2_putArrow_36 ?_
    obtain ⟨M4, eM4, h⟩ := g_bnd h
    refine g_putI' eM4 FX2_44 jX2 ht0.1 rfl rfl rfl dX2_putArrow_37 ?_
    refine g_aload_n 0 rfl rfl dX2_putArrow_40 ?_
    refine g_getR FX2_25 ht0.1 rfl dX2_putArrow_41 ?_
    refine g_iload_n 1 rfl rfl dX2_putArrow_44 ?_
    refine g_dup2 rfl rfl dX2_putArrow_45 ?_
    obtain ⟨v5, ev5, h⟩ := g_bnd h
    refine g_iald' ev5 ht0.2.2.2.2.2.1 dX2_putArrow_46 ?_
    refine g_iconst (v := 1) rfl dX2_putArrow_47 ?_
    refine g_iload_n 2 rfl rfl dX2_putArrow_48 ?_
    refine g_ishl dX2_putArrow_49 ?_
    refine g_ior dX2_putArrow_50 ?_
    obtain ⟨M6, eM6, h⟩ := g_bnd h
    refine g_iast' eM6 ht0.2.2.2.2.2.1 dX2_putArrow_51 ?_
    refine g_iconst (v := 0) rfl dX2_putArrow_52 ?_
    refine g_istore_n (ls' := [(3, .int (0 : Int32)), (0, .ref (gAd V t0)), (1, .int x1), (2, .int x2)]) rfl (Nat.le_of_ble_eq_true rfl) rfl dX2_putArrow_53 ?_
    obtain ⟨w14, ew14, h⟩ := g_bnd h
    refine g_sub [1, 2, 3, 0] rfl ?_
    have KX : gG X V mX2_putArrow gShC w14 0 0 96 [] [] := by
      cases h
      exact g_vret O ⟨Nat.le_of_ble_eq_true rfl, Nat.le_of_ble_eq_true rfl⟩ dX2_putArrow_96
    exact gLoop_Q ew14 (fun z9 => gG X V mX2_putArrow gShC z9.2 0 0 54 [(0, .ref (gAd V t0)), (1, .int x1), (2, .int x2), (3, .int z9.1)] []) (fun s9 o9 hb9 hc9 hx9 => tX2_putArrow_l54 ht0 hb9 hc9 (fun e9 he9 => by cases hx9 _ he9; exact KX))
  · refine g_icmp_lt_f c1 (tgt := 10) rfl dX2_putArrow_6 ?_
    cases h
    exact g_vret O ⟨Nat.le_of_ble_eq_true rfl, Nat.le_of_ble_eq_true rfl⟩ dX2_putArrow_9
theorem kX2_putArrow {l : Launch} {V : gEnv} {M0 : gMem} {t0 : Nat} {x1 : Int32} {x2 : Int32} (ht0 : gNet gShC t0) {o : gMem} (h : fX2_putArrow t0 x1 x2 M0 = some o) : gM l yX2_putArrow cX2_putArrow 4 none rX2_putArrow V gShC [.ref (gAd V t0), .int x1, .int x2] M0 none o :=
  gM.of (by decide) (Nat.le_of_ble_eq_true rfl) rfl (fun X _ O => tX2_putArrow ht0 h O)
theorem dX6_bring_0 : decode cX6_bring 0 = .ok (.iconst 0, 1) := by decide +kernel
theorem dX6_bring_1 : decode cX6_bring 1 = .ok (.istore 4, 2) := by decide +kernel
theorem dX6_bring_3 : decode cX6_bring 3 = .ok (.aload_n 0, 1) := by decide +kernel
theorem dX6_bring_4 : decode cX6_bring 4 = .ok (.aload_n 1, 1) := by decide +kernel
theorem dX6_bring_5 : decode cX6_bring 5 = .ok (.iload_n 2, 1) := by decide +kernel
theorem dX6_bring_6 : decode cX6_bring 6 = .ok (.iload_n 3, 1) := by decide +kernel
theorem dX6_bring_7 : decode cX6_bring 7 = .ok (.invokevirtual 112, 3) := by decide +kernel
theorem dX6_bring_10 : decode cX6_bring 10 = .ok (.aload_n 0, 1) := by decide +kernel
theorem dX6_bring_11 : decode cX6_bring 11 = .ok (.invokevirtual 115, 3) := by decide +kernel
theorem dX6_bring_14 : decode cX6_bring 14 = .ok (.ifCond .le 95, 3) := by decide +kernel
theorem dX6_bring_17 : decode cX6_bring 17 = .ok (.aload_n 0, 1) := by decide +kernel
theorem dX6_bring_18 : decode cX6_bring 18 = .ok (.aload_n 1, 1) := by decide +kernel
theorem dX6_bring_19 : decode cX6_bring 19 = .ok (.aload_n 1, 1) := by decide +kernel
theorem dX6_bring_20 : decode cX6_bring 20 = .ok (.getfield 119, 3) := by decide +kernel
theorem dX6_bring_23 : decode cX6_bring 23 = .ok (.invokevirtual 122, 3) := by decide +kernel
theorem dX6_bring_26 : decode cX6_bring 26 = .ok (.istore 4, 2) := by decide +kernel
theorem dX6_bring_28 : decode cX6_bring 28 = .ok (.aload_n 1, 1) := by decide +kernel
theorem dX6_bring_29 : decode cX6_bring 29 = .ok (.aload_n 0, 1) := by decide +kernel
theorem dX6_bring_30 : decode cX6_bring 30 = .ok (.getfield 12, 3) := by decide +kernel
theorem dX6_bring_33 : decode cX6_bring 33 = .ok (.invokevirtual 125, 3) := by decide +kernel
theorem dX6_bring_36 : decode cX6_bring 36 = .ok (.aload_n 1, 1) := by decide +kernel
theorem dX6_bring_37 : decode cX6_bring 37 = .ok (.getfield 129, 3) := by decide +kernel
theorem dX6_bring_40 : decode cX6_bring 40 = .ok (.iconst 2, 1) := by decide +kernel
theorem dX6_bring_41 : decode cX6_bring 41 = .ok (.dup2, 1) := by decide +kernel
theorem dX6_bring_42 : decode cX6_bring 42 = .ok (.laload, 1) := by decide +kernel
theorem dX6_bring_43 : decode cX6_bring 43 = .ok (.lconst 1, 1) := by decide +kernel
theorem dX6_bring_44 : decode cX6_bring 44 = .ok (.ladd, 1) := by decide +kernel
theorem dX6_bring_45 : decode cX6_bring 45 = .ok (.lastore, 1) := by decide +kernel
theorem dX6_bring_46 : decode cX6_bring 46 = .ok (.aload_n 1, 1) := by decide +kernel
theorem dX6_bring_47 : decode cX6_bring 47 = .ok (.getfield 129, 3) := by decide +kernel
theorem dX6_bring_50 : decode cX6_bring 50 = .ok (.iconst 3, 1) := by decide +kernel
theorem dX6_bring_51 : decode cX6_bring 51 = .ok (.dup2, 1) := by decide +kernel
theorem dX6_bring_52 : decode cX6_bring 52 = .ok (.laload, 1) := by decide +kernel
theorem dX6_bring_53 : decode cX6_bring 53 = .ok (.aload_n 0, 1) := by decide +kernel
theorem dX6_bring_54 : decode cX6_bring 54 = .ok (.invokevirtual 115, 3) := by decide +kernel
theorem dX6_bring_57 : decode cX6_bring 57 = .ok (.i2l, 1) := by decide +kernel
theorem dX6_bring_58 : decode cX6_bring 58 = .ok (.ladd, 1) := by decide +kernel
theorem dX6_bring_59 : decode cX6_bring 59 = .ok (.lastore, 1) := by decide +kernel
theorem dX6_bring_60 : decode cX6_bring 60 = .ok (.aload_n 1, 1) := by decide +kernel
theorem dX6_bring_61 : decode cX6_bring 61 = .ok (.getfield 129, 3) := by decide +kernel
theorem dX6_bring_64 : decode cX6_bring 64 = .ok (.iconst 4, 1) := by decide +kernel
theorem dX6_bring_65 : decode cX6_bring 65 = .ok (.dup2, 1) := by decide +kernel
theorem dX6_bring_66 : decode cX6_bring 66 = .ok (.laload, 1) := by decide +kernel
theorem dX6_bring_67 : decode cX6_bring 67 = .ok (.aload_n 0, 1) := by decide +kernel
theorem dX6_bring_68 : decode cX6_bring 68 = .ok (.getfield 34, 3) := by decide +kernel
theorem dX6_bring_71 : decode cX6_bring 71 = .ok (.i2l, 1) := by decide +kernel
theorem dX6_bring_72 : decode cX6_bring 72 = .ok (.ladd, 1) := by decide +kernel
theorem dX6_bring_73 : decode cX6_bring 73 = .ok (.lastore, 1) := by decide +kernel
theorem dX6_bring_74 : decode cX6_bring 74 = .ok (.aload_n 1, 1) := by decide +kernel
theorem dX6_bring_75 : decode cX6_bring 75 = .ok (.getfield 129, 3) := by decide +kernel
theorem dX6_bring_78 : decode cX6_bring 78 = .ok (.iconst 5, 1) := by decide +kernel
theorem dX6_bring_79 : decode cX6_bring 79 = .ok (.dup2, 1) := by decide +kernel
theorem dX6_bring_80 : decode cX6_bring 80 = .ok (.laload, 1) := by decide +kernel
theorem dX6_bring_81 : decode cX6_bring 81 = .ok (.iload 4, 2) := by decide +kernel
theorem dX6_bring_83 : decode cX6_bring 83 = .ok (.i2l, 1) := by decide +kernel
theorem dX6_bring_84 : decode cX6_bring 84 = .ok (.ladd, 1) := by decide +kernel
theorem dX6_bring_85 : decode cX6_bring 85 = .ok (.lastore, 1) := by decide +kernel
theorem dX6_bring_86 : decode cX6_bring 86 = .ok (.aload_n 1, 1) := by decide +kernel
theorem dX6_bring_87 : decode cX6_bring 87 = .ok (.getfield 129, 3) := by decide +kernel
theorem dX6_bring_90 : decode cX6_bring 90 = .ok (.bipush 6, 2) := by decide +kernel
theorem dX6_bring_92 : decode cX6_bring 92 = .ok (.dup2, 1) := by decide +kernel
theorem dX6_bring_93 : decode cX6_bring 93 = .ok (.laload, 1) := by decide +kernel
theorem dX6_bring_94 : decode cX6_bring 94 = .ok (.aload_n 0, 1) := by decide +kernel
theorem dX6_bring_95 : decode cX6_bring 95 = .ok (.getfield 25, 3) := by decide +kernel
theorem dX6_bring_98 : decode cX6_bring 98 = .ok (.aload_n 0, 1) := by decide +kernel
theorem dX6_bring_99 : decode cX6_bring 99 = .ok (.getfield 28, 3) := by decide +kernel
theorem dX6_bring_102 : decode cX6_bring 102 = .ok (.iand, 1) := by decide +kernel
theorem dX6_bring_103 : decode cX6_bring 103 = .ok (.invokestatic 99, 3) := by decide +kernel
theorem dX6_bring_106 : decode cX6_bring 106 = .ok (.i2l, 1) := by decide +kernel
theorem dX6_bring_107 : decode cX6_bring 107 = .ok (.ladd, 1) := by decide +kernel
theorem dX6_bring_108 : decode cX6_bring 108 = .ok (.lastore, 1) := by decide +kernel
theorem dX6_bring_109 : decode cX6_bring 109 = .ok (.aload_n 1, 1) := by decide +kernel
theorem dX6_bring_110 : decode cX6_bring 110 = .ok (.getfield 129, 3) := by decide +kernel
theorem dX6_bring_113 : decode cX6_bring 113 = .ok (.iconst 0, 1) := by decide +kernel
theorem dX6_bring_114 : decode cX6_bring 114 = .ok (.dup2, 1) := by decide +kernel
theorem dX6_bring_115 : decode cX6_bring 115 = .ok (.laload, 1) := by decide +kernel
theorem dX6_bring_116 : decode cX6_bring 116 = .ok (.lconst 1, 1) := by decide +kernel
theorem dX6_bring_117 : decode cX6_bring 117 = .ok (.ladd, 1) := by decide +kernel
theorem dX6_bring_118 : decode cX6_bring 118 = .ok (.lastore, 1) := by decide +kernel
theorem dX6_bring_119 : decode cX6_bring 119 = .ok (.aload_n 1, 1) := by decide +kernel
theorem dX6_bring_120 : decode cX6_bring 120 = .ok (.iload_n 2, 1) := by decide +kernel
theorem dX6_bring_121 : decode cX6_bring 121 = .ok (.iload_n 3, 1) := by decide +kernel
theorem dX6_bring_122 : decode cX6_bring 122 = .ok (.invokevirtual 133, 3) := by decide +kernel
theorem dX6_bring_125 : decode cX6_bring 125 = .ok (.iload 4, 2) := by decide +kernel
theorem dX6_bring_127 : decode cX6_bring 127 = .ok (.ireturn, 1) := by decide +kernel
abbrev rX6_bring : Room := { frames := 3, cells := 0, slots := 0, locals := 70 }
abbrev mX6_bring : gY := (cX6_bring, RX6, 5, rX6_bring)
def fX6_bring_b109 (t1 : Nat) (x2 : Int32) (x3 : Int32) (x4 : Int32) (M0 : gMem) : Option (Int32 × gMem) :=
  (rL M0 (t1 + 9) 9 (0 : Int32)).bind fun v4 => (wL M0 (t1 + 9) 9 (0 : Int32) (v4 + (1 : Int64))).bind fun M5 => (fX2_putArrow t1 x2 x3 M5).bind fun v6 => some (x4, v6)
set_option maxRecDepth 20000 in
theorem tX6_bring_b109 {X : gX} {V : gEnv} {t1 : Nat} {x2 : Int32} {x3 : Int32} {x4 : Int32} {M0 : gMem} (ht1 : gNet gShC t1) {o : (Int32 × gMem)} (h : fX6_bring_b109 t1 x2 x3 x4 M0 = some o) (O : gO X V mX6_bring gShC (some .int) (some (.int o.1)) o.2) : gG X V mX6_bring gShC M0 0 0 109 [(1, .ref (gAd V t1)), (2, .int x2), (3, .int x3), (4, .int x4)] [] := by
  unfold fX6_bring_b109 at h
  refine g_aload_n 0 rfl rfl dX6_bring_109 ?_
  refine g_getR FX6_129 ht1.1 rfl dX6_bring_110 ?_
  refine g_iconst (v := 0) rfl dX6_bring_113 ?_
  refine g_dup2 rfl rfl dX6_bring_114 ?_
  obtain ⟨v4, ev4, h⟩ := g_bnd h
  refine g_lald' ev4 ht1.2.2.2.2.2.2.2.2.2 dX6_bring_115 ?_
  refine g_lconst (v := 1) rfl dX6_bring_116 ?_
  refine g_ladd dX6_bring_117 ?_
  obtain ⟨M5, eM5, h⟩ := g_bnd h
  refine g_last' eM5 ht1.2.2.2.2.2.2.2.2.2 dX6_bring_118 ?_
  refine g_aload_n 0 rfl rfl dX6_bring_119 ?_
  refine g_iload_n 1 rfl rfl dX6_bring_120 ?_
  refine g_iload_n 2 rfl rfl dX6_bring_121 ?_
  obtain ⟨v6, ev6, h⟩ := g_bnd h
  refine g_callV LX6_133 ht1.1 rfl (kX2_putArrow ht1 ev6) rfl rfl (Nat.le_of_ble_eq_true rfl) ⟨Nat.le_of_ble_eq_true rfl, Nat.le_of_ble_eq_true rfl⟩ ⟨Nat.le_of_ble_eq_true rfl, Nat.le_of_ble_eq_true rfl⟩ dX6_bring_122 rfl ?_
  refine g_iload 3 rfl dX6_bring_125 ?_
  cases h
  exact g_iret O ⟨Nat.le_of_ble_eq_true rfl, Nat.le_of_ble_eq_true rfl⟩ rfl dX6_bring_127
def fX6_bring (t1 : Nat) (x2 : Int32) (x3 : Int32) (M0 : gMem) : Option (Int32 × gMem) :=
  (fX6_survey t1 x2 x3 M0).bind fun v1 => (fX6_affected v1).bind fun v2 => if v2 ≤ 0 then (fX6_bring_b109 t1 x2 x3 (0 : Int32) v1) else (fX6_arrange t1 (v1.1 t1 12) v1).bind fun v7 => (fX2_takeOrder t1 42 v7.2).bind fun v8 => (rL v8 (t1 + 9) 9 (2 : Int32)).bind fun v9 => (wL v8 (t1 + 9) 9 (2 : Int32) (v9 + (1 : Int64))).bind fun M10 => (rL M10 (t1 + 9) 9 (3 : Int32)).bind fun v11 => (fX6_affected M10).bind fun v12 => (wL M10 (t1 + 9) 9 (3 : Int32) (v11 + v12.toInt64)).bind fun M13 => (rL M13 (t1 + 9) 9 (4 : Int32)).bind fun v14 => (wL M13 (t1 + 9) 9 (4 : Int32) (v14 + ((M13.1 41 6).toInt64))).bind fun M15 => (rL M15 (t1 + 9) 9 (5 : Int32)).bind fun v16 => (wL M15 (t1 + 9) 9 (5 : Int32) (v16 + v7.1.toInt64)).bind fun M17 => (rL M17 (t1 + 9) 9 (6 : Int32)).bind fun v18 => (fJ6_bitCount_0f7a4 ((M17.1 41 3) &&& (M17.1 41 4))).bind fun v19 => (wL M17 (t1 + 9) 9 (6 : Int32) (v18 + v19.toInt64)).bind fun M20 => fX6_bring_b109 t1 x2 x3 v7.1 M20
set_option maxRecDepth 20000 in
theorem tX6_bring {X : gX} {V : gEnv} {t1 : Nat} {x2 : Int32} {x3 : Int32} {M0 : gMem} (ht1 : gNet gShC t1) {o : (Int32 × gMem)} (h : fX6_bring t1 x2 x3 M0 = some o) (O : gO X V mX6_bring gShC (some .int) (some (.int o.1)) o.2) : gG X V mX6_bring gShC M0 0 0 0 [(0, .ref (gAd V 41)), (1, .ref (gAd V t1)), (2, .int x2), (3, .int x3)] [] := by
  unfold fX6_bring at h
  refine g_iconst (v := 0) rfl dX6_bring_0 ?_
  refine g_istore (ls' := [(4, .int (0 : Int32)), (0, .ref (gAd V 41)), (1, .ref (gAd V t1)), (2, .int x2), (3, .int x3)]) (Nat.le_of_ble_eq_true rfl) rfl dX6_bring_1 ?_
  refine g_aload_n 1 rfl rfl dX6_bring_3 ?_
  refine g_aload_n 2 rfl rfl dX6_bring_4 ?_
  refine g_iload_n 3 rfl rfl dX6_bring_5 ?_
  refine g_iload_n 4 rfl rfl dX6_bring_6 ?_
  obtain ⟨v1, ev1, h⟩ := g_bnd h
  refine g_callV LX6_112 sC_41 rfl (kX6_survey ht1 ev1) rfl rfl (Nat.le_of_ble_eq_true rfl) ⟨Nat.le_of_ble_eq_true rfl, Nat.le_of_ble_eq_true rfl⟩ ⟨Nat.le_of_ble_eq_true rfl, Nat.le_of_ble_eq_true rfl⟩ dX6_bring_7 rfl ?_
  refine g_aload_n 1 rfl rfl dX6_bring_10 ?_
  obtain ⟨v2, ev2, h⟩ := g_bnd h
  refine g_callV LX6_115 sC_41 rfl (kX6_affected ev2) rfl rfl (Nat.le_of_ble_eq_true rfl) ⟨Nat.le_of_ble_eq_true rfl, Nat.le_of_ble_eq_true rfl⟩ ⟨Nat.le_of_ble_eq_true rfl, Nat.le_of_ble_eq_true rfl⟩ dX6_bring_11 rfl ?_
  rcases g_ite h with ⟨c3, h⟩ | ⟨c3, h⟩
  · refine g_if_le_t c3 (tgt := 109) rfl dX6_bring_14 ?_
    refine g_sub [2, 3, 4, 0] rfl ?_
    exact tX6_bring_b109 ht1 h O
  · refine g_if_le_f c3 (tgt := 109) rfl dX6_bring_14 ?_
    refine g_aload_n 1 rfl rfl dX6_bring_17 ?_
    refine g_aload_n 2 rfl rfl dX6_bring_18 ?_
    refine g_aload_n 2 rfl rfl dX6_bring_19 ?_
    refine g_getI FX6_119 ht1.1 rfl dX6_bring_20 ?_
    obtain ⟨v7, ev7, h⟩ := g_bnd h
    refine g_callV LX6_122 sC_41 rfl (kX6_arrange ht1 ev7) rfl rfl (Nat.le_of_ble_eq_true rfl) ⟨Nat.le_of_ble_eq_true rfl, Nat.le_of_ble_eq_true rfl⟩ ⟨Nat.le_of_ble_eq_true rfl, Nat.le_of_ble_eq_true rfl⟩ dX6_bring_23 rfl ?_
    refine g_istore (ls' := [(4, .int v7.1), (0, .ref (gAd V 41)), (1, .ref (gAd V t1)), (2, .int x2), (3, .int x3)]) (Nat.le_of_ble_eq_true rfl) rfl dX6_bring_26 ?_
    refine g_aload_n 2 rfl rfl dX6_bring_28 ?_
    refine g_aload_n 1 rfl rfl dX6_bring_29 ?_
    refine g_getR FX6_12 sC_41 rfl dX6_bring_30 ?_
    obtain ⟨v8, ev8, h⟩ := g_bnd h
    refine g_callV LX6_125 ht1.1 rfl (kX2_takeOrder ht1 wC_42 ev8) rfl rfl (Nat.le_of_ble_eq_true rfl) ⟨Nat.le_of_ble_eq_true rfl, Nat.le_of_ble_eq_true rfl⟩ ⟨Nat.le_of_ble_eq_true rfl, Nat.le_of_ble_eq_true rfl⟩ dX6_bring_33 rfl ?_
    refine g_aload_n 2 rfl rfl dX6_bring_36 ?_
    refine g_getR FX6_129 ht1.1 rfl dX6_bring_37 ?_
    refine g_iconst (v := 2) rfl dX6_bring_40 ?_
    refine g_dup2 rfl rfl dX6_bring_41 ?_
    obtain ⟨v9, ev9, h⟩ := g_bnd h
    refine g_lald' ev9 ht1.2.2.2.2.2.2.2.2.2 dX6_bring_42 ?_
    refine g_lconst (v := 1) rfl dX6_bring_43 ?_
    refine g_ladd dX6_bring_44 ?_
    obtain ⟨M10, eM10, h⟩ := g_bnd h
    refine g_last' eM10 ht1.2.2.2.2.2.2.2.2.2 dX6_bring_45 ?_
    refine g_aload_n 2 rfl rfl dX6_bring_46 ?_
    refine g_getR FX6_129 ht1.1 rfl dX6_bring_47 ?_
    refine g_iconst (v := 3) rfl dX6_bring_50 ?_
    refine g_dup2 rfl rfl dX6_bring_51 ?_
    obtain ⟨v11, ev11, h⟩ := g_bnd h
    refine g_lald' ev11 ht1.2.2.2.2.2.2.2.2.2 dX6_bring_52 ?_
    refine g_aload_n 1 rfl rfl dX6_bring_53 ?_
    obtain ⟨v12, ev12, h⟩ := g_bnd h
    refine g_callV LX6_115 sC_41 rfl (kX6_affected ev12) rfl rfl (Nat.le_of_ble_eq_true rfl) ⟨Nat.le_of_ble_eq_true rfl, Nat.le_of_ble_eq_true rfl⟩ ⟨Nat.le_of_ble_eq_true rfl, Nat.le_of_ble_eq_true rfl⟩ dX6_bring_54 rfl ?_
    refine g_i2l dX6_bring_57 ?_
    refine g_ladd dX6_bring_58 ?_
    obtain ⟨M13, eM13, h⟩ := g_bnd h
    refine g_last' eM13 ht1.2.2.2.2.2.2.2.2.2 dX6_bring_59 ?_
    refine g_aload_n 2 rfl rfl dX6_bring_60 ?_
    refine g_getR FX6_129 ht1.1 rfl dX6_bring_61 ?_
    refine g_iconst (v := 4) rfl dX6_bring_64 ?_
    refine g_dup2 rfl rfl dX6_bring_65 ?_
    obtain ⟨v14, ev14, h⟩ := g_bnd h
    refine g_lald' ev14 ht1.2.2.2.2.2.2.2.2.2 dX6_bring_66 ?_
    refine g_aload_n 1 rfl rfl dX6_bring_67 ?_
    refine g_getI FX6_34 sC_41 rfl dX6_bring_68 ?_
    refine g_i2l dX6_bring_71 ?_
    refine g_ladd dX6_bring_72 ?_
    obtain ⟨M15, eM15, h⟩ := g_bnd h
    refine g_last' eM15 ht1.2.2.2.2.2.2.2.2.2 dX6_bring_73 ?_
    refine g_aload_n 2 rfl rfl dX6_bring_74 ?_
    refine g_getR FX6_129 ht1.1 rfl dX6_bring_75 ?_
    refine g_iconst (v := 5) rfl dX6_bring_78 ?_
    refine g_dup2 rfl rfl dX6_bring_79 ?_
    obtain ⟨v16, ev16, h⟩ := g_bnd h
    refine g_lald' ev16 ht1.2.2.2.2.2.2.2.2.2 dX6_bring_80 ?_
    refine g_iload 0 rfl dX6_bring_81 ?_
    refine g_i2l dX6_bring_83 ?_
    refine g_ladd dX6_bring_84 ?_
    obtain ⟨M17, eM17, h⟩ := g_bnd h
    refine g_last' eM17 ht1.2.2.2.2.2.2.2.2.2 dX6_bring_85 ?_
    refine g_aload_n 2 rfl rfl dX6_bring_86 ?_
    refine g_getR FX6_129 ht1.1 rfl dX6_bring_87 ?_
    refine g_bipush (v := 6) rfl dX6_bring_90 ?_
    refine g_dup2 rfl rfl dX6_bring_92 ?_
    obtain ⟨v18, ev18, h⟩ := g_bnd h
    refine g_lald' ev18 ht1.2.2.2.2.2.2.2.2.2 dX6_bring_93 ?_
    refine g_aload_n 1 rfl rfl dX6_bring_94 ?_
    refine g_getI FX6_25 sC_41 rfl dX6_bring_95 ?_
    refine g_aload_n 1 rfl rfl dX6_bring_98 ?_
    refine g_getI FX6_28 sC_41 rfl dX6_bring_99 ?_
    refine g_iand dX6_bring_102 ?_
    obtain ⟨v19, ev19, h⟩ := g_bnd h
    refine g_callS LX6_99 (kJ6_bitCount_0f7a4 ev19) rfl rfl (Nat.le_of_ble_eq_true rfl) ⟨Nat.le_of_ble_eq_true rfl, Nat.le_of_ble_eq_true rfl⟩ ⟨Nat.le_of_ble_eq_true rfl, Nat.le_of_ble_eq_true rfl⟩ dX6_bring_103 rfl ?_
    refine g_i2l dX6_bring_106 ?_
    refine g_ladd dX6_bring_107 ?_
    obtain ⟨M20, eM20, h⟩ := g_bnd h
    refine g_last' eM20 ht1.2.2.2.2.2.2.2.2.2 dX6_bring_108 ?_
    refine g_sub [2, 3, 4, 0] rfl ?_
    exact tX6_bring_b109 ht1 h O
theorem kX6_bring {l : Launch} {V : gEnv} {M0 : gMem} {t1 : Nat} {x2 : Int32} {x3 : Int32} (ht1 : gNet gShC t1) {o : (Int32 × gMem)} (h : fX6_bring t1 x2 x3 M0 = some o) : gM l yX6_bring cX6_bring 5 (some .int) rX6_bring V gShC [.ref (gAd V 41), .ref (gAd V t1), .int x2, .int x3] M0 (some (.int o.1)) o.2 :=
  gM.of (by decide) (Nat.le_of_ble_eq_true rfl) rfl (fun X _ O => tX6_bring ht1 h O)
theorem dX1_readArrow_0 : decode cX1_readArrow 0 = .ok (.aload_n 2, 1) := by decide +kernel
theorem dX1_readArrow_1 : decode cX1_readArrow 1 = .ok (.getfield 100, 3) := by decide +kernel
theorem dX1_readArrow_4 : decode cX1_readArrow 4 = .ok (.bipush 60, 2) := by decide +kernel
theorem dX1_readArrow_6 : decode cX1_readArrow 6 = .ok (.if_icmp .lt 13, 3) := by decide +kernel
theorem dX1_readArrow_9 : decode cX1_readArrow 9 = .ok (.aload_n 1, 1) := by decide +kernel
theorem dX1_readArrow_10 : decode cX1_readArrow 10 = .ok (.iconst 4, 1) := by decide +kernel
theorem dX1_readArrow_11 : decode cX1_readArrow 11 = .ok (.aload_n 1, 1) := by decide +kernel
theorem dX1_readArrow_12 : decode cX1_readArrow 12 = .ok (.getfield 62, 3) := by decide +kernel
theorem dX1_readArrow_15 : decode cX1_readArrow 15 = .ok (.invokevirtual 65, 3) := by decide +kernel
theorem dX1_readArrow_18 : decode cX1_readArrow 18 = .ok (.ireturn, 1) := by decide +kernel
theorem dX1_readArrow_19 : decode cX1_readArrow 19 = .ok (.aload_n 1, 1) := by decide +kernel
theorem dX1_readArrow_20 : decode cX1_readArrow 20 = .ok (.aload_n 2, 1) := by decide +kernel
theorem dX1_readArrow_21 : decode cX1_readArrow 21 = .ok (.invokevirtual 103, 3) := by decide +kernel
theorem dX1_readArrow_24 : decode cX1_readArrow 24 = .ok (.istore 4, 2) := by decide +kernel
theorem dX1_readArrow_26 : decode cX1_readArrow 26 = .ok (.iload 4, 2) := by decide +kernel
theorem dX1_readArrow_28 : decode cX1_readArrow 28 = .ok (.iconst (-1), 1) := by decide +kernel
theorem dX1_readArrow_29 : decode cX1_readArrow 29 = .ok (.if_icmp .ne 5, 3) := by decide +kernel
theorem dX1_readArrow_32 : decode cX1_readArrow 32 = .ok (.iconst 0, 1) := by decide +kernel
theorem dX1_readArrow_33 : decode cX1_readArrow 33 = .ok (.ireturn, 1) := by decide +kernel
theorem dX1_readArrow_34 : decode cX1_readArrow 34 = .ok (.aload_n 1, 1) := by decide +kernel
theorem dX1_readArrow_35 : decode cX1_readArrow 35 = .ok (.aload_n 2, 1) := by decide +kernel
theorem dX1_readArrow_36 : decode cX1_readArrow 36 = .ok (.invokevirtual 103, 3) := by decide +kernel
theorem dX1_readArrow_39 : decode cX1_readArrow 39 = .ok (.istore 5, 2) := by decide +kernel
theorem dX1_readArrow_41 : decode cX1_readArrow 41 = .ok (.iload 5, 2) := by decide +kernel
theorem dX1_readArrow_43 : decode cX1_readArrow 43 = .ok (.iconst (-1), 1) := by decide +kernel
theorem dX1_readArrow_44 : decode cX1_readArrow 44 = .ok (.if_icmp .ne 5, 3) := by decide +kernel
theorem dX1_readArrow_47 : decode cX1_readArrow 47 = .ok (.iconst 0, 1) := by decide +kernel
theorem dX1_readArrow_48 : decode cX1_readArrow 48 = .ok (.ireturn, 1) := by decide +kernel
theorem dX1_readArrow_49 : decode cX1_readArrow 49 = .ok (.aload_n 2, 1) := by decide +kernel
theorem dX1_readArrow_50 : decode cX1_readArrow 50 = .ok (.iload 4, 2) := by decide +kernel
theorem dX1_readArrow_52 : decode cX1_readArrow 52 = .ok (.iload 5, 2) := by decide +kernel
theorem dX1_readArrow_54 : decode cX1_readArrow 54 = .ok (.invokevirtual 107, 3) := by decide +kernel
theorem dX1_readArrow_57 : decode cX1_readArrow 57 = .ok (.ifCond .eq 13, 3) := by decide +kernel
theorem dX1_readArrow_60 : decode cX1_readArrow 60 = .ok (.aload_n 1, 1) := by decide +kernel
theorem dX1_readArrow_61 : decode cX1_readArrow 61 = .ok (.iconst 3, 1) := by decide +kernel
theorem dX1_readArrow_62 : decode cX1_readArrow 62 = .ok (.aload_n 1, 1) := by decide +kernel
theorem dX1_readArrow_63 : decode cX1_readArrow 63 = .ok (.getfield 62, 3) := by decide +kernel
theorem dX1_readArrow_66 : decode cX1_readArrow 66 = .ok (.invokevirtual 65, 3) := by decide +kernel
theorem dX1_readArrow_69 : decode cX1_readArrow 69 = .ok (.ireturn, 1) := by decide +kernel
theorem dX1_readArrow_70 : decode cX1_readArrow 70 = .ok (.aload_n 3, 1) := by decide +kernel
theorem dX1_readArrow_71 : decode cX1_readArrow 71 = .ok (.aload_n 2, 1) := by decide +kernel
theorem dX1_readArrow_72 : decode cX1_readArrow 72 = .ok (.iload 4, 2) := by decide +kernel
theorem dX1_readArrow_74 : decode cX1_readArrow 74 = .ok (.iload 5, 2) := by decide +kernel
theorem dX1_readArrow_76 : decode cX1_readArrow 76 = .ok (.invokevirtual 110, 3) := by decide +kernel
theorem dX1_readArrow_79 : decode cX1_readArrow 79 = .ok (.pop, 1) := by decide +kernel
theorem dX1_readArrow_80 : decode cX1_readArrow 80 = .ok (.iconst 1, 1) := by decide +kernel
theorem dX1_readArrow_81 : decode cX1_readArrow 81 = .ok (.ireturn, 1) := by decide +kernel
abbrev rX1_readArrow : Room := { frames := 4, cells := 0, slots := 0, locals := 94 }
abbrev mX1_readArrow : gY := (cX1_readArrow, RX1, 6, rX1_readArrow)
def fX1_readArrow (t2 : Nat) (M0 : gMem) : Option (Int32 × gMem) :=
  if (M0.1 t2 10) < (60 : Int32) then ((fX5_readTask t2 M0).bind fun v2 => if v2.1 = (-1 : Int32) then (some ((0 : Int32), v2.2)) else (fX5_readTask t2 v2.2).bind fun v4 => if v4.1 = (-1 : Int32) then (some ((0 : Int32), v4.2)) else (fX2_refusal t2 v2.1 v4.1 v4.2).bind fun v6 => if v6 = 0 then ((fX6_bring t2 v2.1 v4.1 v4.2).bind fun v8 => some ((1 : Int32), v8.2)) else (fX5_fail (3 : Int32) (v4.2.1 32 3) v4.2).bind fun v9 => (zv v9.1).bind fun v10 => some (v10, v9.2)) else (fX5_fail (4 : Int32) (M0.1 32 3) M0).bind fun v11 => (zv v11.1).bind fun v12 => some (v12, v11.2)
set_option maxRecDepth 20000 in
theorem tX1_readArrow {X : gX} {V : gEnv} {t2 : Nat} {M0 : gMem} (ht2 : gNet gShC t2) {o : (Int32 × gMem)} (h : fX1_readArrow t2 M0 = some o) (O : gO X V mX1_readArrow gShC (some .boolean) (some (.int o.1)) o.2) : gG X V mX1_readArrow gShC M0 0 0 0 [(0, .ref (gAd V 36)), (1, .ref (gAd V 32)), (2, .ref (gAd V t2)), (3, .ref (gAd V 41))] [] := by
  unfold fX1_readArrow at h
  refine g_aload_n 2 rfl rfl dX1_readArrow_0 ?_
  refine g_getI FX1_100 ht2.1 rfl dX1_readArrow_1 ?_
  refine g_bipush (v := 60) rfl dX1_readArrow_4 ?_
  rcases g_ite h with ⟨c1, h⟩ | ⟨c1, h⟩
  · refine g_icmp_lt_t c1 (tgt := 19) rfl dX1_readArrow_6 ?_
    refine g_aload_n 1 rfl rfl dX1_readArrow_19 ?_
    refine g_aload_n 2 rfl rfl dX1_readArrow_20 ?_
    obtain ⟨v2, ev2, h⟩ := g_bnd h
    refine g_callV LX1_103 sC_32 rfl (kX5_readTask ht2 ev2) rfl rfl (Nat.le_of_ble_eq_true rfl) ⟨Nat.le_of_ble_eq_true rfl, Nat.le_of_ble_eq_true rfl⟩ ⟨Nat.le_of_ble_eq_true rfl, Nat.le_of_ble_eq_true rfl⟩ dX1_readArrow_21 rfl ?_
    refine g_istore (ls' := [(4, .int v2.1), (0, .ref (gAd V 36)), (1, .ref (gAd V 32)), (2, .ref (gAd V t2)), (3, .ref (gAd V 41))]) (Nat.le_of_ble_eq_true rfl) rfl dX1_readArrow_24 ?_
    refine g_iload 0 rfl dX1_readArrow_26 ?_
    refine g_iconst (v := -1) rfl dX1_readArrow_28 ?_
    rcases g_ite h with ⟨c3, h⟩ | ⟨c3, h⟩
    · refine g_icmp_ne_f c3 (tgt := 34) rfl dX1_readArrow_29 ?_
      refine g_iconst (v := 0) rfl dX1_readArrow_32 ?_
      cases h
      exact g_iret O ⟨Nat.le_of_ble_eq_true rfl, Nat.le_of_ble_eq_true rfl⟩ rfl dX1_readArrow_33
    · refine g_icmp_ne_t c3 (tgt := 34) rfl dX1_readArrow_29 ?_
      refine g_aload_n 2 rfl rfl dX1_readArrow_34 ?_
      refine g_aload_n 3 rfl rfl dX1_readArrow_35 ?_
      obtain ⟨v4, ev4, h⟩ := g_bnd h
      refine g_callV LX1_103 sC_32 rfl (kX5_readTask ht2 ev4) rfl rfl (Nat.le_of_ble_eq_true rfl) ⟨Nat.le_of_ble_eq_true rfl, Nat.le_of_ble_eq_true rfl⟩ ⟨Nat.le_of_ble_eq_true rfl, Nat.le_of_ble_eq_true rfl⟩ dX1_readArrow_36 rfl ?_
      refine g_istore (ls' := [(5, .int v4.1), (4, .int v2.1), (0, .ref (gAd V 36)), (1, .ref (gAd V 32)), (2, .ref (gAd V t2)), (3, .ref (gAd V 41))]) (Nat.le_of_ble_eq_true rfl) rfl dX1_readArrow_39 ?_
      refine g_iload 0 rfl dX1_readArrow_41 ?_
      refine g_iconst (v := -1) rfl dX1_readArrow_43 ?_
      rcases g_ite h with ⟨c5, h⟩ | ⟨c5, h⟩
      · refine g_icmp_ne_f c5 (tgt := 49) rfl dX1_readArrow_44 ?_
        refine g_iconst (v := 0) rfl dX1_readArrow_47 ?_
        cases h
        exact g_iret O ⟨Nat.le_of_ble_eq_true rfl, Nat.le_of_ble_eq_true rfl⟩ rfl dX1_readArrow_48
      · refine g_icmp_ne_t c5 (tgt := 49) rfl dX1_readArrow_44 ?_
        refine g_aload_n 4 rfl rfl dX1_readArrow_49 ?_
        refine g_iload 1 rfl dX1_readArrow_50 ?_
        refine g_iload 0 rfl dX1_readArrow_52 ?_
        obtain ⟨v6, ev6, h⟩ := g_bnd h
        refine g_callV LX1_107 ht2.1 rfl (kX2_refusal ht2 ev6) rfl rfl (Nat.le_of_ble_eq_true rfl) ⟨Nat.le_of_ble_eq_true rfl, Nat.le_of_ble_eq_true rfl⟩ ⟨Nat.le_of_ble_eq_true rfl, Nat.le_of_ble_eq_true rfl⟩ dX1_readArrow_54 rfl ?_
        rcases g_ite h with ⟨c7, h⟩ | ⟨c7, h⟩
        · refine g_if_eq_t c7 (tgt := 70) rfl dX1_readArrow_57 ?_
          refine g_aload_n 5 rfl rfl dX1_readArrow_70 ?_
          refine g_aload_n 4 rfl rfl dX1_readArrow_71 ?_
          refine g_iload 1 rfl dX1_readArrow_72 ?_
          refine g_iload 0 rfl dX1_readArrow_74 ?_
          obtain ⟨v8, ev8, h⟩ := g_bnd h
          refine g_callV LX1_110 sC_41 rfl (kX6_bring ht2 ev8) rfl rfl (Nat.le_of_ble_eq_true rfl) ⟨Nat.le_of_ble_eq_true rfl, Nat.le_of_ble_eq_true rfl⟩ ⟨Nat.le_of_ble_eq_true rfl, Nat.le_of_ble_eq_true rfl⟩ dX1_readArrow_76 rfl ?_
          refine g_pop rfl dX1_readArrow_79 ?_
          refine g_iconst (v := 1) rfl dX1_readArrow_80 ?_
          cases h
          exact g_iret O ⟨Nat.le_of_ble_eq_true rfl, Nat.le_of_ble_eq_true rfl⟩ rfl dX1_readArrow_81
        · refine g_if_eq_f c7 (tgt := 70) rfl dX1_readArrow_57 ?_
          refine g_aload_n 3 rfl rfl dX1_readArrow_60 ?_
          refine g_iconst (v := 3) rfl dX1_readArrow_61 ?_
          refine g_aload_n 3 rfl rfl dX1_readArrow_62 ?_
          refine g_getI FX1_62 sC_32 rfl dX1_readArrow_63 ?_
          obtain ⟨v9, ev9, h⟩ := g_bnd h
          refine g_callV LX1_65 sC_32 rfl (kX5_fail ev9) rfl rfl (Nat.le_of_ble_eq_true rfl) ⟨Nat.le_of_ble_eq_true rfl, Nat.le_of_ble_eq_true rfl⟩ ⟨Nat.le_of_ble_eq_true rfl, Nat.le_of_ble_eq_true rfl⟩ dX1_readArrow_66 rfl ?_
          obtain ⟨v10, ev10, h⟩ := g_bnd h
          refine g_zv ev10 ?_
          cases h
          exact g_iret O ⟨Nat.le_of_ble_eq_true rfl, Nat.le_of_ble_eq_true rfl⟩ (g_nz (zv_ok ev10)) dX1_readArrow_69
  · refine g_icmp_lt_f c1 (tgt := 19) rfl dX1_readArrow_6 ?_
    refine g_aload_n 1 rfl rfl dX1_readArrow_9 ?_
    refine g_iconst (v := 4) rfl dX1_readArrow_10 ?_
    refine g_aload_n 1 rfl rfl dX1_readArrow_11 ?_
    refine g_getI FX1_62 sC_32 rfl dX1_readArrow_12 ?_
    obtain ⟨v11, ev11, h⟩ := g_bnd h
    refine g_callV LX1_65 sC_32 rfl (kX5_fail ev11) rfl rfl (Nat.le_of_ble_eq_true rfl) ⟨Nat.le_of_ble_eq_true rfl, Nat.le_of_ble_eq_true rfl⟩ ⟨Nat.le_of_ble_eq_true rfl, Nat.le_of_ble_eq_true rfl⟩ dX1_readArrow_15 rfl ?_
    obtain ⟨v12, ev12, h⟩ := g_bnd h
    refine g_zv ev12 ?_
    cases h
    exact g_iret O ⟨Nat.le_of_ble_eq_true rfl, Nat.le_of_ble_eq_true rfl⟩ (g_nz (zv_ok ev12)) dX1_readArrow_18
theorem kX1_readArrow {l : Launch} {V : gEnv} {M0 : gMem} {t2 : Nat} (ht2 : gNet gShC t2) {o : (Int32 × gMem)} (h : fX1_readArrow t2 M0 = some o) : gM l yX1_readArrow cX1_readArrow 6 (some .boolean) rX1_readArrow V gShC [.ref (gAd V 36), .ref (gAd V 32), .ref (gAd V t2), .ref (gAd V 41)] M0 (some (.int o.1)) o.2 :=
  gM.of (by decide) (Nat.le_of_ble_eq_true rfl) rfl (fun X _ O => tX1_readArrow ht2 h O)
theorem dX1_readMode_0 : decode cX1_readMode 0 = .ok (.aload_n 0, 1) := by decide +kernel
theorem dX1_readMode_1 : decode cX1_readMode 1 = .ok (.getfield 9, 3) := by decide +kernel
theorem dX1_readMode_4 : decode cX1_readMode 4 = .ok (.ifCond .eq 13, 3) := by decide +kernel
theorem dX1_readMode_7 : decode cX1_readMode 7 = .ok (.aload_n 1, 1) := by decide +kernel
theorem dX1_readMode_8 : decode cX1_readMode 8 = .ok (.iconst 3, 1) := by decide +kernel
theorem dX1_readMode_9 : decode cX1_readMode 9 = .ok (.aload_n 1, 1) := by decide +kernel
theorem dX1_readMode_10 : decode cX1_readMode 10 = .ok (.getfield 62, 3) := by decide +kernel
theorem dX1_readMode_13 : decode cX1_readMode 13 = .ok (.invokevirtual 65, 3) := by decide +kernel
theorem dX1_readMode_16 : decode cX1_readMode 16 = .ok (.ireturn, 1) := by decide +kernel
theorem dX1_readMode_17 : decode cX1_readMode 17 = .ok (.aload_n 0, 1) := by decide +kernel
theorem dX1_readMode_18 : decode cX1_readMode 18 = .ok (.iconst 1, 1) := by decide +kernel
theorem dX1_readMode_19 : decode cX1_readMode 19 = .ok (.putfield 9, 3) := by decide +kernel
theorem dX1_readMode_22 : decode cX1_readMode 22 = .ok (.aload_n 2, 1) := by decide +kernel
theorem dX1_readMode_23 : decode cX1_readMode 23 = .ok (.aload_n 1, 1) := by decide +kernel
theorem dX1_readMode_24 : decode cX1_readMode 24 = .ok (.iconst 0, 1) := by decide +kernel
theorem dX1_readMode_25 : decode cX1_readMode 25 = .ok (.iconst 2, 1) := by decide +kernel
theorem dX1_readMode_26 : decode cX1_readMode 26 = .ok (.invokevirtual 92, 3) := by decide +kernel
theorem dX1_readMode_29 : decode cX1_readMode 29 = .ok (.putfield 116, 3) := by decide +kernel
theorem dX1_readMode_32 : decode cX1_readMode 32 = .ok (.aload_n 2, 1) := by decide +kernel
theorem dX1_readMode_33 : decode cX1_readMode 33 = .ok (.getfield 116, 3) := by decide +kernel
theorem dX1_readMode_36 : decode cX1_readMode 36 = .ok (.iconst (-1), 1) := by decide +kernel
theorem dX1_readMode_37 : decode cX1_readMode 37 = .ok (.if_icmp .eq 7, 3) := by decide +kernel
theorem dX1_readMode_40 : decode cX1_readMode 40 = .ok (.iconst 1, 1) := by decide +kernel
theorem dX1_readMode_41 : decode cX1_readMode 41 = .ok (.goto 4, 3) := by decide +kernel
theorem dX1_readMode_44 : decode cX1_readMode 44 = .ok (.iconst 0, 1) := by decide +kernel
theorem dX1_readMode_45 : decode cX1_readMode 45 = .ok (.ireturn, 1) := by decide +kernel
abbrev rX1_readMode : Room := { frames := 2, cells := 0, slots := 0, locals := 45 }
abbrev mX1_readMode : gY := (cX1_readMode, RX1, 3, rX1_readMode)
def fX1_readMode (t2 : Nat) (M0 : gMem) : Option (Int32 × gMem) :=
  if (M0.1 36 0) = 0 then ((wZ M0 36 0 (1 : Int32)).bind fun M2 => (fX5_readNumber (0 : Int32) (2 : Int32) M2).bind fun v3 => (wF v3.2 t2 12 v3.1).bind fun M4 => some (if (M4.1 t2 12) = (-1 : Int32) then (0 : Int32) else (1 : Int32), M4)) else (fX5_fail (3 : Int32) (M0.1 32 3) M0).bind fun v6 => (zv v6.1).bind fun v7 => some (v7, v6.2)
set_option maxRecDepth 20000 in
theorem tX1_readMode {X : gX} {V : gEnv} {t2 : Nat} {M0 : gMem} (ht2 : gNet gShC t2) {o : (Int32 × gMem)} (h : fX1_readMode t2 M0 = some o) (O : gO X V mX1_readMode gShC (some .boolean) (some (.int o.1)) o.2) : gG X V mX1_readMode gShC M0 0 0 0 [(0, .ref (gAd V 36)), (1, .ref (gAd V 32)), (2, .ref (gAd V t2))] [] := by
  unfold fX1_readMode at h
  refine g_aload_n 0 rfl rfl dX1_readMode_0 ?_
  refine g_getI FX1_9 sC_36 rfl dX1_readMode_1 ?_
  rcases g_ite h with ⟨c1, h⟩ | ⟨c1, h⟩
  · refine g_if_eq_t c1 (tgt := 17) rfl dX1_readMode_4 ?_
    refine g_aload_n 0 rfl rfl dX1_readMode_17 ?_
    refine g_iconst (v := 1) rfl dX1_readMode_18 ?_
    obtain ⟨M2, eM2, h⟩ := g_bnd h
    refine g_putZ' eM2 FX1_9 jX1 sC_36 rfl rfl rfl dX1_readMode_19 ?_
    refine g_aload_n 2 rfl rfl dX1_readMode_22 ?_
    refine g_aload_n 1 rfl rfl dX1_readMode_23 ?_
    refine g_iconst (v := 0) rfl dX1_readMode_24 ?_
    refine g_iconst (v := 2) rfl dX1_readMode_25 ?_
    obtain ⟨v3, ev3, h⟩ := g_bnd h
    refine g_callV LX1_92 sC_32 rfl (kX5_readNumber ev3) rfl rfl (Nat.le_of_ble_eq_true rfl) ⟨Nat.le_of_ble_eq_true rfl, Nat.le_of_ble_eq_true rfl⟩ ⟨Nat.le_of_ble_eq_true rfl, Nat.le_of_ble_eq_true rfl⟩ dX1_readMode_26 rfl ?_
    obtain ⟨M4, eM4, h⟩ := g_bnd h
    refine g_putI' eM4 FX1_116 jX2 ht2.1 rfl rfl rfl dX1_readMode_29 ?_
    refine g_aload_n 2 rfl rfl dX1_readMode_32 ?_
    refine g_getI FX1_116 ht2.1 rfl dX1_readMode_33 ?_
    refine g_iconst (v := -1) rfl dX1_readMode_36 ?_
    have KJ : gG X V mX1_readMode gShC M4 0 0 45 [(0, .ref (gAd V 36)), (1, .ref (gAd V 32)), (2, .ref (gAd V t2))] [.int (if (M4.1 t2 12) = (-1 : Int32) then (0 : Int32) else (1 : Int32))] := by
      cases h
      exact g_iret O ⟨Nat.le_of_ble_eq_true rfl, Nat.le_of_ble_eq_true rfl⟩ (by split <;> rfl) dX1_readMode_45
    by_cases c5 : (M4.1 t2 12) = (-1 : Int32)
    · rw [if_pos c5] at KJ
      refine g_icmp_eq_t c5 (tgt := 44) rfl dX1_readMode_37 ?_
      refine g_iconst (v := 0) rfl dX1_readMode_44 ?_
      exact KJ
    · rw [if_neg c5] at KJ
      refine g_icmp_eq_f c5 (tgt := 44) rfl dX1_readMode_37 ?_
      refine g_iconst (v := 1) rfl dX1_readMode_40 ?_
      refine g_goto (tgt := 45) rfl dX1_readMode_41 ?_
      exact KJ
  · refine g_if_eq_f c1 (tgt := 17) rfl dX1_readMode_4 ?_
    refine g_aload_n 1 rfl rfl dX1_readMode_7 ?_
    refine g_iconst (v := 3) rfl dX1_readMode_8 ?_
    refine g_aload_n 1 rfl rfl dX1_readMode_9 ?_
    refine g_getI FX1_62 sC_32 rfl dX1_readMode_10 ?_
    obtain ⟨v6, ev6, h⟩ := g_bnd h
    refine g_callV LX1_65 sC_32 rfl (kX5_fail ev6) rfl rfl (Nat.le_of_ble_eq_true rfl) ⟨Nat.le_of_ble_eq_true rfl, Nat.le_of_ble_eq_true rfl⟩ ⟨Nat.le_of_ble_eq_true rfl, Nat.le_of_ble_eq_true rfl⟩ dX1_readMode_13 rfl ?_
    obtain ⟨v7, ev7, h⟩ := g_bnd h
    refine g_zv ev7 ?_
    cases h
    exact g_iret O ⟨Nat.le_of_ble_eq_true rfl, Nat.le_of_ble_eq_true rfl⟩ (g_nz (zv_ok ev7)) dX1_readMode_16
theorem kX1_readMode {l : Launch} {V : gEnv} {M0 : gMem} {t2 : Nat} (ht2 : gNet gShC t2) {o : (Int32 × gMem)} (h : fX1_readMode t2 M0 = some o) : gM l yX1_readMode cX1_readMode 3 (some .boolean) rX1_readMode V gShC [.ref (gAd V 36), .ref (gAd V 32), .ref (gAd V t2)] M0 (some (.int o.1)) o.2 :=
  gM.of (by decide) (Nat.le_of_ble_eq_true rfl) rfl (fun X _ O => tX1_readMode ht2 h O)
theorem dX1_readJoin_0 : decode cX1_readJoin 0 = .ok (.aload_n 0, 1) := by decide +kernel
theorem dX1_readJoin_1 : decode cX1_readJoin 1 = .ok (.getfield 15, 3) := by decide +kernel
theorem dX1_readJoin_4 : decode cX1_readJoin 4 = .ok (.ifCond .eq 13, 3) := by decide +kernel
theorem dX1_readJoin_7 : decode cX1_readJoin 7 = .ok (.aload_n 1, 1) := by decide +kernel
theorem dX1_readJoin_8 : decode cX1_readJoin 8 = .ok (.iconst 3, 1) := by decide +kernel
theorem dX1_readJoin_9 : decode cX1_readJoin 9 = .ok (.aload_n 1, 1) := by decide +kernel
theorem dX1_readJoin_10 : decode cX1_readJoin 10 = .ok (.getfield 62, 3) := by decide +kernel
theorem dX1_readJoin_13 : decode cX1_readJoin 13 = .ok (.invokevirtual 65, 3) := by decide +kernel
theorem dX1_readJoin_16 : decode cX1_readJoin 16 = .ok (.ireturn, 1) := by decide +kernel
theorem dX1_readJoin_17 : decode cX1_readJoin 17 = .ok (.aload_n 0, 1) := by decide +kernel
theorem dX1_readJoin_18 : decode cX1_readJoin 18 = .ok (.iconst 1, 1) := by decide +kernel
theorem dX1_readJoin_19 : decode cX1_readJoin 19 = .ok (.putfield 15, 3) := by decide +kernel
theorem dX1_readJoin_22 : decode cX1_readJoin 22 = .ok (.aload_n 2, 1) := by decide +kernel
theorem dX1_readJoin_23 : decode cX1_readJoin 23 = .ok (.aload_n 1, 1) := by decide +kernel
theorem dX1_readJoin_24 : decode cX1_readJoin 24 = .ok (.iconst 0, 1) := by decide +kernel
theorem dX1_readJoin_25 : decode cX1_readJoin 25 = .ok (.iconst 1, 1) := by decide +kernel
theorem dX1_readJoin_26 : decode cX1_readJoin 26 = .ok (.invokevirtual 92, 3) := by decide +kernel
theorem dX1_readJoin_29 : decode cX1_readJoin 29 = .ok (.putfield 118, 3) := by decide +kernel
theorem dX1_readJoin_32 : decode cX1_readJoin 32 = .ok (.aload_n 2, 1) := by decide +kernel
theorem dX1_readJoin_33 : decode cX1_readJoin 33 = .ok (.getfield 118, 3) := by decide +kernel
theorem dX1_readJoin_36 : decode cX1_readJoin 36 = .ok (.iconst (-1), 1) := by decide +kernel
theorem dX1_readJoin_37 : decode cX1_readJoin 37 = .ok (.if_icmp .eq 7, 3) := by decide +kernel
theorem dX1_readJoin_40 : decode cX1_readJoin 40 = .ok (.iconst 1, 1) := by decide +kernel
theorem dX1_readJoin_41 : decode cX1_readJoin 41 = .ok (.goto 4, 3) := by decide +kernel
theorem dX1_readJoin_44 : decode cX1_readJoin 44 = .ok (.iconst 0, 1) := by decide +kernel
theorem dX1_readJoin_45 : decode cX1_readJoin 45 = .ok (.ireturn, 1) := by decide +kernel
abbrev rX1_readJoin : Room := { frames := 2, cells := 0, slots := 0, locals := 45 }
abbrev mX1_readJoin : gY := (cX1_readJoin, RX1, 3, rX1_readJoin)
def fX1_readJoin (t2 : Nat) (M0 : gMem) : Option (Int32 × gMem) :=
  if (M0.1 36 1) = 0 then ((wZ M0 36 1 (1 : Int32)).bind fun M2 => (fX5_readNumber (0 : Int32) (1 : Int32) M2).bind fun v3 => (wF v3.2 t2 13 v3.1).bind fun M4 => some (if (M4.1 t2 13) = (-1 : Int32) then (0 : Int32) else (1 : Int32), M4)) else (fX5_fail (3 : Int32) (M0.1 32 3) M0).bind fun v6 => (zv v6.1).bind fun v7 => some (v7, v6.2)
set_option maxRecDepth 20000 in
theorem tX1_readJoin {X : gX} {V : gEnv} {t2 : Nat} {M0 : gMem} (ht2 : gNet gShC t2) {o : (Int32 × gMem)} (h : fX1_readJoin t2 M0 = some o) (O : gO X V mX1_readJoin gShC (some .boolean) (some (.int o.1)) o.2) : gG X V mX1_readJoin gShC M0 0 0 0 [(0, .ref (gAd V 36)), (1, .ref (gAd V 32)), (2, .ref (gAd V t2))] [] := by
  unfold fX1_readJoin at h
  refine g_aload_n 0 rfl rfl dX1_readJoin_0 ?_
  refine g_getI FX1_15 sC_36 rfl dX1_readJoin_1 ?_
  rcases g_ite h with ⟨c1, h⟩ | ⟨c1, h⟩
  · refine g_if_eq_t c1 (tgt := 17) rfl dX1_readJoin_4 ?_
    refine g_aload_n 0 rfl rfl dX1_readJoin_17 ?_
    refine g_iconst (v := 1) rfl dX1_readJoin_18 ?_
    obtain ⟨M2, eM2, h⟩ := g_bnd h
    refine g_putZ' eM2 FX1_15 jX1 sC_36 rfl rfl rfl dX1_readJoin_19 ?_
    refine g_aload_n 2 rfl rfl dX1_readJoin_22 ?_
    refine g_aload_n 1 rfl rfl dX1_readJoin_23 ?_
    refine g_iconst (v := 0) rfl dX1_readJoin_24 ?_
    refine g_iconst (v := 1) rfl dX1_readJoin_25 ?_
    obtain ⟨v3, ev3, h⟩ := g_bnd h
    refine g_callV LX1_92 sC_32 rfl (kX5_readNumber ev3) rfl rfl (Nat.le_of_ble_eq_true rfl) ⟨Nat.le_of_ble_eq_true rfl, Nat.le_of_ble_eq_true rfl⟩ ⟨Nat.le_of_ble_eq_true rfl, Nat.le_of_ble_eq_true rfl⟩ dX1_readJoin_26 rfl ?_
    obtain ⟨M4, eM4, h⟩ := g_bnd h
    refine g_putI' eM4 FX1_118 jX2 ht2.1 rfl rfl rfl dX1_readJoin_29 ?_
    refine g_aload_n 2 rfl rfl dX1_readJoin_32 ?_
    refine g_getI FX1_118 ht2.1 rfl dX1_readJoin_33 ?_
    refine g_iconst (v := -1) rfl dX1_readJoin_36 ?_
    have KJ : gG X V mX1_readJoin gShC M4 0 0 45 [(0, .ref (gAd V 36)), (1, .ref (gAd V 32)), (2, .ref (gAd V t2))] [.int (if (M4.1 t2 13) = (-1 : Int32) then (0 : Int32) else (1 : Int32))] := by
      cases h
      exact g_iret O ⟨Nat.le_of_ble_eq_true rfl, Nat.le_of_ble_eq_true rfl⟩ (by split <;> rfl) dX1_readJoin_45
    by_cases c5 : (M4.1 t2 13) = (-1 : Int32)
    · rw [if_pos c5] at KJ
      refine g_icmp_eq_t c5 (tgt := 44) rfl dX1_readJoin_37 ?_
      refine g_iconst (v := 0) rfl dX1_readJoin_44 ?_
      exact KJ
    · rw [if_neg c5] at KJ
      refine g_icmp_eq_f c5 (tgt := 44) rfl dX1_readJoin_37 ?_
      refine g_iconst (v := 1) rfl dX1_readJoin_40 ?_
      refine g_goto (tgt := 45) rfl dX1_readJoin_41 ?_
      exact KJ
  · refine g_if_eq_f c1 (tgt := 17) rfl dX1_readJoin_4 ?_
    refine g_aload_n 1 rfl rfl dX1_readJoin_7 ?_
    refine g_iconst (v := 3) rfl dX1_readJoin_8 ?_
    refine g_aload_n 1 rfl rfl dX1_readJoin_9 ?_
    refine g_getI FX1_62 sC_32 rfl dX1_readJoin_10 ?_
    obtain ⟨v6, ev6, h⟩ := g_bnd h
    refine g_callV LX1_65 sC_32 rfl (kX5_fail ev6) rfl rfl (Nat.le_of_ble_eq_true rfl) ⟨Nat.le_of_ble_eq_true rfl, Nat.le_of_ble_eq_true rfl⟩ ⟨Nat.le_of_ble_eq_true rfl, Nat.le_of_ble_eq_true rfl⟩ dX1_readJoin_13 rfl ?_
    obtain ⟨v7, ev7, h⟩ := g_bnd h
    refine g_zv ev7 ?_
    cases h
    exact g_iret O ⟨Nat.le_of_ble_eq_true rfl, Nat.le_of_ble_eq_true rfl⟩ (g_nz (zv_ok ev7)) dX1_readJoin_16
theorem kX1_readJoin {l : Launch} {V : gEnv} {M0 : gMem} {t2 : Nat} (ht2 : gNet gShC t2) {o : (Int32 × gMem)} (h : fX1_readJoin t2 M0 = some o) : gM l yX1_readJoin cX1_readJoin 3 (some .boolean) rX1_readJoin V gShC [.ref (gAd V 36), .ref (gAd V 32), .ref (gAd V t2)] M0 (some (.int o.1)) o.2 :=
  gM.of (by decide) (Nat.le_of_ble_eq_true rfl) rfl (fun X _ O => tX1_readJoin ht2 h O)
