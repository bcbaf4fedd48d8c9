/-! METHODS, by program: pure functions and contracts -/
theorem dX9_measure_0 : decode cX9_measure 0 = .ok (.aload_n 0, 1) := by decide +kernel
theorem dX9_measure_1 : decode cX9_measure 1 = .ok (.getfield 9, 3) := by decide +kernel
theorem dX9_measure_4 : decode cX9_measure 4 = .ok (.iconst (-1), 1) := by decide +kernel
theorem dX9_measure_5 : decode cX9_measure 5 = .ok (.invokestatic 15, 3) := by decide +kernel
theorem dX9_measure_8 : decode cX9_measure 8 = .ok (.aload_n 0, 1) := by decide +kernel
theorem dX9_measure_9 : decode cX9_measure 9 = .ok (.getfield 9, 3) := by decide +kernel
theorem dX9_measure_12 : decode cX9_measure 12 = .ok (.iload_n 2, 1) := by decide +kernel
theorem dX9_measure_13 : decode cX9_measure 13 = .ok (.iconst 0, 1) := by decide +kernel
theorem dX9_measure_14 : decode cX9_measure 14 = .ok (.iastore, 1) := by decide +kernel
theorem dX9_measure_15 : decode cX9_measure 15 = .ok (.iconst 1, 1) := by decide +kernel
theorem dX9_measure_16 : decode cX9_measure 16 = .ok (.iload_n 2, 1) := by decide +kernel
theorem dX9_measure_17 : decode cX9_measure 17 = .ok (.ishl, 1) := by decide +kernel
theorem dX9_measure_18 : decode cX9_measure 18 = .ok (.istore_n 3, 1) := by decide +kernel
theorem dX9_measure_19 : decode cX9_measure 19 = .ok (.iconst 1, 1) := by decide +kernel
theorem dX9_measure_20 : decode cX9_measure 20 = .ok (.istore 4, 2) := by decide +kernel
theorem dX9_measure_22 : decode cX9_measure 22 = .ok (.iload 4, 2) := by decide +kernel
theorem dX9_measure_24 : decode cX9_measure 24 = .ok (.aload_n 1, 1) := by decide +kernel
theorem dX9_measure_25 : decode cX9_measure 25 = .ok (.getfield 21, 3) := by decide +kernel
theorem dX9_measure_28 : decode cX9_measure 28 = .ok (.if_icmp .ge 78, 3) := by decide +kernel
theorem dX9_measure_31 : decode cX9_measure 31 = .ok (.iload_n 3, 1) := by decide +kernel
theorem dX9_measure_32 : decode cX9_measure 32 = .ok (.ifCond .eq 74, 3) := by decide +kernel
theorem dX9_measure_35 : decode cX9_measure 35 = .ok (.iconst 0, 1) := by decide +kernel
theorem dX9_measure_36 : decode cX9_measure 36 = .ok (.istore 5, 2) := by decide +kernel
theorem dX9_measure_38 : decode cX9_measure 38 = .ok (.iconst 0, 1) := by decide +kernel
theorem dX9_measure_39 : decode cX9_measure 39 = .ok (.istore 6, 2) := by decide +kernel
theorem dX9_measure_41 : decode cX9_measure 41 = .ok (.iload 6, 2) := by decide +kernel
theorem dX9_measure_43 : decode cX9_measure 43 = .ok (.aload_n 1, 1) := by decide +kernel
theorem dX9_measure_44 : decode cX9_measure 44 = .ok (.getfield 21, 3) := by decide +kernel
theorem dX9_measure_47 : decode cX9_measure 47 = .ok (.if_icmp .ge 50, 3) := by decide +kernel
theorem dX9_measure_50 : decode cX9_measure 50 = .ok (.aload_n 0, 1) := by decide +kernel
theorem dX9_measure_51 : decode cX9_measure 51 = .ok (.getfield 9, 3) := by decide +kernel
theorem dX9_measure_54 : decode cX9_measure 54 = .ok (.iload 6, 2) := by decide +kernel
theorem dX9_measure_56 : decode cX9_measure 56 = .ok (.iaload, 1) := by decide +kernel
theorem dX9_measure_57 : decode cX9_measure 57 = .ok (.iconst (-1), 1) := by decide +kernel
theorem dX9_measure_58 : decode cX9_measure 58 = .ok (.if_icmp .ne 33, 3) := by decide +kernel
theorem dX9_measure_61 : decode cX9_measure 61 = .ok (.aload_n 1, 1) := by decide +kernel
theorem dX9_measure_62 : decode cX9_measure 62 = .ok (.getfield 27, 3) := by decide +kernel
theorem dX9_measure_65 : decode cX9_measure 65 = .ok (.iload 6, 2) := by decide +kernel
theorem dX9_measure_67 : decode cX9_measure 67 = .ok (.iaload, 1) := by decide +kernel
theorem dX9_measure_68 : decode cX9_measure 68 = .ok (.iload_n 3, 1) := by decide +kernel
theorem dX9_measure_69 : decode cX9_measure 69 = .ok (.iand, 1) := by decide +kernel
theorem dX9_measure_70 : decode cX9_measure 70 = .ok (.ifCond .eq 21, 3) := by decide +kernel
theorem dX9_measure_73 : decode cX9_measure 73 = .ok (.aload_n 0, 1) := by decide +kernel
theorem dX9_measure_74 : decode cX9_measure 74 = .ok (.getfield 9, 3) := by decide +kernel
theorem dX9_measure_77 : decode cX9_measure 77 = .ok (.iload 6, 2) := by decide +kernel
theorem dX9_measure_79 : decode cX9_measure 79 = .ok (.iload 4, 2) := by decide +kernel
theorem dX9_measure_81 : decode cX9_measure 81 = .ok (.iastore, 1) := by decide +kernel
theorem dX9_measure_82 : decode cX9_measure 82 = .ok (.iload 5, 2) := by decide +kernel
theorem dX9_measure_84 : decode cX9_measure 84 = .ok (.iconst 1, 1) := by decide +kernel
theorem dX9_measure_85 : decode cX9_measure 85 = .ok (.iload 6, 2) := by decide +kernel
theorem dX9_measure_87 : decode cX9_measure 87 = .ok (.ishl, 1) := by decide +kernel
theorem dX9_measure_88 : decode cX9_measure 88 = .ok (.ior, 1) := by decide +kernel
theorem dX9_measure_89 : decode cX9_measure 89 = .ok (.istore 5, 2) := by decide +kernel
theorem dX9_measure_91 : decode cX9_measure 91 = .ok (.iinc 6 1, 3) := by decide +kernel
theorem dX9_measure_94 : decode cX9_measure 94 = .ok (.goto (-53), 3) := by decide +kernel
theorem dX9_measure_97 : decode cX9_measure 97 = .ok (.iload 5, 2) := by decide +kernel
theorem dX9_measure_99 : decode cX9_measure 99 = .ok (.istore_n 3, 1) := by decide +kernel
theorem dX9_measure_100 : decode cX9_measure 100 = .ok (.iinc 4 1, 3) := by decide +kernel
theorem dX9_measure_103 : decode cX9_measure 103 = .ok (.goto (-81), 3) := by decide +kernel
theorem dX9_measure_106 : decode cX9_measure 106 = .ok (.return_, 1) := by decide +kernel
abbrev rX9_measure : Room := { frames := 1, cells := 0, slots := 0, locals := 23 }
abbrev mX9_measure : gY := (cX9_measure, RX9, 7, rX9_measure)
def fX9_measure_b91 (t1 : Nat) (x3 : Int32) (x4 : Int32) (x5 : Int32) (x6 : Int32) (M0 : gMem) : Option ((Int32 × Int32 × gMem) ⊕ (Int32 × gMem)) :=
  some (.inl (x5, x6 + (1 : Int32), M0))
set_option maxRecDepth 20000 in
theorem tX9_measure_b91 {X : gX} {V : gEnv} {t1 : Nat} {x3 : Int32} {x4 : Int32} {x5 : Int32} {x6 : Int32} {M0 : gMem} (ht1 : gNet gShC t1) {o : ((Int32 × Int32 × gMem) ⊕ (Int32 × gMem))} (h : fX9_measure_b91 t1 x3 x4 x5 x6 M0 = some o) (Kc : ∀ s9, o = .inl s9 → gG X V mX9_measure gShC s9.2.2 0 0 41 [(0, .ref (gAd V 55)), (1, .ref (gAd V t1)), (3, .int x3), (4, .int x4), (5, .int s9.1), (6, .int s9.2.1)] []) (Kx : ∀ e9, o = .inr e9 → gG X V mX9_measure gShC e9.2 0 0 97 [(0, .ref (gAd V 55)), (1, .ref (gAd V t1)), (4, .int x4), (5, .int e9.1)] []) : gG X V mX9_measure gShC M0 0 0 91 [(0, .ref (gAd V 55)), (1, .ref (gAd V t1)), (3, .int x3), (4, .int x4), (5, .int x5), (6, .int x6)] [] := by
  unfold fX9_measure_b91 at h
  refine g_iinc (j := 5) (v := x6 + (1 : Int32)) (ls' := [(6, .int (x6 + (1 : Int32))), (0, .ref (gAd V 55)), (1, .ref (gAd V t1)), (3, .int x3), (4, .int x4), (5, .int x5)]) rfl rfl (Nat.le_of_ble_eq_true rfl) rfl dX9_measure_91 ?_
  refine g_goto (tgt := 41) rfl dX9_measure_94 ?_
  cases h
  refine g_sub [1, 2, 3, 4, 5, 0] rfl ?_
  exact Kc (x5, x6 + (1 : Int32), M0) rfl
def fX9_measure_l41 (t1 : Nat) (x3 : Int32) (x4 : Int32) (x5 : Int32) (x6 : Int32) (M0 : gMem) : Option ((Int32 × Int32 × gMem) ⊕ (Int32 × gMem)) :=
  if (M0.1 t1 9) ≤ x6 then (some (.inr (x5, M0))) else (rI M0 56 24 x6).bind fun v7 => if v7 = (-1 : Int32) then ((rI M0 (t1 + 5) 24 x6).bind fun v9 => if (v9 &&& x3) = 0 then (fX9_measure_b91 t1 x3 x4 x5 x6 M0) else (wI M0 56 24 x6 x4).bind fun M11 => (nm (x5 ||| ((1 : Int32) <<< (x6 &&& 31)))).bind fun v12 => fX9_measure_b91 t1 x3 x4 v12 x6 M11) else fX9_measure_b91 t1 x3 x4 x5 x6 M0
set_option maxRecDepth 20000 in
theorem tX9_measure_l41 {X : gX} {V : gEnv} {t1 : Nat} {x3 : Int32} {x4 : Int32} {x5 : Int32} {x6 : Int32} {M0 : gMem} (ht1 : gNet gShC t1) {o : ((Int32 × Int32 × gMem) ⊕ (Int32 × gMem))} (h : fX9_measure_l41 t1 x3 x4 x5 x6 M0 = some o) (Kc : ∀ s9, o = .inl s9 → gG X V mX9_measure gShC s9.2.2 0 0 41 [(0, .ref (gAd V 55)), (1, .ref (gAd V t1)), (3, .int x3), (4, .int x4), (5, .int s9.1), (6, .int s9.2.1)] []) (Kx : ∀ e9, o = .inr e9 → gG X V mX9_measure gShC e9.2 0 0 97 [(0, .ref (gAd V 55)), (1, .ref (gAd V t1)), (4, .int x4), (5, .int e9.1)] []) : gG X V mX9_measure gShC M0 0 0 41 [(0, .ref (gAd V 55)), (1, .ref (gAd V t1)), (3, .int x3), (4, .int x4), (5, .int x5), (6, .int x6)] [] := by
  unfold fX9_measure_l41 at h
  refine g_iload 5 rfl dX9_measure_41 ?_
  refine g_aload_n 1 rfl rfl dX9_measure_43 ?_
  refine g_getI FX9_21 ht1.1 rfl dX9_measure_44 ?_
  rcases g_ite h with ⟨c6, h⟩ | ⟨c6, h⟩
  · refine g_icmp_ge_t c6 (tgt := 97) rfl dX9_measure_47 ?_
    cases h
    refine g_sub [0, 1, 3, 4] rfl ?_
    exact Kx (x5, M0) rfl
  · refine g_icmp_ge_f c6 (tgt := 97) rfl dX9_measure_47 ?_
    refine g_aload_n 0 rfl rfl dX9_measure_50 ?_
    refine g_getR FX9_9 sC_55 rfl dX9_measure_51 ?_
    refine g_iload 5 rfl dX9_measure_54 ?_
    obtain ⟨v7, ev7, h⟩ := g_bnd h
    refine g_iald' ev7 sC_56 dX9_measure_56 ?_
    refine g_iconst (v := -1) rfl dX9_measure_57 ?_
    rcases g_ite h with ⟨c8, h⟩ | ⟨c8, h⟩
    · refine g_icmp_ne_f c8 (tgt := 91) rfl dX9_measure_58 ?_
      refine g_aload_n 1 rfl rfl dX9_measure_61 ?_
      refine g_getR FX9_27 ht1.1 rfl dX9_measure_62 ?_
      refine g_iload 5 rfl dX9_measure_65 ?_
      obtain ⟨v9, ev9, h⟩ := g_bnd h
      refine g_iald' ev9 ht1.2.2.2.2.2.1 dX9_measure_67 ?_
      refine g_iload_n 2 rfl rfl dX9_measure_68 ?_
      refine g_iand dX9_measure_69 ?_
      rcases g_ite h with ⟨c10, h⟩ | ⟨c10, h⟩
      · refine g_if_eq_t c10 (tgt := 91) rfl dX9_measure_70 ?_
        exact tX9_measure_b91 ht1 h Kc Kx
      · refine g_if_eq_f c10 (tgt := 91) rfl dX9_measure_70 ?_
        refine g_aload_n 0 rfl rfl dX9_measure_73 ?_
        refine g_getR FX9_9 sC_55 rfl dX9_measure_74 ?_
        refine g_iload 5 rfl dX9_measure_77 ?_
        refine g_iload 3 rfl dX9_measure_79 ?_
        obtain ⟨M11, eM11, h⟩ := g_bnd h
        refine g_iast' eM11 sC_56 dX9_measure_81 ?_
        refine g_iload 4 rfl dX9_measure_82 ?_
        refine g_iconst (v := 1) rfl dX9_measure_84 ?_
        refine g_iload 5 rfl dX9_measure_85 ?_
        refine g_ishl dX9_measure_87 ?_
        refine g_ior dX9_measure_88 ?_
        obtain ⟨v12, ev12, h⟩ := g_bnd h
        refine g_nmI ev12 ?_
        refine g_istore (ls' := [(5, .int v12), (0, .ref (gAd V 55)), (1, .ref (gAd V t1)), (3, .int x3), (4, .int x4), (6, .int x6)]) (Nat.le_of_ble_eq_true rfl) rfl dX9_measure_89 ?_
        refine g_sub [1, 2, 3, 4, 0, 5] rfl ?_
        exact tX9_measure_b91 ht1 h Kc Kx
    · refine g_icmp_ne_t c8 (tgt := 91) rfl dX9_measure_58 ?_
      exact tX9_measure_b91 ht1 h Kc Kx
def fX9_measure_l22 (t1 : Nat) (x3 : Int32) (x4 : Int32) (M0 : gMem) : Option ((Int32 × Int32 × gMem) ⊕ gMem) :=
  if (M0.1 t1 9) ≤ x4 then (some (.inr M0)) else if x3 = 0 then (some (.inr M0)) else (gLoop (fun z9 => fX9_measure_l41 t1 x3 x4 z9.1 z9.2.1 z9.2.2) gFu ((0 : Int32), (0 : Int32), M0)).bind fun w13 => some (.inl (w13.1, x4 + (1 : Int32), w13.2))
set_option maxRecDepth 20000 in
theorem tX9_measure_l22 {X : gX} {V : gEnv} {t1 : Nat} {x3 : Int32} {x4 : Int32} {M0 : gMem} (ht1 : gNet gShC t1) {o : ((Int32 × Int32 × gMem) ⊕ gMem)} (h : fX9_measure_l22 t1 x3 x4 M0 = some o) (Kc : ∀ s9, o = .inl s9 → gG X V mX9_measure gShC s9.2.2 0 0 22 [(0, .ref (gAd V 55)), (1, .ref (gAd V t1)), (3, .int s9.1), (4, .int s9.2.1)] []) (Kx : ∀ e9, o = .inr e9 → gG X V mX9_measure gShC e9 0 0 106 [] []) : gG X V mX9_measure gShC M0 0 0 22 [(0, .ref (gAd V 55)), (1, .ref (gAd V t1)), (3, .int x3), (4, .int x4)] [] := by
  unfold fX9_measure_l22 at h
  refine g_iload 3 rfl dX9_measure_22 ?_
  refine g_aload_n 1 rfl rfl dX9_measure_24 ?_
  refine g_getI FX9_21 ht1.1 rfl dX9_measure_25 ?_
  rcases g_ite h with ⟨c4, h⟩ | ⟨c4, h⟩
  · refine g_icmp_ge_t c4 (tgt := 106) rfl dX9_measure_28 ?_
    cases h
    refine g_sub [] rfl ?_
    exact Kx M0 rfl
  · refine g_icmp_ge_f c4 (tgt := 106) rfl dX9_measure_28 ?_
    refine g_iload_n 2 rfl rfl dX9_measure_31 ?_
    rcases g_ite h with ⟨c5, h⟩ | ⟨c5, h⟩
    · refine g_if_eq_t c5 (tgt := 106) rfl dX9_measure_32 ?_
      cases h
      refine g_sub [] rfl ?_
      exact Kx M0 rfl
    · refine g_if_eq_f c5 (tgt := 106) rfl dX9_measure_32 ?_
      refine g_iconst (v := 0) rfl dX9_measure_35 ?_
      refine g_istore (ls' := [(5, .int (0 : Int32)), (0, .ref (gAd V 55)), (1, .ref (gAd V t1)), (3, .int x3), (4, .int x4)]) (Nat.le_of_ble_eq_true rfl) rfl dX9_measure_36 ?_
      refine g_iconst (v := 0) rfl dX9_measure_38 ?_
      refine g_istore (ls' := [(6, .int (0 : Int32)), (5, .int (0 : Int32)), (0, .ref (gAd V 55)), (1, .ref (gAd V t1)), (3, .int x3), (4, .int x4)]) (Nat.le_of_ble_eq_true rfl) rfl dX9_measure_39 ?_
      obtain ⟨w13, ew13, h⟩ := g_bnd h
      refine g_sub [2, 3, 4, 5, 1, 0] rfl ?_
      have KX : gG X V mX9_measure gShC w13.2 0 0 97 [(0, .ref (gAd V 55)), (1, .ref (gAd V t1)), (4, .int x4), (5, .int w13.1)] [] := by
        refine g_iload 3 rfl dX9_measure_97 ?_
        refine g_istore_n (ls' := [(3, .int w13.1), (0, .ref (gAd V 55)), (1, .ref (gAd V t1)), (4, .int x4), (5, .int w13.1)]) rfl (Nat.le_of_ble_eq_true rfl) rfl dX9_measure_99 ?_
        refine g_iinc (j := 3) (v := x4 + (1 : Int32)) (ls' := [(4, .int (x4 + (1 : Int32))), (3, .int w13.1), (0, .ref (gAd V 55)), (1, .ref (gAd V t1)), (5, .int w13.1)]) rfl rfl (Nat.le_of_ble_eq_true rfl) rfl dX9_measure_100 ?_
        refine g_goto (tgt := 22) rfl dX9_measure_103 ?_
        cases h
        refine g_sub [2, 3, 1, 0] rfl ?_
        exact Kc (w13.1, x4 + (1 : Int32), w13.2) rfl
      exact gLoop_Q ew13 (fun z9 => gG X V mX9_measure gShC z9.2.2 0 0 41 [(0, .ref (gAd V 55)), (1, .ref (gAd V t1)), (3, .int x3), (4, .int x4), (5, .int z9.1), (6, .int z9.2.1)] []) (fun s9 o9 hb9 hc9 hx9 => tX9_measure_l41 ht1 hb9 hc9 (fun e9 he9 => by cases hx9 _ he9; exact KX))
def fX9_measure (t1 : Nat) (x2 : Int32) (M0 : gMem) : Option gMem :=
  (fJ7_fill_53178 56 24 (-1 : Int32) M0).bind fun v1 => (wI v1 56 24 x2 (0 : Int32)).bind fun M2 => (nm ((1 : Int32) <<< (x2 &&& 31))).bind fun v3 => (gLoop (fun z9 => fX9_measure_l22 t1 z9.1 z9.2.1 z9.2.2) gFu (v3, (1 : Int32), M2)).bind fun w14 => some w14
set_option maxRecDepth 20000 in
theorem tX9_measure {X : gX} {V : gEnv} {t1 : Nat} {x2 : Int32} {M0 : gMem} (ht1 : gNet gShC t1) {o : gMem} (h : fX9_measure t1 x2 M0 = some o) (O : gO X V mX9_measure gShC none none o) : gG X V mX9_measure gShC M0 0 0 0 [(0, .ref (gAd V 55)), (1, .ref (gAd V t1)), (2, .int x2)] [] := by
  unfold fX9_measure at h
  refine g_aload_n 0 rfl rfl dX9_measure_0 ?_
  refine g_getR FX9_9 sC_55 rfl dX9_measure_1 ?_
  refine g_iconst (v := -1) rfl dX9_measure_4 ?_
  obtain ⟨v1, ev1, h⟩ := g_bnd h
  refine g_callS LX9_15 (kJ7_fill_53178 sC_56 ev1) rfl rfl (Nat.le_of_ble_eq_true rfl) ⟨Nat.le_of_ble_eq_true rfl, Nat.le_of_ble_eq_true rfl⟩ ⟨Nat.le_of_ble_eq_true rfl, Nat.le_of_ble_eq_true rfl⟩ dX9_measure_5 rfl ?_
  refine g_aload_n 0 rfl rfl dX9_measure_8 ?_
  refine g_getR FX9_9 sC_55 rfl dX9_measure_9 ?_
  refine g_iload_n 2 rfl rfl dX9_measure_12 ?_
  refine g_iconst (v := 0) rfl dX9_measure_13 ?_
  obtain ⟨M2, eM2, h⟩ := g_bnd h
  refine g_iast' eM2 sC_56 dX9_measure_14 ?_
  refine g_iconst (v := 1) rfl dX9_measure_15 ?_
  refine g_iload_n 2 rfl rfl dX9_measure_16 ?_
  refine g_ishl dX9_measure_17 ?_
  obtain ⟨v3, ev3, h⟩ := g_bnd h
  refine g_nmI ev3 ?_
  refine g_istore_n (ls' := [(3, .int v3), (0, .ref (gAd V 55)), (1, .ref (gAd V t1)), (2, .int x2)]) rfl (Nat.le_of_ble_eq_true rfl) rfl dX9_measure_18 ?_
  refine g_iconst (v := 1) rfl dX9_measure_19 ?_
  refine g_istore (ls' := [(4, .int (1 : Int32)), (3, .int v3), (0, .ref (gAd V 55)), (1, .ref (gAd V t1)), (2, .int x2)]) (Nat.le_of_ble_eq_true rfl) rfl dX9_measure_20 ?_
  obtain ⟨w14, ew14, h⟩ := g_bnd h
  refine g_sub [2, 3, 1, 0] rfl ?_
  have KX : gG X V mX9_measure gShC w14 0 0 106 [] [] := by
    cases h
    exact g_vret O ⟨Nat.le_of_ble_eq_true rfl, Nat.le_of_ble_eq_true rfl⟩ dX9_measure_106
  exact gLoop_Q ew14 (fun z9 => gG X V mX9_measure gShC z9.2.2 0 0 22 [(0, .ref (gAd V 55)), (1, .ref (gAd V t1)), (3, .int z9.1), (4, .int z9.2.1)] []) (fun s9 o9 hb9 hc9 hx9 => tX9_measure_l22 ht1 hb9 hc9 (fun e9 he9 => by cases hx9 _ he9; exact KX))
theorem kX9_measure {l : Launch} {V : gEnv} {M0 : gMem} {t1 : Nat} {x2 : Int32} (ht1 : gNet gShC t1) {o : gMem} (h : fX9_measure t1 x2 M0 = some o) : gM l yX9_measure cX9_measure 7 none rX9_measure V gShC [.ref (gAd V 55), .ref (gAd V t1), .int x2] M0 none o :=
  gM.of (by decide) (Nat.le_of_ble_eq_true rfl) rfl (fun X _ O => tX9_measure ht1 h O)
theorem dX9_stepFrom_0 : decode cX9_stepFrom 0 = .ok (.iconst 0, 1) := by decide +kernel
theorem dX9_stepFrom_1 : decode cX9_stepFrom 1 = .ok (.istore_n 3, 1) := by decide +kernel
theorem dX9_stepFrom_2 : decode cX9_stepFrom 2 = .ok (.iload_n 3, 1) := by decide +kernel
theorem dX9_stepFrom_3 : decode cX9_stepFrom 3 = .ok (.aload_n 1, 1) := by decide +kernel
theorem dX9_stepFrom_4 : decode cX9_stepFrom 4 = .ok (.getfield 21, 3) := by decide +kernel
theorem dX9_stepFrom_7 : decode cX9_stepFrom 7 = .ok (.if_icmp .ge 51, 3) := by decide +kernel
theorem dX9_stepFrom_10 : decode cX9_stepFrom 10 = .ok (.aload_n 1, 1) := by decide +kernel
theorem dX9_stepFrom_11 : decode cX9_stepFrom 11 = .ok (.getfield 27, 3) := by decide +kernel
theorem dX9_stepFrom_14 : decode cX9_stepFrom 14 = .ok (.iload_n 2, 1) := by decide +kernel
theorem dX9_stepFrom_15 : decode cX9_stepFrom 15 = .ok (.iaload, 1) := by decide +kernel
theorem dX9_stepFrom_16 : decode cX9_stepFrom 16 = .ok (.iload_n 3, 1) := by decide +kernel
theorem dX9_stepFrom_17 : decode cX9_stepFrom 17 = .ok (.invokestatic 30, 3) := by decide +kernel
theorem dX9_stepFrom_20 : decode cX9_stepFrom 20 = .ok (.ifCond .eq 32, 3) := by decide +kernel
theorem dX9_stepFrom_23 : decode cX9_stepFrom 23 = .ok (.aload_n 0, 1) := by decide +kernel
theorem dX9_stepFrom_24 : decode cX9_stepFrom 24 = .ok (.getfield 9, 3) := by decide +kernel
theorem dX9_stepFrom_27 : decode cX9_stepFrom 27 = .ok (.iload_n 3, 1) := by decide +kernel
theorem dX9_stepFrom_28 : decode cX9_stepFrom 28 = .ok (.iaload, 1) := by decide +kernel
theorem dX9_stepFrom_29 : decode cX9_stepFrom 29 = .ok (.iconst (-1), 1) := by decide +kernel
theorem dX9_stepFrom_30 : decode cX9_stepFrom 30 = .ok (.if_icmp .eq 22, 3) := by decide +kernel
theorem dX9_stepFrom_33 : decode cX9_stepFrom 33 = .ok (.aload_n 0, 1) := by decide +kernel
theorem dX9_stepFrom_34 : decode cX9_stepFrom 34 = .ok (.getfield 9, 3) := by decide +kernel
theorem dX9_stepFrom_37 : decode cX9_stepFrom 37 = .ok (.iload_n 3, 1) := by decide +kernel
theorem dX9_stepFrom_38 : decode cX9_stepFrom 38 = .ok (.iaload, 1) := by decide +kernel
theorem dX9_stepFrom_39 : decode cX9_stepFrom 39 = .ok (.aload_n 0, 1) := by decide +kernel
theorem dX9_stepFrom_40 : decode cX9_stepFrom 40 = .ok (.getfield 9, 3) := by decide +kernel
theorem dX9_stepFrom_43 : decode cX9_stepFrom 43 = .ok (.iload_n 2, 1) := by decide +kernel
theorem dX9_stepFrom_44 : decode cX9_stepFrom 44 = .ok (.iaload, 1) := by decide +kernel
theorem dX9_stepFrom_45 : decode cX9_stepFrom 45 = .ok (.iconst 1, 1) := by decide +kernel
theorem dX9_stepFrom_46 : decode cX9_stepFrom 46 = .ok (.isub, 1) := by decide +kernel
theorem dX9_stepFrom_47 : decode cX9_stepFrom 47 = .ok (.if_icmp .ne 5, 3) := by decide +kernel
theorem dX9_stepFrom_50 : decode cX9_stepFrom 50 = .ok (.iload_n 3, 1) := by decide +kernel
theorem dX9_stepFrom_51 : decode cX9_stepFrom 51 = .ok (.ireturn, 1) := by decide +kernel
theorem dX9_stepFrom_52 : decode cX9_stepFrom 52 = .ok (.iinc 3 1, 3) := by decide +kernel
theorem dX9_stepFrom_55 : decode cX9_stepFrom 55 = .ok (.goto (-53), 3) := by decide +kernel
theorem dX9_stepFrom_58 : decode cX9_stepFrom 58 = .ok (.iconst (-1), 1) := by decide +kernel
theorem dX9_stepFrom_59 : decode cX9_stepFrom 59 = .ok (.ireturn, 1) := by decide +kernel
abbrev rX9_stepFrom : Room := { frames := 1, cells := 0, slots := 0, locals := 21 }
abbrev mX9_stepFrom : gY := (cX9_stepFrom, RX9, 4, rX9_stepFrom)
def fX9_stepFrom_b52 (t1 : Nat) (x2 : Int32) (x3 : Int32) (M0 : gMem) : Option (Int32 ⊕ (Unit ⊕ Int32)) :=
  some (.inl (x3 + (1 : Int32)))
set_option maxRecDepth 20000 in
theorem tX9_stepFrom_b52 {X : gX} {V : gEnv} {t1 : Nat} {x2 : Int32} {x3 : Int32} {M0 : gMem} (ht1 : gNet gShC t1) {o : (Int32 ⊕ (Unit ⊕ Int32))} (h : fX9_stepFrom_b52 t1 x2 x3 M0 = some o) (Kc : ∀ s9, o = .inl s9 → gG X V mX9_stepFrom gShC M0 0 0 2 [(0, .ref (gAd V 55)), (1, .ref (gAd V t1)), (2, .int x2), (3, .int s9)] []) (Kx : ∀ e9, o = .inr (.inl e9) → gG X V mX9_stepFrom gShC M0 0 0 58 [] []) (Kr : ∀ r9, o = .inr (.inr r9) → gO X V mX9_stepFrom gShC (some .int) (some (.int r9)) M0) : gG X V mX9_stepFrom gShC M0 0 0 52 [(0, .ref (gAd V 55)), (1, .ref (gAd V t1)), (2, .int x2), (3, .int x3)] [] := by
  unfold fX9_stepFrom_b52 at h
  refine g_iinc (j := 3) (v := x3 + (1 : Int32)) (ls' := [(3, .int (x3 + (1 : Int32))), (0, .ref (gAd V 55)), (1, .ref (gAd V t1)), (2, .int x2)]) rfl rfl (Nat.le_of_ble_eq_true rfl) rfl dX9_stepFrom_52 ?_
  refine g_goto (tgt := 2) rfl dX9_stepFrom_55 ?_
  cases h
  refine g_sub [1, 2, 3, 0] rfl ?_
  exact Kc (x3 + (1 : Int32)) rfl
def fX9_stepFrom_l2 (t1 : Nat) (x2 : Int32) (M0 : gMem) (x3 : Int32) : Option (Int32 ⊕ (Unit ⊕ Int32)) :=
  if (M0.1 t1 9) ≤ x3 then (some (.inr (.inl ()))) else (rI M0 (t1 + 5) 24 x2).bind fun v2 => (fX10_has v2 x3).bind fun v3 => if v3 = 0 then (fX9_stepFrom_b52 t1 x2 x3 M0) else (rI M0 56 24 x3).bind fun v5 => if v5 = (-1 : Int32) then (fX9_stepFrom_b52 t1 x2 x3 M0) else (rI M0 56 24 x3).bind fun v7 => (rI M0 56 24 x2).bind fun v8 => if v7 = (v8 - (1 : Int32)) then (some (.inr (.inr x3))) else fX9_stepFrom_b52 t1 x2 x3 M0
set_option maxRecDepth 20000 in
theorem tX9_stepFrom_l2 {X : gX} {V : gEnv} {t1 : Nat} {x2 : Int32} {M0 : gMem} {x3 : Int32} (ht1 : gNet gShC t1) {o : (Int32 ⊕ (Unit ⊕ Int32))} (h : fX9_stepFrom_l2 t1 x2 M0 x3 = some o) (Kc : ∀ s9, o = .inl s9 → gG X V mX9_stepFrom gShC M0 0 0 2 [(0, .ref (gAd V 55)), (1, .ref (gAd V t1)), (2, .int x2), (3, .int s9)] []) (Kx : ∀ e9, o = .inr (.inl e9) → gG X V mX9_stepFrom gShC M0 0 0 58 [] []) (Kr : ∀ r9, o = .inr (.inr r9) → gO X V mX9_stepFrom gShC (some .int) (some (.int r9)) M0) : gG X V mX9_stepFrom gShC M0 0 0 2 [(0, .ref (gAd V 55)), (1, .ref (gAd V t1)), (2, .int x2), (3, .int x3)] [] := by
  unfold fX9_stepFrom_l2 at h
  refine g_iload_n 3 rfl rfl dX9_stepFrom_2 ?_
  refine g_aload_n 1 rfl rfl dX9_stepFrom_3 ?_
  refine g_getI FX9_21 ht1.1 rfl dX9_stepFrom_4 ?_
  rcases g_ite h with ⟨c1, h⟩ | ⟨c1, h⟩
  · refine g_icmp_ge_t c1 (tgt := 58) rfl dX9_stepFrom_7 ?_
    cases h
    refine g_sub [] rfl ?_
    exact Kx () rfl
  · refine g_icmp_ge_f c1 (tgt := 58) rfl dX9_stepFrom_7 ?_
    refine g_aload_n 1 rfl rfl dX9_stepFrom_10 ?_
    refine g_getR FX9_27 ht1.1 rfl dX9_stepFrom_11 ?_
    refine g_iload_n 2 rfl rfl dX9_stepFrom_14 ?_
    obtain ⟨v2, ev2, h⟩ := g_bnd h
    refine g_iald' ev2 ht1.2.2.2.2.2.1 dX9_stepFrom_15 ?_
    refine g_iload_n 3 rfl rfl dX9_stepFrom_16 ?_
    obtain ⟨v3, ev3, h⟩ := g_bnd h
    refine g_callN LX9_30 (kX10_has ev3) rfl rfl (Nat.le_of_ble_eq_true rfl) ⟨Nat.le_of_ble_eq_true rfl, Nat.le_of_ble_eq_true rfl⟩ ⟨Nat.le_of_ble_eq_true rfl, Nat.le_of_ble_eq_true rfl⟩ dX9_stepFrom_17 rfl ?_
    rcases g_ite h with ⟨c4, h⟩ | ⟨c4, h⟩
    · refine g_if_eq_t c4 (tgt := 52) rfl dX9_stepFrom_20 ?_
      exact tX9_stepFrom_b52 ht1 h Kc Kx Kr
    · refine g_if_eq_f c4 (tgt := 52) rfl dX9_stepFrom_20 ?_
      refine g_aload_n 0 rfl rfl dX9_stepFrom_23 ?_
      refine g_getR FX9_9 sC_55 rfl dX9_stepFrom_24 ?_
      refine g_iload_n 3 rfl rfl dX9_stepFrom_27 ?_
      obtain ⟨v5, ev5, h⟩ := g_bnd h
      refine g_iald' ev5 sC_56 dX9_stepFrom_28 ?_
      refine g_iconst (v := -1) rfl dX9_stepFrom_29 ?_
      rcases g_ite h with ⟨c6, h⟩ | ⟨c6, h⟩
      · refine g_icmp_eq_t c6 (tgt := 52) rfl dX9_stepFrom_30 ?_
        exact tX9_stepFrom_b52 ht1 h Kc Kx Kr
      · refine g_icmp_eq_f c6 (tgt := 52) rfl dX9_stepFrom_30 ?_
        refine g_aload_n 0 rfl rfl dX9_stepFrom_33 ?_
        refine g_getR FX9_9 sC_55 rfl dX9_stepFrom_34 ?_
        refine g_iload_n 3 rfl rfl dX9_stepFrom_37 ?_
        obtain ⟨v7, ev7, h⟩ := g_bnd h
        refine g_iald' ev7 sC_56 dX9_stepFrom_38 ?_
        refine g_aload_n 0 rfl rfl dX9_stepFrom_39 ?_
        refine g_getR FX9_9 sC_55 rfl dX9_stepFrom_40 ?_
        refine g_iload_n 2 rfl rfl dX9_stepFrom_43 ?_
        obtain ⟨v8, ev8, h⟩ := g_bnd h
        refine g_iald' ev8 sC_56 dX9_stepFrom_44 ?_
        refine g_iconst (v := 1) rfl dX9_stepFrom_45 ?_
        refine g_isub dX9_stepFrom_46 ?_
        rcases g_ite h with ⟨c9, h⟩ | ⟨c9, h⟩
        · refine g_icmp_ne_f c9 (tgt := 52) rfl dX9_stepFrom_47 ?_
          refine g_iload_n 3 rfl rfl dX9_stepFrom_50 ?_
          cases h
          exact g_iret (Kr x3 rfl) ⟨Nat.le_of_ble_eq_true rfl, Nat.le_of_ble_eq_true rfl⟩ rfl dX9_stepFrom_51
        · refine g_icmp_ne_t c9 (tgt := 52) rfl dX9_stepFrom_47 ?_
          exact tX9_stepFrom_b52 ht1 h Kc Kx Kr
def fX9_stepFrom (t1 : Nat) (x2 : Int32) (M0 : gMem) : Option Int32 :=
  (gLoop (fun z9 => fX9_stepFrom_l2 t1 x2 M0 z9) gFu (0 : Int32)).bind fun w10 => gSE w10 (fun y11 => some (-1 : Int32)) (fun r12 => some r12)
set_option maxRecDepth 20000 in
theorem tX9_stepFrom {X : gX} {V : gEnv} {t1 : Nat} {x2 : Int32} {M0 : gMem} (ht1 : gNet gShC t1) {o : Int32} (h : fX9_stepFrom t1 x2 M0 = some o) (O : gO X V mX9_stepFrom gShC (some .int) (some (.int o)) M0) : gG X V mX9_stepFrom gShC M0 0 0 0 [(0, .ref (gAd V 55)), (1, .ref (gAd V t1)), (2, .int x2)] [] := by
  unfold fX9_stepFrom at h
  refine g_iconst (v := 0) rfl dX9_stepFrom_0 ?_
  refine g_istore_n (ls' := [(3, .int (0 : Int32)), (0, .ref (gAd V 55)), (1, .ref (gAd V t1)), (2, .int x2)]) rfl (Nat.le_of_ble_eq_true rfl) rfl dX9_stepFrom_1 ?_
  obtain ⟨w10, ew10, h⟩ := g_bnd h
  refine g_sub [1, 2, 3, 0] rfl ?_
  rcases w10 with y11 | r12
  · have h := g_sl h
    have KX : gG X V mX9_stepFrom gShC M0 0 0 58 [] [] := by
      refine g_iconst (v := -1) rfl dX9_stepFrom_58 ?_
      cases h
      exact g_iret O ⟨Nat.le_of_ble_eq_true rfl, Nat.le_of_ble_eq_true rfl⟩ rfl dX9_stepFrom_59
    exact gLoop_Q ew10 (fun z9 => gG X V mX9_stepFrom gShC M0 0 0 2 [(0, .ref (gAd V 55)), (1, .ref (gAd V t1)), (2, .int x2), (3, .int z9)] []) (fun s9 o9 hb9 hc9 hx9 => tX9_stepFrom_l2 ht1 hb9 hc9 (fun e9 he9 => by cases hx9 _ he9; exact KX) (fun r9 he9 => by cases hx9 _ he9))
  · have h := g_sr h
    cases h
    exact gLoop_Q ew10 (fun z9 => gG X V mX9_stepFrom gShC M0 0 0 2 [(0, .ref (gAd V 55)), (1, .ref (gAd V t1)), (2, .int x2), (3, .int z9)] []) (fun s9 o9 hb9 hc9 hx9 => tX9_stepFrom_l2 ht1 hb9 hc9 (fun e9 he9 => by cases hx9 _ he9) (fun r9 he9 => by cases hx9 _ he9; exact O))
theorem kX9_stepFrom {l : Launch} {V : gEnv} {M0 : gMem} {t1 : Nat} {x2 : Int32} (ht1 : gNet gShC t1) {o : Int32} (h : fX9_stepFrom t1 x2 M0 = some o) : gM l yX9_stepFrom cX9_stepFrom 4 (some .int) rX9_stepFrom V gShC [.ref (gAd V 55), .ref (gAd V t1), .int x2] M0 (some (.int o)) M0 :=
  gM.of (by decide) (Nat.le_of_ble_eq_true rfl) rfl (fun X _ O => tX9_stepFrom ht1 h O)
theorem dX10_append_0 : decode cX10_append 0 = .ok (.aload_n 0, 1) := by decide +kernel
theorem dX10_append_1 : decode cX10_append 1 = .ok (.getfield 37, 3) := by decide +kernel
theorem dX10_append_4 : decode cX10_append 4 = .ok (.getfield 96, 3) := by decide +kernel
theorem dX10_append_7 : decode cX10_append 7 = .ok (.sipush 880, 3) := by decide +kernel
theorem dX10_append_10 : decode cX10_append 10 = .ok (.if_icmp .le 13, 3) := by decide +kernel
theorem dX10_append_13 : decode cX10_append 13 = .ok (.new 99, 3) := by decide +kernel
theorem dX10_append_16 : decode cX10_append 16 = .ok (.dup, 1) := by decide +kernel
theorem dX10_append_17 : decode cX10_append 17 = .ok (.ldc 101, 2) := by decide +kernel
theorem dX10_append_19 : decode cX10_append 19 = .ok (.invokespecial 103, 3) := by decide +kernel
theorem dX10_append_22 : decode cX10_append 22 = .ok (.athrow, 1) := by decide +kernel
theorem dX10_append_23 : decode cX10_append 23 = .ok (.aload_n 0, 1) := by decide +kernel
theorem dX10_append_24 : decode cX10_append 24 = .ok (.getfield 37, 3) := by decide +kernel
theorem dX10_append_27 : decode cX10_append 27 = .ok (.iload_n 1, 1) := by decide +kernel
theorem dX10_append_28 : decode cX10_append 28 = .ok (.invokevirtual 106, 3) := by decide +kernel
theorem dX10_append_31 : decode cX10_append 31 = .ok (.aload_n 0, 1) := by decide +kernel
theorem dX10_append_32 : decode cX10_append 32 = .ok (.getfield 37, 3) := by decide +kernel
theorem dX10_append_35 : decode cX10_append 35 = .ok (.iload_n 2, 1) := by decide +kernel
theorem dX10_append_36 : decode cX10_append 36 = .ok (.invokevirtual 106, 3) := by decide +kernel
theorem dX10_append_39 : decode cX10_append 39 = .ok (.aload_n 0, 1) := by decide +kernel
theorem dX10_append_40 : decode cX10_append 40 = .ok (.getfield 37, 3) := by decide +kernel
theorem dX10_append_43 : decode cX10_append 43 = .ok (.iload_n 3, 1) := by decide +kernel
theorem dX10_append_44 : decode cX10_append 44 = .ok (.invokevirtual 106, 3) := by decide +kernel
theorem dX10_append_47 : decode cX10_append 47 = .ok (.aload_n 0, 1) := by decide +kernel
theorem dX10_append_48 : decode cX10_append 48 = .ok (.getfield 37, 3) := by decide +kernel
theorem dX10_append_51 : decode cX10_append 51 = .ok (.iload 4, 2) := by decide +kernel
theorem dX10_append_53 : decode cX10_append 53 = .ok (.invokevirtual 106, 3) := by decide +kernel
theorem dX10_append_56 : decode cX10_append 56 = .ok (.aload_n 0, 1) := by decide +kernel
theorem dX10_append_57 : decode cX10_append 57 = .ok (.getfield 37, 3) := by decide +kernel
theorem dX10_append_60 : decode cX10_append 60 = .ok (.iload 5, 2) := by decide +kernel
theorem dX10_append_62 : decode cX10_append 62 = .ok (.invokevirtual 106, 3) := by decide +kernel
theorem dX10_append_65 : decode cX10_append 65 = .ok (.aload_n 0, 1) := by decide +kernel
theorem dX10_append_66 : decode cX10_append 66 = .ok (.getfield 37, 3) := by decide +kernel
theorem dX10_append_69 : decode cX10_append 69 = .ok (.getfield 96, 3) := by decide +kernel
theorem dX10_append_72 : decode cX10_append 72 = .ok (.ireturn, 1) := by decide +kernel
abbrev rX10_append : Room := { frames := 6, cells := 1, slots := 6, locals := 90 }
abbrev mX10_append : gY := (cX10_append, RX10, 6, rX10_append)
def fX10_append (x1 : Int32) (x2 : Int32) (x3 : Int32) (x4 : Int32) (x5 : Int32) (M0 : gMem) : Option ((Int32 ⊕ Nat) × gMem) :=
  if (M0.1 32 1) ≤ (880 : Int32) then ((fX5_putNumber x1 M0).bind fun v2 => (fX5_putNumber x2 v2).bind fun v3 => (fX5_putNumber x3 v3).bind fun v4 => (fX5_putNumber x4 v4).bind fun v5 => (fX5_putNumber x5 v5).bind fun v6 => some (.inl (v6.1 32 1), v6)) else some (.inr 0, M0)
set_option maxRecDepth 20000 in
theorem tX10_append {X : gX} {V : gEnv} {x1 : Int32} {x2 : Int32} {x3 : Int32} {x4 : Int32} {x5 : Int32} {M0 : gMem}  {o : ((Int32 ⊕ Nat) × gMem)} (h : fX10_append x1 x2 x3 x4 x5 M0 = some o) (O : gOX X V mX10_append gShC (some .int) (gOI o.1) o.2) : gG X V mX10_append gShC M0 0 0 0 [(0, .ref (gAd V 0)), (1, .int x1), (2, .int x2), (3, .int x3), (4, .int x4), (5, .int x5)] [] := by
  unfold fX10_append at h
  refine g_aload_n 0 rfl rfl dX10_append_0 ?_
  refine g_getR FX10_37 sC_0 rfl dX10_append_1 ?_
  refine g_getI FX10_96 sC_32 rfl dX10_append_4 ?_
  refine g_sipush (v := 880) rfl dX10_append_7 ?_
  rcases g_ite h with ⟨c1, h⟩ | ⟨c1, h⟩
  · refine g_icmp_le_t c1 (tgt := 23) rfl dX10_append_10 ?_
    refine g_aload_n 0 rfl rfl dX10_append_23 ?_
    refine g_getR FX10_37 sC_0 rfl dX10_append_24 ?_
    refine g_iload_n 1 rfl rfl dX10_append_27 ?_
    obtain ⟨v2, ev2, h⟩ := g_bnd h
    refine g_callV LX10_106 sC_32 rfl (kX5_putNumber ev2) rfl rfl (Nat.le_of_ble_eq_true rfl) ⟨Nat.le_of_ble_eq_true rfl, Nat.le_of_ble_eq_true rfl⟩ ⟨Nat.le_of_ble_eq_true rfl, Nat.le_of_ble_eq_true rfl⟩ dX10_append_28 rfl ?_
    refine g_aload_n 0 rfl rfl dX10_append_31 ?_
    refine g_getR FX10_37 sC_0 rfl dX10_append_32 ?_
    refine g_iload_n 2 rfl rfl dX10_append_35 ?_
    obtain ⟨v3, ev3, h⟩ := g_bnd h
    refine g_callV LX10_106 sC_32 rfl (kX5_putNumber ev3) rfl rfl (Nat.le_of_ble_eq_true rfl) ⟨Nat.le_of_ble_eq_true rfl, Nat.le_of_ble_eq_true rfl⟩ ⟨Nat.le_of_ble_eq_true rfl, Nat.le_of_ble_eq_true rfl⟩ dX10_append_36 rfl ?_
    refine g_aload_n 0 rfl rfl dX10_append_39 ?_
    refine g_getR FX10_37 sC_0 rfl dX10_append_40 ?_
    refine g_iload_n 3 rfl rfl dX10_append_43 ?_
    obtain ⟨v4, ev4, h⟩ := g_bnd h
    refine g_callV LX10_106 sC_32 rfl (kX5_putNumber ev4) rfl rfl (Nat.le_of_ble_eq_true rfl) ⟨Nat.le_of_ble_eq_true rfl, Nat.le_of_ble_eq_true rfl⟩ ⟨Nat.le_of_ble_eq_true rfl, Nat.le_of_ble_eq_true rfl⟩ dX10_append_44 rfl ?_
    refine g_aload_n 0 rfl rfl dX10_append_47 ?_
    refine g_getR FX10_37 sC_0 rfl dX10_append_48 ?_
    refine g_iload 4 rfl dX10_append_51 ?_
    obtain ⟨v5, ev5, h⟩ := g_bnd h
    refine g_callV LX10_106 sC_32 rfl (kX5_putNumber ev5) rfl rfl (Nat.le_of_ble_eq_true rfl) ⟨Nat.le_of_ble_eq_true rfl, Nat.le_of_ble_eq_true rfl⟩ ⟨Nat.le_of_ble_eq_true rfl, Nat.le_of_ble_eq_true rfl⟩ dX10_append_53 rfl ?_
    refine g_aload_n 0 rfl rfl dX10_append_56 ?_
    refine g_getR FX10_37 sC_0 rfl dX10_append_57 ?_
    refine g_iload 5 rfl dX10_append_60 ?_
    obtain ⟨v6, ev6, h⟩ := g_bnd h
    refine g_callV LX10_106 sC_32 rfl (kX5_putNumber ev6) rfl rfl (Nat.le_of_ble_eq_true rfl) ⟨Nat.le_of_ble_eq_true rfl, Nat.le_of_ble_eq_true rfl⟩ ⟨Nat.le_of_ble_eq_true rfl, Nat.le_of_ble_eq_true rfl⟩ dX10_append_62 rfl ?_
    refine g_aload_n 0 rfl rfl dX10_append_65 ?_
    refine g_getR FX10_37 sC_0 rfl dX10_append_66 ?_
    refine g_getI FX10_96 sC_32 rfl dX10_append_69 ?_
    cases h
    exact g_iretX O ⟨Nat.le_of_ble_eq_true rfl, Nat.le_of_ble_eq_true rfl⟩ rfl dX10_append_72
  · refine g_icmp_le_f c1 (tgt := 23) rfl dX10_append_10 ?_
    cases h
    exact g_throw O U_0 SX10_101 ⟨Nat.le_of_ble_eq_true rfl, Nat.le_of_ble_eq_true rfl⟩ ⟨Nat.le_of_ble_eq_true rfl, Nat.le_of_ble_eq_true rfl⟩ dX10_append_13 dX10_append_16 dX10_append_17 dX10_append_19 dX10_append_22
theorem kX10_append {l : Launch} {V : gEnv} {M0 : gMem} {x1 : Int32} {x2 : Int32} {x3 : Int32} {x4 : Int32} {x5 : Int32} (hst : l.stackTraces = false)  {o : ((Int32 ⊕ Nat) × gMem)} (h : fX10_append x1 x2 x3 x4 x5 M0 = some o) : gMX l yX10_append cX10_append 6 (some .int) rX10_append V gShC [.ref (gAd V 0), .int x1, .int x2, .int x3, .int x4, .int x5] M0 (gOI o.1) o.2 :=
  gMX.of hst (by decide) (Nat.le_of_ble_eq_true rfl) rfl (fun X _ O => tX10_append  h O)
theorem dX10_truncate_0 : decode cX10_truncate 0 = .ok (.iload_n 1, 1) := by decide +kernel
theorem dX10_truncate_1 : decode cX10_truncate 1 = .ok (.ifCond .lt 14, 3) := by decide +kernel
theorem dX10_truncate_4 : decode cX10_truncate 4 = .ok (.iload_n 1, 1) := by decide +kernel
theorem dX10_truncate_5 : decode cX10_truncate 5 = .ok (.aload_n 0, 1) := by decide +kernel
theorem dX10_truncate_6 : decode cX10_truncate 6 = .ok (.getfield 37, 3) := by decide +kernel
theorem dX10_truncate_9 : decode cX10_truncate 9 = .ok (.getfield 96, 3) := by decide +kernel
theorem dX10_truncate_12 : decode cX10_truncate 12 = .ok (.if_icmp .le 13, 3) := by decide +kernel
theorem dX10_truncate_15 : decode cX10_truncate 15 = .ok (.new 110, 3) := by decide +kernel
theorem dX10_truncate_18 : decode cX10_truncate 18 = .ok (.dup, 1) := by decide +kernel
theorem dX10_truncate_19 : decode cX10_truncate 19 = .ok (.ldc 112, 2) := by decide +kernel
theorem dX10_truncate_21 : decode cX10_truncate 21 = .ok (.invokespecial 114, 3) := by decide +kernel
theorem dX10_truncate_24 : decode cX10_truncate 24 = .ok (.athrow, 1) := by decide +kernel
theorem dX10_truncate_25 : decode cX10_truncate 25 = .ok (.aload_n 0, 1) := by decide +kernel
theorem dX10_truncate_26 : decode cX10_truncate 26 = .ok (.getfield 37, 3) := by decide +kernel
theorem dX10_truncate_29 : decode cX10_truncate 29 = .ok (.iload_n 1, 1) := by decide +kernel
theorem dX10_truncate_30 : decode cX10_truncate 30 = .ok (.putfield 96, 3) := by decide +kernel
theorem dX10_truncate_33 : decode cX10_truncate 33 = .ok (.iload_n 1, 1) := by decide +kernel
theorem dX10_truncate_34 : decode cX10_truncate 34 = .ok (.ireturn, 1) := by decide +kernel
abbrev rX10_truncate : Room := { frames := 6, cells := 1, slots := 6, locals := 90 }
abbrev mX10_truncate : gY := (cX10_truncate, RX10, 2, rX10_truncate)
def fX10_truncate_b15 (M0 : gMem) : Option ((Int32 ⊕ Nat) × gMem) :=
  some (.inr 1, M0)
set_option maxRecDepth 20000 in
theorem tX10_truncate_b15 {X : gX} {V : gEnv} {M0 : gMem}  {o : ((Int32 ⊕ Nat) × gMem)} (h : fX10_truncate_b15 M0 = some o) (O : gOX X V mX10_truncate gShC (some .int) (gOI o.1) o.2) : gG X V mX10_truncate gShC M0 0 0 15 [] [] := by
  unfold fX10_truncate_b15 at h
  cases h
  exact g_throw O U_1 SX10_112 ⟨Nat.le_of_ble_eq_true rfl, Nat.le_of_ble_eq_true rfl⟩ ⟨Nat.le_of_ble_eq_true rfl, Nat.le_of_ble_eq_true rfl⟩ dX10_truncate_15 dX10_truncate_18 dX10_truncate_19 dX10_truncate_21 dX10_truncate_24
def fX10_truncate (x1 : Int32) (M0 : gMem) : Option ((Int32 ⊕ Nat) × gMem) :=
  if x1 < 0 then (fX10_truncate_b15 M0) else if x1 ≤ (M0.1 32 1) then ((wF M0 32 1 x1).bind fun M3 => some (.inl x1, M3)) else fX10_truncate_b15 M0
set_option maxRecDepth 20000 in
theorem tX10_truncate {X : gX} {V : gEnv} {x1 : Int32} {M0 : gMem}  {o : ((Int32 ⊕ Nat) × gMem)} (h : fX10_truncate x1 M0 = some o) (O : gOX X V mX10_truncate gShC (some .int) (gOI o.1) o.2) : gG X V mX10_truncate gShC M0 0 0 0 [(0, .ref (gAd V 0)), (1, .int x1)] [] := by
  unfold fX10_truncate at h
  refine g_iload_n 1 rfl rfl dX10_truncate_0 ?_
  rcases g_ite h with ⟨c1, h⟩ | ⟨c1, h⟩
  · refine g_if_lt_t c1 (tgt := 15) rfl dX10_truncate_1 ?_
    refine g_sub [] rfl ?_
    exact tX10_truncate_b15  h O
  · refine g_if_lt_f c1 (tgt := 15) rfl dX10_truncate_1 ?_
    refine g_iload_n 1 rfl rfl dX10_truncate_4 ?_
    refine g_aload_n 0 rfl rfl dX10_truncate_5 ?_
    refine g_getR FX10_37 sC_0 rfl dX10_truncate_6 ?_
    refine g_getI FX10_96 sC_32 rfl dX10_truncate_9 ?_
    rcases g_ite h with ⟨c2, h⟩ | ⟨c2, h⟩
    · refine g_icmp_le_t c2 (tgt := 25) rfl dX10_truncate_12 ?_
      refine g_aload_n 0 rfl rfl dX10_truncate_25 ?_
      refine g_getR FX10_37 sC_0 rfl dX10_truncate_26 ?_
      refine g_iload_n 1 rfl rfl dX10_truncate_29 ?_
      obtain ⟨M3, eM3, h⟩ := g_bnd h
      refine g_putI' eM3 FX10_96 jX5 sC_32 rfl rfl rfl dX10_truncate_30 ?_
      refine g_iload_n 1 rfl rfl dX10_truncate_33 ?_
      cases h
      exact g_iretX O ⟨Nat.le_of_ble_eq_true rfl, Nat.le_of_ble_eq_true rfl⟩ rfl dX10_truncate_34
    · refine g_icmp_le_f c2 (tgt := 25) rfl dX10_truncate_12 ?_
      refine g_sub [] rfl ?_
      exact tX10_truncate_b15  h O
theorem kX10_truncate {l : Launch} {V : gEnv} {M0 : gMem} {x1 : Int32} (hst : l.stackTraces = false)  {o : ((Int32 ⊕ Nat) × gMem)} (h : fX10_truncate x1 M0 = some o) : gMX l yX10_truncate cX10_truncate 2 (some .int) rX10_truncate V gShC [.ref (gAd V 0), .int x1] M0 (gOI o.1) o.2 :=
  gMX.of hst (by decide) (Nat.le_of_ble_eq_true rfl) rfl (fun X _ O => tX10_truncate  h O)
theorem dX10_readText_0 : decode cX10_readText 0 = .ok (.aload_n 0, 1) := by decide +kernel
theorem dX10_readText_1 : decode cX10_readText 1 = .ok (.getfield 51, 3) := by decide +kernel
theorem dX10_readText_4 : decode cX10_readText 4 = .ok (.aload_n 0, 1) := by decide +kernel
theorem dX10_readText_5 : decode cX10_readText 5 = .ok (.getfield 37, 3) := by decide +kernel
theorem dX10_readText_8 : decode cX10_readText 8 = .ok (.aload_n 0, 1) := by decide +kernel
theorem dX10_readText_9 : decode cX10_readText 9 = .ok (.getfield 16, 3) := by decide +kernel
theorem dX10_readText_12 : decode cX10_readText 12 = .ok (.aload_n 0, 1) := by decide +kernel
theorem dX10_readText_13 : decode cX10_readText 13 = .ok (.getfield 65, 3) := by decide +kernel
theorem dX10_readText_16 : decode cX10_readText 16 = .ok (.invokevirtual 115, 3) := by decide +kernel
theorem dX10_readText_19 : decode cX10_readText 19 = .ok (.istore_n 1, 1) := by decide +kernel
theorem dX10_readText_20 : decode cX10_readText 20 = .ok (.aload_n 0, 1) := by decide +kernel
theorem dX10_readText_21 : decode cX10_readText 21 = .ok (.getfield 37, 3) := by decide +kernel
theorem dX10_readText_24 : decode cX10_readText 24 = .ok (.iconst 0, 1) := by decide +kernel
theorem dX10_readText_25 : decode cX10_readText 25 = .ok (.putfield 96, 3) := by decide +kernel
theorem dX10_readText_28 : decode cX10_readText 28 = .ok (.iload_n 1, 1) := by decide +kernel
theorem dX10_readText_29 : decode cX10_readText 29 = .ok (.ifCond .ne 13, 3) := by decide +kernel
theorem dX10_readText_32 : decode cX10_readText 32 = .ok (.new 110, 3) := by decide +kernel
theorem dX10_readText_35 : decode cX10_readText 35 = .ok (.dup, 1) := by decide +kernel
theorem dX10_readText_36 : decode cX10_readText 36 = .ok (.ldc 119, 2) := by decide +kernel
theorem dX10_readText_38 : decode cX10_readText 38 = .ok (.invokespecial 114, 3) := by decide +kernel
theorem dX10_readText_41 : decode cX10_readText 41 = .ok (.athrow, 1) := by decide +kernel
theorem dX10_readText_42 : decode cX10_readText 42 = .ok (.aload_n 0, 1) := by decide +kernel
theorem dX10_readText_43 : decode cX10_readText 43 = .ok (.getfield 12, 3) := by decide +kernel
theorem dX10_readText_46 : decode cX10_readText 46 = .ok (.aload_n 0, 1) := by decide +kernel
theorem dX10_readText_47 : decode cX10_readText 47 = .ok (.getfield 16, 3) := by decide +kernel
theorem dX10_readText_50 : decode cX10_readText 50 = .ok (.invokevirtual 121, 3) := by decide +kernel
theorem dX10_readText_53 : decode cX10_readText 53 = .ok (.aload_n 0, 1) := by decide +kernel
theorem dX10_readText_54 : decode cX10_readText 54 = .ok (.iconst 0, 1) := by decide +kernel
theorem dX10_readText_55 : decode cX10_readText 55 = .ok (.putfield 30, 3) := by decide +kernel
theorem dX10_readText_58 : decode cX10_readText 58 = .ok (.aload_n 0, 1) := by decide +kernel
theorem dX10_readText_59 : decode cX10_readText 59 = .ok (.getfield 12, 3) := by decide +kernel
theorem dX10_readText_62 : decode cX10_readText 62 = .ok (.getfield 125, 3) := by decide +kernel
theorem dX10_readText_65 : decode cX10_readText 65 = .ok (.ireturn, 1) := by decide +kernel
abbrev rX10_readText : Room := { frames := 7, cells := 1, slots := 6, locals := 190 }
abbrev mX10_readText : gY := (cX10_readText, RX10, 2, rX10_readText)
def fX10_readText (M0 : gMem) : Option ((Int32 ⊕ Nat) × gMem) :=
  (fX1_readAll 11 M0).bind fun v1 => (wF v1.2 32 1 (0 : Int32)).bind fun M2 => if v1.1 = 0 then (some (.inr 1, M2)) else (fX2_copyFrom 1 11 M2).bind fun v4 => (wF v4 0 5 (0 : Int32)).bind fun M5 => some (.inl (M5.1 1 9), M5)
set_option maxRecDepth 20000 in
theorem tX10_readText {X : gX} {V : gEnv} {M0 : gMem}  {o : ((Int32 ⊕ Nat) × gMem)} (h : fX10_readText M0 = some o) (O : gOX X V mX10_readText gShC (some .int) (gOI o.1) o.2) : gG X V mX10_readText gShC M0 0 0 0 [(0, .ref (gAd V 0))] [] := by
  unfold fX10_readText at h
  refine g_aload_n 0 rfl rfl dX10_readText_0 ?_
  refine g_getR FX10_51 sC_0 rfl dX10_readText_1 ?_
  refine g_aload_n 0 rfl rfl dX10_readText_4 ?_
  refine g_getR FX10_37 sC_0 rfl dX10_readText_5 ?_
  refine g_aload_n 0 rfl rfl dX10_readText_8 ?_
  refine g_getR FX10_16 sC_0 rfl dX10_readText_9 ?_
  refine g_aload_n 0 rfl rfl dX10_readText_12 ?_
  refine g_getR FX10_65 sC_0 rfl dX10_readText_13 ?_
  obtain ⟨v1, ev1, h⟩ := g_bnd h
  refine g_callV LX10_115 sC_36 rfl (kX1_readAll nC_11 ev1) rfl rfl (Nat.le_of_ble_eq_true rfl) ⟨Nat.le_of_ble_eq_true rfl, Nat.le_of_ble_eq_true rfl⟩ ⟨Nat.le_of_ble_eq_true rfl, Nat.le_of_ble_eq_true rfl⟩ dX10_readText_16 rfl ?_
  refine g_istore_n (ls' := [(1, .int v1.1), (0, .ref (gAd V 0))]) rfl (Nat.le_of_ble_eq_true rfl) rfl dX10_readText_19 ?_
  refine g_aload_n 1 rfl rfl dX10_readText_20 ?_
  refine g_getR FX10_37 sC_0 rfl dX10_readText_21 ?_
  refine g_iconst (v := 0) rfl dX10_readText_24 ?_
  obtain ⟨M2, eM2, h⟩ := g_bnd h
  refine g_putI' eM2 FX10_96 jX5 sC_32 rfl rfl rfl dX10_readText_25 ?_
  refine g_iload_n 0 rfl rfl dX10_readText_28 ?_
  rcases g_ite h with ⟨c3, h⟩ | ⟨c3, h⟩
  · refine g_if_ne_f c3 (tgt := 42) rfl dX10_readText_29 ?_
    cases h
    exact g_throw O U_1 SX10_119 ⟨Nat.le_of_ble_eq_true rfl, Nat.le_of_ble_eq_true rfl⟩ ⟨Nat.le_of_ble_eq_true rfl, Nat.le_of_ble_eq_true rfl⟩ dX10_readText_32 dX10_readText_35 dX10_readText_36 dX10_readText_38 dX10_readText_41
  · refine g_if_ne_t c3 (tgt := 42) rfl dX10_readText_29 ?_
    refine g_aload_n 1 rfl rfl dX10_readText_42 ?_
    refine g_getR FX10_12 sC_0 rfl dX10_readText_43 ?_
    refine g_aload_n 1 rfl rfl dX10_readText_46 ?_
    refine g_getR FX10_16 sC_0 rfl dX10_readText_47 ?_
    obtain ⟨v4, ev4, h⟩ := g_bnd h
    refine g_callV LX10_121 sC_1 rfl (kX2_copyFrom nC_1 nC_11 ev4) rfl rfl (Nat.le_of_ble_eq_true rfl) ⟨Nat.le_of_ble_eq_true rfl, Nat.le_of_ble_eq_true rfl⟩ ⟨Nat.le_of_ble_eq_true rfl, Nat.le_of_ble_eq_true rfl⟩ dX10_readText_50 rfl ?_
    refine g_aload_n 1 rfl rfl dX10_readText_53 ?_
    refine g_iconst (v := 0) rfl dX10_readText_54 ?_
    obtain ⟨M5, eM5, h⟩ := g_bnd h
    refine g_putI' eM5 FX10_30 jX10 sC_0 rfl rfl rfl dX10_readText_55 ?_
    refine g_aload_n 1 rfl rfl dX10_readText_58 ?_
    refine g_getR FX10_12 sC_0 rfl dX10_readText_59 ?_
    refine g_getI FX10_125 sC_1 rfl dX10_readText_62 ?_
    cases h
    exact g_iretX O ⟨Nat.le_of_ble_eq_true rfl, Nat.le_of_ble_eq_true rfl⟩ rfl dX10_readText_65
theorem kX10_readText {l : Launch} {V : gEnv} {M0 : gMem}  (hst : l.stackTraces = false)  {o : ((Int32 ⊕ Nat) × gMem)} (h : fX10_readText M0 = some o) : gMX l yX10_readText cX10_readText 2 (some .int) rX10_readText V gShC [.ref (gAd V 0)] M0 (gOI o.1) o.2 :=
  gMX.of hst (by decide) (Nat.le_of_ble_eq_true rfl) rfl (fun X _ O => tX10_readText  h O)
theorem dX10_remember_0 : decode cX10_remember 0 = .ok (.aload_n 0, 1) := by decide +kernel
theorem dX10_remember_1 : decode cX10_remember 1 = .ok (.getfield 30, 3) := by decide +kernel
theorem dX10_remember_4 : decode cX10_remember 4 = .ok (.bipush 8, 2) := by decide +kernel
theorem dX10_remember_6 : decode cX10_remember 6 = .ok (.if_icmp .ne 56, 3) := by decide +kernel
theorem dX10_remember_9 : decode cX10_remember 9 = .ok (.aload_n 0, 1) := by decide +kernel
theorem dX10_remember_10 : decode cX10_remember 10 = .ok (.getfield 26, 3) := by decide +kernel
theorem dX10_remember_13 : decode cX10_remember 13 = .ok (.iconst 0, 1) := by decide +kernel
theorem dX10_remember_14 : decode cX10_remember 14 = .ok (.aaload, 1) := by decide +kernel
theorem dX10_remember_15 : decode cX10_remember 15 = .ok (.astore_n 1, 1) := by decide +kernel
theorem dX10_remember_16 : decode cX10_remember 16 = .ok (.iconst 1, 1) := by decide +kernel
theorem dX10_remember_17 : decode cX10_remember 17 = .ok (.istore_n 2, 1) := by decide +kernel
theorem dX10_remember_18 : decode cX10_remember 18 = .ok (.iload_n 2, 1) := by decide +kernel
theorem dX10_remember_19 : decode cX10_remember 19 = .ok (.bipush 8, 2) := by decide +kernel
theorem dX10_remember_21 : decode cX10_remember 21 = .ok (.if_icmp .ge 23, 3) := by decide +kernel
theorem dX10_remember_24 : decode cX10_remember 24 = .ok (.aload_n 0, 1) := by decide +kernel
theorem dX10_remember_25 : decode cX10_remember 25 = .ok (.getfield 26, 3) := by decide +kernel
theorem dX10_remember_28 : decode cX10_remember 28 = .ok (.iload_n 2, 1) := by decide +kernel
theorem dX10_remember_29 : decode cX10_remember 29 = .ok (.iconst 1, 1) := by decide +kernel
theorem dX10_remember_30 : decode cX10_remember 30 = .ok (.isub, 1) := by decide +kernel
theorem dX10_remember_31 : decode cX10_remember 31 = .ok (.aload_n 0, 1) := by decide +kernel
theorem dX10_remember_32 : decode cX10_remember 32 = .ok (.getfield 26, 3) := by decide +kernel
theorem dX10_remember_35 : decode cX10_remember 35 = .ok (.iload_n 2, 1) := by decide +kernel
theorem dX10_remember_36 : decode cX10_remember 36 = .ok (.aaload, 1) := by decide +kernel
theorem dX10_remember_37 : decode cX10_remember 37 = .ok (.aastore, 1) := by decide +kernel
theorem dX10_remember_38 : decode cX10_remember 38 = .ok (.iinc 2 1, 3) := by decide +kernel
theorem dX10_remember_41 : decode cX10_remember 41 = .ok (.goto (-23), 3) := by decide +kernel
theorem dX10_remember_44 : decode cX10_remember 44 = .ok (.aload_n 0, 1) := by decide +kernel
theorem dX10_remember_45 : decode cX10_remember 45 = .ok (.getfield 26, 3) := by decide +kernel
theorem dX10_remember_48 : decode cX10_remember 48 = .ok (.bipush 7, 2) := by decide +kernel
theorem dX10_remember_50 : decode cX10_remember 50 = .ok (.aload_n 1, 1) := by decide +kernel
theorem dX10_remember_51 : decode cX10_remember 51 = .ok (.aastore, 1) := by decide +kernel
theorem dX10_remember_52 : decode cX10_remember 52 = .ok (.aload_n 0, 1) := by decide +kernel
theorem dX10_remember_53 : decode cX10_remember 53 = .ok (.dup, 1) := by decide +kernel
theorem dX10_remember_54 : decode cX10_remember 54 = .ok (.getfield 30, 3) := by decide +kernel
theorem dX10_remember_57 : decode cX10_remember 57 = .ok (.iconst 1, 1) := by decide +kernel
theorem dX10_remember_58 : decode cX10_remember 58 = .ok (.isub, 1) := by decide +kernel
theorem dX10_remember_59 : decode cX10_remember 59 = .ok (.putfield 30, 3) := by decide +kernel
theorem dX10_remember_62 : decode cX10_remember 62 = .ok (.aload_n 0, 1) := by decide +kernel
theorem dX10_remember_63 : decode cX10_remember 63 = .ok (.getfield 26, 3) := by decide +kernel
theorem dX10_remember_66 : decode cX10_remember 66 = .ok (.aload_n 0, 1) := by decide +kernel
theorem dX10_remember_67 : decode cX10_remember 67 = .ok (.getfield 30, 3) := by decide +kernel
theorem dX10_remember_70 : decode cX10_remember 70 = .ok (.aaload, 1) := by decide +kernel
theorem dX10_remember_71 : decode cX10_remember 71 = .ok (.aload_n 0, 1) := by decide +kernel
theorem dX10_remember_72 : decode cX10_remember 72 = .ok (.getfield 12, 3) := by decide +kernel
theorem dX10_remember_75 : decode cX10_remember 75 = .ok (.invokevirtual 121, 3) := by decide +kernel
theorem dX10_remember_78 : decode cX10_remember 78 = .ok (.aload_n 0, 1) := by decide +kernel
theorem dX10_remember_79 : decode cX10_remember 79 = .ok (.dup, 1) := by decide +kernel
theorem dX10_remember_80 : decode cX10_remember 80 = .ok (.getfield 30, 3) := by decide +kernel
theorem dX10_remember_83 : decode cX10_remember 83 = .ok (.iconst 1, 1) := by decide +kernel
theorem dX10_remember_84 : decode cX10_remember 84 = .ok (.iadd, 1) := by decide +kernel
theorem dX10_remember_85 : decode cX10_remember 85 = .ok (.putfield 30, 3) := by decide +kernel
theorem dX10_remember_88 : decode cX10_remember 88 = .ok (.return_, 1) := by decide +kernel
abbrev rX10_remember : Room := { frames := 2, cells := 0, slots := 0, locals := 81 }
abbrev mX10_remember : gY := (cX10_remember, RX10, 3, rX10_remember)
def fX10_remember_l18 (q2 : Nat) (x2 : Int32) (M0 : gMem) : Option ((Int32 × gMem) ⊕ gMem) :=
  if (8 : Int32) ≤ x2 then (some (.inr M0)) else (rN M0 31 8 x2 gNb).bind fun q4 => (wN M0 31 8 (x2 - (1 : Int32)) q4).bind fun M5 => some (.inl (x2 + (1 : Int32), M5))
set_option maxRecDepth 20000 in
theorem tX10_remember_l18 {X : gX} {V : gEnv} {q2 : Nat} {x2 : Int32} {M0 : gMem} (hq2 : gNet gShC q2) {o : ((Int32 × gMem) ⊕ gMem)} (h : fX10_remember_l18 q2 x2 M0 = some o) (Kc : ∀ s9, o = .inl s9 → gG X V mX10_remember gShC s9.2 0 0 18 [(0, .ref (gAd V 0)), (1, .ref (gAd V q2)), (2, .int s9.1)] []) (Kx : ∀ e9, o = .inr e9 → gG X V mX10_remember gShC e9 0 0 44 [(0, .ref (gAd V 0)), (1, .ref (gAd V q2))] []) : gG X V mX10_remember gShC M0 0 0 18 [(0, .ref (gAd V 0)), (1, .ref (gAd V q2)), (2, .int x2)] [] := by
  unfold fX10_remember_l18 at h
  refine g_iload_n 2 rfl rfl dX10_remember_18 ?_
  refine g_bipush (v := 8) rfl dX10_remember_19 ?_
  rcases g_ite h with ⟨c3, h⟩ | ⟨c3, h⟩
  · refine g_icmp_ge_t c3 (tgt := 44) rfl dX10_remember_21 ?_
    cases h
    refine g_sub [0, 1] rfl ?_
    exact Kx M0 rfl
  · refine g_icmp_ge_f c3 (tgt := 44) rfl dX10_remember_21 ?_
    refine g_aload_n 0 rfl rfl dX10_remember_24 ?_
    refine g_getR FX10_26 sC_0 rfl dX10_remember_25 ?_
    refine g_iload_n 2 rfl rfl dX10_remember_28 ?_
    refine g_iconst (v := 1) rfl dX10_remember_29 ?_
    refine g_isub dX10_remember_30 ?_
    refine g_aload_n 0 rfl rfl dX10_remember_31 ?_
    refine g_getR FX10_26 sC_0 rfl dX10_remember_32 ?_
    refine g_iload_n 2 rfl rfl dX10_remember_35 ?_
    obtain ⟨q4, eq4, h⟩ := g_bnd h
    have hq4 := gNb_ok (rN_ok eq4).2.2
    refine g_aald' eq4 sC_31 dX10_remember_36 ?_
    obtain ⟨M5, eM5, h⟩ := g_bnd h
    refine g_aast' eM5 sC_31 hq4.1 dX10_remember_37 ?_
    refine g_iinc (j := 2) (v := x2 + (1 : Int32)) (ls' := [(2, .int (x2 + (1 : Int32))), (0, .ref (gAd V 0)), (1, .ref (gAd V q2))]) rfl rfl (Nat.le_of_ble_eq_true rfl) rfl dX10_remember_38 ?_
    refine g_goto (tgt := 18) rfl dX10_remember_41 ?_
    cases h
    refine g_sub [1, 2, 0] rfl ?_
    exact Kc (x2 + (1 : Int32), M5) rfl
def fX10_remember_b62 (M0 : gMem) : Option gMem :=
  (rN M0 31 8 (M0.1 0 5) gNb).bind fun q9 => (fX2_copyFrom q9 1 M0).bind fun v10 => (wF v10 0 5 ((v10.1 0 5) + (1 : Int32))).bind fun M11 => some M11
set_option maxRecDepth 20000 in
theorem tX10_remember_b62 {X : gX} {V : gEnv} {M0 : gMem}  {o : gMem} (h : fX10_remember_b62 M0 = some o) (O : gO X V mX10_remember gShC none none o) : gG X V mX10_remember gShC M0 0 0 62 [(0, .ref (gAd V 0))] [] := by
  unfold fX10_remember_b62 at h
  refine g_aload_n 0 rfl rfl dX10_remember_62 ?_
  refine g_getR FX10_26 sC_0 rfl dX10_remember_63 ?_
  refine g_aload_n 0 rfl rfl dX10_remember_66 ?_
  refine g_getI FX10_30 sC_0 rfl dX10_remember_67 ?_
  obtain ⟨q9, eq9, h⟩ := g_bnd h
  have hq9 := gNb_ok (rN_ok eq9).2.2
  refine g_aald' eq9 sC_31 dX10_remember_70 ?_
  refine g_aload_n 0 rfl rfl dX10_remember_71 ?_
  refine g_getR FX10_12 sC_0 rfl dX10_remember_72 ?_
  obtain ⟨v10, ev10, h⟩ := g_bnd h
  refine g_callV LX10_121 hq9.1 rfl (kX2_copyFrom hq9 nC_1 ev10) rfl rfl (Nat.le_of_ble_eq_true rfl) ⟨Nat.le_of_ble_eq_true rfl, Nat.le_of_ble_eq_true rfl⟩ ⟨Nat.le_of_ble_eq_true rfl, Nat.le_of_ble_eq_true rfl⟩ dX10_remember_75 rfl ?_
  refine g_aload_n 0 rfl rfl dX10_remember_78 ?_
  refine g_dup rfl dX10_remember_79 ?_
  refine g_getI FX10_30 sC_0 rfl dX10_remember_80 ?_
  refine g_iconst (v := 1) rfl dX10_remember_83 ?_
  refine g_iadd dX10_remember_84 ?_
  obtain ⟨M11, eM11, h⟩ := g_bnd h
  refine g_putI' eM11 FX10_30 jX10 sC_0 rfl rfl rfl dX10_remember_85 ?_
  cases h
  exact g_vret O ⟨Nat.le_of_ble_eq_true rfl, Nat.le_of_ble_eq_true rfl⟩ dX10_remember_88
def fX10_remember (M0 : gMem) : Option gMem :=
  if (M0.1 0 5) = (8 : Int32) then ((rN M0 31 8 (0 : Int32) gNb).bind fun q2 => (gLoop (fun z9 => fX10_remember_l18 q2 z9.1 z9.2) gFu ((1 : Int32), M0)).bind fun w6 => (wN w6 31 8 (7 : Int32) q2).bind fun M7 => (wF M7 0 5 ((M7.1 0 5) - (1 : Int32))).bind fun M8 => fX10_remember_b62 M8) else fX10_remember_b62 M0
set_option maxRecDepth 20000 in
theorem tX10_remember {X : gX} {V : gEnv} {M0 : gMem}  {o : gMem} (h : fX10_remember M0 = some o) (O : gO X V mX10_remember gShC none none o) : gG X V mX10_remember gShC M0 0 0 0 [(0, .ref (gAd V 0))] [] := by
  unfold fX10_remember at h
  refine g_aload_n 0 rfl rfl dX10_remember_0 ?_
  refine g_getI FX10_30 sC_0 rfl dX10_remember_1 ?_
  refine g_bipush (v := 8) rfl dX10_remember_4 ?_
  rcases g_ite h with ⟨c1, h⟩ | ⟨c1, h⟩
  · refine g_icmp_ne_f c1 (tgt := 62) rfl dX10_remember_6 ?_
    refine g_aload_n 0 rfl rfl dX10_remember_9 ?_
    refine g_getR FX10_26 sC_0 rfl dX10_remember_10 ?_
    refine g_iconst (v := 0) rfl dX10_remember_13 ?_
    obtain ⟨q2, eq2, h⟩ := g_bnd h
    have hq2 := gNb_ok (rN_ok eq2).2.2
    refine g_aald' eq2 sC_31 dX10_remember_14 ?_
    refine g_astore_n (ls' := [(1, .ref (gAd V q2)), (0, .ref (gAd V 0))]) rfl (Nat.le_of_ble_eq_true rfl) rfl dX10_remember_15 ?_
    refine g_iconst (v := 1) rfl dX10_remember_16 ?_
    refine g_istore_n (ls' := [(2, .int (1 : Int32)), (1, .ref (gAd V q2)), (0, .ref (gAd V 0))]) rfl (Nat.le_of_ble_eq_true rfl) rfl dX10_remember_17 ?_
    obtain ⟨w6, ew6, h⟩ := g_bnd h
    refine g_sub [2, 1, 0] rfl ?_
    have KX : gG X V mX10_remember gShC w6 0 0 44 [(0, .ref (gAd V 0)), (1, .ref (gAd V q2))] [] := by
      refine g_aload_n 0 rfl rfl dX10_remember_44 ?_
      refine g_getR FX10_26 sC_0 rfl dX10_remember_45 ?_
      refine g_bipush (v := 7) rfl dX10_remember_48 ?_
      refine g_aload_n 1 rfl rfl dX10_remember_50 ?_
      obtain ⟨M7, eM7, h⟩ := g_bnd h
      refine g_aast' eM7 sC_31 hq2.1 dX10_remember_51 ?_
      refine g_aload_n 0 rfl rfl dX10_remember_52 ?_
      refine g_dup rfl dX10_remember_53 ?_
      refine g_getI FX10_30 sC_0 rfl dX10_remember_54 ?_
      refine g_iconst (v := 1) rfl dX10_remember_57 ?_
      refine g_isub dX10_remember_58 ?_
      obtain ⟨M8, eM8, h⟩ := g_bnd h
      refine g_putI' eM8 FX10_30 jX10 sC_0 rfl rfl rfl dX10_remember_59 ?_
      refine g_sub [0] rfl ?_
      exact tX10_remember_b62  h O
    exact gLoop_Q ew6 (fun z9 => gG X V mX10_remember gShC z9.2 0 0 18 [(0, .ref (gAd V 0)), (1, .ref (gAd V q2)), (2, .int z9.1)] []) (fun s9 o9 hb9 hc9 hx9 => tX10_remember_l18 hq2 hb9 hc9 (fun e9 he9 => by cases hx9 _ he9; exact KX))
  · refine g_icmp_ne_t c1 (tgt := 62) rfl dX10_remember_6 ?_
    exact tX10_remember_b62  h O
theorem kX10_remember {l : Launch} {V : gEnv} {M0 : gMem}   {o : gMem} (h : fX10_remember M0 = some o) : gM l yX10_remember cX10_remember 3 none rX10_remember V gShC [.ref (gAd V 0)] M0 none o :=
  gM.of (by decide) (Nat.le_of_ble_eq_true rfl) rfl (fun X _ O => tX10_remember  h O)
theorem dX10_runOrders_0 : decode cX10_runOrders 0 = .ok (.aload_n 0, 1) := by decide +kernel
theorem dX10_runOrders_1 : decode cX10_runOrders 1 = .ok (.getfield 58, 3) := by decide +kernel
theorem dX10_runOrders_4 : decode cX10_runOrders 4 = .ok (.aload_n 0, 1) := by decide +kernel
theorem dX10_runOrders_5 : decode cX10_runOrders 5 = .ok (.getfield 37, 3) := by decide +kernel
theorem dX10_runOrders_8 : decode cX10_runOrders 8 = .ok (.aload_n 0, 1) := by decide +kernel
theorem dX10_runOrders_9 : decode cX10_runOrders 9 = .ok (.getfield 12, 3) := by decide +kernel
theorem dX10_runOrders_12 : decode cX10_runOrders 12 = .ok (.invokevirtual 128, 3) := by decide +kernel
theorem dX10_runOrders_15 : decode cX10_runOrders 15 = .ok (.istore_n 1, 1) := by decide +kernel
theorem dX10_runOrders_16 : decode cX10_runOrders 16 = .ok (.aload_n 0, 1) := by decide +kernel
theorem dX10_runOrders_17 : decode cX10_runOrders 17 = .ok (.getfield 37, 3) := by decide +kernel
theorem dX10_runOrders_20 : decode cX10_runOrders 20 = .ok (.iconst 0, 1) := by decide +kernel
theorem dX10_runOrders_21 : decode cX10_runOrders 21 = .ok (.putfield 96, 3) := by decide +kernel
theorem dX10_runOrders_24 : decode cX10_runOrders 24 = .ok (.iload_n 1, 1) := by decide +kernel
theorem dX10_runOrders_25 : decode cX10_runOrders 25 = .ok (.ifCond .ne 13, 3) := by decide +kernel
theorem dX10_runOrders_28 : decode cX10_runOrders 28 = .ok (.new 110, 3) := by decide +kernel
theorem dX10_runOrders_31 : decode cX10_runOrders 31 = .ok (.dup, 1) := by decide +kernel
theorem dX10_runOrders_32 : decode cX10_runOrders 32 = .ok (.ldc 131, 2) := by decide +kernel
theorem dX10_runOrders_34 : decode cX10_runOrders 34 = .ok (.invokespecial 114, 3) := by decide +kernel
theorem dX10_runOrders_37 : decode cX10_runOrders 37 = .ok (.athrow, 1) := by decide +kernel
theorem dX10_runOrders_38 : decode cX10_runOrders 38 = .ok (.aload_n 0, 1) := by decide +kernel
theorem dX10_runOrders_39 : decode cX10_runOrders 39 = .ok (.invokevirtual 133, 3) := by decide +kernel
theorem dX10_runOrders_42 : decode cX10_runOrders 42 = .ok (.aload_n 0, 1) := by decide +kernel
theorem dX10_runOrders_43 : decode cX10_runOrders 43 = .ok (.getfield 58, 3) := by decide +kernel
theorem dX10_runOrders_46 : decode cX10_runOrders 46 = .ok (.aload_n 0, 1) := by decide +kernel
theorem dX10_runOrders_47 : decode cX10_runOrders 47 = .ok (.getfield 12, 3) := by decide +kernel
theorem dX10_runOrders_50 : decode cX10_runOrders 50 = .ok (.aload_n 0, 1) := by decide +kernel
theorem dX10_runOrders_51 : decode cX10_runOrders 51 = .ok (.getfield 65, 3) := by decide +kernel
theorem dX10_runOrders_54 : decode cX10_runOrders 54 = .ok (.aload_n 0, 1) := by decide +kernel
theorem dX10_runOrders_55 : decode cX10_runOrders 55 = .ok (.getfield 72, 3) := by decide +kernel
theorem dX10_runOrders_58 : decode cX10_runOrders 58 = .ok (.invokevirtual 136, 3) := by decide +kernel
theorem dX10_runOrders_61 : decode cX10_runOrders 61 = .ok (.ireturn, 1) := by decide +kernel
abbrev rX10_runOrders : Room := { frames := 8, cells := 1, slots := 6, locals := 208 }
abbrev mX10_runOrders : gY := (cX10_runOrders, RX10, 2, rX10_runOrders)
def fX10_runOrders (M0 : gMem) : Option ((Int32 ⊕ Nat) × gMem) :=
  (fX3_readAll 1 M0).bind fun v1 => (wF v1.2 32 1 (0 : Int32)).bind fun M2 => if v1.1 = 0 then (some (.inr 1, M2)) else (fX10_remember M2).bind fun v4 => (fX3_runAll 1 v4).bind fun v5 => some (.inl v5.1, v5.2)
set_option maxRecDepth 20000 in
theorem tX10_runOrders {X : gX} {V : gEnv} {M0 : gMem}  {o : ((Int32 ⊕ Nat) × gMem)} (h : fX10_runOrders M0 = some o) (O : gOX X V mX10_runOrders gShC (some .int) (gOI o.1) o.2) : gG X V mX10_runOrders gShC M0 0 0 0 [(0, .ref (gAd V 0))] [] := by
  unfold fX10_runOrders at h
  refine g_aload_n 0 rfl rfl dX10_runOrders_0 ?_
  refine g_getR FX10_58 sC_0 rfl dX10_runOrders_1 ?_
  refine g_aload_n 0 rfl rfl dX10_runOrders_4 ?_
  refine g_getR FX10_37 sC_0 rfl dX10_runOrders_5 ?_
  refine g_aload_n 0 rfl rfl dX10_runOrders_8 ?_
  refine g_getR FX10_12 sC_0 rfl dX10_runOrders_9 ?_
  obtain ⟨v1, ev1, h⟩ := g_bnd h
  refine g_callV LX10_128 sC_37 rfl (kX3_readAll nC_1 ev1) rfl rfl (Nat.le_of_ble_eq_true rfl) ⟨Nat.le_of_ble_eq_true rfl, Nat.le_of_ble_eq_true rfl⟩ ⟨Nat.le_of_ble_eq_true rfl, Nat.le_of_ble_eq_true rfl⟩ dX10_runOrders_12 rfl ?_
  refine g_istore_n (ls' := [(1, .int v1.1), (0, .ref (gAd V 0))]) rfl (Nat.le_of_ble_eq_true rfl) rfl dX10_runOrders_15 ?_
  refine g_aload_n 1 rfl rfl dX10_runOrders_16 ?_
  refine g_getR FX10_37 sC_0 rfl dX10_runOrders_17 ?_
  refine g_iconst (v := 0) rfl dX10_runOrders_20 ?_
  obtain ⟨M2, eM2, h⟩ := g_bnd h
  refine g_putI' eM2 FX10_96 jX5 sC_32 rfl rfl rfl dX10_runOrders_21 ?_
  refine g_iload_n 0 rfl rfl dX10_runOrders_24 ?_
  rcases g_ite h with ⟨c3, h⟩ | ⟨c3, h⟩
  · refine g_if_ne_f c3 (tgt := 38) rfl dX10_runOrders_25 ?_
    cases h
    exact g_throw O U_1 SX10_131 ⟨Nat.le_of_ble_eq_true rfl, Nat.le_of_ble_eq_true rfl⟩ ⟨Nat.le_of_ble_eq_true rfl, Nat.le_of_ble_eq_true rfl⟩ dX10_runOrders_28 dX10_runOrders_31 dX10_runOrders_32 dX10_runOrders_34 dX10_runOrders_37
  · refine g_if_ne_t c3 (tgt := 38) rfl dX10_runOrders_25 ?_
    refine g_aload_n 1 rfl rfl dX10_runOrders_38 ?_
    obtain ⟨v4, ev4, h⟩ := g_bnd h
    refine g_callV LX10_133 sC_0 rfl (kX10_remember ev4) rfl rfl (Nat.le_of_ble_eq_true rfl) ⟨Nat.le_of_ble_eq_true rfl, Nat.le_of_ble_eq_true rfl⟩ ⟨Nat.le_of_ble_eq_true rfl, Nat.le_of_ble_eq_true rfl⟩ dX10_runOrders_39 rfl ?_
    refine g_aload_n 1 rfl rfl dX10_runOrders_42 ?_
    refine g_getR FX10_58 sC_0 rfl dX10_runOrders_43 ?_
    refine g_aload_n 1 rfl rfl dX10_runOrders_46 ?_
    refine g_getR FX10_12 sC_0 rfl dX10_runOrders_47 ?_
    refine g_aload_n 1 rfl rfl dX10_runOrders_50 ?_
    refine g_getR FX10_65 sC_0 rfl dX10_runOrders_51 ?_
    refine g_aload_n 1 rfl rfl dX10_runOrders_54 ?_
    refine g_getR FX10_72 sC_0 rfl dX10_runOrders_55 ?_
    obtain ⟨v5, ev5, h⟩ := g_bnd h
    refine g_callV LX10_136 sC_37 rfl (kX3_runAll nC_1 ev5) rfl rfl (Nat.le_of_ble_eq_true rfl) ⟨Nat.le_of_ble_eq_true rfl, Nat.le_of_ble_eq_true rfl⟩ ⟨Nat.le_of_ble_eq_true rfl, Nat.le_of_ble_eq_true rfl⟩ dX10_runOrders_58 rfl ?_
    cases h
    exact g_iretX O ⟨Nat.le_of_ble_eq_true rfl, Nat.le_of_ble_eq_true rfl⟩ rfl dX10_runOrders_61
theorem kX10_runOrders {l : Launch} {V : gEnv} {M0 : gMem}  (hst : l.stackTraces = false)  {o : ((Int32 ⊕ Nat) × gMem)} (h : fX10_runOrders M0 = some o) : gMX l yX10_runOrders cX10_runOrders 2 (some .int) rX10_runOrders V gShC [.ref (gAd V 0)] M0 (gOI o.1) o.2 :=
  gMX.of hst (by decide) (Nat.le_of_ble_eq_true rfl) rfl (fun X _ O => tX10_runOrders  h O)
theorem dX10_errorCode_0 : decode cX10_errorCode 0 = .ok (.aload_n 0, 1) := by decide +kernel
theorem dX10_errorCode_1 : decode cX10_errorCode 1 = .ok (.getfield 37, 3) := by decide +kernel
theorem dX10_errorCode_4 : decode cX10_errorCode 4 = .ok (.getfield 140, 3) := by decide +kernel
theorem dX10_errorCode_7 : decode cX10_errorCode 7 = .ok (.ireturn, 1) := by decide +kernel
abbrev rX10_errorCode : Room := { frames := 0, cells := 0, slots := 0, locals := 0 }
abbrev mX10_errorCode : gY := (cX10_errorCode, RX10, 1, rX10_errorCode)
def fX10_errorCode (M0 : gMem) : Option Int32 :=
  some (M0.1 32 4)
set_option maxRecDepth 20000 in
theorem tX10_errorCode {X : gX} {V : gEnv} {M0 : gMem}  {o : Int32} (h : fX10_errorCode M0 = some o) (O : gO X V mX10_errorCode gShC (some .int) (some (.int o)) M0) : gG X V mX10_errorCode gShC M0 0 0 0 [(0, .ref (gAd V 0))] [] := by
  unfold fX10_errorCode at h
  refine g_aload_n 0 rfl rfl dX10_errorCode_0 ?_
  refine g_getR FX10_37 sC_0 rfl dX10_errorCode_1 ?_
  refine g_getI FX10_140 sC_32 rfl dX10_errorCode_4 ?_
  cases h
  exact g_iret O ⟨Nat.le_of_ble_eq_true rfl, Nat.le_of_ble_eq_true rfl⟩ rfl dX10_errorCode_7
theorem kX10_errorCode {l : Launch} {V : gEnv} {M0 : gMem}   {o : Int32} (h : fX10_errorCode M0 = some o) : gM l yX10_errorCode cX10_errorCode 1 (some .int) rX10_errorCode V gShC [.ref (gAd V 0)] M0 (some (.int o)) M0 :=
  gM.of (by decide) (Nat.le_of_ble_eq_true rfl) rfl (fun X _ O => tX10_errorCode  h O)
theorem dX10_errorPosition_0 : decode cX10_errorPosition 0 = .ok (.aload_n 0, 1) := by decide +kernel
theorem dX10_errorPosition_1 : decode cX10_errorPosition 1 = .ok (.getfield 37, 3) := by decide +kernel
theorem dX10_errorPosition_4 : decode cX10_errorPosition 4 = .ok (.getfield 143, 3) := by decide +kernel
theorem dX10_errorPosition_7 : decode cX10_errorPosition 7 = .ok (.ireturn, 1) := by decide +kernel
abbrev rX10_errorPosition : Room := { frames := 0, cells := 0, slots := 0, locals := 0 }
abbrev mX10_errorPosition : gY := (cX10_errorPosition, RX10, 1, rX10_errorPosition)
def fX10_errorPosition (M0 : gMem) : Option Int32 :=
  some (M0.1 32 5)
set_option maxRecDepth 20000 in
theorem tX10_errorPosition {X : gX} {V : gEnv} {M0 : gMem}  {o : Int32} (h : fX10_errorPosition M0 = some o) (O : gO X V mX10_errorPosition gShC (some .int) (some (.int o)) M0) : gG X V mX10_errorPosition gShC M0 0 0 0 [(0, .ref (gAd V 0))] [] := by
  unfold fX10_errorPosition at h
  refine g_aload_n 0 rfl rfl dX10_errorPosition_0 ?_
  refine g_getR FX10_37 sC_0 rfl dX10_errorPosition_1 ?_
  refine g_getI FX10_143 sC_32 rfl dX10_errorPosition_4 ?_
  cases h
  exact g_iret O ⟨Nat.le_of_ble_eq_true rfl, Nat.le_of_ble_eq_true rfl⟩ rfl dX10_errorPosition_7
theorem kX10_errorPosition {l : Launch} {V : gEnv} {M0 : gMem}   {o : Int32} (h : fX10_errorPosition M0 = some o) : gM l yX10_errorPosition cX10_errorPosition 1 (some .int) rX10_errorPosition V gShC [.ref (gAd V 0)] M0 (some (.int o)) M0 :=
  gM.of (by decide) (Nat.le_of_ble_eq_true rfl) rfl (fun X _ O => tX10_errorPosition  h O)
theorem dX10_size_0 : decode cX10_size 0 = .ok (.iload_n 1, 1) := by decide +kernel
theorem dX10_size_1 : decode cX10_size 1 = .ok (.tableswitch 120 0 8 #[51, 59, 67, 75, 83, 91, 99, 107, 115], 51) := by decide +kernel
theorem dX10_size_52 : decode cX10_size 52 = .ok (.aload_n 0, 1) := by decide +kernel
theorem dX10_size_53 : decode cX10_size 53 = .ok (.getfield 12, 3) := by decide +kernel
theorem dX10_size_56 : decode cX10_size 56 = .ok (.getfield 125, 3) := by decide +kernel
theorem dX10_size_59 : decode cX10_size 59 = .ok (.ireturn, 1) := by decide +kernel
theorem dX10_size_60 : decode cX10_size 60 = .ok (.aload_n 0, 1) := by decide +kernel
theorem dX10_size_61 : decode cX10_size 61 = .ok (.getfield 12, 3) := by decide +kernel
theorem dX10_size_64 : decode cX10_size 64 = .ok (.getfield 146, 3) := by decide +kernel
theorem dX10_size_67 : decode cX10_size 67 = .ok (.ireturn, 1) := by decide +kernel
theorem dX10_size_68 : decode cX10_size 68 = .ok (.aload_n 0, 1) := by decide +kernel
theorem dX10_size_69 : decode cX10_size 69 = .ok (.getfield 12, 3) := by decide +kernel
theorem dX10_size_72 : decode cX10_size 72 = .ok (.getfield 149, 3) := by decide +kernel
theorem dX10_size_75 : decode cX10_size 75 = .ok (.ireturn, 1) := by decide +kernel
theorem dX10_size_76 : decode cX10_size 76 = .ok (.aload_n 0, 1) := by decide +kernel
theorem dX10_size_77 : decode cX10_size 77 = .ok (.getfield 12, 3) := by decide +kernel
theorem dX10_size_80 : decode cX10_size 80 = .ok (.getfield 152, 3) := by decide +kernel
theorem dX10_size_83 : decode cX10_size 83 = .ok (.ireturn, 1) := by decide +kernel
theorem dX10_size_84 : decode cX10_size 84 = .ok (.aload_n 0, 1) := by decide +kernel
theorem dX10_size_85 : decode cX10_size 85 = .ok (.getfield 12, 3) := by decide +kernel
theorem dX10_size_88 : decode cX10_size 88 = .ok (.getfield 155, 3) := by decide +kernel
theorem dX10_size_91 : decode cX10_size 91 = .ok (.ireturn, 1) := by decide +kernel
theorem dX10_size_92 : decode cX10_size 92 = .ok (.aload_n 0, 1) := by decide +kernel
theorem dX10_size_93 : decode cX10_size 93 = .ok (.getfield 12, 3) := by decide +kernel
theorem dX10_size_96 : decode cX10_size 96 = .ok (.invokevirtual 158, 3) := by decide +kernel
theorem dX10_size_99 : decode cX10_size 99 = .ok (.ireturn, 1) := by decide +kernel
theorem dX10_size_100 : decode cX10_size 100 = .ok (.aload_n 0, 1) := by decide +kernel
theorem dX10_size_101 : decode cX10_size 101 = .ok (.getfield 12, 3) := by decide +kernel
theorem dX10_size_104 : decode cX10_size 104 = .ok (.invokevirtual 162, 3) := by decide +kernel
theorem dX10_size_107 : decode cX10_size 107 = .ok (.ireturn, 1) := by decide +kernel
theorem dX10_size_108 : decode cX10_size 108 = .ok (.aload_n 0, 1) := by decide +kernel
theorem dX10_size_109 : decode cX10_size 109 = .ok (.getfield 12, 3) := by decide +kernel
theorem dX10_size_112 : decode cX10_size 112 = .ok (.invokevirtual 165, 3) := by decide +kernel
theorem dX10_size_115 : decode cX10_size 115 = .ok (.ireturn, 1) := by decide +kernel
theorem dX10_size_116 : decode cX10_size 116 = .ok (.aload_n 0, 1) := by decide +kernel
theorem dX10_size_117 : decode cX10_size 117 = .ok (.getfield 30, 3) := by decide +kernel
theorem dX10_size_120 : decode cX10_size 120 = .ok (.ireturn, 1) := by decide +kernel
theorem dX10_size_121 : decode cX10_size 121 = .ok (.new 110, 3) := by decide +kernel
theorem dX10_size_124 : decode cX10_size 124 = .ok (.dup, 1) := by decide +kernel
theorem dX10_size_125 : decode cX10_size 125 = .ok (.ldc 168, 2) := by decide +kernel
theorem dX10_size_127 : decode cX10_size 127 = .ok (.invokespecial 114, 3) := by decide +kernel
theorem dX10_size_130 : decode cX10_size 130 = .ok (.athrow, 1) := by decide +kernel
abbrev rX10_size : Room := { frames := 6, cells := 1, slots := 6, locals := 90 }
abbrev mX10_size : gY := (cX10_size, RX10, 2, rX10_size)
def fX10_size (x1 : Int32) (M0 : gMem) : Option (Int32 ⊕ Nat) :=
  if x1 = (0 : Int32) then (some (.inl (M0.1 1 9))) else if x1 = (1 : Int32) then (some (.inl (M0.1 1 10))) else if x1 = (2 : Int32) then (some (.inl (M0.1 1 11))) else if x1 = (3 : Int32) then (some (.inl (M0.1 1 12))) else if x1 = (4 : Int32) then (some (.inl (M0.1 1 13))) else if x1 = (5 : Int32) then ((fX2_largestGroup 1 M0).bind fun v7 => some (.inl v7)) else if x1 = (6 : Int32) then ((fX2_innerArrows 1 M0).bind fun v9 => some (.inl v9)) else if x1 = (7 : Int32) then ((fX2_trueGroups 1 M0).bind fun v11 => some (.inl v11)) else if x1 = (8 : Int32) then (some (.inl (M0.1 0 5))) else some (.inr 1)
set_option maxRecDepth 20000 in
theorem tX10_size {X : gX} {V : gEnv} {x1 : Int32} {M0 : gMem}  {o : (Int32 ⊕ Nat)} (h : fX10_size x1 M0 = some o) (O : gOX X V mX10_size gShC (some .int) (gOI o) M0) : gG X V mX10_size gShC M0 0 0 0 [(0, .ref (gAd V 0)), (1, .int x1)] [] := by
  unfold fX10_size at h
  refine g_iload_n 1 rfl rfl dX10_size_0 ?_
  rcases g_ite h with ⟨c1, h⟩ | ⟨c1, h⟩
  · refine g_tabIn (off := 51) (tgt := 52) (by rw [c1]; decide) (by rw [c1]; decide) (by rw [c1]; rfl) rfl dX10_size_1 ?_
    refine g_aload_n 0 rfl rfl dX10_size_52 ?_
    refine g_getR FX10_12 sC_0 rfl dX10_size_53 ?_
    refine g_getI FX10_125 sC_1 rfl dX10_size_56 ?_
    cases h
    exact g_iretX O ⟨Nat.le_of_ble_eq_true rfl, Nat.le_of_ble_eq_true rfl⟩ rfl dX10_size_59
  ·
    rcases g_ite h with ⟨c2, h⟩ | ⟨c2, h⟩
    · refine g_tabIn (off := 59) (tgt := 60) (by rw [c2]; decide) (by rw [c2]; decide) (by rw [c2]; rfl) rfl dX10_size_1 ?_
      refine g_aload_n 0 rfl rfl dX10_size_60 ?_
      refine g_getR FX10_12 sC_0 rfl dX10_size_61 ?_
      refine g_getI FX10_146 sC_1 rfl dX10_size_64 ?_
      cases h
      exact g_iretX O ⟨Nat.le_of_ble_eq_true rfl, Nat.le_of_ble_eq_true rfl⟩ rfl dX10_size_67
    ·
      rcases g_ite h with ⟨c3, h⟩ | ⟨c3, h⟩
      · refine g_tabIn (off := 67) (tgt := 68) (by rw [c3]; decide) (by rw [c3]; decide) (by rw [c3]; rfl) rfl dX10_size_1 ?_
        refine g_aload_n 0 rfl rfl dX10_size_68 ?_
        refine g_getR FX10_12 sC_0 rfl dX10_size_69 ?_
        refine g_getI FX10_149 sC_1 rfl dX10_size_72 ?_
        cases h
        exact g_iretX O ⟨Nat.le_of_ble_eq_true rfl, Nat.le_of_ble_eq_true rfl⟩ rfl dX10_size_75
      ·
        rcases g_ite h with ⟨c4, h⟩ | ⟨c4, h⟩
        · refine g_tabIn (off := 75) (tgt := 76) (by rw [c4]; decide) (by rw [c4]; decide) (by rw [c4]; rfl) rfl dX10_size_1 ?_
          refine g_aload_n 0 rfl rfl dX10_size_76 ?_
          refine g_getR FX10_12 sC_0 rfl dX10_size_77 ?_
          refine g_getI FX10_152 sC_1 rfl dX10_size_80 ?_
          cases h
          exact g_iretX O ⟨Nat.le_of_ble_eq_true rfl, Nat.le_of_ble_eq_true rfl⟩ rfl dX10_size_83
        ·
          rcases g_ite h with ⟨c5, h⟩ | ⟨c5, h⟩
          · refine g_tabIn (off := 83) (tgt := 84) (by rw [c5]; decide) (by rw [c5]; decide) (by rw [c5]; rfl) rfl dX10_size_1 ?_
            refine g_aload_n 0 rfl rfl dX10_size_84 ?_
            refine g_getR FX10_12 sC_0 rfl dX10_size_85 ?_
            refine g_getI FX10_155 sC_1 rfl dX10_size_88 ?_
            cases h
            exact g_iretX O ⟨Nat.le_of_ble_eq_true rfl, Nat.le_of_ble_eq_true rfl⟩ rfl dX10_size_91
          ·
            rcases g_ite h with ⟨c6, h⟩ | ⟨c6, h⟩
            · refine g_tabIn (off := 91) (tgt := 92) (by rw [c6]; decide) (by rw [c6]; decide) (by rw [c6]; rfl) rfl dX10_size_1 ?_
              refine g_aload_n 0 rfl rfl dX10_size_92 ?_
              refine g_getR FX10_12 sC_0 rfl dX10_size_93 ?_
              obtain ⟨v7, ev7, h⟩ := g_bnd h
              refine g_callV LX10_158 sC_1 rfl (kX2_largestGroup nC_1 ev7) rfl rfl (Nat.le_of_ble_eq_true rfl) ⟨Nat.le_of_ble_eq_true rfl, Nat.le_of_ble_eq_true rfl⟩ ⟨Nat.le_of_ble_eq_true rfl, Nat.le_of_ble_eq_true rfl⟩ dX10_size_96 rfl ?_
              cases h
              exact g_iretX O ⟨Nat.le_of_ble_eq_true rfl, Nat.le_of_ble_eq_true rfl⟩ rfl dX10_size_99
            ·
              rcases g_ite h with ⟨c8, h⟩ | ⟨c8, h⟩
              · refine g_tabIn (off := 99) (tgt := 100) (by rw [c8]; decide) (by rw [c8]; decide) (by rw [c8]; rfl) rfl dX10_size_1 ?_
                refine g_aload_n 0 rfl rfl dX10_size_100 ?_
                refine g_getR FX10_12 sC_0 rfl dX10_size_101 ?_
                obtain ⟨v9, ev9, h⟩ := g_bnd h
                refine g_callV LX10_162 sC_1 rfl (kX2_innerArrows nC_1 ev9) rfl rfl (Nat.le_of_ble_eq_true rfl) ⟨Nat.le_of_ble_eq_true rfl, Nat.le_of_ble_eq_true rfl⟩ ⟨Nat.le_of_ble_eq_true rfl, Nat.le_of_ble_eq_true rfl⟩ dX10_size_104 rfl ?_
                cases h
                exact g_iretX O ⟨Nat.le_of_ble_eq_true rfl, Nat.le_of_ble_eq_true rfl⟩ rfl dX10_size_107
              ·
                rcases g_ite h with ⟨c10, h⟩ | ⟨c10, h⟩
                · refine g_tabIn (off := 107) (tgt := 108) (by rw [c10]; decide) (by rw [c10]; decide) (by rw [c10]; rfl) rfl dX10_size_1 ?_
                  refine g_aload_n 0 rfl rfl dX10_size_108 ?_
                  refine g_getR FX10_12 sC_0 rfl dX10_size_109 ?_
                  obtain ⟨v11, ev11, h⟩ := g_bnd h
                  refine g_callV LX10_165 sC_1 rfl (kX2_trueGroups nC_1 ev11) rfl rfl (Nat.le_of_ble_eq_true rfl) ⟨Nat.le_of_ble_eq_true rfl, Nat.le_of_ble_eq_true rfl⟩ ⟨Nat.le_of_ble_eq_true rfl, Nat.le_of_ble_eq_true rfl⟩ dX10_size_112 rfl ?_
                  cases h
                  exact g_iretX O ⟨Nat.le_of_ble_eq_true rfl, Nat.le_of_ble_eq_true rfl⟩ rfl dX10_size_115
                ·
                  rcases g_ite h with ⟨c12, h⟩ | ⟨c12, h⟩
                  · refine g_tabIn (off := 115) (tgt := 116) (by rw [c12]; decide) (by rw [c12]; decide) (by rw [c12]; rfl) rfl dX10_size_1 ?_
                    refine g_aload_n 0 rfl rfl dX10_size_116 ?_
                    refine g_getI FX10_30 sC_0 rfl dX10_size_117 ?_
                    cases h
                    exact g_iretX O ⟨Nat.le_of_ble_eq_true rfl, Nat.le_of_ble_eq_true rfl⟩ rfl dX10_size_120
                  ·
                    have nc1 := gne (0 : Int32) (j := 0) rfl c1
                    have nc2 := gne (1 : Int32) (j := 1) rfl c2
                    have nc3 := gne (2 : Int32) (j := 2) rfl c3
                    have nc4 := gne (3 : Int32) (j := 3) rfl c4
                    have nc5 := gne (4 : Int32) (j := 4) rfl c5
                    have nc6 := gne (5 : Int32) (j := 5) rfl c6
                    have nc8 := gne (6 : Int32) (j := 6) rfl c8
                    have nc10 := gne (7 : Int32) (j := 7) rfl c10
                    have nc12 := gne (8 : Int32) (j := 8) rfl c12
                    refine g_tabOut (tgt := 121) (by omega) rfl dX10_size_1 ?_
                    cases h
                    exact g_throw O U_1 SX10_168 ⟨Nat.le_of_ble_eq_true rfl, Nat.le_of_ble_eq_true rfl⟩ ⟨Nat.le_of_ble_eq_true rfl, Nat.le_of_ble_eq_true rfl⟩ dX10_size_121 dX10_size_124 dX10_size_125 dX10_size_127 dX10_size_130
theorem kX10_size {l : Launch} {V : gEnv} {M0 : gMem} {x1 : Int32} (hst : l.stackTraces = false)  {o : (Int32 ⊕ Nat)} (h : fX10_size x1 M0 = some o) : gMX l yX10_size cX10_size 2 (some .int) rX10_size V gShC [.ref (gAd V 0), .int x1] M0 (gOI o) M0 :=
  gMX.of hst (by decide) (Nat.le_of_ble_eq_true rfl) rfl (fun X _ O => tX10_size  h O)
