/-! METHODS, by program: pure functions and contracts -/
theorem dX0_goBack_0 : decode cX0_goBack 0 = .ok (.iconst 0, 1) := by decide +kernel
theorem dX0_goBack_1 : decode cX0_goBack 1 = .ok (.istore_n 3, 1) := by decide +kernel
theorem dX0_goBack_2 : decode cX0_goBack 2 = .ok (.iload_n 3, 1) := by decide +kernel
theorem dX0_goBack_3 : decode cX0_goBack 3 = .ok (.aload_n 1, 1) := by decide +kernel
theorem dX0_goBack_4 : decode cX0_goBack 4 = .ok (.getfield 59, 3) := by decide +kernel
theorem dX0_goBack_7 : decode cX0_goBack 7 = .ok (.if_icmp .ge 73, 3) := by decide +kernel
theorem dX0_goBack_10 : decode cX0_goBack 10 = .ok (.aload_n 1, 1) := by decide +kernel
theorem dX0_goBack_11 : decode cX0_goBack 11 = .ok (.getfield 39, 3) := by decide +kernel
theorem dX0_goBack_14 : decode cX0_goBack 14 = .ok (.aload_n 1, 1) := by decide +kernel
theorem dX0_goBack_15 : decode cX0_goBack 15 = .ok (.getfield 65, 3) := by decide +kernel
theorem dX0_goBack_18 : decode cX0_goBack 18 = .ok (.iload_n 3, 1) := by decide +kernel
theorem dX0_goBack_19 : decode cX0_goBack 19 = .ok (.iaload, 1) := by decide +kernel
theorem dX0_goBack_20 : decode cX0_goBack 20 = .ok (.iaload, 1) := by decide +kernel
theorem dX0_goBack_21 : decode cX0_goBack 21 = .ok (.istore 4, 2) := by decide +kernel
theorem dX0_goBack_23 : decode cX0_goBack 23 = .ok (.aload_n 1, 1) := by decide +kernel
theorem dX0_goBack_24 : decode cX0_goBack 24 = .ok (.getfield 39, 3) := by decide +kernel
theorem dX0_goBack_27 : decode cX0_goBack 27 = .ok (.aload_n 1, 1) := by decide +kernel
theorem dX0_goBack_28 : decode cX0_goBack 28 = .ok (.getfield 62, 3) := by decide +kernel
theorem dX0_goBack_31 : decode cX0_goBack 31 = .ok (.iload_n 3, 1) := by decide +kernel
theorem dX0_goBack_32 : decode cX0_goBack 32 = .ok (.iaload, 1) := by decide +kernel
theorem dX0_goBack_33 : decode cX0_goBack 33 = .ok (.iaload, 1) := by decide +kernel
theorem dX0_goBack_34 : decode cX0_goBack 34 = .ok (.iload_n 2, 1) := by decide +kernel
theorem dX0_goBack_35 : decode cX0_goBack 35 = .ok (.if_icmp .ne 39, 3) := by decide +kernel
theorem dX0_goBack_38 : decode cX0_goBack 38 = .ok (.iload 4, 2) := by decide +kernel
theorem dX0_goBack_40 : decode cX0_goBack 40 = .ok (.iload_n 2, 1) := by decide +kernel
theorem dX0_goBack_41 : decode cX0_goBack 41 = .ok (.if_icmp .eq 33, 3) := by decide +kernel
theorem dX0_goBack_44 : decode cX0_goBack 44 = .ok (.aload_n 0, 1) := by decide +kernel
theorem dX0_goBack_45 : decode cX0_goBack 45 = .ok (.getfield 21, 3) := by decide +kernel
theorem dX0_goBack_48 : decode cX0_goBack 48 = .ok (.iload 4, 2) := by decide +kernel
theorem dX0_goBack_50 : decode cX0_goBack 50 = .ok (.aload_n 0, 1) := by decide +kernel
theorem dX0_goBack_51 : decode cX0_goBack 51 = .ok (.getfield 21, 3) := by decide +kernel
theorem dX0_goBack_54 : decode cX0_goBack 54 = .ok (.iload 4, 2) := by decide +kernel
theorem dX0_goBack_56 : decode cX0_goBack 56 = .ok (.iaload, 1) := by decide +kernel
theorem dX0_goBack_57 : decode cX0_goBack 57 = .ok (.aload_n 0, 1) := by decide +kernel
theorem dX0_goBack_58 : decode cX0_goBack 58 = .ok (.getfield 21, 3) := by decide +kernel
theorem dX0_goBack_61 : decode cX0_goBack 61 = .ok (.iload_n 2, 1) := by decide +kernel
theorem dX0_goBack_62 : decode cX0_goBack 62 = .ok (.iaload, 1) := by decide +kernel
theorem dX0_goBack_63 : decode cX0_goBack 63 = .ok (.aload_n 0, 1) := by decide +kernel
theorem dX0_goBack_64 : decode cX0_goBack 64 = .ok (.getfield 9, 3) := by decide +kernel
theorem dX0_goBack_67 : decode cX0_goBack 67 = .ok (.iload_n 2, 1) := by decide +kernel
theorem dX0_goBack_68 : decode cX0_goBack 68 = .ok (.iaload, 1) := by decide +kernel
theorem dX0_goBack_69 : decode cX0_goBack 69 = .ok (.iadd, 1) := by decide +kernel
theorem dX0_goBack_70 : decode cX0_goBack 70 = .ok (.invokestatic 50, 3) := by decide +kernel
theorem dX0_goBack_73 : decode cX0_goBack 73 = .ok (.iastore, 1) := by decide +kernel
theorem dX0_goBack_74 : decode cX0_goBack 74 = .ok (.iinc 3 1, 3) := by decide +kernel
theorem dX0_goBack_77 : decode cX0_goBack 77 = .ok (.goto (-75), 3) := by decide +kernel
theorem dX0_goBack_80 : decode cX0_goBack 80 = .ok (.return_, 1) := by decide +kernel
abbrev rX0_goBack : Room := { frames := 1, cells := 0, slots := 0, locals := 30 }
abbrev mX0_goBack : gY := (cX0_goBack, RX0, 5, rX0_goBack)
def fX0_goBack_b74 (t1 : Nat) (x2 : Int32) (x3 : Int32) (M0 : gMem) : Option ((Int32 × gMem) ⊕ gMem) :=
  some (.inl (x3 + (1 : Int32), M0))
set_option maxRecDepth 20000 in
theorem tX0_goBack_b74 {X : gX} {V : gEnv} {t1 : Nat} {x2 : Int32} {x3 : Int32} {M0 : gMem} (ht1 : gNet gShC t1) {o : ((Int32 × gMem) ⊕ gMem)} (h : fX0_goBack_b74 t1 x2 x3 M0 = some o) (Kc : ∀ s9, o = .inl s9 → gG X V mX0_goBack gShC s9.2 0 0 2 [(0, .ref (gAd V 50)), (1, .ref (gAd V t1)), (2, .int x2), (3, .int s9.1)] []) (Kx : ∀ e9, o = .inr e9 → gG X V mX0_goBack gShC e9 0 0 80 [] []) : gG X V mX0_goBack gShC M0 0 0 74 [(0, .ref (gAd V 50)), (1, .ref (gAd V t1)), (2, .int x2), (3, .int x3)] [] := by
  unfold fX0_goBack_b74 at h
  refine g_iinc (j := 3) (v := x3 + (1 : Int32)) (ls' := [(3, .int (x3 + (1 : Int32))), (0, .ref (gAd V 50)), (1, .ref (gAd V t1)), (2, .int x2)]) rfl rfl (Nat.le_of_ble_eq_true rfl) rfl dX0_goBack_74 ?_
  refine g_goto (tgt := 2) rfl dX0_goBack_77 ?_
  cases h
  refine g_sub [1, 2, 3, 0] rfl ?_
  exact Kc (x3 + (1 : Int32), M0) rfl
def fX0_goBack_l2 (t1 : Nat) (x2 : Int32) (x3 : Int32) (M0 : gMem) : Option ((Int32 × gMem) ⊕ gMem) :=
  if (M0.1 t1 10) ≤ x3 then (some (.inr M0)) else (rI M0 (t1 + 3) 60 x3).bind fun v2 => (rI M0 (t1 + 8) 24 v2).bind fun v3 => (rI M0 (t1 + 4) 60 x3).bind fun v4 => (rI M0 (t1 + 8) 24 v4).bind fun v5 => if v5 = x2 then (if v3 = x2 then (fX0_goBack_b74 t1 x2 x3 M0) else (rI M0 54 24 v3).bind fun v8 => (rI M0 54 24 x2).bind fun v9 => (rI M0 51 24 x2).bind fun v10 => (wI M0 54 24 v3 (if v8 < (v9 + v10) then (v9 + v10) else v8)).bind fun M11 => fX0_goBack_b74 t1 x2 x3 M11) else fX0_goBack_b74 t1 x2 x3 M0
set_option maxRecDepth 20000 in
theorem tX0_goBack_l2 {X : gX} {V : gEnv} {t1 : Nat} {x2 : Int32} {x3 : Int32} {M0 : gMem} (ht1 : gNet gShC t1) {o : ((Int32 × gMem) ⊕ gMem)} (h : fX0_goBack_l2 t1 x2 x3 M0 = some o) (Kc : ∀ s9, o = .inl s9 → gG X V mX0_goBack gShC s9.2 0 0 2 [(0, .ref (gAd V 50)), (1, .ref (gAd V t1)), (2, .int x2), (3, .int s9.1)] []) (Kx : ∀ e9, o = .inr e9 → gG X V mX0_goBack gShC e9 0 0 80 [] []) : gG X V mX0_goBack gShC M0 0 0 2 [(0, .ref (gAd V 50)), (1, .ref (gAd V t1)), (2, .int x2), (3, .int x3)] [] := by
  unfold fX0_goBack_l2 at h
  refine g_iload_n 3 rfl rfl dX0_goBack_2 ?_
  refine g_aload_n 1 rfl rfl dX0_goBack_3 ?_
  refine g_getI FX0_59 ht1.1 rfl dX0_goBack_4 ?_
  rcases g_ite h with ⟨c1, h⟩ | ⟨c1, h⟩
  · refine g_icmp_ge_t c1 (tgt := 80) rfl dX0_goBack_7 ?_
    cases h
    refine g_sub [] rfl ?_
    exact Kx M0 rfl
  · refine g_icmp_ge_f c1 (tgt := 80) rfl dX0_goBack_7 ?_
    refine g_aload_n 1 rfl rfl dX0_goBack_10 ?_
    refine g_getR FX0_39 ht1.1 rfl dX0_goBack_11 ?_
    refine g_aload_n 1 rfl rfl dX0_goBack_14 ?_
    refine g_getR FX0_65 ht1.1 rfl dX0_goBack_15 ?_
    refine g_iload_n 3 rfl rfl dX0_goBack_18 ?_
    obtain ⟨v2, ev2, h⟩ := g_bnd h
    refine g_iald' ev2 ht1.2.2.2.1 dX0_goBack_19 ?_
    obtain ⟨v3, ev3, h⟩ := g_bnd h
    refine g_iald' ev3 ht1.2.2.2.2.2.2.2.2.1 dX0_goBack_20 ?_
    refine g_istore (ls' := [(4, .int v3), (0, .ref (gAd V 50)), (1, .ref (gAd V t1)), (2, .int x2), (3, .int x3)]) (Nat.le_of_ble_eq_true rfl) rfl dX0_goBack_21 ?_
    refine g_aload_n 2 rfl rfl dX0_goBack_23 ?_
    refine g_getR FX0_39 ht1.1 rfl dX0_goBack_24 ?_
    refine g_aload_n 2 rfl rfl dX0_goBack_27 ?_
    refine g_getR FX0_62 ht1.1 rfl dX0_goBack_28 ?_
    refine g_iload_n 4 rfl rfl dX0_goBack_31 ?_
    obtain ⟨v4, ev4, h⟩ := g_bnd h
    refine g_iald' ev4 ht1.2.2.2.2.1 dX0_goBack_32 ?_
    obtain ⟨v5, ev5, h⟩ := g_bnd h
    refine g_iald' ev5 ht1.2.2.2.2.2.2.2.2.1 dX0_goBack_33 ?_
    refine g_iload_n 3 rfl rfl dX0_goBack_34 ?_
    rcases g_ite h with ⟨c6, h⟩ | ⟨c6, h⟩
    · refine g_icmp_ne_f c6 (tgt := 74) rfl dX0_goBack_35 ?_
      refine g_iload 0 rfl dX0_goBack_38 ?_
      refine g_iload_n 3 rfl rfl dX0_goBack_40 ?_
      rcases g_ite h with ⟨c7, h⟩ | ⟨c7, h⟩
      · refine g_icmp_eq_t c7 (tgt := 74) rfl dX0_goBack_41 ?_
        refine g_sub [1, 2, 3, 4] rfl ?_
        exact tX0_goBack_b74 ht1 h Kc Kx
      · refine g_icmp_eq_f c7 (tgt := 74) rfl dX0_goBack_41 ?_
        refine g_aload_n 1 rfl rfl dX0_goBack_44 ?_
        refine g_getR FX0_21 sC_50 rfl dX0_goBack_45 ?_
        refine g_iload 0 rfl dX0_goBack_48 ?_
        refine g_aload_n 1 rfl rfl dX0_goBack_50 ?_
        refine g_getR FX0_21 sC_50 rfl dX0_goBack_51 ?_
        refine g_iload 0 rfl dX0_goBack_54 ?_
        obtain ⟨v8, ev8, h⟩ := g_bnd h
        refine g_iald' ev8 sC_54 dX0_goBack_56 ?_
        refine g_aload_n 1 rfl rfl dX0_goBack_57 ?_
        refine g_getR FX0_21 sC_50 rfl dX0_goBack_58 ?_
        refine g_iload_n 3 rfl rfl dX0_goBack_61 ?_
        obtain ⟨v9, ev9, h⟩ := g_bnd h
        refine g_iald' ev9 sC_54 dX0_goBack_62 ?_
        refine g_aload_n 1 rfl rfl dX0_goBack_63 ?_
        refine g_getR FX0_9 sC_50 rfl dX0_goBack_64 ?_
        refine g_iload_n 3 rfl rfl dX0_goBack_67 ?_
        obtain ⟨v10, ev10, h⟩ := g_bnd h
        refine g_iald' ev10 sC_51 dX0_goBack_68 ?_
        refine g_iadd dX0_goBack_69 ?_
        refine g_max ZmaxX0_50 Zmax_s Zm_i Zmax_c ⟨Nat.le_of_ble_eq_true rfl, Nat.le_of_ble_eq_true rfl⟩ ⟨Nat.le_of_ble_eq_true rfl, Nat.le_of_ble_eq_true rfl⟩ dX0_goBack_70 ?_
        obtain ⟨M11, eM11, h⟩ := g_bnd h
        refine g_iast' eM11 sC_54 dX0_goBack_73 ?_
        refine g_sub [1, 2, 3, 4] rfl ?_
        exact tX0_goBack_b74 ht1 h Kc Kx
    · refine g_icmp_ne_t c6 (tgt := 74) rfl dX0_goBack_35 ?_
      refine g_sub [1, 2, 3, 4] rfl ?_
      exact tX0_goBack_b74 ht1 h Kc Kx
def fX0_goBack (t1 : Nat) (x2 : Int32) (M0 : gMem) : Option gMem :=
  (gLoop (fun z9 => fX0_goBack_l2 t1 x2 z9.1 z9.2) gFu ((0 : Int32), M0)).bind fun w12 => some w12
set_option maxRecDepth 20000 in
theorem tX0_goBack {X : gX} {V : gEnv} {t1 : Nat} {x2 : Int32} {M0 : gMem} (ht1 : gNet gShC t1) {o : gMem} (h : fX0_goBack t1 x2 M0 = some o) (O : gO X V mX0_goBack gShC none none o) : gG X V mX0_goBack gShC M0 0 0 0 [(0, .ref (gAd V 50)), (1, .ref (gAd V t1)), (2, .int x2)] [] := by
  unfold fX0_goBack at h
  refine g_iconst (v := 0) rfl dX0_goBack_0 ?_
  refine g_istore_n (ls' := [(3, .int (0 : Int32)), (0, .ref (gAd V 50)), (1, .ref (gAd V t1)), (2, .int x2)]) rfl (Nat.le_of_ble_eq_true rfl) rfl dX0_goBack_1 ?_
  obtain ⟨w12, ew12, h⟩ := g_bnd h
  refine g_sub [1, 2, 3, 0] rfl ?_
  have KX : gG X V mX0_goBack gShC w12 0 0 80 [] [] := by
    cases h
    exact g_vret O ⟨Nat.le_of_ble_eq_true rfl, Nat.le_of_ble_eq_true rfl⟩ dX0_goBack_80
  exact gLoop_Q ew12 (fun z9 => gG X V mX0_goBack gShC z9.2 0 0 2 [(0, .ref (gAd V 50)), (1, .ref (gAd V t1)), (2, .int x2), (3, .int z9.1)] []) (fun s9 o9 hb9 hc9 hx9 => tX0_goBack_l2 ht1 hb9 hc9 (fun e9 he9 => by cases hx9 _ he9; exact KX))
theorem kX0_goBack {l : Launch} {V : gEnv} {M0 : gMem} {t1 : Nat} {x2 : Int32} (ht1 : gNet gShC t1) {o : gMem} (h : fX0_goBack t1 x2 M0 = some o) : gM l yX0_goBack cX0_goBack 5 none rX0_goBack V gShC [.ref (gAd V 50), .ref (gAd V t1), .int x2] M0 none o :=
  gM.of (by decide) (Nat.le_of_ble_eq_true rfl) rfl (fun X _ O => tX0_goBack ht1 h O)
theorem dX0_measure_0 : decode cX0_measure 0 = .ok (.aload_n 0, 1) := by decide +kernel
theorem dX0_measure_1 : decode cX0_measure 1 = .ok (.getfield 9, 3) := by decide +kernel
theorem dX0_measure_4 : decode cX0_measure 4 = .ok (.iconst 0, 1) := by decide +kernel
theorem dX0_measure_5 : decode cX0_measure 5 = .ok (.invokestatic 28, 3) := by decide +kernel
theorem dX0_measure_8 : decode cX0_measure 8 = .ok (.aload_n 0, 1) := by decide +kernel
theorem dX0_measure_9 : decode cX0_measure 9 = .ok (.getfield 15, 3) := by decide +kernel
theorem dX0_measure_12 : decode cX0_measure 12 = .ok (.iconst 0, 1) := by decide +kernel
theorem dX0_measure_13 : decode cX0_measure 13 = .ok (.invokestatic 28, 3) := by decide +kernel
theorem dX0_measure_16 : decode cX0_measure 16 = .ok (.aload_n 0, 1) := by decide +kernel
theorem dX0_measure_17 : decode cX0_measure 17 = .ok (.getfield 18, 3) := by decide +kernel
theorem dX0_measure_20 : decode cX0_measure 20 = .ok (.iconst 0, 1) := by decide +kernel
theorem dX0_measure_21 : decode cX0_measure 21 = .ok (.invokestatic 28, 3) := by decide +kernel
theorem dX0_measure_24 : decode cX0_measure 24 = .ok (.aload_n 0, 1) := by decide +kernel
theorem dX0_measure_25 : decode cX0_measure 25 = .ok (.getfield 21, 3) := by decide +kernel
theorem dX0_measure_28 : decode cX0_measure 28 = .ok (.iconst 0, 1) := by decide +kernel
theorem dX0_measure_29 : decode cX0_measure 29 = .ok (.invokestatic 28, 3) := by decide +kernel
theorem dX0_measure_32 : decode cX0_measure 32 = .ok (.iconst 0, 1) := by decide +kernel
theorem dX0_measure_33 : decode cX0_measure 33 = .ok (.istore_n 2, 1) := by decide +kernel
theorem dX0_measure_34 : decode cX0_measure 34 = .ok (.iload_n 2, 1) := by decide +kernel
theorem dX0_measure_35 : decode cX0_measure 35 = .ok (.aload_n 1, 1) := by decide +kernel
theorem dX0_measure_36 : decode cX0_measure 36 = .ok (.getfield 34, 3) := by decide +kernel
theorem dX0_measure_39 : decode cX0_measure 39 = .ok (.if_icmp .ge 29, 3) := by decide +kernel
theorem dX0_measure_42 : decode cX0_measure 42 = .ok (.aload_n 0, 1) := by decide +kernel
theorem dX0_measure_43 : decode cX0_measure 43 = .ok (.getfield 9, 3) := by decide +kernel
theorem dX0_measure_46 : decode cX0_measure 46 = .ok (.aload_n 1, 1) := by decide +kernel
theorem dX0_measure_47 : decode cX0_measure 47 = .ok (.getfield 39, 3) := by decide +kernel
theorem dX0_measure_50 : decode cX0_measure 50 = .ok (.iload_n 2, 1) := by decide +kernel
theorem dX0_measure_51 : decode cX0_measure 51 = .ok (.iaload, 1) := by decide +kernel
theorem dX0_measure_52 : decode cX0_measure 52 = .ok (.dup2, 1) := by decide +kernel
theorem dX0_measure_53 : decode cX0_measure 53 = .ok (.iaload, 1) := by decide +kernel
theorem dX0_measure_54 : decode cX0_measure 54 = .ok (.aload_n 1, 1) := by decide +kernel
theorem dX0_measure_55 : decode cX0_measure 55 = .ok (.getfield 42, 3) := by decide +kernel
theorem dX0_measure_58 : decode cX0_measure 58 = .ok (.iload_n 2, 1) := by decide +kernel
theorem dX0_measure_59 : decode cX0_measure 59 = .ok (.iaload, 1) := by decide +kernel
theorem dX0_measure_60 : decode cX0_measure 60 = .ok (.iadd, 1) := by decide +kernel
theorem dX0_measure_61 : decode cX0_measure 61 = .ok (.iastore, 1) := by decide +kernel
theorem dX0_measure_62 : decode cX0_measure 62 = .ok (.iinc 2 1, 3) := by decide +kernel
theorem dX0_measure_65 : decode cX0_measure 65 = .ok (.goto (-31), 3) := by decide +kernel
theorem dX0_measure_68 : decode cX0_measure 68 = .ok (.aload_n 0, 1) := by decide +kernel
theorem dX0_measure_69 : decode cX0_measure 69 = .ok (.iconst 0, 1) := by decide +kernel
theorem dX0_measure_70 : decode cX0_measure 70 = .ok (.putfield 24, 3) := by decide +kernel
theorem dX0_measure_73 : decode cX0_measure 73 = .ok (.iconst 0, 1) := by decide +kernel
theorem dX0_measure_74 : decode cX0_measure 74 = .ok (.istore_n 2, 1) := by decide +kernel
theorem dX0_measure_75 : decode cX0_measure 75 = .ok (.iload_n 2, 1) := by decide +kernel
theorem dX0_measure_76 : decode cX0_measure 76 = .ok (.aload_n 1, 1) := by decide +kernel
theorem dX0_measure_77 : decode cX0_measure 77 = .ok (.getfield 43, 3) := by decide +kernel
theorem dX0_measure_80 : decode cX0_measure 80 = .ok (.if_icmp .ge 39, 3) := by decide +kernel
theorem dX0_measure_83 : decode cX0_measure 83 = .ok (.aload_n 0, 1) := by decide +kernel
theorem dX0_measure_84 : decode cX0_measure 84 = .ok (.aload_n 1, 1) := by decide +kernel
theorem dX0_measure_85 : decode cX0_measure 85 = .ok (.iload_n 2, 1) := by decide +kernel
theorem dX0_measure_86 : decode cX0_measure 86 = .ok (.invokevirtual 46, 3) := by decide +kernel
theorem dX0_measure_89 : decode cX0_measure 89 = .ok (.aload_n 0, 1) := by decide +kernel
theorem dX0_measure_90 : decode cX0_measure 90 = .ok (.aload_n 0, 1) := by decide +kernel
theorem dX0_measure_91 : decode cX0_measure 91 = .ok (.getfield 24, 3) := by decide +kernel
theorem dX0_measure_94 : decode cX0_measure 94 = .ok (.aload_n 0, 1) := by decide +kernel
theorem dX0_measure_95 : decode cX0_measure 95 = .ok (.getfield 18, 3) := by decide +kernel
theorem dX0_measure_98 : decode cX0_measure 98 = .ok (.iload_n 2, 1) := by decide +kernel
theorem dX0_measure_99 : decode cX0_measure 99 = .ok (.iaload, 1) := by decide +kernel
theorem dX0_measure_100 : decode cX0_measure 100 = .ok (.aload_n 0, 1) := by decide +kernel
theorem dX0_measure_101 : decode cX0_measure 101 = .ok (.getfield 9, 3) := by decide +kernel
theorem dX0_measure_104 : decode cX0_measure 104 = .ok (.iload_n 2, 1) := by decide +kernel
theorem dX0_measure_105 : decode cX0_measure 105 = .ok (.iaload, 1) := by decide +kernel
theorem dX0_measure_106 : decode cX0_measure 106 = .ok (.iadd, 1) := by decide +kernel
theorem dX0_measure_107 : decode cX0_measure 107 = .ok (.invokestatic 50, 3) := by decide +kernel
theorem dX0_measure_110 : decode cX0_measure 110 = .ok (.putfield 24, 3) := by decide +kernel
theorem dX0_measure_113 : decode cX0_measure 113 = .ok (.iinc 2 1, 3) := by decide +kernel
theorem dX0_measure_116 : decode cX0_measure 116 = .ok (.goto (-41), 3) := by decide +kernel
theorem dX0_measure_119 : decode cX0_measure 119 = .ok (.aload_n 1, 1) := by decide +kernel
theorem dX0_measure_120 : decode cX0_measure 120 = .ok (.getfield 43, 3) := by decide +kernel
theorem dX0_measure_123 : decode cX0_measure 123 = .ok (.iconst 1, 1) := by decide +kernel
theorem dX0_measure_124 : decode cX0_measure 124 = .ok (.isub, 1) := by decide +kernel
theorem dX0_measure_125 : decode cX0_measure 125 = .ok (.istore_n 2, 1) := by decide +kernel
theorem dX0_measure_126 : decode cX0_measure 126 = .ok (.iload_n 2, 1) := by decide +kernel
theorem dX0_measure_127 : decode cX0_measure 127 = .ok (.ifCond .lt 15, 3) := by decide +kernel
theorem dX0_measure_130 : decode cX0_measure 130 = .ok (.aload_n 0, 1) := by decide +kernel
theorem dX0_measure_131 : decode cX0_measure 131 = .ok (.aload_n 1, 1) := by decide +kernel
theorem dX0_measure_132 : decode cX0_measure 132 = .ok (.iload_n 2, 1) := by decide +kernel
theorem dX0_measure_133 : decode cX0_measure 133 = .ok (.invokevirtual 56, 3) := by decide +kernel
theorem dX0_measure_136 : decode cX0_measure 136 = .ok (.iinc 2 (-1), 3) := by decide +kernel
theorem dX0_measure_139 : decode cX0_measure 139 = .ok (.goto (-13), 3) := by decide +kernel
theorem dX0_measure_142 : decode cX0_measure 142 = .ok (.return_, 1) := by decide +kernel
abbrev rX0_measure : Room := { frames := 2, cells := 0, slots := 0, locals := 54 }
abbrev mX0_measure : gY := (cX0_measure, RX0, 3, rX0_measure)
def fX0_measure_l34 (t1 : Nat) (x2 : Int32) (M0 : gMem) : Option ((Int32 × gMem) ⊕ gMem) :=
  if (M0.1 t1 9) ≤ x2 then (some (.inr M0)) else (rI M0 (t1 + 8) 24 x2).bind fun v6 => (rI M0 51 24 v6).bind fun v7 => (rI M0 (t1 + 2) 24 x2).bind fun v8 => (wI M0 51 24 v6 (v7 + v8)).bind fun M9 => some (.inl (x2 + (1 : Int32), M9))
set_option maxRecDepth 20000 in
theorem tX0_measure_l34 {X : gX} {V : gEnv} {t1 : Nat} {x2 : Int32} {M0 : gMem} (ht1 : gNet gShC t1) {o : ((Int32 × gMem) ⊕ gMem)} (h : fX0_measure_l34 t1 x2 M0 = some o) (Kc : ∀ s9, o = .inl s9 → gG X V mX0_measure gShC s9.2 0 0 34 [(0, .ref (gAd V 50)), (1, .ref (gAd V t1)), (2, .int s9.1)] []) (Kx : ∀ e9, o = .inr e9 → gG X V mX0_measure gShC e9 0 0 68 [(0, .ref (gAd V 50)), (1, .ref (gAd V t1))] []) : gG X V mX0_measure gShC M0 0 0 34 [(0, .ref (gAd V 50)), (1, .ref (gAd V t1)), (2, .int x2)] [] := by
  unfold fX0_measure_l34 at h
  refine g_iload_n 2 rfl rfl dX0_measure_34 ?_
  refine g_aload_n 1 rfl rfl dX0_measure_35 ?_
  refine g_getI FX0_34 ht1.1 rfl dX0_measure_36 ?_
  rcases g_ite h with ⟨c5, h⟩ | ⟨c5, h⟩
  · refine g_icmp_ge_t c5 (tgt := 68) rfl dX0_measure_39 ?_
    cases h
    refine g_sub [0, 1] rfl ?_
    exact Kx M0 rfl
  · refine g_icmp_ge_f c5 (tgt := 68) rfl dX0_measure_39 ?_
    refine g_aload_n 0 rfl rfl dX0_measure_42 ?_
    refine g_getR FX0_9 sC_50 rfl dX0_measure_43 ?_
    refine g_aload_n 1 rfl rfl dX0_measure_46 ?_
    refine g_getR FX0_39 ht1.1 rfl dX0_measure_47 ?_
    refine g_iload_n 2 rfl rfl dX0_measure_50 ?_
    obtain ⟨v6, ev6, h⟩ := g_bnd h
    refine g_iald' ev6 ht1.2.2.2.2.2.2.2.2.1 dX0_measure_51 ?_
    refine g_dup2 rfl rfl dX0_measure_52 ?_
    obtain ⟨v7, ev7, h⟩ := g_bnd h
    refine g_iald' ev7 sC_51 dX0_measure_53 ?_
    refine g_aload_n 1 rfl rfl dX0_measure_54 ?_
    refine g_getR FX0_42 ht1.1 rfl dX0_measure_55 ?_
    refine g_iload_n 2 rfl rfl dX0_measure_58 ?_
    obtain ⟨v8, ev8, h⟩ := g_bnd h
    refine g_iald' ev8 ht1.2.2.1 dX0_measure_59 ?_
    refine g_iadd dX0_measure_60 ?_
    obtain ⟨M9, eM9, h⟩ := g_bnd h
    refine g_iast' eM9 sC_51 dX0_measure_61 ?_
    refine g_iinc (j := 2) (v := x2 + (1 : Int32)) (ls' := [(2, .int (x2 + (1 : Int32))), (0, .ref (gAd V 50)), (1, .ref (gAd V t1))]) rfl rfl (Nat.le_of_ble_eq_true rfl) rfl dX0_measure_62 ?_
    refine g_goto (tgt := 34) rfl dX0_measure_65 ?_
    cases h
    refine g_sub [1, 2, 0] rfl ?_
    exact Kc (x2 + (1 : Int32), M9) rfl
def fX0_measure_l75 (t1 : Nat) (x2 : Int32) (M0 : gMem) : Option ((Int32 × gMem) ⊕ gMem) :=
  if (M0.1 t1 11) ≤ x2 then (some (.inr M0)) else (fX0_goOn t1 x2 M0).bind fun v13 => (rI v13 53 24 x2).bind fun v14 => (rI v13 51 24 x2).bind fun v15 => (wF v13 50 4 (if (v13.1 50 4) < (v14 + v15) then (v14 + v15) else (v13.1 50 4))).bind fun M16 => some (.inl (x2 + (1 : Int32), M16))
set_option maxRecDepth 20000 in
theorem tX0_measure_l75 {X : gX} {V : gEnv} {t1 : Nat} {x2 : Int32} {M0 : gMem} (ht1 : gNet gShC t1) {o : ((Int32 × gMem) ⊕ gMem)} (h : fX0_measure_l75 t1 x2 M0 = some o) (Kc : ∀ s9, o = .inl s9 → gG X V mX0_measure gShC s9.2 0 0 75 [(0, .ref (gAd V 50)), (1, .ref (gAd V t1)), (2, .int s9.1)] []) (Kx : ∀ e9, o = .inr e9 → gG X V mX0_measure gShC e9 0 0 119 [(0, .ref (gAd V 50)), (1, .ref (gAd V t1))] []) : gG X V mX0_measure gShC M0 0 0 75 [(0, .ref (gAd V 50)), (1, .ref (gAd V t1)), (2, .int x2)] [] := by
  unfold fX0_measure_l75 at h
  refine g_iload_n 2 rfl rfl dX0_measure_75 ?_
  refine g_aload_n 1 rfl rfl dX0_measure_76 ?_
  refine g_getI FX0_43 ht1.1 rfl dX0_measure_77 ?_
  rcases g_ite h with ⟨c12, h⟩ | ⟨c12, h⟩
  · refine g_icmp_ge_t c12 (tgt := 119) rfl dX0_measure_80 ?_
    cases h
    refine g_sub [0, 1] rfl ?_
    exact Kx M0 rfl
  · refine g_icmp_ge_f c12 (tgt := 119) rfl dX0_measure_80 ?_
    refine g_aload_n 0 rfl rfl dX0_measure_83 ?_
    refine g_aload_n 1 rfl rfl dX0_measure_84 ?_
    refine g_iload_n 2 rfl rfl dX0_measure_85 ?_
    obtain ⟨v13, ev13, h⟩ := g_bnd h
    refine g_callV LX0_46 sC_50 rfl (kX0_goOn ht1 ev13) rfl rfl (Nat.le_of_ble_eq_true rfl) ⟨Nat.le_of_ble_eq_true rfl, Nat.le_of_ble_eq_true rfl⟩ ⟨Nat.le_of_ble_eq_true rfl, Nat.le_of_ble_eq_true rfl⟩ dX0_measure_86 rfl ?_
    refine g_aload_n 0 rfl rfl dX0_measure_89 ?_
    refine g_aload_n 0 rfl rfl dX0_measure_90 ?_
    refine g_getI FX0_24 sC_50 rfl dX0_measure_91 ?_
    refine g_aload_n 0 rfl rfl dX0_measure_94 ?_
    refine g_getR FX0_18 sC_50 rfl dX0_measure_95 ?_
    refine g_iload_n 2 rfl rfl dX0_measure_98 ?_
    obtain ⟨v14, ev14, h⟩ := g_bnd h
    refine g_iald' ev14 sC_53 dX0_measure_99 ?_
    refine g_aload_n 0 rfl rfl dX0_measure_100 ?_
    refine g_getR FX0_9 sC_50 rfl dX0_measure_101 ?_
    refine g_iload_n 2 rfl rfl dX0_measure_104 ?_
    obtain ⟨v15, ev15, h⟩ := g_bnd h
    refine g_iald' ev15 sC_51 dX0_measure_105 ?_
    refine g_iadd dX0_measure_106 ?_
    refine g_max ZmaxX0_50 Zmax_s Zm_i Zmax_c ⟨Nat.le_of_ble_eq_true rfl, Nat.le_of_ble_eq_true rfl⟩ ⟨Nat.le_of_ble_eq_true rfl, Nat.le_of_ble_eq_true rfl⟩ dX0_measure_107 ?_
    obtain ⟨M16, eM16, h⟩ := g_bnd h
    refine g_putI' eM16 FX0_24 jX0 sC_50 rfl rfl rfl dX0_measure_110 ?_
    refine g_iinc (j := 2) (v := x2 + (1 : Int32)) (ls' := [(2, .int (x2 + (1 : Int32))), (0, .ref (gAd V 50)), (1, .ref (gAd V t1))]) rfl rfl (Nat.le_of_ble_eq_true rfl) rfl dX0_measure_113 ?_
    refine g_goto (tgt := 75) rfl dX0_measure_116 ?_
    cases h
    refine g_sub [1, 2, 0] rfl ?_
    exact Kc (x2 + (1 : Int32), M16) rfl
def fX0_measure_l126 (t1 : Nat) (x2 : Int32) (M0 : gMem) : Option ((Int32 × gMem) ⊕ gMem) :=
  if x2 < 0 then (some (.inr M0)) else (fX0_goBack t1 x2 M0).bind fun v20 => some (.inl (x2 + (-1 : Int32), v20))
set_option maxRecDepth 20000 in
theorem tX0_measure_l126 {X : gX} {V : gEnv} {t1 : Nat} {x2 : Int32} {M0 : gMem} (ht1 : gNet gShC t1) {o : ((Int32 × gMem) ⊕ gMem)} (h : fX0_measure_l126 t1 x2 M0 = some o) (Kc : ∀ s9, o = .inl s9 → gG X V mX0_measure gShC s9.2 0 0 126 [(0, .ref (gAd V 50)), (1, .ref (gAd V t1)), (2, .int s9.1)] []) (Kx : ∀ e9, o = .inr e9 → gG X V mX0_measure gShC e9 0 0 142 [] []) : gG X V mX0_measure gShC M0 0 0 126 [(0, .ref (gAd V 50)), (1, .ref (gAd V t1)), (2, .int x2)] [] := by
  unfold fX0_measure_l126 at h
  refine g_iload_n 2 rfl rfl dX0_measure_126 ?_
  rcases g_ite h with ⟨c19, h⟩ | ⟨c19, h⟩
  · refine g_if_lt_t c19 (tgt := 142) rfl dX0_measure_127 ?_
    cases h
    refine g_sub [] rfl ?_
    exact Kx M0 rfl
  · refine g_if_lt_f c19 (tgt := 142) rfl dX0_measure_127 ?_
    refine g_aload_n 0 rfl rfl dX0_measure_130 ?_
    refine g_aload_n 1 rfl rfl dX0_measure_131 ?_
    refine g_iload_n 2 rfl rfl dX0_measure_132 ?_
    obtain ⟨v20, ev20, h⟩ := g_bnd h
    refine g_callV LX0_56 sC_50 rfl (kX0_goBack ht1 ev20) rfl rfl (Nat.le_of_ble_eq_true rfl) ⟨Nat.le_of_ble_eq_true rfl, Nat.le_of_ble_eq_true rfl⟩ ⟨Nat.le_of_ble_eq_true rfl, Nat.le_of_ble_eq_true rfl⟩ dX0_measure_133 rfl ?_
    refine g_iinc (j := 2) (v := x2 + (-1 : Int32)) (ls' := [(2, .int (x2 + (-1 : Int32))), (0, .ref (gAd V 50)), (1, .ref (gAd V t1))]) rfl (congrArg (fun z => x2 + z) (by decide)) (Nat.le_of_ble_eq_true rfl) rfl dX0_measure_136 ?_
    refine g_goto (tgt := 126) rfl dX0_measure_139 ?_
    cases h
    refine g_sub [1, 2, 0] rfl ?_
    exact Kc (x2 + (-1 : Int32), v20) rfl
def fX0_measure (t1 : Nat) (M0 : gMem) : Option gMem :=
  (fJ7_fill_53178 51 24 (0 : Int32) M0).bind fun v1 => (fJ7_fill_53178 52 24 (0 : Int32) v1).bind fun v2 => (fJ7_fill_53178 53 24 (0 : Int32) v2).bind fun v3 => (fJ7_fill_53178 54 24 (0 : Int32) v3).bind fun v4 => (gLoop (fun z9 => fX0_measure_l34 t1 z9.1 z9.2) gFu ((0 : Int32), v4)).bind fun w10 => (wF w10 50 4 (0 : Int32)).bind fun M11 => (gLoop (fun z9 => fX0_measure_l75 t1 z9.1 z9.2) gFu ((0 : Int32), M11)).bind fun w17 => (nm ((w17.1 t1 11) - (1 : Int32))).bind fun v18 => (gLoop (fun z9 => fX0_measure_l126 t1 z9.1 z9.2) gFu (v18, w17)).bind fun w21 => some w21
set_option maxRecDepth 20000 in
theorem tX0_measure {X : gX} {V : gEnv} {t1 : Nat} {M0 : gMem} (ht1 : gNet gShC t1) {o : gMem} (h : fX0_measure t1 M0 = some o) (O : gO X V mX0_measure gShC none none o) : gG X V mX0_measure gShC M0 0 0 0 [(0, .ref (gAd V 50)), (1, .ref (gAd V t1))] [] := by
  unfold fX0_measure at h
  refine g_aload_n 0 rfl rfl dX0_measure_0 ?_
  refine g_getR FX0_9 sC_50 rfl dX0_measure_1 ?_
  refine g_iconst (v := 0) rfl dX0_measure_4 ?_
  obtain ⟨v1, ev1, h⟩ := g_bnd h
  refine g_callS LX0_28 (kJ7_fill_53178 sC_51 ev1) rfl rfl (Nat.le_of_ble_eq_true rfl) ⟨Nat.le_of_ble_eq_true rfl, Nat.le_of_ble_eq_true rfl⟩ ⟨Nat.le_of_ble_eq_true rfl, Nat.le_of_ble_eq_true rfl⟩ dX0_measure_5 rfl ?_
  refine g_aload_n 0 rfl rfl dX0_measure_8 ?_
  refine g_getR FX0_15 sC_50 rfl dX0_measure_9 ?_
  refine g_iconst (v := 0) rfl dX0_measure_12 ?_
  obtain ⟨v2, ev2, h⟩ := g_bnd h
  refine g_callS LX0_28 (kJ7_fill_53178 sC_52 ev2) rfl rfl (Nat.le_of_ble_eq_true rfl) ⟨Nat.le_of_ble_eq_true rfl, Nat.le_of_ble_eq_true rfl⟩ ⟨Nat.le_of_ble_eq_true rfl, Nat.le_of_ble_eq_true rfl⟩ dX0_measure_13 rfl ?_
  refine g_aload_n 0 rfl rfl dX0_measure_16 ?_
  refine g_getR FX0_18 sC_50 rfl dX0_measure_17 ?_
  refine g_iconst (v := 0) rfl dX0_measure_20 ?_
  obtain ⟨v3, ev3, h⟩ := g_bnd h
  refine g_callS LX0_28 (kJ7_fill_53178 sC_53 ev3) rfl rfl (Nat.le_of_ble_eq_true rfl) ⟨Nat.le_of_ble_eq_true rfl, Nat.le_of_ble_eq_true rfl⟩ ⟨Nat.le_of_ble_eq_true rfl, Nat.le_of_ble_eq_true rfl⟩ dX0_measure_21 rfl ?_
  refine g_aload_n 0 rfl rfl dX0_measure_24 ?_
  refine g_getR FX0_21 sC_50 rfl dX0_measure_25 ?_
  refine g_iconst (v := 0) rfl dX0_measure_28 ?_
  obtain ⟨v4, ev4, h⟩ := g_bnd h
  refine g_callS LX0_28 (kJ7_fill_53178 sC_54 ev4) rfl rfl (Nat.le_of_ble_eq_true rfl) ⟨Nat.le_of_ble_eq_true rfl, Nat.le_of_ble_eq_true rfl⟩ ⟨Nat.le_of_ble_eq_true rfl, Nat.le_of_ble_eq_true rfl⟩ dX0_measure_29 rfl ?_
  refine g_iconst (v := 0) rfl dX0_measure_32 ?_
  refine g_istore_n (ls' := [(2, .int (0 : Int32)), (0, .ref (gAd V 50)), (1, .ref (gAd V t1))]) rfl (Nat.le_of_ble_eq_true rfl) rfl dX0_measure_33 ?_
  obtain ⟨w10, ew10, h⟩ := g_bnd h
  refine g_sub [1, 2, 0] rfl ?_
  have KX : gG X V mX0_measure gShC w10 0 0 68 [(0, .ref (gAd V 50)), (1, .ref (gAd V t1))] [] := by
    refine g_aload_n 0 rfl rfl dX0_measure_68 ?_
    refine g_iconst (v := 0) rfl dX0_measure_69 ?_
    obtain ⟨M11, eM11, h⟩ := g_bnd h
    refine g_putI' eM11 FX0_24 jX0 sC_50 rfl rfl rfl dX0_measure_70 ?_
    refine g_iconst (v := 0) rfl dX0_measure_73 ?_
    refine g_istore_n (ls' := [(2, .int (0 : Int32)), (0, .ref (gAd V 50)), (1, .ref (gAd V t1))]) rfl (Nat.le_of_ble_eq_true rfl) rfl dX0_measure_74 ?_
    obtain ⟨w17, ew17, h⟩ := g_bnd h
    refine g_sub [1, 2, 0] rfl ?_
    have KX : gG X V mX0_measure gShC w17 0 0 119 [(0, .ref (gAd V 50)), (1, .ref (gAd V t1))] [] := by
      refine g_aload_n 1 rfl rfl dX0_measure_119 ?_
      refine g_getI FX0_43 ht1.1 rfl dX0_measure_120 ?_
      refine g_iconst (v := 1) rfl dX0_measure_123 ?_
      refine g_isub dX0_measure_124 ?_
      obtain ⟨v18, ev18, h⟩ := g_bnd h
      refine g_nmI ev18 ?_
      refine g_istore_n (ls' := [(2, .int v18), (0, .ref (gAd V 50)), (1, .ref (gAd V t1))]) rfl (Nat.le_of_ble_eq_true rfl) rfl dX0_measure_125 ?_
      obtain ⟨w21, ew21, h⟩ := g_bnd h
      refine g_sub [1, 2, 0] rfl ?_
      have KX : gG X V mX0_measure gShC w21 0 0 142 [] [] := by
        cases h
        exact g_vret O ⟨Nat.le_of_ble_eq_true rfl, Nat.le_of_ble_eq_true rfl⟩ dX0_measure_142
      exact gLoop_Q ew21 (fun z9 => gG X V mX0_measure gShC z9.2 0 0 126 [(0, .ref (gAd V 50)), (1, .ref (gAd V t1)), (2, .int z9.1)] []) (fun s9 o9 hb9 hc9 hx9 => tX0_measure_l126 ht1 hb9 hc9 (fun e9 he9 => by cases hx9 _ he9; exact KX))
    exact gLoop_Q ew17 (fun z9 => gG X V mX0_measure gShC z9.2 0 0 75 [(0, .ref (gAd V 50)), (1, .ref (gAd V t1)), (2, .int z9.1)] []) (fun s9 o9 hb9 hc9 hx9 => tX0_measure_l75 ht1 hb9 hc9 (fun e9 he9 => by cases hx9 _ he9; exact KX))
  exact gLoop_Q ew10 (fun z9 => gG X V mX0_measure gShC z9.2 0 0 34 [(0, .ref (gAd V 50)), (1, .ref (gAd V t1)), (2, .int z9.1)] []) (fun s9 o9 hb9 hc9 hx9 => tX0_measure_l34 ht1 hb9 hc9 (fun e9 he9 => by cases hx9 _ he9; exact KX))
theorem kX0_measure {l : Launch} {V : gEnv} {M0 : gMem} {t1 : Nat} (ht1 : gNet gShC t1) {o : gMem} (h : fX0_measure t1 M0 = some o) : gM l yX0_measure cX0_measure 3 none rX0_measure V gShC [.ref (gAd V 50), .ref (gAd V t1)] M0 none o :=
  gM.of (by decide) (Nat.le_of_ble_eq_true rfl) rfl (fun X _ O => tX0_measure ht1 h O)
theorem dX0_slackAt_0 : decode cX0_slackAt 0 = .ok (.aload_n 0, 1) := by decide +kernel
theorem dX0_slackAt_1 : decode cX0_slackAt 1 = .ok (.getfield 24, 3) := by decide +kernel
theorem dX0_slackAt_4 : decode cX0_slackAt 4 = .ok (.aload_n 0, 1) := by decide +kernel
theorem dX0_slackAt_5 : decode cX0_slackAt 5 = .ok (.getfield 18, 3) := by decide +kernel
theorem dX0_slackAt_8 : decode cX0_slackAt 8 = .ok (.iload_n 1, 1) := by decide +kernel
theorem dX0_slackAt_9 : decode cX0_slackAt 9 = .ok (.iaload, 1) := by decide +kernel
theorem dX0_slackAt_10 : decode cX0_slackAt 10 = .ok (.isub, 1) := by decide +kernel
theorem dX0_slackAt_11 : decode cX0_slackAt 11 = .ok (.aload_n 0, 1) := by decide +kernel
theorem dX0_slackAt_12 : decode cX0_slackAt 12 = .ok (.getfield 9, 3) := by decide +kernel
theorem dX0_slackAt_15 : decode cX0_slackAt 15 = .ok (.iload_n 1, 1) := by decide +kernel
theorem dX0_slackAt_16 : decode cX0_slackAt 16 = .ok (.iaload, 1) := by decide +kernel
theorem dX0_slackAt_17 : decode cX0_slackAt 17 = .ok (.isub, 1) := by decide +kernel
theorem dX0_slackAt_18 : decode cX0_slackAt 18 = .ok (.aload_n 0, 1) := by decide +kernel
theorem dX0_slackAt_19 : decode cX0_slackAt 19 = .ok (.getfield 21, 3) := by decide +kernel
theorem dX0_slackAt_22 : decode cX0_slackAt 22 = .ok (.iload_n 1, 1) := by decide +kernel
theorem dX0_slackAt_23 : decode cX0_slackAt 23 = .ok (.iaload, 1) := by decide +kernel
theorem dX0_slackAt_24 : decode cX0_slackAt 24 = .ok (.isub, 1) := by decide +kernel
theorem dX0_slackAt_25 : decode cX0_slackAt 25 = .ok (.ireturn, 1) := by decide +kernel
abbrev rX0_slackAt : Room := { frames := 0, cells := 0, slots := 0, locals := 0 }
abbrev mX0_slackAt : gY := (cX0_slackAt, RX0, 2, rX0_slackAt)
def fX0_slackAt (x1 : Int32) (M0 : gMem) : Option Int32 :=
  (rI M0 53 24 x1).bind fun v1 => (rI M0 51 24 x1).bind fun v2 => (rI M0 54 24 x1).bind fun v3 => some ((((M0.1 50 4) - v1) - v2) - v3)
set_option maxRecDepth 20000 in
theorem tX0_slackAt {X : gX} {V : gEnv} {x1 : Int32} {M0 : gMem}  {o : Int32} (h : fX0_slackAt x1 M0 = some o) (O : gO X V mX0_slackAt gShC (some .int) (some (.int o)) M0) : gG X V mX0_slackAt gShC M0 0 0 0 [(0, .ref (gAd V 50)), (1, .int x1)] [] := by
  unfold fX0_slackAt at h
  refine g_aload_n 0 rfl rfl dX0_slackAt_0 ?_
  refine g_getI FX0_24 sC_50 rfl dX0_slackAt_1 ?_
  refine g_aload_n 0 rfl rfl dX0_slackAt_4 ?_
  refine g_getR FX0_18 sC_50 rfl dX0_slackAt_5 ?_
  refine g_iload_n 1 rfl rfl dX0_slackAt_8 ?_
  obtain ⟨v1, ev1, h⟩ := g_bnd h
  refine g_iald' ev1 sC_53 dX0_slackAt_9 ?_
  refine g_isub dX0_slackAt_10 ?_
  refine g_aload_n 0 rfl rfl dX0_slackAt_11 ?_
  refine g_getR FX0_9 sC_50 rfl dX0_slackAt_12 ?_
  refine g_iload_n 1 rfl rfl dX0_slackAt_15 ?_
  obtain ⟨v2, ev2, h⟩ := g_bnd h
  refine g_iald' ev2 sC_51 dX0_slackAt_16 ?_
  refine g_isub dX0_slackAt_17 ?_
  refine g_aload_n 0 rfl rfl dX0_slackAt_18 ?_
  refine g_getR FX0_21 sC_50 rfl dX0_slackAt_19 ?_
  refine g_iload_n 1 rfl rfl dX0_slackAt_22 ?_
  obtain ⟨v3, ev3, h⟩ := g_bnd h
  refine g_iald' ev3 sC_54 dX0_slackAt_23 ?_
  refine g_isub dX0_slackAt_24 ?_
  cases h
  exact g_iret O ⟨Nat.le_of_ble_eq_true rfl, Nat.le_of_ble_eq_true rfl⟩ rfl dX0_slackAt_25
theorem kX0_slackAt {l : Launch} {V : gEnv} {M0 : gMem} {x1 : Int32}  {o : Int32} (h : fX0_slackAt x1 M0 = some o) : gM l yX0_slackAt cX0_slackAt 2 (some .int) rX0_slackAt V gShC [.ref (gAd V 50), .int x1] M0 (some (.int o)) M0 :=
  gM.of (by decide) (Nat.le_of_ble_eq_true rfl) rfl (fun X _ O => tX0_slackAt  h O)
theorem dJ7_fill_d0a16_0 : decode cJ7_fill_d0a16 0 = .ok (.iconst 0, 1) := by decide +kernel
theorem dJ7_fill_d0a16_1 : decode cJ7_fill_d0a16 1 = .ok (.istore_n 3, 1) := by decide +kernel
theorem dJ7_fill_d0a16_2 : decode cJ7_fill_d0a16 2 = .ok (.aload_n 0, 1) := by decide +kernel
theorem dJ7_fill_d0a16_3 : decode cJ7_fill_d0a16 3 = .ok (.arraylength, 1) := by decide +kernel
theorem dJ7_fill_d0a16_4 : decode cJ7_fill_d0a16 4 = .ok (.istore 4, 2) := by decide +kernel
theorem dJ7_fill_d0a16_6 : decode cJ7_fill_d0a16 6 = .ok (.iload_n 3, 1) := by decide +kernel
theorem dJ7_fill_d0a16_7 : decode cJ7_fill_d0a16 7 = .ok (.iload 4, 2) := by decide +kernel
theorem dJ7_fill_d0a16_9 : decode cJ7_fill_d0a16 9 = .ok (.if_icmp .ge 13, 3) := by decide +kernel
theorem dJ7_fill_d0a16_12 : decode cJ7_fill_d0a16 12 = .ok (.aload_n 0, 1) := by decide +kernel
theorem dJ7_fill_d0a16_13 : decode cJ7_fill_d0a16 13 = .ok (.iload_n 3, 1) := by decide +kernel
theorem dJ7_fill_d0a16_14 : decode cJ7_fill_d0a16 14 = .ok (.lload_n 1, 1) := by decide +kernel
theorem dJ7_fill_d0a16_15 : decode cJ7_fill_d0a16 15 = .ok (.lastore, 1) := by decide +kernel
theorem dJ7_fill_d0a16_16 : decode cJ7_fill_d0a16 16 = .ok (.iinc 3 1, 3) := by decide +kernel
theorem dJ7_fill_d0a16_19 : decode cJ7_fill_d0a16 19 = .ok (.goto (-13), 3) := by decide +kernel
theorem dJ7_fill_d0a16_22 : decode cJ7_fill_d0a16 22 = .ok (.return_, 1) := by decide +kernel
abbrev rJ7_fill_d0a16 : Room := { frames := 0, cells := 0, slots := 0, locals := 0 }
abbrev mJ7_fill_d0a16 : gY := (cJ7_fill_d0a16, RJ7, 5, rJ7_fill_d0a16)
def fJ7_fill_d0a16_l6 (t0 : Nat) (n0 : Nat) (x1 : Int64) (x4 : Int32) (x3 : Int32) (M0 : gMem) : Option ((Int32 × gMem) ⊕ gMem) :=
  if x4 ≤ x3 then (some (.inr M0)) else (wL M0 t0 n0 x3 x1).bind fun M3 => some (.inl (x3 + (1 : Int32), M3))
set_option maxRecDepth 20000 in
theorem tJ7_fill_d0a16_l6 {X : gX} {V : gEnv} {Sh : List gShp} {t0 : Nat} {n0 : Nat} {x1 : Int64} {x4 : Int32} {x3 : Int32} {M0 : gMem} (ht0 : Sh[t0]? = some (.inl (1, n0))) {o : ((Int32 × gMem) ⊕ gMem)} (h : fJ7_fill_d0a16_l6 t0 n0 x1 x4 x3 M0 = some o) (Kc : ∀ s9, o = .inl s9 → gG X V mJ7_fill_d0a16 Sh s9.2 0 0 6 [(0, .ref (gAd V t0)), (1, .long x1), (3, .int s9.1), (4, .int x4)] []) (Kx : ∀ e9, o = .inr e9 → gG X V mJ7_fill_d0a16 Sh e9 0 0 22 [] []) : gG X V mJ7_fill_d0a16 Sh M0 0 0 6 [(0, .ref (gAd V t0)), (1, .long x1), (3, .int x3), (4, .int x4)] [] := by
  unfold fJ7_fill_d0a16_l6 at h
  refine g_iload_n 2 rfl rfl dJ7_fill_d0a16_6 ?_
  refine g_iload 3 rfl dJ7_fill_d0a16_7 ?_
  rcases g_ite h with ⟨c2, h⟩ | ⟨c2, h⟩
  · refine g_icmp_ge_t c2 (tgt := 22) rfl dJ7_fill_d0a16_9 ?_
    cases h
    refine g_sub [] rfl ?_
    exact Kx M0 rfl
  · refine g_icmp_ge_f c2 (tgt := 22) rfl dJ7_fill_d0a16_9 ?_
    refine g_aload_n 0 rfl rfl dJ7_fill_d0a16_12 ?_
    refine g_iload_n 2 rfl rfl dJ7_fill_d0a16_13 ?_
    refine g_lload_n 1 rfl rfl dJ7_fill_d0a16_14 ?_
    obtain ⟨M3, eM3, h⟩ := g_bnd h
    refine g_last' eM3 ht0 dJ7_fill_d0a16_15 ?_
    refine g_iinc (j := 2) (v := x3 + (1 : Int32)) (ls' := [(3, .int (x3 + (1 : Int32))), (0, .ref (gAd V t0)), (1, .long x1), (4, .int x4)]) rfl rfl (Nat.le_of_ble_eq_true rfl) rfl dJ7_fill_d0a16_16 ?_
    refine g_goto (tgt := 6) rfl dJ7_fill_d0a16_19 ?_
    cases h
    refine g_sub [1, 2, 0, 3] rfl ?_
    exact Kc (x3 + (1 : Int32), M3) rfl
def fJ7_fill_d0a16 (t0 : Nat) (n0 : Nat) (x1 : Int64) (M0 : gMem) : Option gMem :=
  (nm (Int32.ofNat n0)).bind fun v1 => (gLoop (fun z9 => fJ7_fill_d0a16_l6 t0 n0 x1 v1 z9.1 z9.2) gFu ((0 : Int32), M0)).bind fun w4 => some w4
set_option maxRecDepth 20000 in
theorem tJ7_fill_d0a16 {X : gX} {V : gEnv} {Sh : List gShp} {t0 : Nat} {n0 : Nat} {x1 : Int64} {M0 : gMem} (ht0 : Sh[t0]? = some (.inl (1, n0))) {o : gMem} (h : fJ7_fill_d0a16 t0 n0 x1 M0 = some o) (O : gO X V mJ7_fill_d0a16 Sh none none o) : gG X V mJ7_fill_d0a16 Sh M0 0 0 0 [(0, .ref (gAd V t0)), (1, .long x1)] [] := by
  unfold fJ7_fill_d0a16 at h
  refine g_iconst (v := 0) rfl dJ7_fill_d0a16_0 ?_
  refine g_istore_n (ls' := [(3, .int (0 : Int32)), (0, .ref (gAd V t0)), (1, .long x1)]) rfl (Nat.le_of_ble_eq_true rfl) rfl dJ7_fill_d0a16_1 ?_
  refine g_aload_n 1 rfl rfl dJ7_fill_d0a16_2 ?_
  refine g_alen ht0 (by decide) rfl dJ7_fill_d0a16_3 ?_
  obtain ⟨v1, ev1, h⟩ := g_bnd h
  refine g_nmI ev1 ?_
  refine g_istore (ls' := [(4, .int v1), (3, .int (0 : Int32)), (0, .ref (gAd V t0)), (1, .long x1)]) (Nat.le_of_ble_eq_true rfl) rfl dJ7_fill_d0a16_4 ?_
  obtain ⟨w4, ew4, h⟩ := g_bnd h
  refine g_sub [2, 3, 1, 0] rfl ?_
  have KX : gG X V mJ7_fill_d0a16 Sh w4 0 0 22 [] [] := by
    cases h
    exact g_vret O ⟨Nat.le_of_ble_eq_true rfl, Nat.le_of_ble_eq_true rfl⟩ dJ7_fill_d0a16_22
  exact gLoop_Q ew4 (fun z9 => gG X V mJ7_fill_d0a16 Sh z9.2 0 0 6 [(0, .ref (gAd V t0)), (1, .long x1), (3, .int z9.1), (4, .int v1)] []) (fun s9 o9 hb9 hc9 hx9 => tJ7_fill_d0a16_l6 ht0 hb9 hc9 (fun e9 he9 => by cases hx9 _ he9; exact KX))
theorem kJ7_fill_d0a16 {l : Launch} {V : gEnv} {Sh : List gShp} {M0 : gMem} {t0 : Nat} {n0 : Nat} {x1 : Int64} (ht0 : Sh[t0]? = some (.inl (1, n0))) {o : gMem} (h : fJ7_fill_d0a16 t0 n0 x1 M0 = some o) : gM l yJ7_fill_d0a16 cJ7_fill_d0a16 5 none rJ7_fill_d0a16 V Sh [.ref (gAd V t0), .long x1] M0 none o :=
  gM.of (by decide) (Nat.le_of_ble_eq_true rfl) rfl (fun X _ O => tJ7_fill_d0a16 ht0 h O)
theorem dX2_clearAccounts_0 : decode cX2_clearAccounts 0 = .ok (.aload_n 0, 1) := by decide +kernel
theorem dX2_clearAccounts_1 : decode cX2_clearAccounts 1 = .ok (.getfield 37, 3) := by decide +kernel
theorem dX2_clearAccounts_4 : decode cX2_clearAccounts 4 = .ok (.lconst 0, 1) := by decide +kernel
theorem dX2_clearAccounts_5 : decode cX2_clearAccounts 5 = .ok (.invokestatic 59, 3) := by decide +kernel
theorem dX2_clearAccounts_8 : decode cX2_clearAccounts 8 = .ok (.return_, 1) := by decide +kernel
abbrev rX2_clearAccounts : Room := { frames := 1, cells := 0, slots := 0, locals := 24 }
abbrev mX2_clearAccounts : gY := (cX2_clearAccounts, RX2, 1, rX2_clearAccounts)
def fX2_clearAccounts (t0 : Nat) (M0 : gMem) : Option gMem :=
  (fJ7_fill_d0a16 (t0 + 9) 9 (0 : Int64) M0).bind fun v1 => some v1
set_option maxRecDepth 20000 in
theorem tX2_clearAccounts {X : gX} {V : gEnv} {t0 : Nat} {M0 : gMem} (ht0 : gNet gShC t0) {o : gMem} (h : fX2_clearAccounts t0 M0 = some o) (O : gO X V mX2_clearAccounts gShC none none o) : gG X V mX2_clearAccounts gShC M0 0 0 0 [(0, .ref (gAd V t0))] [] := by
  unfold fX2_clearAccounts at h
  refine g_aload_n 0 rfl rfl dX2_clearAccounts_0 ?_
  refine g_getR FX2_37 ht0.1 rfl dX2_clearAccounts_1 ?_
  refine g_lconst (v := 0) rfl dX2_clearAccounts_4 ?_
  obtain ⟨v1, ev1, h⟩ := g_bnd h
  refine g_callS LX2_59 (kJ7_fill_d0a16 ht0.2.2.2.2.2.2.2.2.2 ev1) rfl rfl (Nat.le_of_ble_eq_true rfl) ⟨Nat.le_of_ble_eq_true rfl, Nat.le_of_ble_eq_true rfl⟩ ⟨Nat.le_of_ble_eq_true rfl, Nat.le_of_ble_eq_true rfl⟩ dX2_clearAccounts_5 rfl ?_
  cases h
  exact g_vret O ⟨Nat.le_of_ble_eq_true rfl, Nat.le_of_ble_eq_true rfl⟩ dX2_clearAccounts_8
theorem kX2_clearAccounts {l : Launch} {V : gEnv} {M0 : gMem} {t0 : Nat} (ht0 : gNet gShC t0) {o : gMem} (h : fX2_clearAccounts t0 M0 = some o) : gM l yX2_clearAccounts cX2_clearAccounts 1 none rX2_clearAccounts V gShC [.ref (gAd V t0)] M0 none o :=
  gM.of (by decide) (Nat.le_of_ble_eq_true rfl) rfl (fun X _ O => tX2_clearAccounts ht0 h O)
theorem dX2_clear_0 : decode cX2_clear 0 = .ok (.aload_n 0, 1) := by decide +kernel
theorem dX2_clear_1 : decode cX2_clear 1 = .ok (.iconst 0, 1) := by decide +kernel
theorem dX2_clear_2 : decode cX2_clear 2 = .ok (.putfield 40, 3) := by decide +kernel
theorem dX2_clear_5 : decode cX2_clear 5 = .ok (.aload_n 0, 1) := by decide +kernel
theorem dX2_clear_6 : decode cX2_clear 6 = .ok (.iconst 0, 1) := by decide +kernel
theorem dX2_clear_7 : decode cX2_clear 7 = .ok (.putfield 44, 3) := by decide +kernel
theorem dX2_clear_10 : decode cX2_clear 10 = .ok (.aload_n 0, 1) := by decide +kernel
theorem dX2_clear_11 : decode cX2_clear 11 = .ok (.iconst 0, 1) := by decide +kernel
theorem dX2_clear_12 : decode cX2_clear 12 = .ok (.putfield 47, 3) := by decide +kernel
theorem dX2_clear_15 : decode cX2_clear 15 = .ok (.aload_n 0, 1) := by decide +kernel
theorem dX2_clear_16 : decode cX2_clear 16 = .ok (.iconst 0, 1) := by decide +kernel
theorem dX2_clear_17 : decode cX2_clear 17 = .ok (.putfield 50, 3) := by decide +kernel
theorem dX2_clear_20 : decode cX2_clear 20 = .ok (.aload_n 0, 1) := by decide +kernel
theorem dX2_clear_21 : decode cX2_clear 21 = .ok (.iconst 0, 1) := by decide +kernel
theorem dX2_clear_22 : decode cX2_clear 22 = .ok (.putfield 53, 3) := by decide +kernel
theorem dX2_clear_25 : decode cX2_clear 25 = .ok (.aload_n 0, 1) := by decide +kernel
theorem dX2_clear_26 : decode cX2_clear 26 = .ok (.invokevirtual 56, 3) := by decide +kernel
theorem dX2_clear_29 : decode cX2_clear 29 = .ok (.return_, 1) := by decide +kernel
abbrev rX2_clear : Room := { frames := 2, cells := 0, slots := 0, locals := 44 }
abbrev mX2_clear : gY := (cX2_clear, RX2, 1, rX2_clear)
def fX2_clear (t0 : Nat) (M0 : gMem) : Option gMem :=
  (wF M0 t0 9 (0 : Int32)).bind fun M1 => (wF M1 t0 10 (0 : Int32)).bind fun M2 => (wF M2 t0 11 (0 : Int32)).bind fun M3 => (wF M3 t0 12 (0 : Int32)).bind fun M4 => (wF M4 t0 13 (0 : Int32)).bind fun M5 => (fX2_clearAccounts t0 M5).bind fun v6 => some v6
set_option maxRecDepth 20000 in
theorem tX2_clear {X : gX} {V : gEnv} {t0 : Nat} {M0 : gMem} (ht0 : gNet gShC t0) {o : gMem} (h : fX2_clear t0 M0 = some o) (O : gO X V mX2_clear gShC none none o) : gG X V mX2_clear gShC M0 0 0 0 [(0, .ref (gAd V t0))] [] := by
  unfold fX2_clear at h
  refine g_aload_n 0 rfl rfl dX2_clear_0 ?_
  refine g_iconst (v := 0) rfl dX2_clear_1 ?_
  obtain ⟨M1, eM1, h⟩ := g_bnd h
  refine g_putI' eM1 FX2_40 jX2 ht0.1 rfl rfl rfl dX2_clear_2 ?_
  refine g_aload_n 0 rfl rfl dX2_clear_5 ?_
  refine g_iconst (v := 0) rfl dX2_clear_6 ?_
  obtain ⟨M2, eM2, h⟩ := g_bnd h
  refine g_putI' eM2 FX2_44 jX2 ht0.1 rfl rfl rfl dX2_clear_7 ?_
  refine g_aload_n 0 rfl rfl dX2_clear_10 ?_
  refine g_iconst (v := 0) rfl dX2_clear_11 ?_
  obtain ⟨M3, eM3, h⟩ := g_bnd h
  refine g_putI' eM3 FX2_47 jX2 ht0.1 rfl rfl rfl dX2_clear_12 ?_
  refine g_aload_n 0 rfl rfl dX2_clear_15 ?_
  refine g_iconst (v := 0) rfl dX2_clear_16 ?_
  obtain ⟨M4, eM4, h⟩ := g_bnd h
  refine g_putI' eM4 FX2_50 jX2 ht0.1 rfl rfl rfl dX2_clear_17 ?_
  refine g_aload_n 0 rfl rfl dX2_clear_20 ?_
  refine g_iconst (v := 0) rfl dX2_clear_21 ?_
  obtain ⟨M5, eM5, h⟩ := g_bnd h
  refine g_putI' eM5 FX2_53 jX2 ht0.1 rfl rfl rfl dX2_clear_22 ?_
  refine g_aload_n 0 rfl rfl dX2_clear_25 ?_
  obtain ⟨v6, ev6, h⟩ := g_bnd h
  refine g_callV LX2_56 ht0.1 rfl (kX2_clearAccounts ht0 ev6) rfl rfl (Nat.le_of_ble_eq_true rfl) ⟨Nat.le_of_ble_eq_true rfl, Nat.le_of_ble_eq_true rfl⟩ ⟨Nat.le_of_ble_eq_true rfl, Nat.le_of_ble_eq_true rfl⟩ dX2_clear_26 rfl ?_
  cases h
  exact g_vret O ⟨Nat.le_of_ble_eq_true rfl, Nat.le_of_ble_eq_true rfl⟩ dX2_clear_29
theorem kX2_clear {l : Launch} {V : gEnv} {M0 : gMem} {t0 : Nat} (ht0 : gNet gShC t0) {o : gMem} (h : fX2_clear t0 M0 = some o) : gM l yX2_clear cX2_clear 1 none rX2_clear V gShC [.ref (gAd V t0)] M0 none o :=
  gM.of (by decide) (Nat.le_of_ble_eq_true rfl) rfl (fun X _ O => tX2_clear ht0 h O)
theorem dX5_begin_0 : decode cX5_begin 0 = .ok (.aload_n 0, 1) := by decide +kernel
theorem dX5_begin_1 : decode cX5_begin 1 = .ok (.iconst 0, 1) := by decide +kernel
theorem dX5_begin_2 : decode cX5_begin 2 = .ok (.putfield 19, 3) := by decide +kernel
theorem dX5_begin_5 : decode cX5_begin 5 = .ok (.aload_n 0, 1) := by decide +kernel
theorem dX5_begin_6 : decode cX5_begin 6 = .ok (.iconst 0, 1) := by decide +kernel
theorem dX5_begin_7 : decode cX5_begin 7 = .ok (.putfield 22, 3) := by decide +kernel
theorem dX5_begin_10 : decode cX5_begin 10 = .ok (.aload_n 0, 1) := by decide +kernel
theorem dX5_begin_11 : decode cX5_begin 11 = .ok (.iconst 0, 1) := by decide +kernel
theorem dX5_begin_12 : decode cX5_begin 12 = .ok (.putfield 25, 3) := by decide +kernel
theorem dX5_begin_15 : decode cX5_begin 15 = .ok (.aload_n 0, 1) := by decide +kernel
theorem dX5_begin_16 : decode cX5_begin 16 = .ok (.iconst (-1), 1) := by decide +kernel
theorem dX5_begin_17 : decode cX5_begin 17 = .ok (.putfield 28, 3) := by decide +kernel
theorem dX5_begin_20 : decode cX5_begin 20 = .ok (.return_, 1) := by decide +kernel
abbrev rX5_begin : Room := { frames := 0, cells := 0, slots := 0, locals := 0 }
abbrev mX5_begin : gY := (cX5_begin, RX5, 1, rX5_begin)
def fX5_begin (M0 : gMem) : Option gMem :=
  (wF M0 32 2 (0 : Int32)).bind fun M1 => (wF M1 32 3 (0 : Int32)).bind fun M2 => (wF M2 32 4 (0 : Int32)).bind fun M3 => (wF M3 32 5 (-1 : Int32)).bind fun M4 => some M4
set_option maxRecDepth 20000 in
theorem tX5_begin {X : gX} {V : gEnv} {M0 : gMem}  {o : gMem} (h : fX5_begin M0 = some o) (O : gO X V mX5_begin gShC none none o) : gG X V mX5_begin gShC M0 0 0 0 [(0, .ref (gAd V 32))] [] := by
  unfold fX5_begin at h
  refine g_aload_n 0 rfl rfl dX5_begin_0 ?_
  refine g_iconst (v := 0) rfl dX5_begin_1 ?_
  obtain ⟨M1, eM1, h⟩ := g_bnd h
  refine g_putI' eM1 FX5_19 jX5 sC_32 rfl rfl rfl dX5_begin_2 ?_
  refine g_aload_n 0 rfl rfl dX5_begin_5 ?_
  refine g_iconst (v := 0) rfl dX5_begin_6 ?_
  obtain ⟨M2, eM2, h⟩ := g_bnd h
  refine g_putI' eM2 FX5_22 jX5 sC_32 rfl rfl rfl dX5_begin_7 ?_
  refine g_aload_n 0 rfl rfl dX5_begin_10 ?_
  refine g_iconst (v := 0) rfl dX5_begin_11 ?_
  obtain ⟨M3, eM3, h⟩ := g_bnd h
  refine g_putI' eM3 FX5_25 jX5 sC_32 rfl rfl rfl dX5_begin_12 ?_
  refine g_aload_n 0 rfl rfl dX5_begin_15 ?_
  refine g_iconst (v := -1) rfl dX5_begin_16 ?_
  obtain ⟨M4, eM4, h⟩ := g_bnd h
  refine g_putI' eM4 FX5_28 jX5 sC_32 rfl rfl rfl dX5_begin_17 ?_
  cases h
  exact g_vret O ⟨Nat.le_of_ble_eq_true rfl, Nat.le_of_ble_eq_true rfl⟩ dX5_begin_20
theorem kX5_begin {l : Launch} {V : gEnv} {M0 : gMem}   {o : gMem} (h : fX5_begin M0 = some o) : gM l yX5_begin cX5_begin 1 none rX5_begin V gShC [.ref (gAd V 32)] M0 none o :=
  gM.of (by decide) (Nat.le_of_ble_eq_true rfl) rfl (fun X _ O => tX5_begin  h O)
theorem dX5_skipSpaces_0 : decode cX5_skipSpaces 0 = .ok (.aload_n 0, 1) := by decide +kernel
theorem dX5_skipSpaces_1 : decode cX5_skipSpaces 1 = .ok (.getfield 19, 3) := by decide +kernel
theorem dX5_skipSpaces_4 : decode cX5_skipSpaces 4 = .ok (.aload_n 0, 1) := by decide +kernel
theorem dX5_skipSpaces_5 : decode cX5_skipSpaces 5 = .ok (.getfield 15, 3) := by decide +kernel
theorem dX5_skipSpaces_8 : decode cX5_skipSpaces 8 = .ok (.if_icmp .ge 30, 3) := by decide +kernel
theorem dX5_skipSpaces_11 : decode cX5_skipSpaces 11 = .ok (.aload_n 0, 1) := by decide +kernel
theorem dX5_skipSpaces_12 : decode cX5_skipSpaces 12 = .ok (.getfield 9, 3) := by decide +kernel
theorem dX5_skipSpaces_15 : decode cX5_skipSpaces 15 = .ok (.aload_n 0, 1) := by decide +kernel
theorem dX5_skipSpaces_16 : decode cX5_skipSpaces 16 = .ok (.getfield 19, 3) := by decide +kernel
theorem dX5_skipSpaces_19 : decode cX5_skipSpaces 19 = .ok (.baload, 1) := by decide +kernel
theorem dX5_skipSpaces_20 : decode cX5_skipSpaces 20 = .ok (.bipush 32, 2) := by decide +kernel
theorem dX5_skipSpaces_22 : decode cX5_skipSpaces 22 = .ok (.if_icmp .ne 16, 3) := by decide +kernel
theorem dX5_skipSpaces_25 : decode cX5_skipSpaces 25 = .ok (.aload_n 0, 1) := by decide +kernel
theorem dX5_skipSpaces_26 : decode cX5_skipSpaces 26 = .ok (.dup, 1) := by decide +kernel
theorem dX5_skipSpaces_27 : decode cX5_skipSpaces 27 = .ok (.getfield 19, 3) := by decide +kernel
theorem dX5_skipSpaces_30 : decode cX5_skipSpaces 30 = .ok (.iconst 1, 1) := by decide +kernel
theorem dX5_skipSpaces_31 : decode cX5_skipSpaces 31 = .ok (.iadd, 1) := by decide +kernel
theorem dX5_skipSpaces_32 : decode cX5_skipSpaces 32 = .ok (.putfield 19, 3) := by decide +kernel
theorem dX5_skipSpaces_35 : decode cX5_skipSpaces 35 = .ok (.goto (-35), 3) := by decide +kernel
theorem dX5_skipSpaces_38 : decode cX5_skipSpaces 38 = .ok (.return_, 1) := by decide +kernel
abbrev rX5_skipSpaces : Room := { frames := 0, cells := 0, slots := 0, locals := 0 }
abbrev mX5_skipSpaces : gY := (cX5_skipSpaces, RX5, 1, rX5_skipSpaces)
def fX5_skipSpaces_l0 (M0 : gMem) : Option (gMem ⊕ gMem) :=
  if (M0.1 32 1) ≤ (M0.1 32 2) then (some (.inr M0)) else (rI M0 33 900 (M0.1 32 2)).bind fun v2 => if v2 = (32 : Int32) then ((wF M0 32 2 ((M0.1 32 2) + (1 : Int32))).bind fun M4 => some (.inl M4)) else some (.inr M0)
set_option maxRecDepth 20000 in
theorem tX5_skipSpaces_l0 {X : gX} {V : gEnv} {M0 : gMem}  {o : (gMem ⊕ gMem)} (h : fX5_skipSpaces_l0 M0 = some o) (Kc : ∀ s9, o = .inl s9 → gG X V mX5_skipSpaces gShC s9 0 0 0 [(0, .ref (gAd V 32))] []) (Kx : ∀ e9, o = .inr e9 → gG X V mX5_skipSpaces gShC e9 0 0 38 [] []) : gG X V mX5_skipSpaces gShC M0 0 0 0 [(0, .ref (gAd V 32))] [] := by
  unfold fX5_skipSpaces_l0 at h
  refine g_aload_n 0 rfl rfl dX5_skipSpaces_0 ?_
  refine g_getI FX5_19 sC_32 rfl dX5_skipSpaces_1 ?_
  refine g_aload_n 0 rfl rfl dX5_skipSpaces_4 ?_
  refine g_getI FX5_15 sC_32 rfl dX5_skipSpaces_5 ?_
  rcases g_ite h with ⟨c1, h⟩ | ⟨c1, h⟩
  · refine g_icmp_ge_t c1 (tgt := 38) rfl dX5_skipSpaces_8 ?_
    cases h
    refine g_sub [] rfl ?_
    exact Kx M0 rfl
  · refine g_icmp_ge_f c1 (tgt := 38) rfl dX5_skipSpaces_8 ?_
    refine g_aload_n 0 rfl rfl dX5_skipSpaces_11 ?_
    refine g_getR FX5_9 sC_32 rfl dX5_skipSpaces_12 ?_
    refine g_aload_n 0 rfl rfl dX5_skipSpaces_15 ?_
    refine g_getI FX5_19 sC_32 rfl dX5_skipSpaces_16 ?_
    obtain ⟨v2, ev2, h⟩ := g_bnd h
    refine g_bald' ev2 sC_33 dX5_skipSpaces_19 ?_
    refine g_bipush (v := 32) rfl dX5_skipSpaces_20 ?_
    rcases g_ite h with ⟨c3, h⟩ | ⟨c3, h⟩
    · refine g_icmp_ne_f c3 (tgt := 38) rfl dX5_skipSpaces_22 ?_
      refine g_aload_n 0 rfl rfl dX5_skipSpaces_25 ?_
      refine g_dup rfl dX5_skipSpaces_26 ?_
      refine g_getI FX5_19 sC_32 rfl dX5_skipSpaces_27 ?_
      refine g_iconst (v := 1) rfl dX5_skipSpaces_30 ?_
      refine g_iadd dX5_skipSpaces_31 ?_
      obtain ⟨M4, eM4, h⟩ := g_bnd h
      refine g_putI' eM4 FX5_19 jX5 sC_32 rfl rfl rfl dX5_skipSpaces_32 ?_
      refine g_goto (tgt := 0) rfl dX5_skipSpaces_35 ?_
      cases h
      exact Kc M4 rfl
    · refine g_icmp_ne_t c3 (tgt := 38) rfl dX5_skipSpaces_22 ?_
      cases h
      refine g_sub [] rfl ?_
      exact Kx M0 rfl
def fX5_skipSpaces (M0 : gMem) : Option gMem :=
  (gLoop (fun z9 => fX5_skipSpaces_l0 z9) gFu M0).bind fun w5 => some w5
set_option maxRecDepth 20000 in
theorem tX5_skipSpaces {X : gX} {V : gEnv} {M0 : gMem}  {o : gMem} (h : fX5_skipSpaces M0 = some o) (O : gO X V mX5_skipSpaces gShC none none o) : gG X V mX5_skipSpaces gShC M0 0 0 0 [(0, .ref (gAd V 32))] [] := by
  unfold fX5_skipSpaces at h
  obtain ⟨w5, ew5, h⟩ := g_bnd h
  have KX : gG X V mX5_skipSpaces gShC w5 0 0 38 [] [] := by
    cases h
    exact g_vret O ⟨Nat.le_of_ble_eq_true rfl, Nat.le_of_ble_eq_true rfl⟩ dX5_skipSpaces_38
  exact gLoop_Q ew5 (fun z9 => gG X V mX5_skipSpaces gShC z9 0 0 0 [(0, .ref (gAd V 32))] []) (fun s9 o9 hb9 hc9 hx9 => tX5_skipSpaces_l0  hb9 hc9 (fun e9 he9 => by cases hx9 _ he9; exact KX))
theorem kX5_skipSpaces {l : Launch} {V : gEnv} {M0 : gMem}   {o : gMem} (h : fX5_skipSpaces M0 = some o) : gM l yX5_skipSpaces cX5_skipSpaces 1 none rX5_skipSpaces V gShC [.ref (gAd V 32)] M0 none o :=
  gM.of (by decide) (Nat.le_of_ble_eq_true rfl) rfl (fun X _ O => tX5_skipSpaces  h O)
theorem dX5_isLetterAt_0 : decode cX5_isLetterAt 0 = .ok (.iload_n 1, 1) := by decide +kernel
theorem dX5_isLetterAt_1 : decode cX5_isLetterAt 1 = .ok (.aload_n 0, 1) := by decide +kernel
theorem dX5_isLetterAt_2 : decode cX5_isLetterAt 2 = .ok (.getfield 15, 3) := by decide +kernel
theorem dX5_isLetterAt_5 : decode cX5_isLetterAt 5 = .ok (.if_icmp .ge 29, 3) := by decide +kernel
theorem dX5_isLetterAt_8 : decode cX5_isLetterAt 8 = .ok (.aload_n 0, 1) := by decide +kernel
theorem dX5_isLetterAt_9 : decode cX5_isLetterAt 9 = .ok (.getfield 9, 3) := by decide +kernel
theorem dX5_isLetterAt_12 : decode cX5_isLetterAt 12 = .ok (.iload_n 1, 1) := by decide +kernel
theorem dX5_isLetterAt_13 : decode cX5_isLetterAt 13 = .ok (.baload, 1) := by decide +kernel
theorem dX5_isLetterAt_14 : decode cX5_isLetterAt 14 = .ok (.bipush 97, 2) := by decide +kernel
theorem dX5_isLetterAt_16 : decode cX5_isLetterAt 16 = .ok (.if_icmp .lt 18, 3) := by decide +kernel
theorem dX5_isLetterAt_19 : decode cX5_isLetterAt 19 = .ok (.aload_n 0, 1) := by decide +kernel
theorem dX5_isLetterAt_20 : decode cX5_isLetterAt 20 = .ok (.getfield 9, 3) := by decide +kernel
theorem dX5_isLetterAt_23 : decode cX5_isLetterAt 23 = .ok (.iload_n 1, 1) := by decide +kernel
theorem dX5_isLetterAt_24 : decode cX5_isLetterAt 24 = .ok (.baload, 1) := by decide +kernel
theorem dX5_isLetterAt_25 : decode cX5_isLetterAt 25 = .ok (.bipush 122, 2) := by decide +kernel
theorem dX5_isLetterAt_27 : decode cX5_isLetterAt 27 = .ok (.if_icmp .gt 7, 3) := by decide +kernel
theorem dX5_isLetterAt_30 : decode cX5_isLetterAt 30 = .ok (.iconst 1, 1) := by decide +kernel
theorem dX5_isLetterAt_31 : decode cX5_isLetterAt 31 = .ok (.goto 4, 3) := by decide +kernel
theorem dX5_isLetterAt_34 : decode cX5_isLetterAt 34 = .ok (.iconst 0, 1) := by decide +kernel
theorem dX5_isLetterAt_35 : decode cX5_isLetterAt 35 = .ok (.ireturn, 1) := by decide +kernel
abbrev rX5_isLetterAt : Room := { frames := 0, cells := 0, slots := 0, locals := 0 }
abbrev mX5_isLetterAt : gY := (cX5_isLetterAt, RX5, 2, rX5_isLetterAt)
def fX5_isLetterAt (x1 : Int32) (M0 : gMem) : Option Int32 :=
  if (M0.1 32 1) ≤ x1 then (some (0 : Int32)) else (rI M0 33 900 x1).bind fun v2 => if v2 < (97 : Int32) then (some (0 : Int32)) else (rI M0 33 900 x1).bind fun v4 => if (122 : Int32) < v4 then (some (0 : Int32)) else some (1 : Int32)
set_option maxRecDepth 20000 in
theorem tX5_isLetterAt {X : gX} {V : gEnv} {x1 : Int32} {M0 : gMem}  {o : Int32} (h : fX5_isLetterAt x1 M0 = some o) (O : gO X V mX5_isLetterAt gShC (some .boolean) (some (.int o)) M0) : gG X V mX5_isLetterAt gShC M0 0 0 0 [(0, .ref (gAd V 32)), (1, .int x1)] [] := by
  unfold fX5_isLetterAt at h
  refine g_iload_n 1 rfl rfl dX5_isLetterAt_0 ?_
  refine g_aload_n 0 rfl rfl dX5_isLetterAt_1 ?_
  refine g_getI FX5_15 sC_32 rfl dX5_isLetterAt_2 ?_
  rcases g_ite h with ⟨c1, h⟩ | ⟨c1, h⟩
  · refine g_icmp_ge_t c1 (tgt := 34) rfl dX5_isLetterAt_5 ?_
    refine g_iconst (v := 0) rfl dX5_isLetterAt_34 ?_
    cases h
    exact g_iret O ⟨Nat.le_of_ble_eq_true rfl, Nat.le_of_ble_eq_true rfl⟩ rfl dX5_isLetterAt_35
  · refine g_icmp_ge_f c1 (tgt := 34) rfl dX5_isLetterAt_5 ?_
    refine g_aload_n 0 rfl rfl dX5_isLetterAt_8 ?_
    refine g_getR FX5_9 sC_32 rfl dX5_isLetterAt_9 ?_
    refine g_iload_n 1 rfl rfl dX5_isLetterAt_12 ?_
    obtain ⟨v2, ev2, h⟩ := g_bnd h
    refine g_bald' ev2 sC_33 dX5_isLetterAt_13 ?_
    refine g_bipush (v := 97) rfl dX5_isLetterAt_14 ?_
    rcases g_ite h with ⟨c3, h⟩ | ⟨c3, h⟩
    · refine g_icmp_lt_t c3 (tgt := 34) rfl dX5_isLetterAt_16 ?_
      refine g_iconst (v := 0) rfl dX5_isLetterAt_34 ?_
      cases h
      exact g_iret O ⟨Nat.le_of_ble_eq_true rfl, Nat.le_of_ble_eq_true rfl⟩ rfl dX5_isLetterAt_35
    · refine g_icmp_lt_f c3 (tgt := 34) rfl dX5_isLetterAt_16 ?_
      refine g_aload_n 0 rfl rfl dX5_isLetterAt_19 ?_
      refine g_getR FX5_9 sC_32 rfl dX5_isLetterAt_20 ?_
      refine g_iload_n 1 rfl rfl dX5_isLetterAt_23 ?_
      obtain ⟨v4, ev4, h⟩ := g_bnd h
      refine g_bald' ev4 sC_33 dX5_isLetterAt_24 ?_
      refine g_bipush (v := 122) rfl dX5_isLetterAt_25 ?_
      rcases g_ite h with ⟨c5, h⟩ | ⟨c5, h⟩
      · refine g_icmp_gt_t c5 (tgt := 34) rfl dX5_isLetterAt_27 ?_
        refine g_iconst (v := 0) rfl dX5_isLetterAt_34 ?_
        cases h
        exact g_iret O ⟨Nat.le_of_ble_eq_true rfl, Nat.le_of_ble_eq_true rfl⟩ rfl dX5_isLetterAt_35
      · refine g_icmp_gt_f c5 (tgt := 34) rfl dX5_isLetterAt_27 ?_
        refine g_iconst (v := 1) rfl dX5_isLetterAt_30 ?_
        refine g_goto (tgt := 35) rfl dX5_isLetterAt_31 ?_
        cases h
        exact g_iret O ⟨Nat.le_of_ble_eq_true rfl, Nat.le_of_ble_eq_true rfl⟩ rfl dX5_isLetterAt_35
theorem kX5_isLetterAt {l : Launch} {V : gEnv} {M0 : gMem} {x1 : Int32}  {o : Int32} (h : fX5_isLetterAt x1 M0 = some o) : gM l yX5_isLetterAt cX5_isLetterAt 2 (some .boolean) rX5_isLetterAt V gShC [.ref (gAd V 32), .int x1] M0 (some (.int o)) M0 :=
  gM.of (by decide) (Nat.le_of_ble_eq_true rfl) rfl (fun X _ O => tX5_isLetterAt  h O)
theorem dX5_fail_0 : decode cX5_fail 0 = .ok (.aload_n 0, 1) := by decide +kernel
theorem dX5_fail_1 : decode cX5_fail 1 = .ok (.iload_n 1, 1) := by decide +kernel
theorem dX5_fail_2 : decode cX5_fail 2 = .ok (.putfield 25, 3) := by decide +kernel
theorem dX5_fail_5 : decode cX5_fail 5 = .ok (.aload_n 0, 1) := by decide +kernel
theorem dX5_fail_6 : decode cX5_fail 6 = .ok (.iload_n 2, 1) := by decide +kernel
theorem dX5_fail_7 : decode cX5_fail 7 = .ok (.putfield 28, 3) := by decide +kernel
theorem dX5_fail_10 : decode cX5_fail 10 = .ok (.iconst 0, 1) := by decide +kernel
theorem dX5_fail_11 : decode cX5_fail 11 = .ok (.ireturn, 1) := by decide +kernel
abbrev rX5_fail : Room := { frames := 0, cells := 0, slots := 0, locals := 0 }
abbrev mX5_fail : gY := (cX5_fail, RX5, 3, rX5_fail)
def fX5_fail (x1 : Int32) (x2 : Int32) (M0 : gMem) : Option (Int32 × gMem) :=
  (wF M0 32 4 x1).bind fun M1 => (wF M1 32 5 x2).bind fun M2 => some ((0 : Int32), M2)
set_option maxRecDepth 20000 in
theorem tX5_fail {X : gX} {V : gEnv} {x1 : Int32} {x2 : Int32} {M0 : gMem}  {o : (Int32 × gMem)} (h : fX5_fail x1 x2 M0 = some o) (O : gO X V mX5_fail gShC (some .boolean) (some (.int o.1)) o.2) : gG X V mX5_fail gShC M0 0 0 0 [(0, .ref (gAd V 32)), (1, .int x1), (2, .int x2)] [] := by
  unfold fX5_fail at h
  refine g_aload_n 0 rfl rfl dX5_fail_0 ?_
  refine g_iload_n 1 rfl rfl dX5_fail_1 ?_
  obtain ⟨M1, eM1, h⟩ := g_bnd h
  refine g_putI' eM1 FX5_25 jX5 sC_32 rfl rfl rfl dX5_fail_2 ?_
  refine g_aload_n 0 rfl rfl dX5_fail_5 ?_
  refine g_iload_n 2 rfl rfl dX5_fail_6 ?_
  obtain ⟨M2, eM2, h⟩ := g_bnd h
  refine g_putI' eM2 FX5_28 jX5 sC_32 rfl rfl rfl dX5_fail_7 ?_
  refine g_iconst (v := 0) rfl dX5_fail_10 ?_
  cases h
  exact g_iret O ⟨Nat.le_of_ble_eq_true rfl, Nat.le_of_ble_eq_true rfl⟩ rfl dX5_fail_11
theorem kX5_fail {l : Launch} {V : gEnv} {M0 : gMem} {x1 : Int32} {x2 : Int32}  {o : (Int32 × gMem)} (h : fX5_fail x1 x2 M0 = some o) : gM l yX5_fail cX5_fail 3 (some .boolean) rX5_fail V gShC [.ref (gAd V 32), .int x1, .int x2] M0 (some (.int o.1)) o.2 :=
  gM.of (by decide) (Nat.le_of_ble_eq_true rfl) rfl (fun X _ O => tX5_fail  h O)
theorem dX5_readWord_0 : decode cX5_readWord 0 = .ok (.aload_n 0, 1) := by decide +kernel
theorem dX5_readWord_1 : decode cX5_readWord 1 = .ok (.invokevirtual 31, 3) := by decide +kernel
theorem dX5_readWord_4 : decode cX5_readWord 4 = .ok (.aload_n 0, 1) := by decide +kernel
theorem dX5_readWord_5 : decode cX5_readWord 5 = .ok (.aload_n 0, 1) := by decide +kernel
theorem dX5_readWord_6 : decode cX5_readWord 6 = .ok (.getfield 19, 3) := by decide +kernel
theorem dX5_readWord_9 : decode cX5_readWord 9 = .ok (.putfield 22, 3) := by decide +kernel
theorem dX5_readWord_12 : decode cX5_readWord 12 = .ok (.aload_n 0, 1) := by decide +kernel
theorem dX5_readWord_13 : decode cX5_readWord 13 = .ok (.getfield 19, 3) := by decide +kernel
theorem dX5_readWord_16 : decode cX5_readWord 16 = .ok (.sipush 900, 3) := by decide +kernel
theorem dX5_readWord_19 : decode cX5_readWord 19 = .ok (.if_icmp .ge 27, 3) := by decide +kernel
theorem dX5_readWord_22 : decode cX5_readWord 22 = .ok (.aload_n 0, 1) := by decide +kernel
theorem dX5_readWord_23 : decode cX5_readWord 23 = .ok (.aload_n 0, 1) := by decide +kernel
theorem dX5_readWord_24 : decode cX5_readWord 24 = .ok (.getfield 19, 3) := by decide +kernel
theorem dX5_readWord_27 : decode cX5_readWord 27 = .ok (.invokevirtual 34, 3) := by decide +kernel
theorem dX5_readWord_30 : decode cX5_readWord 30 = .ok (.ifCond .eq 16, 3) := by decide +kernel
theorem dX5_readWord_33 : decode cX5_readWord 33 = .ok (.aload_n 0, 1) := by decide +kernel
theorem dX5_readWord_34 : decode cX5_readWord 34 = .ok (.dup, 1) := by decide +kernel
theorem dX5_readWord_35 : decode cX5_readWord 35 = .ok (.getfield 19, 3) := by decide +kernel
theorem dX5_readWord_38 : decode cX5_readWord 38 = .ok (.iconst 1, 1) := by decide +kernel
theorem dX5_readWord_39 : decode cX5_readWord 39 = .ok (.iadd, 1) := by decide +kernel
theorem dX5_readWord_40 : decode cX5_readWord 40 = .ok (.putfield 19, 3) := by decide +kernel
theorem dX5_readWord_43 : decode cX5_readWord 43 = .ok (.goto (-31), 3) := by decide +kernel
theorem dX5_readWord_46 : decode cX5_readWord 46 = .ok (.aload_n 0, 1) := by decide +kernel
theorem dX5_readWord_47 : decode cX5_readWord 47 = .ok (.getfield 19, 3) := by decide +kernel
theorem dX5_readWord_50 : decode cX5_readWord 50 = .ok (.aload_n 0, 1) := by decide +kernel
theorem dX5_readWord_51 : decode cX5_readWord 51 = .ok (.getfield 22, 3) := by decide +kernel
theorem dX5_readWord_54 : decode cX5_readWord 54 = .ok (.if_icmp .gt 15, 3) := by decide +kernel
theorem dX5_readWord_57 : decode cX5_readWord 57 = .ok (.aload_n 0, 1) := by decide +kernel
theorem dX5_readWord_58 : decode cX5_readWord 58 = .ok (.iconst 1, 1) := by decide +kernel
theorem dX5_readWord_59 : decode cX5_readWord 59 = .ok (.aload_n 0, 1) := by decide +kernel
theorem dX5_readWord_60 : decode cX5_readWord 60 = .ok (.getfield 22, 3) := by decide +kernel
theorem dX5_readWord_63 : decode cX5_readWord 63 = .ok (.invokevirtual 38, 3) := by decide +kernel
theorem dX5_readWord_66 : decode cX5_readWord 66 = .ok (.ifCond .eq 7, 3) := by decide +kernel
theorem dX5_readWord_69 : decode cX5_readWord 69 = .ok (.iconst 1, 1) := by decide +kernel
theorem dX5_readWord_70 : decode cX5_readWord 70 = .ok (.goto 4, 3) := by decide +kernel
theorem dX5_readWord_73 : decode cX5_readWord 73 = .ok (.iconst 0, 1) := by decide +kernel
theorem dX5_readWord_74 : decode cX5_readWord 74 = .ok (.ireturn, 1) := by decide +kernel
abbrev rX5_readWord : Room := { frames := 1, cells := 0, slots := 0, locals := 22 }
abbrev mX5_readWord : gY := (cX5_readWord, RX5, 1, rX5_readWord)
def fX5_readWord_l12 (M0 : gMem) : Option (gMem ⊕ gMem) :=
  if (900 : Int32) ≤ (M0.1 32 2) then (some (.inr M0)) else (fX5_isLetterAt (M0.1 32 2) M0).bind fun v4 => if v4 = 0 then (some (.inr M0)) else (wF M0 32 2 ((M0.1 32 2) + (1 : Int32))).bind fun M6 => some (.inl M6)
set_option maxRecDepth 20000 in
theorem tX5_readWord_l12 {X : gX} {V : gEnv} {M0 : gMem}  {o : (gMem ⊕ gMem)} (h : fX5_readWord_l12 M0 = some o) (Kc : ∀ s9, o = .inl s9 → gG X V mX5_readWord gShC s9 0 0 12 [(0, .ref (gAd V 32))] []) (Kx : ∀ e9, o = .inr e9 → gG X V mX5_readWord gShC e9 0 0 46 [(0, .ref (gAd V 32))] []) : gG X V mX5_readWord gShC M0 0 0 12 [(0, .ref (gAd V 32))] [] := by
  unfold fX5_readWord_l12 at h
  refine g_aload_n 0 rfl rfl dX5_readWord_12 ?_
  refine g_getI FX5_19 sC_32 rfl dX5_readWord_13 ?_
  refine g_sipush (v := 900) rfl dX5_readWord_16 ?_
  rcases g_ite h with ⟨c3, h⟩ | ⟨c3, h⟩
  · refine g_icmp_ge_t c3 (tgt := 46) rfl dX5_readWord_19 ?_
    cases h
    exact Kx M0 rfl
  · refine g_icmp_ge_f c3 (tgt := 46) rfl dX5_readWord_19 ?_
    refine g_aload_n 0 rfl rfl dX5_readWord_22 ?_
    refine g_aload_n 0 rfl rfl dX5_readWord_23 ?_
    refine g_getI FX5_19 sC_32 rfl dX5_readWord_24 ?_
    obtain ⟨v4, ev4, h⟩ := g_bnd h
    refine g_callV LX5_34 sC_32 rfl (kX5_isLetterAt ev4) rfl rfl (Nat.le_of_ble_eq_true rfl) ⟨Nat.le_of_ble_eq_true rfl, Nat.le_of_ble_eq_true rfl⟩ ⟨Nat.le_of_ble_eq_true rfl, Nat.le_of_ble_eq_true rfl⟩ dX5_readWord_27 rfl ?_
    rcases g_ite h with ⟨c5, h⟩ | ⟨c5, h⟩
    · refine g_if_eq_t c5 (tgt := 46) rfl dX5_readWord_30 ?_
      cases h
      exact Kx M0 rfl
    · refine g_if_eq_f c5 (tgt := 46) rfl dX5_readWord_30 ?_
      refine g_aload_n 0 rfl rfl dX5_readWord_33 ?_
      refine g_dup rfl dX5_readWord_34 ?_
      refine g_getI FX5_19 sC_32 rfl dX5_readWord_35 ?_
      refine g_iconst (v := 1) rfl dX5_readWord_38 ?_
      refine g_iadd dX5_readWord_39 ?_
      obtain ⟨M6, eM6, h⟩ := g_bnd h
      refine g_putI' eM6 FX5_19 jX5 sC_32 rfl rfl rfl dX5_readWord_40 ?_
      refine g_goto (tgt := 12) rfl dX5_readWord_43 ?_
      cases h
      exact Kc M6 rfl
def fX5_readWord_b69 (M0 : gMem) : Option (Int32 × gMem) :=
  some ((1 : Int32), M0)
set_option maxRecDepth 20000 in
theorem tX5_readWord_b69 {X : gX} {V : gEnv} {M0 : gMem}  {o : (Int32 × gMem)} (h : fX5_readWord_b69 M0 = some o) (O : gO X V mX5_readWord gShC (some .boolean) (some (.int o.1)) o.2) : gG X V mX5_readWord gShC M0 0 0 69 [] [] := by
  unfold fX5_readWord_b69 at h
  refine g_iconst (v := 1) rfl dX5_readWord_69 ?_
  refine g_goto (tgt := 74) rfl dX5_readWord_70 ?_
  cases h
  exact g_iret O ⟨Nat.le_of_ble_eq_true rfl, Nat.le_of_ble_eq_true rfl⟩ rfl dX5_readWord_74
def fX5_readWord_b46 (M0 : gMem) : Option (Int32 × gMem) :=
  if (M0.1 32 3) < (M0.1 32 2) then (fX5_readWord_b69 M0) else (fX5_fail (1 : Int32) (M0.1 32 3) M0).bind fun v9 => if v9.1 = 0 then (some ((0 : Int32), v9.2)) else fX5_readWord_b69 v9.2
set_option maxRecDepth 20000 in
theorem tX5_readWord_b46 {X : gX} {V : gEnv} {M0 : gMem}  {o : (Int32 × gMem)} (h : fX5_readWord_b46 M0 = some o) (O : gO X V mX5_readWord gShC (some .boolean) (some (.int o.1)) o.2) : gG X V mX5_readWord gShC M0 0 0 46 [(0, .ref (gAd V 32))] [] := by
  unfold fX5_readWord_b46 at h
  refine g_aload_n 0 rfl rfl dX5_readWord_46 ?_
  refine g_getI FX5_19 sC_32 rfl dX5_readWord_47 ?_
  refine g_aload_n 0 rfl rfl dX5_readWord_50 ?_
  refine g_getI FX5_22 sC_32 rfl dX5_readWord_51 ?_
  rcases g_ite h with ⟨c8, h⟩ | ⟨c8, h⟩
  · refine g_icmp_gt_t c8 (tgt := 69) rfl dX5_readWord_54 ?_
    refine g_sub [] rfl ?_
    exact tX5_readWord_b69  h O
  · refine g_icmp_gt_f c8 (tgt := 69) rfl dX5_readWord_54 ?_
    refine g_aload_n 0 rfl rfl dX5_readWord_57 ?_
    refine g_iconst (v := 1) rfl dX5_readWord_58 ?_
    refine g_aload_n 0 rfl rfl dX5_readWord_59 ?_
    refine g_getI FX5_22 sC_32 rfl dX5_readWord_60 ?_
    obtain ⟨v9, ev9, h⟩ := g_bnd h
    refine g_callV LX5_38 sC_32 rfl (kX5_fail ev9) rfl rfl (Nat.le_of_ble_eq_true rfl) ⟨Nat.le_of_ble_eq_true rfl, Nat.le_of_ble_eq_true rfl⟩ ⟨Nat.le_of_ble_eq_true rfl, Nat.le_of_ble_eq_true rfl⟩ dX5_readWord_63 rfl ?_
    rcases g_ite h with ⟨c10, h⟩ | ⟨c10, h⟩
    · refine g_if_eq_t c10 (tgt := 73) rfl dX5_readWord_66 ?_
      refine g_iconst (v := 0) rfl dX5_readWord_73 ?_
      cases h
      exact g_iret O ⟨Nat.le_of_ble_eq_true rfl, Nat.le_of_ble_eq_true rfl⟩ rfl dX5_readWord_74
    · refine g_if_eq_f c10 (tgt := 73) rfl dX5_readWord_66 ?_
      refine g_sub [] rfl ?_
      exact tX5_readWord_b69  h O
def fX5_readWord (M0 : gMem) : Option (Int32 × gMem) :=
  (fX5_skipSpaces M0).bind fun v1 => (wF v1 32 3 (v1.1 32 2)).bind fun M2 => (gLoop (fun z9 => fX5_readWord_l12 z9) gFu M2).bind fun w7 => fX5_readWord_b46 w7
set_option maxRecDepth 20000 in
theorem tX5_readWord {X : gX} {V : gEnv} {M0 : gMem}  {o : (Int32 × gMem)} (h : fX5_readWord M0 = some o) (O : gO X V mX5_readWord gShC (some .boolean) (some (.int o.1)) o.2) : gG X V mX5_readWord gShC M0 0 0 0 [(0, .ref (gAd V 32))] [] := by
  unfold fX5_readWord at h
  refine g_aload_n 0 rfl rfl dX5_readWord_0 ?_
  obtain ⟨v1, ev1, h⟩ := g_bnd h
  refine g_callV LX5_31 sC_32 rfl (kX5_skipSpaces ev1) rfl rfl (Nat.le_of_ble_eq_true rfl) ⟨Nat.le_of_ble_eq_true rfl, Nat.le_of_ble_eq_true rfl⟩ ⟨Nat.le_of_ble_eq_true rfl, Nat.le_of_ble_eq_true rfl⟩ dX5_readWord_1 rfl ?_
  refine g_aload_n 0 rfl rfl dX5_readWord_4 ?_
  refine g_aload_n 0 rfl rfl dX5_readWord_5 ?_
  refine g_getI FX5_19 sC_32 rfl dX5_readWord_6 ?_
  obtain ⟨M2, eM2, h⟩ := g_bnd h
  refine g_putI' eM2 FX5_22 jX5 sC_32 rfl rfl rfl dX5_readWord_9 ?_
  obtain ⟨w7, ew7, h⟩ := g_bnd h
  have KX : gG X V mX5_readWord gShC w7 0 0 46 [(0, .ref (gAd V 32))] [] := by
    exact tX5_readWord_b46  h O
  exact gLoop_Q ew7 (fun z9 => gG X V mX5_readWord gShC z9 0 0 12 [(0, .ref (gAd V 32))] []) (fun s9 o9 hb9 hc9 hx9 => tX5_readWord_l12  hb9 hc9 (fun e9 he9 => by cases hx9 _ he9; exact KX))
theorem kX5_readWord {l : Launch} {V : gEnv} {M0 : gMem}   {o : (Int32 × gMem)} (h : fX5_readWord M0 = some o) : gM l yX5_readWord cX5_readWord 1 (some .boolean) rX5_readWord V gShC [.ref (gAd V 32)] M0 (some (.int o.1)) o.2 :=
  gM.of (by decide) (Nat.le_of_ble_eq_true rfl) rfl (fun X _ O => tX5_readWord  h O)
theorem dX5_wordIs_0 : decode cX5_wordIs 0 = .ok (.aload_n 0, 1) := by decide +kernel
theorem dX5_wordIs_1 : decode cX5_wordIs 1 = .ok (.getfield 19, 3) := by decide +kernel
theorem dX5_wordIs_4 : decode cX5_wordIs 4 = .ok (.aload_n 0, 1) := by decide +kernel
theorem dX5_wordIs_5 : decode cX5_wordIs 5 = .ok (.getfield 22, 3) := by decide +kernel
theorem dX5_wordIs_8 : decode cX5_wordIs 8 = .ok (.isub, 1) := by decide +kernel
theorem dX5_wordIs_9 : decode cX5_wordIs 9 = .ok (.aload_n 1, 1) := by decide +kernel
theorem dX5_wordIs_10 : decode cX5_wordIs 10 = .ok (.invokevirtual 42, 3) := by decide +kernel
theorem dX5_wordIs_13 : decode cX5_wordIs 13 = .ok (.if_icmp .eq 5, 3) := by decide +kernel
theorem dX5_wordIs_16 : decode cX5_wordIs 16 = .ok (.iconst 0, 1) := by decide +kernel
theorem dX5_wordIs_17 : decode cX5_wordIs 17 = .ok (.ireturn, 1) := by decide +kernel
theorem dX5_wordIs_18 : decode cX5_wordIs 18 = .ok (.iconst 0, 1) := by decide +kernel
theorem dX5_wordIs_19 : decode cX5_wordIs 19 = .ok (.istore_n 2, 1) := by decide +kernel
theorem dX5_wordIs_20 : decode cX5_wordIs 20 = .ok (.iload_n 2, 1) := by decide +kernel
theorem dX5_wordIs_21 : decode cX5_wordIs 21 = .ok (.aload_n 1, 1) := by decide +kernel
theorem dX5_wordIs_22 : decode cX5_wordIs 22 = .ok (.invokevirtual 42, 3) := by decide +kernel
theorem dX5_wordIs_25 : decode cX5_wordIs 25 = .ok (.if_icmp .ge 30, 3) := by decide +kernel
theorem dX5_wordIs_28 : decode cX5_wordIs 28 = .ok (.aload_n 0, 1) := by decide +kernel
theorem dX5_wordIs_29 : decode cX5_wordIs 29 = .ok (.getfield 9, 3) := by decide +kernel
theorem dX5_wordIs_32 : decode cX5_wordIs 32 = .ok (.aload_n 0, 1) := by decide +kernel
theorem dX5_wordIs_33 : decode cX5_wordIs 33 = .ok (.getfield 22, 3) := by decide +kernel
theorem dX5_wordIs_36 : decode cX5_wordIs 36 = .ok (.iload_n 2, 1) := by decide +kernel
theorem dX5_wordIs_37 : decode cX5_wordIs 37 = .ok (.iadd, 1) := by decide +kernel
theorem dX5_wordIs_38 : decode cX5_wordIs 38 = .ok (.baload, 1) := by decide +kernel
theorem dX5_wordIs_39 : decode cX5_wordIs 39 = .ok (.aload_n 1, 1) := by decide +kernel
theorem dX5_wordIs_40 : decode cX5_wordIs 40 = .ok (.iload_n 2, 1) := by decide +kernel
theorem dX5_wordIs_41 : decode cX5_wordIs 41 = .ok (.invokevirtual 48, 3) := by decide +kernel
theorem dX5_wordIs_44 : decode cX5_wordIs 44 = .ok (.if_icmp .eq 5, 3) := by decide +kernel
theorem dX5_wordIs_47 : decode cX5_wordIs 47 = .ok (.iconst 0, 1) := by decide +kernel
theorem dX5_wordIs_48 : decode cX5_wordIs 48 = .ok (.ireturn, 1) := by decide +kernel
theorem dX5_wordIs_49 : decode cX5_wordIs 49 = .ok (.iinc 2 1, 3) := by decide +kernel
theorem dX5_wordIs_52 : decode cX5_wordIs 52 = .ok (.goto (-32), 3) := by decide +kernel
theorem dX5_wordIs_55 : decode cX5_wordIs 55 = .ok (.iconst 1, 1) := by decide +kernel
theorem dX5_wordIs_56 : decode cX5_wordIs 56 = .ok (.ireturn, 1) := by decide +kernel
abbrev rX5_wordIs : Room := { frames := 4, cells := 0, slots := 0, locals := 120 }
abbrev mX5_wordIs : gY := (cX5_wordIs, RX5, 3, rX5_wordIs)
def fX5_wordIs_l20 (t1 : Nat) (M0 : gMem) (x2 : Int32) : Option (Int32 ⊕ (Unit ⊕ Int32)) :=
  if (sLen t1) ≤ x2 then (some (.inr (.inl ()))) else (rI M0 33 900 ((M0.1 32 3) + x2)).bind fun v3 => (sChr t1 x2).bind fun v4 => if v3 = v4 then (some (.inl (x2 + (1 : Int32)))) else some (.inr (.inr (0 : Int32)))
set_option maxRecDepth 20000 in
theorem tX5_wordIs_l20 {X : gX} {V : gEnv} {t1 : Nat} {M0 : gMem} {x2 : Int32} (ht1 : t1 < 8) {o : (Int32 ⊕ (Unit ⊕ Int32))} (h : fX5_wordIs_l20 t1 M0 x2 = some o) (Kc : ∀ s9, o = .inl s9 → gG X V mX5_wordIs gShC M0 0 0 20 [(0, .ref (gAd V 32)), (1, .ref (gAdK V t1)), (2, .int s9)] []) (Kx : ∀ e9, o = .inr (.inl e9) → gG X V mX5_wordIs gShC M0 0 0 55 [] []) (Kr : ∀ r9, o = .inr (.inr r9) → gO X V mX5_wordIs gShC (some .boolean) (some (.int r9)) M0) : gG X V mX5_wordIs gShC M0 0 0 20 [(0, .ref (gAd V 32)), (1, .ref (gAdK V t1)), (2, .int x2)] [] := by
  unfold fX5_wordIs_l20 at h
  refine g_iload_n 2 rfl rfl dX5_wordIs_20 ?_
  refine g_aload_n 1 rfl rfl dX5_wordIs_21 ?_
  refine g_callT ht1 rfl LX5_42 (kJ0_length ht1) rfl rfl (Nat.le_of_ble_eq_true rfl) ⟨Nat.le_of_ble_eq_true rfl, Nat.le_of_ble_eq_true rfl⟩ ⟨Nat.le_of_ble_eq_true rfl, Nat.le_of_ble_eq_true rfl⟩ dX5_wordIs_22 rfl ?_
  rcases g_ite h with ⟨c2, h⟩ | ⟨c2, h⟩
  · refine g_icmp_ge_t c2 (tgt := 55) rfl dX5_wordIs_25 ?_
    cases h
    refine g_sub [] rfl ?_
    exact Kx () rfl
  · refine g_icmp_ge_f c2 (tgt := 55) rfl dX5_wordIs_25 ?_
    refine g_aload_n 0 rfl rfl dX5_wordIs_28 ?_
    refine g_getR FX5_9 sC_32 rfl dX5_wordIs_29 ?_
    refine g_aload_n 0 rfl rfl dX5_wordIs_32 ?_
    refine g_getI FX5_22 sC_32 rfl dX5_wordIs_33 ?_
    refine g_iload_n 2 rfl rfl dX5_wordIs_36 ?_
    refine g_iadd dX5_wordIs_37 ?_
    obtain ⟨v3, ev3, h⟩ := g_bnd h
    refine g_bald' ev3 sC_33 dX5_wordIs_38 ?_
    refine g_aload_n 1 rfl rfl dX5_wordIs_39 ?_
    refine g_iload_n 2 rfl rfl dX5_wordIs_40 ?_
    obtain ⟨v4, ev4, h⟩ := g_bnd h
    refine g_callT ht1 rfl LX5_48 (kJ0_charAt ht1 ev4) rfl rfl (Nat.le_of_ble_eq_true rfl) ⟨Nat.le_of_ble_eq_true rfl, Nat.le_of_ble_eq_true rfl⟩ ⟨Nat.le_of_ble_eq_true rfl, Nat.le_of_ble_eq_true rfl⟩ dX5_wordIs_41 rfl ?_
    rcases g_ite h with ⟨c5, h⟩ | ⟨c5, h⟩
    · refine g_icmp_eq_t c5 (tgt := 49) rfl dX5_wordIs_44 ?_
      refine g_iinc (j := 2) (v := x2 + (1 : Int32)) (ls' := [(2, .int (x2 + (1 : Int32))), (0, .ref (gAd V 32)), (1, .ref (gAdK V t1))]) rfl rfl (Nat.le_of_ble_eq_true rfl) rfl dX5_wordIs_49 ?_
      refine g_goto (tgt := 20) rfl dX5_wordIs_52 ?_
      cases h
      refine g_sub [1, 2, 0] rfl ?_
      exact Kc (x2 + (1 : Int32)) rfl
    · refine g_icmp_eq_f c5 (tgt := 49) rfl dX5_wordIs_44 ?_
      refine g_iconst (v := 0) rfl dX5_wordIs_47 ?_
      cases h
      exact g_iret (Kr (0 : Int32) rfl) ⟨Nat.le_of_ble_eq_true rfl, Nat.le_of_ble_eq_true rfl⟩ rfl dX5_wordIs_48
def fX5_wordIs (t1 : Nat) (M0 : gMem) : Option Int32 :=
  if ((M0.1 32 2) - (M0.1 32 3)) = (sLen t1) then ((gLoop (fun z9 => fX5_wordIs_l20 t1 M0 z9) gFu (0 : Int32)).bind fun w6 => gSE w6 (fun y7 => some (1 : Int32)) (fun r8 => some r8)) else some (0 : Int32)
set_option maxRecDepth 20000 in
theorem tX5_wordIs {X : gX} {V : gEnv} {t1 : Nat} {M0 : gMem} (ht1 : t1 < 8) {o : Int32} (h : fX5_wordIs t1 M0 = some o) (O : gO X V mX5_wordIs gShC (some .boolean) (some (.int o)) M0) : gG X V mX5_wordIs gShC M0 0 0 0 [(0, .ref (gAd V 32)), (1, .ref (gAdK V t1))] [] := by
  unfold fX5_wordIs at h
  refine g_aload_n 0 rfl rfl dX5_wordIs_0 ?_
  refine g_getI FX5_19 sC_32 rfl dX5_wordIs_1 ?_
  refine g_aload_n 0 rfl rfl dX5_wordIs_4 ?_
  refine g_getI FX5_22 sC_32 rfl dX5_wordIs_5 ?_
  refine g_isub dX5_wordIs_8 ?_
  refine g_aload_n 1 rfl rfl dX5_wordIs_9 ?_
  refine g_callT ht1 rfl LX5_42 (kJ0_length ht1) rfl rfl (Nat.le_of_ble_eq_true rfl) ⟨Nat.le_of_ble_eq_true rfl, Nat.le_of_ble_eq_true rfl⟩ ⟨Nat.le_of_ble_eq_true rfl, Nat.le_of_ble_eq_true rfl⟩ dX5_wordIs_10 rfl ?_
  rcases g_ite h with ⟨c1, h⟩ | ⟨c1, h⟩
  · refine g_icmp_eq_t c1 (tgt := 18) rfl dX5_wordIs_13 ?_
    refine g_iconst (v := 0) rfl dX5_wordIs_18 ?_
    refine g_istore_n (ls' := [(2, .int (0 : Int32)), (0, .ref (gAd V 32)), (1, .ref (gAdK V t1))]) rfl (Nat.le_of_ble_eq_true rfl) rfl dX5_wordIs_19 ?_
    obtain ⟨w6, ew6, h⟩ := g_bnd h
    refine g_sub [1, 2, 0] rfl ?_
    rcases w6 with y7 | r8
    · have h := g_sl h
      have KX : gG X V mX5_wordIs gShC M0 0 0 55 [] [] := by
        refine g_iconst (v := 1) rfl dX5_wordIs_55 ?_
        cases h
        exact g_iret O ⟨Nat.le_of_ble_eq_true rfl, Nat.le_of_ble_eq_true rfl⟩ rfl dX5_wordIs_56
      exact gLoop_Q ew6 (fun z9 => gG X V mX5_wordIs gShC M0 0 0 20 [(0, .ref (gAd V 32)), (1, .ref (gAdK V t1)), (2, .int z9)] []) (fun s9 o9 hb9 hc9 hx9 => tX5_wordIs_l20 ht1 hb9 hc9 (fun e9 he9 => by cases hx9 _ he9; exact KX) (fun r9 he9 => by cases hx9 _ he9))
    · have h := g_sr h
      cases h
      exact gLoop_Q ew6 (fun z9 => gG X V mX5_wordIs gShC M0 0 0 20 [(0, .ref (gAd V 32)), (1, .ref (gAdK V t1)), (2, .int z9)] []) (fun s9 o9 hb9 hc9 hx9 => tX5_wordIs_l20 ht1 hb9 hc9 (fun e9 he9 => by cases hx9 _ he9) (fun r9 he9 => by cases hx9 _ he9; exact O))
  · refine g_icmp_eq_f c1 (tgt := 18) rfl dX5_wordIs_13 ?_
    refine g_iconst (v := 0) rfl dX5_wordIs_16 ?_
    cases h
    exact g_iret O ⟨Nat.le_of_ble_eq_true rfl, Nat.le_of_ble_eq_true rfl⟩ rfl dX5_wordIs_17
theorem kX5_wordIs {l : Launch} {V : gEnv} {M0 : gMem} {t1 : Nat} (ht1 : t1 < 8) {o : Int32} (h : fX5_wordIs t1 M0 = some o) : gM l yX5_wordIs cX5_wordIs 3 (some .boolean) rX5_wordIs V gShC [.ref (gAd V 32), .ref (gAdK V t1)] M0 (some (.int o)) M0 :=
  gM.of (by decide) (Nat.le_of_ble_eq_true rfl) rfl (fun X _ O => tX5_wordIs ht1 h O)
