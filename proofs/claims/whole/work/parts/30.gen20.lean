/-! METHODS, by program: pure functions and contracts -/
theorem dX2_refusal_0 : decode cX2_refusal 0 = .ok (.iload_n 1, 1) := by decide +kernel
theorem dX2_refusal_1 : decode cX2_refusal 1 = .ok (.iload_n 2, 1) := by decide +kernel
theorem dX2_refusal_2 : decode cX2_refusal 2 = .ok (.if_icmp .ne 5, 3) := by decide +kernel
theorem dX2_refusal_5 : decode cX2_refusal 5 = .ok (.iconst 1, 1) := by decide +kernel
theorem dX2_refusal_6 : decode cX2_refusal 6 = .ok (.ireturn, 1) := by decide +kernel
theorem dX2_refusal_7 : decode cX2_refusal 7 = .ok (.aload_n 0, 1) := by decide +kernel
theorem dX2_refusal_8 : decode cX2_refusal 8 = .ok (.getfield 25, 3) := by decide +kernel
theorem dX2_refusal_11 : decode cX2_refusal 11 = .ok (.iload_n 1, 1) := by decide +kernel
theorem dX2_refusal_12 : decode cX2_refusal 12 = .ok (.iaload, 1) := by decide +kernel
theorem dX2_refusal_13 : decode cX2_refusal 13 = .ok (.iload_n 2, 1) := by decide +kernel
theorem dX2_refusal_14 : decode cX2_refusal 14 = .ok (.invokestatic 71, 3) := by decide +kernel
theorem dX2_refusal_17 : decode cX2_refusal 17 = .ok (.ifCond .eq 5, 3) := by decide +kernel
theorem dX2_refusal_20 : decode cX2_refusal 20 = .ok (.iconst 2, 1) := by decide +kernel
theorem dX2_refusal_21 : decode cX2_refusal 21 = .ok (.ireturn, 1) := by decide +kernel
theorem dX2_refusal_22 : decode cX2_refusal 22 = .ok (.aload_n 0, 1) := by decide +kernel
theorem dX2_refusal_23 : decode cX2_refusal 23 = .ok (.getfield 44, 3) := by decide +kernel
theorem dX2_refusal_26 : decode cX2_refusal 26 = .ok (.bipush 60, 2) := by decide +kernel
theorem dX2_refusal_28 : decode cX2_refusal 28 = .ok (.if_icmp .lt 5, 3) := by decide +kernel
theorem dX2_refusal_31 : decode cX2_refusal 31 = .ok (.iconst 3, 1) := by decide +kernel
theorem dX2_refusal_32 : decode cX2_refusal 32 = .ok (.ireturn, 1) := by decide +kernel
theorem dX2_refusal_33 : decode cX2_refusal 33 = .ok (.aload_n 0, 1) := by decide +kernel
theorem dX2_refusal_34 : decode cX2_refusal 34 = .ok (.getfield 34, 3) := by decide +kernel
theorem dX2_refusal_37 : decode cX2_refusal 37 = .ok (.iload_n 1, 1) := by decide +kernel
theorem dX2_refusal_38 : decode cX2_refusal 38 = .ok (.iaload, 1) := by decide +kernel
theorem dX2_refusal_39 : decode cX2_refusal 39 = .ok (.aload_n 0, 1) := by decide +kernel
theorem dX2_refusal_40 : decode cX2_refusal 40 = .ok (.getfield 34, 3) := by decide +kernel
theorem dX2_refusal_43 : decode cX2_refusal 43 = .ok (.iload_n 2, 1) := by decide +kernel
theorem dX2_refusal_44 : decode cX2_refusal 44 = .ok (.iaload, 1) := by decide +kernel
theorem dX2_refusal_45 : decode cX2_refusal 45 = .ok (.if_icmp .eq 20, 3) := by decide +kernel
theorem dX2_refusal_48 : decode cX2_refusal 48 = .ok (.aload_n 0, 1) := by decide +kernel
theorem dX2_refusal_49 : decode cX2_refusal 49 = .ok (.getfield 28, 3) := by decide +kernel
theorem dX2_refusal_52 : decode cX2_refusal 52 = .ok (.iload_n 2, 1) := by decide +kernel
theorem dX2_refusal_53 : decode cX2_refusal 53 = .ok (.iaload, 1) := by decide +kernel
theorem dX2_refusal_54 : decode cX2_refusal 54 = .ok (.iload_n 1, 1) := by decide +kernel
theorem dX2_refusal_55 : decode cX2_refusal 55 = .ok (.invokestatic 71, 3) := by decide +kernel
theorem dX2_refusal_58 : decode cX2_refusal 58 = .ok (.ifCond .eq 7, 3) := by decide +kernel
theorem dX2_refusal_61 : decode cX2_refusal 61 = .ok (.iconst 1, 1) := by decide +kernel
theorem dX2_refusal_62 : decode cX2_refusal 62 = .ok (.goto 4, 3) := by decide +kernel
theorem dX2_refusal_65 : decode cX2_refusal 65 = .ok (.iconst 0, 1) := by decide +kernel
theorem dX2_refusal_66 : decode cX2_refusal 66 = .ok (.istore_n 3, 1) := by decide +kernel
theorem dX2_refusal_67 : decode cX2_refusal 67 = .ok (.iload_n 3, 1) := by decide +kernel
theorem dX2_refusal_68 : decode cX2_refusal 68 = .ok (.ifCond .eq 14, 3) := by decide +kernel
theorem dX2_refusal_71 : decode cX2_refusal 71 = .ok (.aload_n 0, 1) := by decide +kernel
theorem dX2_refusal_72 : decode cX2_refusal 72 = .ok (.getfield 53, 3) := by decide +kernel
theorem dX2_refusal_75 : decode cX2_refusal 75 = .ok (.ifCond .ne 7, 3) := by decide +kernel
theorem dX2_refusal_78 : decode cX2_refusal 78 = .ok (.iconst 4, 1) := by decide +kernel
theorem dX2_refusal_79 : decode cX2_refusal 79 = .ok (.goto 4, 3) := by decide +kernel
theorem dX2_refusal_82 : decode cX2_refusal 82 = .ok (.iconst 0, 1) := by decide +kernel
theorem dX2_refusal_83 : decode cX2_refusal 83 = .ok (.ireturn, 1) := by decide +kernel
abbrev rX2_refusal : Room := { frames := 1, cells := 0, slots := 0, locals := 21 }
abbrev mX2_refusal : gY := (cX2_refusal, RX2, 4, rX2_refusal)
def fX2_refusal_b66 (t0 : Nat) (s0 : Int32) (M0 : gMem) : Option Int32 :=
  if s0 = 0 then (some (0 : Int32)) else if (M0.1 t0 13) = 0 then (some (4 : Int32)) else some (0 : Int32)
set_option maxRecDepth 20000 in
theorem tX2_refusal_b66 {X : gX} {V : gEnv} {t0 : Nat} {s0 : Int32} {M0 : gMem} (ht0 : gNet gShC t0) {o : Int32} (h : fX2_refusal_b66 t0 s0 M0 = some o) (O : gO X V mX2_refusal gShC (some .int) (some (.int o)) M0) : gG X V mX2_refusal gShC M0 0 0 66 [(0, .ref (gAd V t0))] [.int s0] := by
  unfold fX2_refusal_b66 at h
  refine g_istore_n (ls' := [(3, .int s0), (0, .ref (gAd V t0))]) rfl (Nat.le_of_ble_eq_true rfl) rfl dX2_refusal_66 ?_
  refine g_iload_n 0 rfl rfl dX2_refusal_67 ?_
  rcases g_ite h with ⟨c9, h⟩ | ⟨c9, h⟩
  · refine g_if_eq_t c9 (tgt := 82) rfl dX2_refusal_68 ?_
    refine g_iconst (v := 0) rfl dX2_refusal_82 ?_
    cases h
    exact g_iret O ⟨Nat.le_of_ble_eq_true rfl, Nat.le_of_ble_eq_true rfl⟩ rfl dX2_refusal_83
  · refine g_if_eq_f c9 (tgt := 82) rfl dX2_refusal_68 ?_
    refine g_aload_n 1 rfl rfl dX2_refusal_71 ?_
    refine g_getI FX2_53 ht0.1 rfl dX2_refusal_72 ?_
    rcases g_ite h with ⟨c10, h⟩ | ⟨c10, h⟩
    · refine g_if_ne_f c10 (tgt := 82) rfl dX2_refusal_75 ?_
      refine g_iconst (v := 4) rfl dX2_refusal_78 ?_
      refine g_goto (tgt := 83) rfl dX2_refusal_79 ?_
      cases h
      exact g_iret O ⟨Nat.le_of_ble_eq_true rfl, Nat.le_of_ble_eq_true rfl⟩ rfl dX2_refusal_83
    · refine g_if_ne_t c10 (tgt := 82) rfl dX2_refusal_75 ?_
      refine g_iconst (v := 0) rfl dX2_refusal_82 ?_
      cases h
      exact g_iret O ⟨Nat.le_of_ble_eq_true rfl, Nat.le_of_ble_eq_true rfl⟩ rfl dX2_refusal_83
def fX2_refusal_b65 (t0 : Nat) (M0 : gMem) : Option Int32 :=
  fX2_refusal_b66 t0 (0 : Int32) M0
set_option maxRecDepth 20000 in
theorem tX2_refusal_b65 {X : gX} {V : gEnv} {t0 : Nat} {M0 : gMem} (ht0 : gNet gShC t0) {o : Int32} (h : fX2_refusal_b65 t0 M0 = some o) (O : gO X V mX2_refusal gShC (some .int) (some (.int o)) M0) : gG X V mX2_refusal gShC M0 0 0 65 [(0, .ref (gAd V t0))] [] := by
  unfold fX2_refusal_b65 at h
  refine g_iconst (v := 0) rfl dX2_refusal_65 ?_
  exact tX2_refusal_b66 ht0 h O
def fX2_refusal (t0 : Nat) (x1 : Int32) (x2 : Int32) (M0 : gMem) : Option Int32 :=
  if x1 = x2 then (some (1 : Int32)) else (rI M0 (t0 + 5) 24 x1).bind fun v2 => (fX10_has v2 x2).bind fun v3 => if v3 = 0 then (if (M0.1 t0 10) < (60 : Int32) then ((rI M0 (t0 + 8) 24 x1).bind fun v6 => (rI M0 (t0 + 8) 24 x2).bind fun v7 => if v6 = v7 then (fX2_refusal_b65 t0 M0) else (rI M0 (t0 + 6) 24 x2).bind fun v11 => (fX10_has v11 x1).bind fun v12 => if v12 = 0 then (fX2_refusal_b65 t0 M0) else fX2_refusal_b66 t0 (1 : Int32) M0) else some (3 : Int32)) else some (2 : Int32)
set_option maxRecDepth 20000 in
theorem tX2_refusal {X : gX} {V : gEnv} {t0 : Nat} {x1 : Int32} {x2 : Int32} {M0 : gMem} (ht0 : gNet gShC t0) {o : Int32} (h : fX2_refusal t0 x1 x2 M0 = some o) (O : gO X V mX2_refusal gShC (some .int) (some (.int o)) M0) : gG X V mX2_refusal gShC M0 0 0 0 [(0, .ref (gAd V t0)), (1, .int x1), (2, .int x2)] [] := by
  unfold fX2_refusal at h
  refine g_iload_n 1 rfl rfl dX2_refusal_0 ?_
  refine g_iload_n 2 rfl rfl dX2_refusal_1 ?_
  rcases g_ite h with ⟨c1, h⟩ | ⟨c1, h⟩
  · refine g_icmp_ne_f c1 (tgt := 7) rfl dX2_refusal_2 ?_
    refine g_iconst (v := 1) rfl dX2_refusal_5 ?_
    cases h
    exact g_iret O ⟨Nat.le_of_ble_eq_true rfl, Nat.le_of_ble_eq_true rfl⟩ rfl dX2_refusal_6
  · refine g_icmp_ne_t c1 (tgt := 7) rfl dX2_refusal_2 ?_
    refine g_aload_n 0 rfl rfl dX2_refusal_7 ?_
    refine g_getR FX2_25 ht0.1 rfl dX2_refusal_8 ?_
    refine g_iload_n 1 rfl rfl dX2_refusal_11 ?_
    obtain ⟨v2, ev2, h⟩ := g_bnd h
    refine g_iald' ev2 ht0.2.2.2.2.2.1 dX2_refusal_12 ?_
    refine g_iload_n 2 rfl rfl dX2_refusal_13 ?_
    obtain ⟨v3, ev3, h⟩ := g_bnd h
    refine g_callN LX2_71 (kX10_has ev3) rfl rfl (Nat.le_of_ble_eq_true rfl) ⟨Nat.le_of_ble_eq_true rfl, Nat.le_of_ble_eq_true rfl⟩ ⟨Nat.le_of_ble_eq_true rfl, Nat.le_of_ble_eq_true rfl⟩ dX2_refusal_14 rfl ?_
    rcases g_ite h with ⟨c4, h⟩ | ⟨c4, h⟩
    · refine g_if_eq_t c4 (tgt := 22) rfl dX2_refusal_17 ?_
      refine g_aload_n 0 rfl rfl dX2_refusal_22 ?_
      refine g_getI FX2_44 ht0.1 rfl dX2_refusal_23 ?_
      refine g_bipush (v := 60) rfl dX2_refusal_26 ?_
      rcases g_ite h with ⟨c5, h⟩ | ⟨c5, h⟩
      · refine g_icmp_lt_t c5 (tgt := 33) rfl dX2_refusal_28 ?_
        refine g_aload_n 0 rfl rfl dX2_refusal_33 ?_
        refine g_getR FX2_34 ht0.1 rfl dX2_refusal_34 ?_
        refine g_iload_n 1 rfl rfl dX2_refusal_37 ?_
        obtain ⟨v6, ev6, h⟩ := g_bnd h
        refine g_iald' ev6 ht0.2.2.2.2.2.2.2.2.1 dX2_refusal_38 ?_
        refine g_aload_n 0 rfl rfl dX2_refusal_39 ?_
        refine g_getR FX2_34 ht0.1 rfl dX2_refusal_40 ?_
        refine g_iload_n 2 rfl rfl dX2_refusal_43 ?_
        obtain ⟨v7, ev7, h⟩ := g_bnd h
        refine g_iald' ev7 ht0.2.2.2.2.2.2.2.2.1 dX2_refusal_44 ?_
        rcases g_ite h with ⟨c8, h⟩ | ⟨c8, h⟩
        · refine g_icmp_eq_t c8 (tgt := 65) rfl dX2_refusal_45 ?_
          refine g_sub [0] rfl ?_
          exact tX2_refusal_b65 ht0 h O
        · refine g_icmp_eq_f c8 (tgt := 65) rfl dX2_refusal_45 ?_
          refine g_aload_n 0 rfl rfl dX2_refusal_48 ?_
          refine g_getR FX2_28 ht0.1 rfl dX2_refusal_49 ?_
          refine g_iload_n 2 rfl rfl dX2_refusal_52 ?_
          obtain ⟨v11, ev11, h⟩ := g_bnd h
          refine g_iald' ev11 ht0.2.2.2.2.2.2.1 dX2_refusal_53 ?_
          refine g_iload_n 1 rfl rfl dX2_refusal_54 ?_
          obtain ⟨v12, ev12, h⟩ := g_bnd h
          refine g_callN LX2_71 (kX10_has ev12) rfl rfl (Nat.le_of_ble_eq_true rfl) ⟨Nat.le_of_ble_eq_true rfl, Nat.le_of_ble_eq_true rfl⟩ ⟨Nat.le_of_ble_eq_true rfl, Nat.le_of_ble_eq_true rfl⟩ dX2_refusal_55 rfl ?_
          rcases g_ite h with ⟨c13, h⟩ | ⟨c13, h⟩
          · refine g_if_eq_t c13 (tgt := 65) rfl dX2_refusal_58 ?_
            refine g_sub [0] rfl ?_
            exact tX2_refusal_b65 ht0 h O
          · refine g_if_eq_f c13 (tgt := 65) rfl dX2_refusal_58 ?_
            refine g_iconst (v := 1) rfl dX2_refusal_61 ?_
            refine g_goto (tgt := 66) rfl dX2_refusal_62 ?_
            refine g_sub [0] rfl ?_
            exact tX2_refusal_b66 ht0 h O
      · refine g_icmp_lt_f c5 (tgt := 33) rfl dX2_refusal_28 ?_
        refine g_iconst (v := 3) rfl dX2_refusal_31 ?_
        cases h
        exact g_iret O ⟨Nat.le_of_ble_eq_true rfl, Nat.le_of_ble_eq_true rfl⟩ rfl dX2_refusal_32
    · refine g_if_eq_f c4 (tgt := 22) rfl dX2_refusal_17 ?_
      refine g_iconst (v := 2) rfl dX2_refusal_20 ?_
      cases h
      exact g_iret O ⟨Nat.le_of_ble_eq_true rfl, Nat.le_of_ble_eq_true rfl⟩ rfl dX2_refusal_21
theorem kX2_refusal {l : Launch} {V : gEnv} {M0 : gMem} {t0 : Nat} {x1 : Int32} {x2 : Int32} (ht0 : gNet gShC t0) {o : Int32} (h : fX2_refusal t0 x1 x2 M0 = some o) : gM l yX2_refusal cX2_refusal 4 (some .int) rX2_refusal V gShC [.ref (gAd V t0), .int x1, .int x2] M0 (some (.int o)) M0 :=
  gM.of (by decide) (Nat.le_of_ble_eq_true rfl) rfl (fun X _ O => tX2_refusal ht0 h O)
theorem dX2_reachedBy_0 : decode cX2_reachedBy 0 = .ok (.iconst 0, 1) := by decide +kernel
theorem dX2_reachedBy_1 : decode cX2_reachedBy 1 = .ok (.istore_n 2, 1) := by decide +kernel
theorem dX2_reachedBy_2 : decode cX2_reachedBy 2 = .ok (.iconst 0, 1) := by decide +kernel
theorem dX2_reachedBy_3 : decode cX2_reachedBy 3 = .ok (.istore_n 3, 1) := by decide +kernel
theorem dX2_reachedBy_4 : decode cX2_reachedBy 4 = .ok (.iload_n 3, 1) := by decide +kernel
theorem dX2_reachedBy_5 : decode cX2_reachedBy 5 = .ok (.aload_n 0, 1) := by decide +kernel
theorem dX2_reachedBy_6 : decode cX2_reachedBy 6 = .ok (.getfield 40, 3) := by decide +kernel
theorem dX2_reachedBy_9 : decode cX2_reachedBy 9 = .ok (.if_icmp .ge 28, 3) := by decide +kernel
theorem dX2_reachedBy_12 : decode cX2_reachedBy 12 = .ok (.aload_n 0, 1) := by decide +kernel
theorem dX2_reachedBy_13 : decode cX2_reachedBy 13 = .ok (.getfield 28, 3) := by decide +kernel
theorem dX2_reachedBy_16 : decode cX2_reachedBy 16 = .ok (.iload_n 3, 1) := by decide +kernel
theorem dX2_reachedBy_17 : decode cX2_reachedBy 17 = .ok (.iaload, 1) := by decide +kernel
theorem dX2_reachedBy_18 : decode cX2_reachedBy 18 = .ok (.iload_n 1, 1) := by decide +kernel
theorem dX2_reachedBy_19 : decode cX2_reachedBy 19 = .ok (.invokestatic 71, 3) := by decide +kernel
theorem dX2_reachedBy_22 : decode cX2_reachedBy 22 = .ok (.ifCond .eq 9, 3) := by decide +kernel
theorem dX2_reachedBy_25 : decode cX2_reachedBy 25 = .ok (.iload_n 2, 1) := by decide +kernel
theorem dX2_reachedBy_26 : decode cX2_reachedBy 26 = .ok (.iconst 1, 1) := by decide +kernel
theorem dX2_reachedBy_27 : decode cX2_reachedBy 27 = .ok (.iload_n 3, 1) := by decide +kernel
theorem dX2_reachedBy_28 : decode cX2_reachedBy 28 = .ok (.ishl, 1) := by decide +kernel
theorem dX2_reachedBy_29 : decode cX2_reachedBy 29 = .ok (.ior, 1) := by decide +kernel
theorem dX2_reachedBy_30 : decode cX2_reachedBy 30 = .ok (.istore_n 2, 1) := by decide +kernel
theorem dX2_reachedBy_31 : decode cX2_reachedBy 31 = .ok (.iinc 3 1, 3) := by decide +kernel
theorem dX2_reachedBy_34 : decode cX2_reachedBy 34 = .ok (.goto (-30), 3) := by decide +kernel
theorem dX2_reachedBy_37 : decode cX2_reachedBy 37 = .ok (.iload_n 2, 1) := by decide +kernel
theorem dX2_reachedBy_38 : decode cX2_reachedBy 38 = .ok (.ireturn, 1) := by decide +kernel
abbrev rX2_reachedBy : Room := { frames := 1, cells := 0, slots := 0, locals := 21 }
abbrev mX2_reachedBy : gY := (cX2_reachedBy, RX2, 4, rX2_reachedBy)
def fX2_reachedBy_b31 (t0 : Nat) (x1 : Int32) (x2 : Int32) (x3 : Int32) (M0 : gMem) : Option ((Int32 × Int32) ⊕ Int32) :=
  some (.inl (x2, x3 + (1 : Int32)))
set_option maxRecDepth 20000 in
theorem tX2_reachedBy_b31 {X : gX} {V : gEnv} {t0 : Nat} {x1 : Int32} {x2 : Int32} {x3 : Int32} {M0 : gMem} (ht0 : gNet gShC t0) {o : ((Int32 × Int32) ⊕ Int32)} (h : fX2_reachedBy_b31 t0 x1 x2 x3 M0 = some o) (Kc : ∀ s9, o = .inl s9 → gG X V mX2_reachedBy gShC M0 0 0 4 [(0, .ref (gAd V t0)), (1, .int x1), (2, .int s9.1), (3, .int s9.2)] []) (Kx : ∀ e9, o = .inr e9 → gG X V mX2_reachedBy gShC M0 0 0 37 [(2, .int e9)] []) : gG X V mX2_reachedBy gShC M0 0 0 31 [(0, .ref (gAd V t0)), (1, .int x1), (2, .int x2), (3, .int x3)] [] := by
  unfold fX2_reachedBy_b31 at h
  refine g_iinc (j := 3) (v := x3 + (1 : Int32)) (ls' := [(3, .int (x3 + (1 : Int32))), (0, .ref (gAd V t0)), (1, .int x1), (2, .int x2)]) rfl rfl (Nat.le_of_ble_eq_true rfl) rfl dX2_reachedBy_31 ?_
  refine g_goto (tgt := 4) rfl dX2_reachedBy_34 ?_
  cases h
  refine g_sub [1, 2, 3, 0] rfl ?_
  exact Kc (x2, x3 + (1 : Int32)) rfl
def fX2_reachedBy_l4 (t0 : Nat) (x1 : Int32) (M0 : gMem) (x2 : Int32) (x3 : Int32) : Option ((Int32 × Int32) ⊕ Int32) :=
  if (M0.1 t0 9) ≤ x3 then (some (.inr x2)) else (rI M0 (t0 + 6) 24 x3).bind fun v2 => (fX10_has v2 x1).bind fun v3 => if v3 = 0 then (fX2_reachedBy_b31 t0 x1 x2 x3 M0) else (nm (x2 ||| ((1 : Int32) <<< (x3 &&& 31)))).bind fun v5 => fX2_reachedBy_b31 t0 x1 v5 x3 M0
set_option maxRecDepth 20000 in
theorem tX2_reachedBy_l4 {X : gX} {V : gEnv} {t0 : Nat} {x1 : Int32} {M0 : gMem} {x2 : Int32} {x3 : Int32} (ht0 : gNet gShC t0) {o : ((Int32 × Int32) ⊕ Int32)} (h : fX2_reachedBy_l4 t0 x1 M0 x2 x3 = some o) (Kc : ∀ s9, o = .inl s9 → gG X V mX2_reachedBy gShC M0 0 0 4 [(0, .ref (gAd V t0)), (1, .int x1), (2, .int s9.1), (3, .int s9.2)] []) (Kx : ∀ e9, o = .inr e9 → gG X V mX2_reachedBy gShC M0 0 0 37 [(2, .int e9)] []) : gG X V mX2_reachedBy gShC M0 0 0 4 [(0, .ref (gAd V t0)), (1, .int x1), (2, .int x2), (3, .int x3)] [] := by
  unfold fX2_reachedBy_l4 at h
  refine g_iload_n 3 rfl rfl dX2_reachedBy_4 ?_
  refine g_aload_n 0 rfl rfl dX2_reachedBy_5 ?_
  refine g_getI FX2_40 ht0.1 rfl dX2_reachedBy_6 ?_
  rcases g_ite h with ⟨c1, h⟩ | ⟨c1, h⟩
  · refine g_icmp_ge_t c1 (tgt := 37) rfl dX2_reachedBy_9 ?_
    cases h
    refine g_sub [2] rfl ?_
    exact Kx x2 rfl
  · refine g_icmp_ge_f c1 (tgt := 37) rfl dX2_reachedBy_9 ?_
    refine g_aload_n 0 rfl rfl dX2_reachedBy_12 ?_
    refine g_getR FX2_28 ht0.1 rfl dX2_reachedBy_13 ?_
    refine g_iload_n 3 rfl rfl dX2_reachedBy_16 ?_
    obtain ⟨v2, ev2, h⟩ := g_bnd h
    refine g_iald' ev2 ht0.2.2.2.2.2.2.1 dX2_reachedBy_17 ?_
    refine g_iload_n 1 rfl rfl dX2_reachedBy_18 ?_
    obtain ⟨v3, ev3, h⟩ := g_bnd h
    refine g_callN LX2_71 (kX10_has ev3) rfl rfl (Nat.le_of_ble_eq_true rfl) ⟨Nat.le_of_ble_eq_true rfl, Nat.le_of_ble_eq_true rfl⟩ ⟨Nat.le_of_ble_eq_true rfl, Nat.le_of_ble_eq_true rfl⟩ dX2_reachedBy_19 rfl ?_
    rcases g_ite h with ⟨c4, h⟩ | ⟨c4, h⟩
    · refine g_if_eq_t c4 (tgt := 31) rfl dX2_reachedBy_22 ?_
      exact tX2_reachedBy_b31 ht0 h Kc Kx
    · refine g_if_eq_f c4 (tgt := 31) rfl dX2_reachedBy_22 ?_
      refine g_iload_n 2 rfl rfl dX2_reachedBy_25 ?_
      refine g_iconst (v := 1) rfl dX2_reachedBy_26 ?_
      refine g_iload_n 3 rfl rfl dX2_reachedBy_27 ?_
      refine g_ishl dX2_reachedBy_28 ?_
      refine g_ior dX2_reachedBy_29 ?_
      obtain ⟨v5, ev5, h⟩ := g_bnd h
      refine g_nmI ev5 ?_
      refine g_istore_n (ls' := [(2, .int v5), (0, .ref (gAd V t0)), (1, .int x1), (3, .int x3)]) rfl (Nat.le_of_ble_eq_true rfl) rfl dX2_reachedBy_30 ?_
      refine g_sub [1, 2, 0, 3] rfl ?_
      exact tX2_reachedBy_b31 ht0 h Kc Kx
def fX2_reachedBy (t0 : Nat) (x1 : Int32) (M0 : gMem) : Option Int32 :=
  (gLoop (fun z9 => fX2_reachedBy_l4 t0 x1 M0 z9.1 z9.2) gFu ((0 : Int32), (0 : Int32))).bind fun w6 => some w6
set_option maxRecDepth 20000 in
theorem tX2_reachedBy {X : gX} {V : gEnv} {t0 : Nat} {x1 : Int32} {M0 : gMem} (ht0 : gNet gShC t0) {o : Int32} (h : fX2_reachedBy t0 x1 M0 = some o) (O : gO X V mX2_reachedBy gShC (some .int) (some (.int o)) M0) : gG X V mX2_reachedBy gShC M0 0 0 0 [(0, .ref (gAd V t0)), (1, .int x1)] [] := by
  unfold fX2_reachedBy at h
  refine g_iconst (v := 0) rfl dX2_reachedBy_0 ?_
  refine g_istore_n (ls' := [(2, .int (0 : Int32)), (0, .ref (gAd V t0)), (1, .int x1)]) rfl (Nat.le_of_ble_eq_true rfl) rfl dX2_reachedBy_1 ?_
  refine g_iconst (v := 0) rfl dX2_reachedBy_2 ?_
  refine g_istore_n (ls' := [(3, .int (0 : Int32)), (2, .int (0 : Int32)), (0, .ref (gAd V t0)), (1, .int x1)]) rfl (Nat.le_of_ble_eq_true rfl) rfl dX2_reachedBy_3 ?_
  obtain ⟨w6, ew6, h⟩ := g_bnd h
  refine g_sub [2, 3, 1, 0] rfl ?_
  have KX : gG X V mX2_reachedBy gShC M0 0 0 37 [(2, .int w6)] [] := by
    refine g_iload_n 0 rfl rfl dX2_reachedBy_37 ?_
    cases h
    exact g_iret O ⟨Nat.le_of_ble_eq_true rfl, Nat.le_of_ble_eq_true rfl⟩ rfl dX2_reachedBy_38
  exact gLoop_Q ew6 (fun z9 => gG X V mX2_reachedBy gShC M0 0 0 4 [(0, .ref (gAd V t0)), (1, .int x1), (2, .int z9.1), (3, .int z9.2)] []) (fun s9 o9 hb9 hc9 hx9 => tX2_reachedBy_l4 ht0 hb9 hc9 (fun e9 he9 => by cases hx9 _ he9; exact KX))
theorem kX2_reachedBy {l : Launch} {V : gEnv} {M0 : gMem} {t0 : Nat} {x1 : Int32} (ht0 : gNet gShC t0) {o : Int32} (h : fX2_reachedBy t0 x1 M0 = some o) : gM l yX2_reachedBy cX2_reachedBy 4 (some .int) rX2_reachedBy V gShC [.ref (gAd V t0), .int x1] M0 (some (.int o)) M0 :=
  gM.of (by decide) (Nat.le_of_ble_eq_true rfl) rfl (fun X _ O => tX2_reachedBy ht0 h O)
theorem dX2_isInner_0 : decode cX2_isInner 0 = .ok (.aload_n 0, 1) := by decide +kernel
theorem dX2_isInner_1 : decode cX2_isInner 1 = .ok (.getfield 34, 3) := by decide +kernel
theorem dX2_isInner_4 : decode cX2_isInner 4 = .ok (.aload_n 0, 1) := by decide +kernel
theorem dX2_isInner_5 : decode cX2_isInner 5 = .ok (.getfield 19, 3) := by decide +kernel
theorem dX2_isInner_8 : decode cX2_isInner 8 = .ok (.iload_n 1, 1) := by decide +kernel
theorem dX2_isInner_9 : decode cX2_isInner 9 = .ok (.iaload, 1) := by decide +kernel
theorem dX2_isInner_10 : decode cX2_isInner 10 = .ok (.iaload, 1) := by decide +kernel
theorem dX2_isInner_11 : decode cX2_isInner 11 = .ok (.aload_n 0, 1) := by decide +kernel
theorem dX2_isInner_12 : decode cX2_isInner 12 = .ok (.getfield 34, 3) := by decide +kernel
theorem dX2_isInner_15 : decode cX2_isInner 15 = .ok (.aload_n 0, 1) := by decide +kernel
theorem dX2_isInner_16 : decode cX2_isInner 16 = .ok (.getfield 22, 3) := by decide +kernel
theorem dX2_isInner_19 : decode cX2_isInner 19 = .ok (.iload_n 1, 1) := by decide +kernel
theorem dX2_isInner_20 : decode cX2_isInner 20 = .ok (.iaload, 1) := by decide +kernel
theorem dX2_isInner_21 : decode cX2_isInner 21 = .ok (.iaload, 1) := by decide +kernel
theorem dX2_isInner_22 : decode cX2_isInner 22 = .ok (.if_icmp .ne 7, 3) := by decide +kernel
theorem dX2_isInner_25 : decode cX2_isInner 25 = .ok (.iconst 1, 1) := by decide +kernel
theorem dX2_isInner_26 : decode cX2_isInner 26 = .ok (.goto 4, 3) := by decide +kernel
theorem dX2_isInner_29 : decode cX2_isInner 29 = .ok (.iconst 0, 1) := by decide +kernel
theorem dX2_isInner_30 : decode cX2_isInner 30 = .ok (.ireturn, 1) := by decide +kernel
abbrev rX2_isInner : Room := { frames := 0, cells := 0, slots := 0, locals := 0 }
abbrev mX2_isInner : gY := (cX2_isInner, RX2, 2, rX2_isInner)
def fX2_isInner (t0 : Nat) (x1 : Int32) (M0 : gMem) : Option Int32 :=
  (rI M0 (t0 + 3) 60 x1).bind fun v1 => (rI M0 (t0 + 8) 24 v1).bind fun v2 => (rI M0 (t0 + 4) 60 x1).bind fun v3 => (rI M0 (t0 + 8) 24 v3).bind fun v4 => some (if v2 = v4 then (1 : Int32) else (0 : Int32))
set_option maxRecDepth 20000 in
theorem tX2_isInner {X : gX} {V : gEnv} {t0 : Nat} {x1 : Int32} {M0 : gMem} (ht0 : gNet gShC t0) {o : Int32} (h : fX2_isInner t0 x1 M0 = some o) (O : gO X V mX2_isInner gShC (some .boolean) (some (.int o)) M0) : gG X V mX2_isInner gShC M0 0 0 0 [(0, .ref (gAd V t0)), (1, .int x1)] [] := by
  unfold fX2_isInner at h
  refine g_aload_n 0 rfl rfl dX2_isInner_0 ?_
  refine g_getR FX2_34 ht0.1 rfl dX2_isInner_1 ?_
  refine g_aload_n 0 rfl rfl dX2_isInner_4 ?_
  refine g_getR FX2_19 ht0.1 rfl dX2_isInner_5 ?_
  refine g_iload_n 1 rfl rfl dX2_isInner_8 ?_
  obtain ⟨v1, ev1, h⟩ := g_bnd h
  refine g_iald' ev1 ht0.2.2.2.1 dX2_isInner_9 ?_
  obtain ⟨v2, ev2, h⟩ := g_bnd h
  refine g_iald' ev2 ht0.2.2.2.2.2.2.2.2.1 dX2_isInner_10 ?_
  refine g_aload_n 0 rfl rfl dX2_isInner_11 ?_
  refine g_getR FX2_34 ht0.1 rfl dX2_isInner_12 ?_
  refine g_aload_n 0 rfl rfl dX2_isInner_15 ?_
  refine g_getR FX2_22 ht0.1 rfl dX2_isInner_16 ?_
  refine g_iload_n 1 rfl rfl dX2_isInner_19 ?_
  obtain ⟨v3, ev3, h⟩ := g_bnd h
  refine g_iald' ev3 ht0.2.2.2.2.1 dX2_isInner_20 ?_
  obtain ⟨v4, ev4, h⟩ := g_bnd h
  refine g_iald' ev4 ht0.2.2.2.2.2.2.2.2.1 dX2_isInner_21 ?_
  have KJ : gG X V mX2_isInner gShC M0 0 0 30 [(0, .ref (gAd V t0)), (1, .int x1)] [.int (if v2 = v4 then (1 : Int32) else (0 : Int32))] := by
    cases h
    exact g_iret O ⟨Nat.le_of_ble_eq_true rfl, Nat.le_of_ble_eq_true rfl⟩ (by split <;> rfl) dX2_isInner_30
  by_cases c5 : v2 = v4
  · rw [if_pos c5] at KJ
    refine g_icmp_ne_f c5 (tgt := 29) rfl dX2_isInner_22 ?_
    refine g_iconst (v := 1) rfl dX2_isInner_25 ?_
    refine g_goto (tgt := 30) rfl dX2_isInner_26 ?_
    exact KJ
  · rw [if_neg c5] at KJ
    refine g_icmp_ne_t c5 (tgt := 29) rfl dX2_isInner_22 ?_
    refine g_iconst (v := 0) rfl dX2_isInner_29 ?_
    exact KJ
theorem kX2_isInner {l : Launch} {V : gEnv} {M0 : gMem} {t0 : Nat} {x1 : Int32} (ht0 : gNet gShC t0) {o : Int32} (h : fX2_isInner t0 x1 M0 = some o) : gM l yX2_isInner cX2_isInner 2 (some .boolean) rX2_isInner V gShC [.ref (gAd V t0), .int x1] M0 (some (.int o)) M0 :=
  gM.of (by decide) (Nat.le_of_ble_eq_true rfl) rfl (fun X _ O => tX2_isInner ht0 h O)
theorem dX6_countLooked_0 : decode cX6_countLooked 0 = .ok (.iconst 0, 1) := by decide +kernel
theorem dX6_countLooked_1 : decode cX6_countLooked 1 = .ok (.istore_n 2, 1) := by decide +kernel
theorem dX6_countLooked_2 : decode cX6_countLooked 2 = .ok (.iload_n 2, 1) := by decide +kernel
theorem dX6_countLooked_3 : decode cX6_countLooked 3 = .ok (.aload_n 1, 1) := by decide +kernel
theorem dX6_countLooked_4 : decode cX6_countLooked 4 = .ok (.getfield 61, 3) := by decide +kernel
theorem dX6_countLooked_7 : decode cX6_countLooked 7 = .ok (.if_icmp .ge 79, 3) := by decide +kernel
theorem dX6_countLooked_10 : decode cX6_countLooked 10 = .ok (.aload_n 1, 1) := by decide +kernel
theorem dX6_countLooked_11 : decode cX6_countLooked 11 = .ok (.iload_n 2, 1) := by decide +kernel
theorem dX6_countLooked_12 : decode cX6_countLooked 12 = .ok (.invokevirtual 64, 3) := by decide +kernel
theorem dX6_countLooked_15 : decode cX6_countLooked 15 = .ok (.ifCond .ne 65, 3) := by decide +kernel
theorem dX6_countLooked_18 : decode cX6_countLooked 18 = .ok (.aload_n 0, 1) := by decide +kernel
theorem dX6_countLooked_19 : decode cX6_countLooked 19 = .ok (.getfield 25, 3) := by decide +kernel
theorem dX6_countLooked_22 : decode cX6_countLooked 22 = .ok (.aload_n 1, 1) := by decide +kernel
theorem dX6_countLooked_23 : decode cX6_countLooked 23 = .ok (.getfield 37, 3) := by decide +kernel
theorem dX6_countLooked_26 : decode cX6_countLooked 26 = .ok (.aload_n 1, 1) := by decide +kernel
theorem dX6_countLooked_27 : decode cX6_countLooked 27 = .ok (.getfield 68, 3) := by decide +kernel
theorem dX6_countLooked_30 : decode cX6_countLooked 30 = .ok (.iload_n 2, 1) := by decide +kernel
theorem dX6_countLooked_31 : decode cX6_countLooked 31 = .ok (.iaload, 1) := by decide +kernel
theorem dX6_countLooked_32 : decode cX6_countLooked 32 = .ok (.iaload, 1) := by decide +kernel
theorem dX6_countLooked_33 : decode cX6_countLooked 33 = .ok (.invokestatic 53, 3) := by decide +kernel
theorem dX6_countLooked_36 : decode cX6_countLooked 36 = .ok (.ifCond .eq 13, 3) := by decide +kernel
theorem dX6_countLooked_39 : decode cX6_countLooked 39 = .ok (.aload_n 0, 1) := by decide +kernel
theorem dX6_countLooked_40 : decode cX6_countLooked 40 = .ok (.dup, 1) := by decide +kernel
theorem dX6_countLooked_41 : decode cX6_countLooked 41 = .ok (.getfield 34, 3) := by decide +kernel
theorem dX6_countLooked_44 : decode cX6_countLooked 44 = .ok (.iconst 1, 1) := by decide +kernel
theorem dX6_countLooked_45 : decode cX6_countLooked 45 = .ok (.iadd, 1) := by decide +kernel
theorem dX6_countLooked_46 : decode cX6_countLooked 46 = .ok (.putfield 34, 3) := by decide +kernel
theorem dX6_countLooked_49 : decode cX6_countLooked 49 = .ok (.aload_n 0, 1) := by decide +kernel
theorem dX6_countLooked_50 : decode cX6_countLooked 50 = .ok (.getfield 28, 3) := by decide +kernel
theorem dX6_countLooked_53 : decode cX6_countLooked 53 = .ok (.aload_n 1, 1) := by decide +kernel
theorem dX6_countLooked_54 : decode cX6_countLooked 54 = .ok (.getfield 37, 3) := by decide +kernel
theorem dX6_countLooked_57 : decode cX6_countLooked 57 = .ok (.aload_n 1, 1) := by decide +kernel
theorem dX6_countLooked_58 : decode cX6_countLooked 58 = .ok (.getfield 71, 3) := by decide +kernel
theorem dX6_countLooked_61 : decode cX6_countLooked 61 = .ok (.iload_n 2, 1) := by decide +kernel
theorem dX6_countLooked_62 : decode cX6_countLooked 62 = .ok (.iaload, 1) := by decide +kernel
theorem dX6_countLooked_63 : decode cX6_countLooked 63 = .ok (.iaload, 1) := by decide +kernel
theorem dX6_countLooked_64 : decode cX6_countLooked 64 = .ok (.invokestatic 53, 3) := by decide +kernel
theorem dX6_countLooked_67 : decode cX6_countLooked 67 = .ok (.ifCond .eq 13, 3) := by decide +kernel
theorem dX6_countLooked_70 : decode cX6_countLooked 70 = .ok (.aload_n 0, 1) := by decide +kernel
theorem dX6_countLooked_71 : decode cX6_countLooked 71 = .ok (.dup, 1) := by decide +kernel
theorem dX6_countLooked_72 : decode cX6_countLooked 72 = .ok (.getfield 34, 3) := by decide +kernel
theorem dX6_countLooked_75 : decode cX6_countLooked 75 = .ok (.iconst 1, 1) := by decide +kernel
theorem dX6_countLooked_76 : decode cX6_countLooked 76 = .ok (.iadd, 1) := by decide +kernel
theorem dX6_countLooked_77 : decode cX6_countLooked 77 = .ok (.putfield 34, 3) := by decide +kernel
theorem dX6_countLooked_80 : decode cX6_countLooked 80 = .ok (.iinc 2 1, 3) := by decide +kernel
theorem dX6_countLooked_83 : decode cX6_countLooked 83 = .ok (.goto (-81), 3) := by decide +kernel
theorem dX6_countLooked_86 : decode cX6_countLooked 86 = .ok (.return_, 1) := by decide +kernel
abbrev rX6_countLooked : Room := { frames := 1, cells := 0, slots := 0, locals := 21 }
abbrev mX6_countLooked : gY := (cX6_countLooked, RX6, 3, rX6_countLooked)
def fX6_countLooked_b80 (t1 : Nat) (x2 : Int32) (M0 : gMem) : Option ((Int32 × gMem) ⊕ gMem) :=
  some (.inl (x2 + (1 : Int32), M0))
set_option maxRecDepth 20000 in
theorem tX6_countLooked_b80 {X : gX} {V : gEnv} {t1 : Nat} {x2 : Int32} {M0 : gMem} (ht1 : gNet gShC t1) {o : ((Int32 × gMem) ⊕ gMem)} (h : fX6_countLooked_b80 t1 x2 M0 = some o) (Kc : ∀ s9, o = .inl s9 → gG X V mX6_countLooked gShC s9.2 0 0 2 [(0, .ref (gAd V 41)), (1, .ref (gAd V t1)), (2, .int s9.1)] []) (Kx : ∀ e9, o = .inr e9 → gG X V mX6_countLooked gShC e9 0 0 86 [] []) : gG X V mX6_countLooked gShC M0 0 0 80 [(0, .ref (gAd V 41)), (1, .ref (gAd V t1)), (2, .int x2)] [] := by
  unfold fX6_countLooked_b80 at h
  refine g_iinc (j := 2) (v := x2 + (1 : Int32)) (ls' := [(2, .int (x2 + (1 : Int32))), (0, .ref (gAd V 41)), (1, .ref (gAd V t1))]) rfl rfl (Nat.le_of_ble_eq_true rfl) rfl dX6_countLooked_80 ?_
  refine g_goto (tgt := 2) rfl dX6_countLooked_83 ?_
  cases h
  refine g_sub [1, 2, 0] rfl ?_
  exact Kc (x2 + (1 : Int32), M0) rfl
def fX6_countLooked_b49 (t1 : Nat) (x2 : Int32) (M0 : gMem) : Option ((Int32 × gMem) ⊕ gMem) :=
  (rI M0 (t1 + 4) 60 x2).bind fun v8 => (rI M0 (t1 + 8) 24 v8).bind fun v9 => (fX10_has (M0.1 41 4) v9).bind fun v10 => if v10 = 0 then (fX6_countLooked_b80 t1 x2 M0) else (wF M0 41 6 ((M0.1 41 6) + (1 : Int32))).bind fun M12 => fX6_countLooked_b80 t1 x2 M12
set_option maxRecDepth 20000 in
theorem tX6_countLooked_b49 {X : gX} {V : gEnv} {t1 : Nat} {x2 : Int32} {M0 : gMem} (ht1 : gNet gShC t1) {o : ((Int32 × gMem) ⊕ gMem)} (h : fX6_countLooked_b49 t1 x2 M0 = some o) (Kc : ∀ s9, o = .inl s9 → gG X V mX6_countLooked gShC s9.2 0 0 2 [(0, .ref (gAd V 41)), (1, .ref (gAd V t1)), (2, .int s9.1)] []) (Kx : ∀ e9, o = .inr e9 → gG X V mX6_countLooked gShC e9 0 0 86 [] []) : gG X V mX6_countLooked gShC M0 0 0 49 [(0, .ref (gAd V 41)), (1, .ref (gAd V t1)), (2, .int x2)] [] := by
  unfold fX6_countLooked_b49 at h
  refine g_aload_n 0 rfl rfl dX6_countLooked_49 ?_
  refine g_getI FX6_28 sC_41 rfl dX6_countLooked_50 ?_
  refine g_aload_n 1 rfl rfl dX6_countLooked_53 ?_
  refine g_getR FX6_37 ht1.1 rfl dX6_countLooked_54 ?_
  refine g_aload_n 1 rfl rfl dX6_countLooked_57 ?_
  refine g_getR FX6_71 ht1.1 rfl dX6_countLooked_58 ?_
  refine g_iload_n 2 rfl rfl dX6_countLooked_61 ?_
  obtain ⟨v8, ev8, h⟩ := g_bnd h
  refine g_iald' ev8 ht1.2.2.2.2.1 dX6_countLooked_62 ?_
  obtain ⟨v9, ev9, h⟩ := g_bnd h
  refine g_iald' ev9 ht1.2.2.2.2.2.2.2.2.1 dX6_countLooked_63 ?_
  obtain ⟨v10, ev10, h⟩ := g_bnd h
  refine g_callN LX6_53 (kX10_has ev10) rfl rfl (Nat.le_of_ble_eq_true rfl) ⟨Nat.le_of_ble_eq_true rfl, Nat.le_of_ble_eq_true rfl⟩ ⟨Nat.le_of_ble_eq_true rfl, Nat.le_of_ble_eq_true rfl⟩ dX6_countLooked_64 rfl ?_
  rcases g_ite h with ⟨c11, h⟩ | ⟨c11, h⟩
  · refine g_if_eq_t c11 (tgt := 80) rfl dX6_countLooked_67 ?_
    exact tX6_countLooked_b80 ht1 h Kc Kx
  · refine g_if_eq_f c11 (tgt := 80) rfl dX6_countLooked_67 ?_
    refine g_aload_n 0 rfl rfl dX6_countLooked_70 ?_
    refine g_dup rfl dX6_countLooked_71 ?_
    refine g_getI FX6_34 sC_41 rfl dX6_countLooked_72 ?_
    refine g_iconst (v := 1) rfl dX6_countLooked_75 ?_
    refine g_iadd dX6_countLooked_76 ?_
    obtain ⟨M12, eM12, h⟩ := g_bnd h
    refine g_putI' eM12 FX6_34 jX6 sC_41 rfl rfl rfl dX6_countLooked_77 ?_
    exact tX6_countLooked_b80 ht1 h Kc Kx
def fX6_countLooked_l2 (t1 : Nat) (x2 : Int32) (M0 : gMem) : Option ((Int32 × gMem) ⊕ gMem) :=
  if (M0.1 t1 10) ≤ x2 then (some (.inr M0)) else (fX2_isInner t1 x2 M0).bind fun v2 => if v2 = 0 then ((rI M0 (t1 + 3) 60 x2).bind fun v4 => (rI M0 (t1 + 8) 24 v4).bind fun v5 => (fX10_has (M0.1 41 3) v5).bind fun v6 => if v6 = 0 then (fX6_countLooked_b49 t1 x2 M0) else (wF M0 41 6 ((M0.1 41 6) + (1 : Int32))).bind fun M13 => fX6_countLooked_b49 t1 x2 M13) else fX6_countLooked_b80 t1 x2 M0
set_option maxRecDepth 20000 in
theorem tX6_countLooked_l2 {X : gX} {V : gEnv} {t1 : Nat} {x2 : Int32} {M0 : gMem} (ht1 : gNet gShC t1) {o : ((Int32 × gMem) ⊕ gMem)} (h : fX6_countLooked_l2 t1 x2 M0 = some o) (Kc : ∀ s9, o = .inl s9 → gG X V mX6_countLooked gShC s9.2 0 0 2 [(0, .ref (gAd V 41)), (1, .ref (gAd V t1)), (2, .int s9.1)] []) (Kx : ∀ e9, o = .inr e9 → gG X V mX6_countLooked gShC e9 0 0 86 [] []) : gG X V mX6_countLooked gShC M0 0 0 2 [(0, .ref (gAd V 41)), (1, .ref (gAd V t1)), (2, .int x2)] [] := by
  unfold fX6_countLooked_l2 at h
  refine g_iload_n 2 rfl rfl dX6_countLooked_2 ?_
  refine g_aload_n 1 rfl rfl dX6_countLooked_3 ?_
  refine g_getI FX6_61 ht1.1 rfl dX6_countLooked_4 ?_
  rcases g_ite h with ⟨c1, h⟩ | ⟨c1, h⟩
  · refine g_icmp_ge_t c1 (tgt := 86) rfl dX6_countLooked_7 ?_
    cases h
    refine g_sub [] rfl ?_
    exact Kx M0 rfl
  · refine g_icmp_ge_f c1 (tgt := 86) rfl dX6_countLooked_7 ?_
    refine g_aload_n 1 rfl rfl dX6_countLooked_10 ?_
    refine g_iload_n 2 rfl rfl dX6_countLooked_11 ?_
    obtain ⟨v2, ev2, h⟩ := g_bnd h
    refine g_callV LX6_64 ht1.1 rfl (kX2_isInner ht1 ev2) rfl rfl (Nat.le_of_ble_eq_true rfl) ⟨Nat.le_of_ble_eq_true rfl, Nat.le_of_ble_eq_true rfl⟩ ⟨Nat.le_of_ble_eq_true rfl, Nat.le_of_ble_eq_true rfl⟩ dX6_countLooked_12 rfl ?_
    rcases g_ite h with ⟨c3, h⟩ | ⟨c3, h⟩
    · refine g_if_ne_f c3 (tgt := 80) rfl dX6_countLooked_15 ?_
      refine g_aload_n 0 rfl rfl dX6_countLooked_18 ?_
      refine g_getI FX6_25 sC_41 rfl dX6_countLooked_19 ?_
      refine g_aload_n 1 rfl rfl dX6_countLooked_22 ?_
      refine g_getR FX6_37 ht1.1 rfl dX6_countLooked_23 ?_
      refine g_aload_n 1 rfl rfl dX6_countLooked_26 ?_
      refine g_getR FX6_68 ht1.1 rfl dX6_countLooked_27 ?_
      refine g_iload_n 2 rfl rfl dX6_countLooked_30 ?_
      obtain ⟨v4, ev4, h⟩ := g_bnd h
      refine g_iald' ev4 ht1.2.2.2.1 dX6_countLooked_31 ?_
      obtain ⟨v5, ev5, h⟩ := g_bnd h
      refine g_iald' ev5 ht1.2.2.2.2.2.2.2.2.1 dX6_countLooked_32 ?_
      obtain ⟨v6, ev6, h⟩ := g_bnd h
      refine g_callN LX6_53 (kX10_has ev6) rfl rfl (Nat.le_of_ble_eq_true rfl) ⟨Nat.le_of_ble_eq_true rfl, Nat.le_of_ble_eq_true rfl⟩ ⟨Nat.le_of_ble_eq_true rfl, Nat.le_of_ble_eq_true rfl⟩ dX6_countLooked_33 rfl ?_
      rcases g_ite h with ⟨c7, h⟩ | ⟨c7, h⟩
      · refine g_if_eq_t c7 (tgt := 49) rfl dX6_countLooked_36 ?_
        exact tX6_countLooked_b49 ht1 h Kc Kx
      · refine g_if_eq_f c7 (tgt := 49) rfl dX6_countLooked_36 ?_
        refine g_aload_n 0 rfl rfl dX6_countLooked_39 ?_
        refine g_dup rfl dX6_countLooked_40 ?_
        refine g_getI FX6_34 sC_41 rfl dX6_countLooked_41 ?_
        refine g_iconst (v := 1) rfl dX6_countLooked_44 ?_
        refine g_iadd dX6_countLooked_45 ?_
        obtain ⟨M13, eM13, h⟩ := g_bnd h
        refine g_putI' eM13 FX6_34 jX6 sC_41 rfl rfl rfl dX6_countLooked_46 ?_
        exact tX6_countLooked_b49 ht1 h Kc Kx
    · refine g_if_ne_t c3 (tgt := 80) rfl dX6_countLooked_15 ?_
      exact tX6_countLooked_b80 ht1 h Kc Kx
def fX6_countLooked (t1 : Nat) (M0 : gMem) : Option gMem :=
  (gLoop (fun z9 => fX6_countLooked_l2 t1 z9.1 z9.2) gFu ((0 : Int32), M0)).bind fun w14 => some w14
set_option maxRecDepth 20000 in
theorem tX6_countLooked {X : gX} {V : gEnv} {t1 : Nat} {M0 : gMem} (ht1 : gNet gShC t1) {o : gMem} (h : fX6_countLooked t1 M0 = some o) (O : gO X V mX6_countLooked gShC none none o) : gG X V mX6_countLooked gShC M0 0 0 0 [(0, .ref (gAd V 41)), (1, .ref (gAd V t1))] [] := by
  unfold fX6_countLooked at h
  refine g_iconst (v := 0) rfl dX6_countLooked_0 ?_
  refine g_istore_n (ls' := [(2, .int (0 : Int32)), (0, .ref (gAd V 41)), (1, .ref (gAd V t1))]) rfl (Nat.le_of_ble_eq_true rfl) rfl dX6_countLooked_1 ?_
  obtain ⟨w14, ew14, h⟩ := g_bnd h
  refine g_sub [1, 2, 0] rfl ?_
  have KX : gG X V mX6_countLooked gShC w14 0 0 86 [] [] := by
    cases h
    exact g_vret O ⟨Nat.le_of_ble_eq_true rfl, Nat.le_of_ble_eq_true rfl⟩ dX6_countLooked_86
  exact gLoop_Q ew14 (fun z9 => gG X V mX6_countLooked gShC z9.2 0 0 2 [(0, .ref (gAd V 41)), (1, .ref (gAd V t1)), (2, .int z9.1)] []) (fun s9 o9 hb9 hc9 hx9 => tX6_countLooked_l2 ht1 hb9 hc9 (fun e9 he9 => by cases hx9 _ he9; exact KX))
theorem kX6_countLooked {l : Launch} {V : gEnv} {M0 : gMem} {t1 : Nat} (ht1 : gNet gShC t1) {o : gMem} (h : fX6_countLooked t1 M0 = some o) : gM l yX6_countLooked cX6_countLooked 3 none rX6_countLooked V gShC [.ref (gAd V 41), .ref (gAd V t1)] M0 none o :=
  gM.of (by decide) (Nat.le_of_ble_eq_true rfl) rfl (fun X _ O => tX6_countLooked ht1 h O)
theorem dX6_survey_0 : decode cX6_survey 0 = .ok (.aload_n 0, 1) := by decide +kernel
theorem dX6_survey_1 : decode cX6_survey 1 = .ok (.aload_n 1, 1) := by decide +kernel
theorem dX6_survey_2 : decode cX6_survey 2 = .ok (.getfield 37, 3) := by decide +kernel
theorem dX6_survey_5 : decode cX6_survey 5 = .ok (.iload_n 3, 1) := by decide +kernel
theorem dX6_survey_6 : decode cX6_survey 6 = .ok (.iaload, 1) := by decide +kernel
theorem dX6_survey_7 : decode cX6_survey 7 = .ok (.putfield 18, 3) := by decide +kernel
theorem dX6_survey_10 : decode cX6_survey 10 = .ok (.aload_n 0, 1) := by decide +kernel
theorem dX6_survey_11 : decode cX6_survey 11 = .ok (.aload_n 1, 1) := by decide +kernel
theorem dX6_survey_12 : decode cX6_survey 12 = .ok (.getfield 37, 3) := by decide +kernel
theorem dX6_survey_15 : decode cX6_survey 15 = .ok (.iload_n 2, 1) := by decide +kernel
theorem dX6_survey_16 : decode cX6_survey 16 = .ok (.iaload, 1) := by decide +kernel
theorem dX6_survey_17 : decode cX6_survey 17 = .ok (.putfield 22, 3) := by decide +kernel
theorem dX6_survey_20 : decode cX6_survey 20 = .ok (.aload_n 0, 1) := by decide +kernel
theorem dX6_survey_21 : decode cX6_survey 21 = .ok (.iconst 0, 1) := by decide +kernel
theorem dX6_survey_22 : decode cX6_survey 22 = .ok (.putfield 25, 3) := by decide +kernel
theorem dX6_survey_25 : decode cX6_survey 25 = .ok (.aload_n 0, 1) := by decide +kernel
theorem dX6_survey_26 : decode cX6_survey 26 = .ok (.iconst 0, 1) := by decide +kernel
theorem dX6_survey_27 : decode cX6_survey 27 = .ok (.putfield 28, 3) := by decide +kernel
theorem dX6_survey_30 : decode cX6_survey 30 = .ok (.aload_n 0, 1) := by decide +kernel
theorem dX6_survey_31 : decode cX6_survey 31 = .ok (.iconst 0, 1) := by decide +kernel
theorem dX6_survey_32 : decode cX6_survey 32 = .ok (.putfield 31, 3) := by decide +kernel
theorem dX6_survey_35 : decode cX6_survey 35 = .ok (.aload_n 0, 1) := by decide +kernel
theorem dX6_survey_36 : decode cX6_survey 36 = .ok (.iconst 0, 1) := by decide +kernel
theorem dX6_survey_37 : decode cX6_survey 37 = .ok (.putfield 34, 3) := by decide +kernel
theorem dX6_survey_40 : decode cX6_survey 40 = .ok (.aload_n 0, 1) := by decide +kernel
theorem dX6_survey_41 : decode cX6_survey 41 = .ok (.getfield 18, 3) := by decide +kernel
theorem dX6_survey_44 : decode cX6_survey 44 = .ok (.aload_n 0, 1) := by decide +kernel
theorem dX6_survey_45 : decode cX6_survey 45 = .ok (.getfield 22, 3) := by decide +kernel
theorem dX6_survey_48 : decode cX6_survey 48 = .ok (.if_icmp .lt 14, 3) := by decide +kernel
theorem dX6_survey_51 : decode cX6_survey 51 = .ok (.aload_n 0, 1) := by decide +kernel
theorem dX6_survey_52 : decode cX6_survey 52 = .ok (.aload_n 0, 1) := by decide +kernel
theorem dX6_survey_53 : decode cX6_survey 53 = .ok (.getfield 18, 3) := by decide +kernel
theorem dX6_survey_56 : decode cX6_survey 56 = .ok (.iconst 1, 1) := by decide +kernel
theorem dX6_survey_57 : decode cX6_survey 57 = .ok (.isub, 1) := by decide +kernel
theorem dX6_survey_58 : decode cX6_survey 58 = .ok (.putfield 22, 3) := by decide +kernel
theorem dX6_survey_61 : decode cX6_survey 61 = .ok (.return_, 1) := by decide +kernel
theorem dX6_survey_62 : decode cX6_survey 62 = .ok (.aload_n 1, 1) := by decide +kernel
theorem dX6_survey_63 : decode cX6_survey 63 = .ok (.getfield 43, 3) := by decide +kernel
theorem dX6_survey_66 : decode cX6_survey 66 = .ok (.iload_n 3, 1) := by decide +kernel
theorem dX6_survey_67 : decode cX6_survey 67 = .ok (.iaload, 1) := by decide +kernel
theorem dX6_survey_68 : decode cX6_survey 68 = .ok (.istore 4, 2) := by decide +kernel
theorem dX6_survey_70 : decode cX6_survey 70 = .ok (.aload_n 1, 1) := by decide +kernel
theorem dX6_survey_71 : decode cX6_survey 71 = .ok (.iload_n 2, 1) := by decide +kernel
theorem dX6_survey_72 : decode cX6_survey 72 = .ok (.invokevirtual 46, 3) := by decide +kernel
theorem dX6_survey_75 : decode cX6_survey 75 = .ok (.istore 5, 2) := by decide +kernel
theorem dX6_survey_77 : decode cX6_survey 77 = .ok (.aload_n 0, 1) := by decide +kernel
theorem dX6_survey_78 : decode cX6_survey 78 = .ok (.getfield 18, 3) := by decide +kernel
theorem dX6_survey_81 : decode cX6_survey 81 = .ok (.istore 6, 2) := by decide +kernel
theorem dX6_survey_83 : decode cX6_survey 83 = .ok (.iload 6, 2) := by decide +kernel
theorem dX6_survey_85 : decode cX6_survey 85 = .ok (.aload_n 0, 1) := by decide +kernel
theorem dX6_survey_86 : decode cX6_survey 86 = .ok (.getfield 22, 3) := by decide +kernel
theorem dX6_survey_89 : decode cX6_survey 89 = .ok (.if_icmp .gt 94, 3) := by decide +kernel
theorem dX6_survey_92 : decode cX6_survey 92 = .ok (.iload 4, 2) := by decide +kernel
theorem dX6_survey_94 : decode cX6_survey 94 = .ok (.aload_n 1, 1) := by decide +kernel
theorem dX6_survey_95 : decode cX6_survey 95 = .ok (.getfield 50, 3) := by decide +kernel
theorem dX6_survey_98 : decode cX6_survey 98 = .ok (.iload 6, 2) := by decide +kernel
theorem dX6_survey_100 : decode cX6_survey 100 = .ok (.iaload, 1) := by decide +kernel
theorem dX6_survey_101 : decode cX6_survey 101 = .ok (.iand, 1) := by decide +kernel
theorem dX6_survey_102 : decode cX6_survey 102 = .ok (.ifCond .eq 16, 3) := by decide +kernel
theorem dX6_survey_105 : decode cX6_survey 105 = .ok (.aload_n 0, 1) := by decide +kernel
theorem dX6_survey_106 : decode cX6_survey 106 = .ok (.dup, 1) := by decide +kernel
theorem dX6_survey_107 : decode cX6_survey 107 = .ok (.getfield 25, 3) := by decide +kernel
theorem dX6_survey_110 : decode cX6_survey 110 = .ok (.iconst 1, 1) := by decide +kernel
theorem dX6_survey_111 : decode cX6_survey 111 = .ok (.iload 6, 2) := by decide +kernel
theorem dX6_survey_113 : decode cX6_survey 113 = .ok (.ishl, 1) := by decide +kernel
theorem dX6_survey_114 : decode cX6_survey 114 = .ok (.ior, 1) := by decide +kernel
theorem dX6_survey_115 : decode cX6_survey 115 = .ok (.putfield 25, 3) := by decide +kernel
theorem dX6_survey_118 : decode cX6_survey 118 = .ok (.iload 5, 2) := by decide +kernel
theorem dX6_survey_120 : decode cX6_survey 120 = .ok (.aload_n 1, 1) := by decide +kernel
theorem dX6_survey_121 : decode cX6_survey 121 = .ok (.getfield 50, 3) := by decide +kernel
theorem dX6_survey_124 : decode cX6_survey 124 = .ok (.iload 6, 2) := by decide +kernel
theorem dX6_survey_126 : decode cX6_survey 126 = .ok (.iaload, 1) := by decide +kernel
theorem dX6_survey_127 : decode cX6_survey 127 = .ok (.iand, 1) := by decide +kernel
theorem dX6_survey_128 : decode cX6_survey 128 = .ok (.ifCond .eq 16, 3) := by decide +kernel
theorem dX6_survey_131 : decode cX6_survey 131 = .ok (.aload_n 0, 1) := by decide +kernel
theorem dX6_survey_132 : decode cX6_survey 132 = .ok (.dup, 1) := by decide +kernel
theorem dX6_survey_133 : decode cX6_survey 133 = .ok (.getfield 28, 3) := by decide +kernel
theorem dX6_survey_136 : decode cX6_survey 136 = .ok (.iconst 1, 1) := by decide +kernel
theorem dX6_survey_137 : decode cX6_survey 137 = .ok (.iload 6, 2) := by decide +kernel
theorem dX6_survey_139 : decode cX6_survey 139 = .ok (.ishl, 1) := by decide +kernel
theorem dX6_survey_140 : decode cX6_survey 140 = .ok (.ior, 1) := by decide +kernel
theorem dX6_survey_141 : decode cX6_survey 141 = .ok (.putfield 28, 3) := by decide +kernel
theorem dX6_survey_144 : decode cX6_survey 144 = .ok (.aload_n 0, 1) := by decide +kernel
theorem dX6_survey_145 : decode cX6_survey 145 = .ok (.getfield 25, 3) := by decide +kernel
theorem dX6_survey_148 : decode cX6_survey 148 = .ok (.aload_n 0, 1) := by decide +kernel
theorem dX6_survey_149 : decode cX6_survey 149 = .ok (.getfield 28, 3) := by decide +kernel
theorem dX6_survey_152 : decode cX6_survey 152 = .ok (.iand, 1) := by decide +kernel
theorem dX6_survey_153 : decode cX6_survey 153 = .ok (.iload 6, 2) := by decide +kernel
theorem dX6_survey_155 : decode cX6_survey 155 = .ok (.invokestatic 53, 3) := by decide +kernel
theorem dX6_survey_158 : decode cX6_survey 158 = .ok (.ifCond .eq 19, 3) := by decide +kernel
theorem dX6_survey_161 : decode cX6_survey 161 = .ok (.aload_n 0, 1) := by decide +kernel
theorem dX6_survey_162 : decode cX6_survey 162 = .ok (.dup, 1) := by decide +kernel
theorem dX6_survey_163 : decode cX6_survey 163 = .ok (.getfield 31, 3) := by decide +kernel
theorem dX6_survey_166 : decode cX6_survey 166 = .ok (.aload_n 1, 1) := by decide +kernel
theorem dX6_survey_167 : decode cX6_survey 167 = .ok (.getfield 50, 3) := by decide +kernel
theorem dX6_survey_170 : decode cX6_survey 170 = .ok (.iload 6, 2) := by decide +kernel
theorem dX6_survey_172 : decode cX6_survey 172 = .ok (.iaload, 1) := by decide +kernel
theorem dX6_survey_173 : decode cX6_survey 173 = .ok (.ior, 1) := by decide +kernel
theorem dX6_survey_174 : decode cX6_survey 174 = .ok (.putfield 31, 3) := by decide +kernel
theorem dX6_survey_177 : decode cX6_survey 177 = .ok (.iinc 6 1, 3) := by decide +kernel
theorem dX6_survey_180 : decode cX6_survey 180 = .ok (.goto (-97), 3) := by decide +kernel
theorem dX6_survey_183 : decode cX6_survey 183 = .ok (.aload_n 0, 1) := by decide +kernel
theorem dX6_survey_184 : decode cX6_survey 184 = .ok (.aload_n 1, 1) := by decide +kernel
theorem dX6_survey_185 : decode cX6_survey 185 = .ok (.invokevirtual 57, 3) := by decide +kernel
theorem dX6_survey_188 : decode cX6_survey 188 = .ok (.return_, 1) := by decide +kernel
abbrev rX6_survey : Room := { frames := 2, cells := 0, slots := 0, locals := 44 }
abbrev mX6_survey : gY := (cX6_survey, RX6, 7, rX6_survey)
def fX6_survey_b177 (t1 : Nat) (x4 : Int32) (x5 : Int32) (x6 : Int32) (M0 : gMem) : Option ((Int32 × gMem) ⊕ gMem) :=
  some (.inl (x6 + (1 : Int32), M0))
set_option maxRecDepth 20000 in
theorem tX6_survey_b177 {X : gX} {V : gEnv} {t1 : Nat} {x4 : Int32} {x5 : Int32} {x6 : Int32} {M0 : gMem} (ht1 : gNet gShC t1) {o : ((Int32 × gMem) ⊕ gMem)} (h : fX6_survey_b177 t1 x4 x5 x6 M0 = some o) (Kc : ∀ s9, o = .inl s9 → gG X V mX6_survey gShC s9.2 0 0 83 [(0, .ref (gAd V 41)), (1, .ref (gAd V t1)), (4, .int x4), (5, .int x5), (6, .int s9.1)] []) (Kx : ∀ e9, o = .inr e9 → gG X V mX6_survey gShC e9 0 0 183 [(0, .ref (gAd V 41)), (1, .ref (gAd V t1))] []) : gG X V mX6_survey gShC M0 0 0 177 [(0, .ref (gAd V 41)), (1, .ref (gAd V t1)), (4, .int x4), (5, .int x5), (6, .int x6)] [] := by
  unfold fX6_survey_b177 at h
  refine g_iinc (j := 4) (v := x6 + (1 : Int32)) (ls' := [(6, .int (x6 + (1 : Int32))), (0, .ref (gAd V 41)), (1, .ref (gAd V t1)), (4, .int x4), (5, .int x5)]) rfl rfl (Nat.le_of_ble_eq_true rfl) rfl dX6_survey_177 ?_
  refine g_goto (tgt := 83) rfl dX6_survey_180 ?_
  cases h
  refine g_sub [1, 2, 3, 4, 0] rfl ?_
  exact Kc (x6 + (1 : Int32), M0) rfl
def fX6_survey_b144 (t1 : Nat) (x4 : Int32) (x5 : Int32) (x6 : Int32) (M0 : gMem) : Option ((Int32 × gMem) ⊕ gMem) :=
  (fX10_has ((M0.1 41 3) &&& (M0.1 41 4)) x6).bind fun v18 => if v18 = 0 then (fX6_survey_b177 t1 x4 x5 x6 M0) else (rI M0 (t1 + 7) 24 x6).bind fun v20 => (wF M0 41 5 ((M0.1 41 5) ||| v20)).bind fun M21 => fX6_survey_b177 t1 x4 x5 x6 M21
set_option maxRecDepth 20000 in
theorem tX6_survey_b144 {X : gX} {V : gEnv} {t1 : Nat} {x4 : Int32} {x5 : Int32} {x6 : Int32} {M0 : gMem} (ht1 : gNet gShC t1) {o : ((Int32 × gMem) ⊕ gMem)} (h : fX6_survey_b144 t1 x4 x5 x6 M0 = some o) (Kc : ∀ s9, o = .inl s9 → gG X V mX6_survey gShC s9.2 0 0 83 [(0, .ref (gAd V 41)), (1, .ref (gAd V t1)), (4, .int x4), (5, .int x5), (6, .int s9.1)] []) (Kx : ∀ e9, o = .inr e9 → gG X V mX6_survey gShC e9 0 0 183 [(0, .ref (gAd V 41)), (1, .ref (gAd V t1))] []) : gG X V mX6_survey gShC M0 0 0 144 [(0, .ref (gAd V 41)), (1, .ref (gAd V t1)), (4, .int x4), (5, .int x5), (6, .int x6)] [] := by
  unfold fX6_survey_b144 at h
  refine g_aload_n 0 rfl rfl dX6_survey_144 ?_
  refine g_getI FX6_25 sC_41 rfl dX6_survey_145 ?_
  refine g_aload_n 0 rfl rfl dX6_survey_148 ?_
  refine g_getI FX6_28 sC_41 rfl dX6_survey_149 ?_
  refine g_iand dX6_survey_152 ?_
  refine g_iload 4 rfl dX6_survey_153 ?_
  obtain ⟨v18, ev18, h⟩ := g_bnd h
  refine g_callN LX6_53 (kX10_has ev18) rfl rfl (Nat.le_of_ble_eq_true rfl) ⟨Nat.le_of_ble_eq_true rfl, Nat.le_of_ble_eq_true rfl⟩ ⟨Nat.le_of_ble_eq_true rfl, Nat.le_of_ble_eq_true rfl⟩ dX6_survey_155 rfl ?_
  rcases g_ite h with ⟨c19, h⟩ | ⟨c19, h⟩
  · refine g_if_eq_t c19 (tgt := 177) rfl dX6_survey_158 ?_
    exact tX6_survey_b177 ht1 h Kc Kx
  · refine g_if_eq_f c19 (tgt := 177) rfl dX6_survey_158 ?_
    refine g_aload_n 0 rfl rfl dX6_survey_161 ?_
    refine g_dup rfl dX6_survey_162 ?_
    refine g_getI FX6_31 sC_41 rfl dX6_survey_163 ?_
    refine g_aload_n 1 rfl rfl dX6_survey_166 ?_
    refine g_getR FX6_50 ht1.1 rfl dX6_survey_167 ?_
    refine g_iload 4 rfl dX6_survey_170 ?_
    obtain ⟨v20, ev20, h⟩ := g_bnd h
    refine g_iald' ev20 ht1.2.2.2.2.2.2.2.1 dX6_survey_172 ?_
    refine g_ior dX6_survey_173 ?_
    obtain ⟨M21, eM21, h⟩ := g_bnd h
    refine g_putI' eM21 FX6_31 jX6 sC_41 rfl rfl rfl dX6_survey_174 ?_
    exact tX6_survey_b177 ht1 h Kc Kx
def fX6_survey_b118 (t1 : Nat) (x4 : Int32) (x5 : Int32) (x6 : Int32) (M0 : gMem) : Option ((Int32 × gMem) ⊕ gMem) :=
  (rI M0 (t1 + 7) 24 x6).bind fun v16 => if (x5 &&& v16) = 0 then (fX6_survey_b144 t1 x4 x5 x6 M0) else (wF M0 41 4 ((M0.1 41 4) ||| ((1 : Int32) <<< (x6 &&& 31)))).bind fun M22 => fX6_survey_b144 t1 x4 x5 x6 M22
set_option maxRecDepth 20000 in
theorem tX6_survey_b118 {X : gX} {V : gEnv} {t1 : Nat} {x4 : Int32} {x5 : Int32} {x6 : Int32} {M0 : gMem} (ht1 : gNet gShC t1) {o : ((Int32 × gMem) ⊕ gMem)} (h : fX6_survey_b118 t1 x4 x5 x6 M0 = some o) (Kc : ∀ s9, o = .inl s9 → gG X V mX6_survey gShC s9.2 0 0 83 [(0, .ref (gAd V 41)), (1, .ref (gAd V t1)), (4, .int x4), (5, .int x5), (6, .int s9.1)] []) (Kx : ∀ e9, o = .inr e9 → gG X V mX6_survey gShC e9 0 0 183 [(0, .ref (gAd V 41)), (1, .ref (gAd V t1))] []) : gG X V mX6_survey gShC M0 0 0 118 [(0, .ref (gAd V 41)), (1, .ref (gAd V t1)), (4, .int x4), (5, .int x5), (6, .int x6)] [] := by
  unfold fX6_survey_b118 at h
  refine g_iload 3 rfl dX6_survey_118 ?_
  refine g_aload_n 1 rfl rfl dX6_survey_120 ?_
  refine g_getR FX6_50 ht1.1 rfl dX6_survey_121 ?_
  refine g_iload 4 rfl dX6_survey_124 ?_
  obtain ⟨v16, ev16, h⟩ := g_bnd h
  refine g_iald' ev16 ht1.2.2.2.2.2.2.2.1 dX6_survey_126 ?_
  refine g_iand dX6_survey_127 ?_
  rcases g_ite h with ⟨c17, h⟩ | ⟨c17, h⟩
  · refine g_if_eq_t c17 (tgt := 144) rfl dX6_survey_128 ?_
    exact tX6_survey_b144 ht1 h Kc Kx
  · refine g_if_eq_f c17 (tgt := 144) rfl dX6_survey_128 ?_
    refine g_aload_n 0 rfl rfl dX6_survey_131 ?_
    refine g_dup rfl dX6_survey_132 ?_
    refine g_getI FX6_28 sC_41 rfl dX6_survey_133 ?_
    refine g_iconst (v := 1) rfl dX6_survey_136 ?_
    refine g_iload 4 rfl dX6_survey_137 ?_
    refine g_ishl dX6_survey_139 ?_
    refine g_ior dX6_survey_140 ?_
    obtain ⟨M22, eM22, h⟩ := g_bnd h
    refine g_putI' eM22 FX6_28 jX6 sC_41 rfl rfl rfl dX6_survey_141 ?_
    exact tX6_survey_b144 ht1 h Kc Kx
def fX6_survey_l83 (t1 : Nat) (x4 : Int32) (x5 : Int32) (x6 : Int32) (M0 : gMem) : Option ((Int32 × gMem) ⊕ gMem) :=
  if (M0.1 41 2) < x6 then (some (.inr M0)) else (rI M0 (t1 + 7) 24 x6).bind fun v14 => if (x4 &&& v14) = 0 then (fX6_survey_b118 t1 x4 x5 x6 M0) else (wF M0 41 3 ((M0.1 41 3) ||| ((1 : Int32) <<< (x6 &&& 31)))).bind fun M23 => fX6_survey_b118 t1 x4 x5 x6 M23
set_option maxRecDepth 20000 in
theorem tX6_survey_l83 {X : gX} {V : gEnv} {t1 : Nat} {x4 : Int32} {x5 : Int32} {x6 : Int32} {M0 : gMem} (ht1 : gNet gShC t1) {o : ((Int32 × gMem) ⊕ gMem)} (h : fX6_survey_l83 t1 x4 x5 x6 M0 = some o) (Kc : ∀ s9, o = .inl s9 → gG X V mX6_survey gShC s9.2 0 0 83 [(0, .ref (gAd V 41)), (1, .ref (gAd V t1)), (4, .int x4), (5, .int x5), (6, .int s9.1)] []) (Kx : ∀ e9, o = .inr e9 → gG X V mX6_survey gShC e9 0 0 183 [(0, .ref (gAd V 41)), (1, .ref (gAd V t1))] []) : gG X V mX6_survey gShC M0 0 0 83 [(0, .ref (gAd V 41)), (1, .ref (gAd V t1)), (4, .int x4), (5, .int x5), (6, .int x6)] [] := by
  unfold fX6_survey_l83 at h
  refine g_iload 4 rfl dX6_survey_83 ?_
  refine g_aload_n 0 rfl rfl dX6_survey_85 ?_
  refine g_getI FX6_22 sC_41 rfl dX6_survey_86 ?_
  rcases g_ite h with ⟨c13, h⟩ | ⟨c13, h⟩
  · refine g_icmp_gt_t c13 (tgt := 183) rfl dX6_survey_89 ?_
    cases h
    refine g_sub [0, 1] rfl ?_
    exact Kx M0 rfl
  · refine g_icmp_gt_f c13 (tgt := 183) rfl dX6_survey_89 ?_
    refine g_iload 2 rfl dX6_survey_92 ?_
    refine g_aload_n 1 rfl rfl dX6_survey_94 ?_
    refine g_getR FX6_50 ht1.1 rfl dX6_survey_95 ?_
    refine g_iload 4 rfl dX6_survey_98 ?_
    obtain ⟨v14, ev14, h⟩ := g_bnd h
    refine g_iald' ev14 ht1.2.2.2.2.2.2.2.1 dX6_survey_100 ?_
    refine g_iand dX6_survey_101 ?_
    rcases g_ite h with ⟨c15, h⟩ | ⟨c15, h⟩
    · refine g_if_eq_t c15 (tgt := 118) rfl dX6_survey_102 ?_
      exact tX6_survey_b118 ht1 h Kc Kx
    · refine g_if_eq_f c15 (tgt := 118) rfl dX6_survey_102 ?_
      refine g_aload_n 0 rfl rfl dX6_survey_105 ?_
      refine g_dup rfl dX6_survey_106 ?_
      refine g_getI FX6_25 sC_41 rfl dX6_survey_107 ?_
      refine g_iconst (v := 1) rfl dX6_survey_110 ?_
      refine g_iload 4 rfl dX6_survey_111 ?_
      refine g_ishl dX6_survey_113 ?_
      refine g_ior dX6_survey_114 ?_
      obtain ⟨M23, eM23, h⟩ := g_bnd h
      refine g_putI' eM23 FX6_25 jX6 sC_41 rfl rfl rfl dX6_survey_115 ?_
      exact tX6_survey_b118 ht1 h Kc Kx
def fX6_survey (t1 : Nat) (x2 : Int32) (x3 : Int32) (M0 : gMem) : Option gMem :=
  (rI M0 (t1 + 8) 24 x3).bind fun v1 => (wF M0 41 1 v1).bind fun M2 => (rI M2 (t1 + 8) 24 x2).bind fun v3 => (wF M2 41 2 v3).bind fun M4 => (wF M4 41 3 (0 : Int32)).bind fun M5 => (wF M5 41 4 (0 : Int32)).bind fun M6 => (wF M6 41 5 (0 : Int32)).bind fun M7 => (wF M7 41 6 (0 : Int32)).bind fun M8 => if (M8.1 41 1) < (M8.1 41 2) then ((rI M8 (t1 + 6) 24 x3).bind fun v10 => (fX2_reachedBy t1 x2 M8).bind fun v11 => (nm (M8.1 41 1)).bind fun v12 => (gLoop (fun z9 => fX6_survey_l83 t1 v10 v11 z9.1 z9.2) gFu (v12, M8)).bind fun w24 => (fX6_countLooked t1 w24).bind fun v25 => some v25) else (wF M8 41 2 ((M8.1 41 1) - (1 : Int32))).bind fun M26 => some M26
set_option maxRecDepth 20000 in
theorem tX6_survey {X : gX} {V : gEnv} {t1 : Nat} {x2 : Int32} {x3 : Int32} {M0 : gMem} (ht1 : gNet gShC t1) {o : gMem} (h : fX6_survey t1 x2 x3 M0 = some o) (O : gO X V mX6_survey gShC none none o) : gG X V mX6_survey gShC M0 0 0 0 [(0, .ref (gAd V 41)), (1, .ref (gAd V t1)), (2, .int x2), (3, .int x3)] [] := by
  unfold fX6_survey at h
  refine g_aload_n 0 rfl rfl dX6_survey_0 ?_
  refine g_aload_n 1 rfl rfl dX6_survey_1 ?_
  refine g_getR FX6_37 ht1.1 rfl dX6_survey_2 ?_
  refine g_iload_n 3 rfl rfl dX6_survey_5 ?_
  obtain ⟨v1, ev1, h⟩ := g_bnd h
  refine g_iald' ev1 ht1.2.2.2.2.2.2.2.2.1 dX6_survey_6 ?_
  obtain ⟨M2, eM2, h⟩ := g_bnd h
  refine g_putI' eM2 FX6_18 jX6 sC_41 rfl rfl rfl dX6_survey_7 ?_
  refine g_aload_n 0 rfl rfl dX6_survey_10 ?_
  refine g_aload_n 1 rfl rfl dX6_survey_11 ?_
  refine g_getR FX6_37 ht1.1 rfl dX6_survey_12 ?_
  refine g_iload_n 2 rfl rfl dX6_survey_15 ?_
  obtain ⟨v3, ev3, h⟩ := g_bnd h
  refine g_iald' ev3 ht1.2.2.2.2.2.2.2.2.1 dX6_survey_16 ?_
  obtain ⟨M4, eM4, h⟩ := g_bnd h
  refine g_putI' eM4 FX6_22 jX6 sC_41 rfl rfl rfl dX6_survey_17 ?_
  refine g_aload_n 0 rfl rfl dX6_survey_20 ?_
  refine g_iconst (v := 0) rfl dX6_survey_21 ?_
  obtain ⟨M5, eM5, h⟩ := g_bnd h
  refine g_putI' eM5 FX6_25 jX6 sC_41 rfl rfl rfl dX6_survey_22 ?_
  refine g_aload_n 0 rfl rfl dX6_survey_25 ?_
  refine g_iconst (v := 0) rfl dX6_survey_26 ?_
  obtain ⟨M6, eM6, h⟩ := g_bnd h
  refine g_putI' eM6 FX6_28 jX6 sC_41 rfl rfl rfl dX6_survey_27 ?_
  refine g_aload_n 0 rfl rfl dX6_survey_30 ?_
  refine g_iconst (v := 0) rfl dX6_survey_31 ?_
  obtain ⟨M7, eM7, h⟩ := g_bnd h
  refine g_putI' eM7 FX6_31 jX6 sC_41 rfl rfl rfl dX6_survey_32 ?_
  refine g_aload_n 0 rfl rfl dX6_survey_35 ?_
  refine g_iconst (v := 0) rfl dX6_survey_36 ?_
  obtain ⟨M8, eM8, h⟩ := g_bnd h
  refine g_putI' eM8 FX6_34 jX6 sC_41 rfl rfl rfl dX6_survey_37 ?_
  refine g_aload_n 0 rfl rfl dX6_survey_40 ?_
  refine g_getI FX6_18 sC_41 rfl dX6_survey_41 ?_
  refine g_aload_n 0 rfl rfl dX6_survey_44 ?_
  refine g_getI FX6_22 sC_41 rfl dX6_survey_45 ?_
  rcases g_ite h with ⟨c9, h⟩ | ⟨c9, h⟩
  · refine g_icmp_lt_t c9 (tgt := 62) rfl dX6_survey_48 ?_
    refine g_aload_n 1 rfl rfl dX6_survey_62 ?_
    refine g_getR FX6_43 ht1.1 rfl dX6_survey_63 ?_
    refine g_iload_n 3 rfl rfl dX6_survey_66 ?_
    obtain ⟨v10, ev10, h⟩ := g_bnd h
    refine g_iald' ev10 ht1.2.2.2.2.2.2.1 dX6_survey_67 ?_
    refine g_istore (ls' := [(4, .int v10), (0, .ref (gAd V 41)), (1, .ref (gAd V t1)), (2, .int x2), (3, .int x3)]) (Nat.le_of_ble_eq_true rfl) rfl dX6_survey_68 ?_
    refine g_aload_n 2 rfl rfl dX6_survey_70 ?_
    refine g_iload_n 3 rfl rfl dX6_survey_71 ?_
    obtain ⟨v11, ev11, h⟩ := g_bnd h
    refine g_callV LX6_46 ht1.1 rfl (kX2_reachedBy ht1 ev11) rfl rfl (Nat.le_of_ble_eq_true rfl) ⟨Nat.le_of_ble_eq_true rfl, Nat.le_of_ble_eq_true rfl⟩ ⟨Nat.le_of_ble_eq_true rfl, Nat.le_of_ble_eq_true rfl⟩ dX6_survey_72 rfl ?_
    refine g_istore (ls' := [(5, .int v11), (4, .int v10), (0, .ref (gAd V 41)), (1, .ref (gAd V t1)), (2, .int x2), (3, .int x3)]) (Nat.le_of_ble_eq_true rfl) rfl dX6_survey_75 ?_
    refine g_aload_n 2 rfl rfl dX6_survey_77 ?_
    refine g_getI FX6_18 sC_41 rfl dX6_survey_78 ?_
    obtain ⟨v12, ev12, h⟩ := g_bnd h
    refine g_nmI ev12 ?_
    refine g_istore (ls' := [(6, .int v12), (5, .int v11), (4, .int v10), (0, .ref (gAd V 41)), (1, .ref (gAd V t1)), (2, .int x2), (3, .int x3)]) (Nat.le_of_ble_eq_true rfl) rfl dX6_survey_81 ?_
    obtain ⟨w24, ew24, h⟩ := g_bnd h
    refine g_sub [3, 4, 2, 1, 0] rfl ?_
    have KX : gG X V mX6_survey gShC w24 0 0 183 [(0, .ref (gAd V 41)), (1, .ref (gAd V t1))] [] := by
      refine g_aload_n 0 rfl rfl dX6_survey_183 ?_
      refine g_aload_n 1 rfl rfl dX6_survey_184 ?_
      obtain ⟨v25, ev25, h⟩ := g_bnd h
      refine g_callV LX6_57 sC_41 rfl (kX6_countLooked ht1 ev25) rfl rfl (Nat.le_of_ble_eq_true rfl) ⟨Nat.le_of_ble_eq_true rfl, Nat.le_of_ble_eq_true rfl⟩ ⟨Nat.le_of_ble_eq_true rfl, Nat.le_of_ble_eq_true rfl⟩ dX6_survey_185 rfl ?_
      cases h
      exact g_vret O ⟨Nat.le_of_ble_eq_true rfl, Nat.le_of_ble_eq_true rfl⟩ dX6_survey_188
    exact gLoop_Q ew24 (fun z9 => gG X V mX6_survey gShC z9.2 0 0 83 [(0, .ref (gAd V 41)), (1, .ref (gAd V t1)), (4, .int v10), (5, .int v11), (6, .int z9.1)] []) (fun s9 o9 hb9 hc9 hx9 => tX6_survey_l83 ht1 hb9 hc9 (fun e9 he9 => by cases hx9 _ he9; exact KX))
  · refine g_icmp_lt_f c9 (tgt := 62) rfl dX6_survey_48 ?_
    refine g_aload_n 0 rfl rfl dX6_survey_51 ?_
    refine g_aload_n 0 rfl rfl dX6_survey_52 ?_
    refine g_getI FX6_18 sC_41 rfl dX6_survey_53 ?_
    refine g_iconst (v := 1) rfl dX6_survey_56 ?_
    refine g_isub dX6_survey_57 ?_
    obtain ⟨M26, eM26, h⟩ := g_bnd h
    refine g_putI' eM26 FX6_22 jX6 sC_41 rfl rfl rfl dX6_survey_58 ?_
    cases h
    exact g_vret O ⟨Nat.le_of_ble_eq_true rfl, Nat.le_of_ble_eq_true rfl⟩ dX6_survey_61
theorem kX6_survey {l : Launch} {V : gEnv} {M0 : gMem} {t1 : Nat} {x2 : Int32} {x3 : Int32} (ht1 : gNet gShC t1) {o : gMem} (h : fX6_survey t1 x2 x3 M0 = some o) : gM l yX6_survey cX6_survey 7 none rX6_survey V gShC [.ref (gAd V 41), .ref (gAd V t1), .int x2, .int x3] M0 none o :=
  gM.of (by decide) (Nat.le_of_ble_eq_true rfl) rfl (fun X _ O => tX6_survey ht1 h O)
theorem dX6_affected_0 : decode cX6_affected 0 = .ok (.aload_n 0, 1) := by decide +kernel
theorem dX6_affected_1 : decode cX6_affected 1 = .ok (.getfield 22, 3) := by decide +kernel
theorem dX6_affected_4 : decode cX6_affected 4 = .ok (.aload_n 0, 1) := by decide +kernel
theorem dX6_affected_5 : decode cX6_affected 5 = .ok (.getfield 18, 3) := by decide +kernel
theorem dX6_affected_8 : decode cX6_affected 8 = .ok (.isub, 1) := by decide +kernel
theorem dX6_affected_9 : decode cX6_affected 9 = .ok (.iconst 1, 1) := by decide +kernel
theorem dX6_affected_10 : decode cX6_affected 10 = .ok (.iadd, 1) := by decide +kernel
theorem dX6_affected_11 : decode cX6_affected 11 = .ok (.ireturn, 1) := by decide +kernel
abbrev rX6_affected : Room := { frames := 0, cells := 0, slots := 0, locals := 0 }
abbrev mX6_affected : gY := (cX6_affected, RX6, 1, rX6_affected)
def fX6_affected (M0 : gMem) : Option Int32 :=
  some (((M0.1 41 2) - (M0.1 41 1)) + (1 : Int32))
set_option maxRecDepth 20000 in
theorem tX6_affected {X : gX} {V : gEnv} {M0 : gMem}  {o : Int32} (h : fX6_affected M0 = some o) (O : gO X V mX6_affected gShC (some .int) (some (.int o)) M0) : gG X V mX6_affected gShC M0 0 0 0 [(0, .ref (gAd V 41))] [] := by
  unfold fX6_affected at h
  refine g_aload_n 0 rfl rfl dX6_affected_0 ?_
  refine g_getI FX6_22 sC_41 rfl dX6_affected_1 ?_
  refine g_aload_n 0 rfl rfl dX6_affected_4 ?_
  refine g_getI FX6_18 sC_41 rfl dX6_affected_5 ?_
  refine g_isub dX6_affected_8 ?_
  refine g_iconst (v := 1) rfl dX6_affected_9 ?_
  refine g_iadd dX6_affected_10 ?_
  cases h
  exact g_iret O ⟨Nat.le_of_ble_eq_true rfl, Nat.le_of_ble_eq_true rfl⟩ rfl dX6_affected_11
theorem kX6_affected {l : Launch} {V : gEnv} {M0 : gMem}   {o : Int32} (h : fX6_affected M0 = some o) : gM l yX6_affected cX6_affected 1 (some .int) rX6_affected V gShC [.ref (gAd V 41)] M0 (some (.int o)) M0 :=
  gM.of (by decide) (Nat.le_of_ble_eq_true rfl) rfl (fun X _ O => tX6_affected  h O)
theorem dX7_put_0 : decode cX7_put 0 = .ok (.aload_n 0, 1) := by decide +kernel
theorem dX7_put_1 : decode cX7_put 1 = .ok (.getfield 15, 3) := by decide +kernel
theorem dX7_put_4 : decode cX7_put 4 = .ok (.bipush 24, 2) := by decide +kernel
theorem dX7_put_6 : decode cX7_put 6 = .ok (.if_icmp .ge 23, 3) := by decide +kernel
theorem dX7_put_9 : decode cX7_put 9 = .ok (.aload_n 0, 1) := by decide +kernel
theorem dX7_put_10 : decode cX7_put 10 = .ok (.getfield 9, 3) := by decide +kernel
theorem dX7_put_13 : decode cX7_put 13 = .ok (.aload_n 0, 1) := by decide +kernel
theorem dX7_put_14 : decode cX7_put 14 = .ok (.getfield 15, 3) := by decide +kernel
theorem dX7_put_17 : decode cX7_put 17 = .ok (.iload_n 1, 1) := by decide +kernel
theorem dX7_put_18 : decode cX7_put 18 = .ok (.iastore, 1) := by decide +kernel
theorem dX7_put_19 : decode cX7_put 19 = .ok (.aload_n 0, 1) := by decide +kernel
theorem dX7_put_20 : decode cX7_put 20 = .ok (.dup, 1) := by decide +kernel
theorem dX7_put_21 : decode cX7_put 21 = .ok (.getfield 15, 3) := by decide +kernel
theorem dX7_put_24 : decode cX7_put 24 = .ok (.iconst 1, 1) := by decide +kernel
theorem dX7_put_25 : decode cX7_put 25 = .ok (.iadd, 1) := by decide +kernel
theorem dX7_put_26 : decode cX7_put 26 = .ok (.putfield 15, 3) := by decide +kernel
theorem dX7_put_29 : decode cX7_put 29 = .ok (.return_, 1) := by decide +kernel
abbrev rX7_put : Room := { frames := 0, cells := 0, slots := 0, locals := 0 }
abbrev mX7_put : gY := (cX7_put, RX7, 2, rX7_put)
def fX7_put (t0 : Nat) (x1 : Int32) (M0 : gMem) : Option gMem :=
  if (24 : Int32) ≤ (M0.1 t0 1) then (some M0) else (wI M0 (t0 + 1) 24 (M0.1 t0 1) x1).bind fun M2 => (wF M2 t0 1 ((M2.1 t0 1) + (1 : Int32))).bind fun M3 => some M3
set_option maxRecDepth 20000 in
theorem tX7_put {X : gX} {V : gEnv} {t0 : Nat} {x1 : Int32} {M0 : gMem} (ht0 : gRow gShC t0) {o : gMem} (h : fX7_put t0 x1 M0 = some o) (O : gO X V mX7_put gShC none none o) : gG X V mX7_put gShC M0 0 0 0 [(0, .ref (gAd V t0)), (1, .int x1)] [] := by
  unfold fX7_put at h
  refine g_aload_n 0 rfl rfl dX7_put_0 ?_
  refine g_getI FX7_15 ht0.1 rfl dX7_put_1 ?_
  refine g_bipush (v := 24) rfl dX7_put_4 ?_
  rcases g_ite h with ⟨c1, h⟩ | ⟨c1, h⟩
  · refine g_icmp_ge_t c1 (tgt := 29) rfl dX7_put_6 ?_
    cases h
    exact g_vret O ⟨Nat.le_of_ble_eq_true rfl, Nat.le_of_ble_eq_true rfl⟩ dX7_put_29
  · refine g_icmp_ge_f c1 (tgt := 29) rfl dX7_put_6 ?_
    refine g_aload_n 0 rfl rfl dX7_put_9 ?_
    refine g_getR FX7_9 ht0.1 rfl dX7_put_10 ?_
    refine g_aload_n 0 rfl rfl dX7_put_13 ?_
    refine g_getI FX7_15 ht0.1 rfl dX7_put_14 ?_
    refine g_iload_n 1 rfl rfl dX7_put_17 ?_
    obtain ⟨M2, eM2, h⟩ := g_bnd h
    refine g_iast' eM2 ht0.2 dX7_put_18 ?_
    refine g_aload_n 0 rfl rfl dX7_put_19 ?_
    refine g_dup rfl dX7_put_20 ?_
    refine g_getI FX7_15 ht0.1 rfl dX7_put_21 ?_
    refine g_iconst (v := 1) rfl dX7_put_24 ?_
    refine g_iadd dX7_put_25 ?_
    obtain ⟨M3, eM3, h⟩ := g_bnd h
    refine g_putI' eM3 FX7_15 jX7 ht0.1 rfl rfl rfl dX7_put_26 ?_
    cases h
    exact g_vret O ⟨Nat.le_of_ble_eq_true rfl, Nat.le_of_ble_eq_true rfl⟩ dX7_put_29
theorem kX7_put {l : Launch} {V : gEnv} {M0 : gMem} {t0 : Nat} {x1 : Int32} (ht0 : gRow gShC t0) {o : gMem} (h : fX7_put t0 x1 M0 = some o) : gM l yX7_put cX7_put 2 none rX7_put V gShC [.ref (gAd V t0), .int x1] M0 none o :=
  gM.of (by decide) (Nat.le_of_ble_eq_true rfl) rfl (fun X _ O => tX7_put ht0 h O)
theorem dX7_putPlaces_0 : decode cX7_putPlaces 0 = .ok (.iload_n 2, 1) := by decide +kernel
theorem dX7_putPlaces_1 : decode cX7_putPlaces 1 = .ok (.istore 4, 2) := by decide +kernel
theorem dX7_putPlaces_3 : decode cX7_putPlaces 3 = .ok (.iload 4, 2) := by decide +kernel
theorem dX7_putPlaces_5 : decode cX7_putPlaces 5 = .ok (.iload_n 3, 1) := by decide +kernel
theorem dX7_putPlaces_6 : decode cX7_putPlaces 6 = .ok (.if_icmp .ge 20, 3) := by decide +kernel
theorem dX7_putPlaces_9 : decode cX7_putPlaces 9 = .ok (.aload_n 0, 1) := by decide +kernel
theorem dX7_putPlaces_10 : decode cX7_putPlaces 10 = .ok (.aload_n 1, 1) := by decide +kernel
theorem dX7_putPlaces_11 : decode cX7_putPlaces 11 = .ok (.getfield 23, 3) := by decide +kernel
theorem dX7_putPlaces_14 : decode cX7_putPlaces 14 = .ok (.iload 4, 2) := by decide +kernel
theorem dX7_putPlaces_16 : decode cX7_putPlaces 16 = .ok (.iaload, 1) := by decide +kernel
theorem dX7_putPlaces_17 : decode cX7_putPlaces 17 = .ok (.invokevirtual 19, 3) := by decide +kernel
theorem dX7_putPlaces_20 : decode cX7_putPlaces 20 = .ok (.iinc 4 1, 3) := by decide +kernel
theorem dX7_putPlaces_23 : decode cX7_putPlaces 23 = .ok (.goto (-20), 3) := by decide +kernel
theorem dX7_putPlaces_26 : decode cX7_putPlaces 26 = .ok (.return_, 1) := by decide +kernel
abbrev rX7_putPlaces : Room := { frames := 1, cells := 0, slots := 0, locals := 21 }
abbrev mX7_putPlaces : gY := (cX7_putPlaces, RX7, 5, rX7_putPlaces)
def fX7_putPlaces_l3 (t0 : Nat) (t1 : Nat) (x3 : Int32) (x4 : Int32) (M0 : gMem) : Option ((Int32 × gMem) ⊕ gMem) :=
  if x3 ≤ x4 then (some (.inr M0)) else (rI M0 (t1 + 7) 24 x4).bind fun v2 => (fX7_put t0 v2 M0).bind fun v3 => some (.inl (x4 + (1 : Int32), v3))
set_option maxRecDepth 20000 in
theorem tX7_putPlaces_l3 {X : gX} {V : gEnv} {t0 : Nat} {t1 : Nat} {x3 : Int32} {x4 : Int32} {M0 : gMem} (ht0 : gRow gShC t0) (ht1 : gNet gShC t1) {o : ((Int32 × gMem) ⊕ gMem)} (h : fX7_putPlaces_l3 t0 t1 x3 x4 M0 = some o) (Kc : ∀ s9, o = .inl s9 → gG X V mX7_putPlaces gShC s9.2 0 0 3 [(0, .ref (gAd V t0)), (1, .ref (gAd V t1)), (3, .int x3), (4, .int s9.1)] []) (Kx : ∀ e9, o = .inr e9 → gG X V mX7_putPlaces gShC e9 0 0 26 [] []) : gG X V mX7_putPlaces gShC M0 0 0 3 [(0, .ref (gAd V t0)), (1, .ref (gAd V t1)), (3, .int x3), (4, .int x4)] [] := by
  unfold fX7_putPlaces_l3 at h
  refine g_iload 3 rfl dX7_putPlaces_3 ?_
  refine g_iload_n 2 rfl rfl dX7_putPlaces_5 ?_
  rcases g_ite h with ⟨c1, h⟩ | ⟨c1, h⟩
  · refine g_icmp_ge_t c1 (tgt := 26) rfl dX7_putPlaces_6 ?_
    cases h
    refine g_sub [] rfl ?_
    exact Kx M0 rfl
  · refine g_icmp_ge_f c1 (tgt := 26) rfl dX7_putPlaces_6 ?_
    refine g_aload_n 0 rfl rfl dX7_putPlaces_9 ?_
    refine g_aload_n 1 rfl rfl dX7_putPlaces_10 ?_
    refine g_getR FX7_23 ht1.1 rfl dX7_putPlaces_11 ?_
    refine g_iload 3 rfl dX7_putPlaces_14 ?_
    obtain ⟨v2, ev2, h⟩ := g_bnd h
    refine g_iald' ev2 ht1.2.2.2.2.2.2.2.1 dX7_putPlaces_16 ?_
    obtain ⟨v3, ev3, h⟩ := g_bnd h
    refine g_callV LX7_19 ht0.1 rfl (kX7_put ht0 ev3) rfl rfl (Nat.le_of_ble_eq_true rfl) ⟨Nat.le_of_ble_eq_true rfl, Nat.le_of_ble_eq_true rfl⟩ ⟨Nat.le_of_ble_eq_true rfl, Nat.le_of_ble_eq_true rfl⟩ dX7_putPlaces_17 rfl ?_
    refine g_iinc (j := 3) (v := x4 + (1 : Int32)) (ls' := [(4, .int (x4 + (1 : Int32))), (0, .ref (gAd V t0)), (1, .ref (gAd V t1)), (3, .int x3)]) rfl rfl (Nat.le_of_ble_eq_true rfl) rfl dX7_putPlaces_20 ?_
    refine g_goto (tgt := 3) rfl dX7_putPlaces_23 ?_
    cases h
    refine g_sub [1, 2, 3, 0] rfl ?_
    exact Kc (x4 + (1 : Int32), v3) rfl
def fX7_putPlaces (t0 : Nat) (t1 : Nat) (x2 : Int32) (x3 : Int32) (M0 : gMem) : Option gMem :=
  (gLoop (fun z9 => fX7_putPlaces_l3 t0 t1 x3 z9.1 z9.2) gFu (x2, M0)).bind fun w4 => some w4
set_option maxRecDepth 20000 in
theorem tX7_putPlaces {X : gX} {V : gEnv} {t0 : Nat} {t1 : Nat} {x2 : Int32} {x3 : Int32} {M0 : gMem} (ht0 : gRow gShC t0) (ht1 : gNet gShC t1) {o : gMem} (h : fX7_putPlaces t0 t1 x2 x3 M0 = some o) (O : gO X V mX7_putPlaces gShC none none o) : gG X V mX7_putPlaces gShC M0 0 0 0 [(0, .ref (gAd V t0)), (1, .ref (gAd V t1)), (2, .int x2), (3, .int x3)] [] := by
  unfold fX7_putPlaces at h
  refine g_iload_n 2 rfl rfl dX7_putPlaces_0 ?_
  refine g_istore (ls' := [(4, .int x2), (0, .ref (gAd V t0)), (1, .ref (gAd V t1)), (2, .int x2), (3, .int x3)]) (Nat.le_of_ble_eq_true rfl) rfl dX7_putPlaces_1 ?_
  obtain ⟨w4, ew4, h⟩ := g_bnd h
  refine g_sub [1, 2, 4, 0] rfl ?_
  have KX : gG X V mX7_putPlaces gShC w4 0 0 26 [] [] := by
    cases h
    exact g_vret O ⟨Nat.le_of_ble_eq_true rfl, Nat.le_of_ble_eq_true rfl⟩ dX7_putPlaces_26
  exact gLoop_Q ew4 (fun z9 => gG X V mX7_putPlaces gShC z9.2 0 0 3 [(0, .ref (gAd V t0)), (1, .ref (gAd V t1)), (3, .int x3), (4, .int z9.1)] []) (fun s9 o9 hb9 hc9 hx9 => tX7_putPlaces_l3 ht0 ht1 hb9 hc9 (fun e9 he9 => by cases hx9 _ he9; exact KX))
theorem kX7_putPlaces {l : Launch} {V : gEnv} {M0 : gMem} {t0 : Nat} {t1 : Nat} {x2 : Int32} {x3 : Int32} (ht0 : gRow gShC t0) (ht1 : gNet gShC t1) {o : gMem} (h : fX7_putPlaces t0 t1 x2 x3 M0 = some o) : gM l yX7_putPlaces cX7_putPlaces 5 none rX7_putPlaces V gShC [.ref (gAd V t0), .ref (gAd V t1), .int x2, .int x3] M0 none o :=
  gM.of (by decide) (Nat.le_of_ble_eq_true rfl) rfl (fun X _ O => tX7_putPlaces ht0 ht1 h O)
theorem dJ6_bitCount_0f7a4_0 : decode cJ6_bitCount_0f7a4 0 = .ok (.iload_n 0, 1) := by decide +kernel
theorem dJ6_bitCount_0f7a4_1 : decode cJ6_bitCount_0f7a4 1 = .ok (.iload_n 0, 1) := by decide +kernel
theorem dJ6_bitCount_0f7a4_2 : decode cJ6_bitCount_0f7a4 2 = .ok (.iconst 1, 1) := by decide +kernel
theorem dJ6_bitCount_0f7a4_3 : decode cJ6_bitCount_0f7a4 3 = .ok (.iushr, 1) := by decide +kernel
theorem dJ6_bitCount_0f7a4_4 : decode cJ6_bitCount_0f7a4 4 = .ok (.ldc_w 265, 3) := by decide +kernel
theorem dJ6_bitCount_0f7a4_7 : decode cJ6_bitCount_0f7a4 7 = .ok (.iand, 1) := by decide +kernel
theorem dJ6_bitCount_0f7a4_8 : decode cJ6_bitCount_0f7a4 8 = .ok (.isub, 1) := by decide +kernel
theorem dJ6_bitCount_0f7a4_9 : decode cJ6_bitCount_0f7a4 9 = .ok (.istore_n 0, 1) := by decide +kernel
theorem dJ6_bitCount_0f7a4_10 : decode cJ6_bitCount_0f7a4 10 = .ok (.iload_n 0, 1) := by decide +kernel
theorem dJ6_bitCount_0f7a4_11 : decode cJ6_bitCount_0f7a4 11 = .ok (.ldc_w 266, 3) := by decide +kernel
theorem dJ6_bitCount_0f7a4_14 : decode cJ6_bitCount_0f7a4 14 = .ok (.iand, 1) := by decide +kernel
theorem dJ6_bitCount_0f7a4_15 : decode cJ6_bitCount_0f7a4 15 = .ok (.iload_n 0, 1) := by decide +kernel
theorem dJ6_bitCount_0f7a4_16 : decode cJ6_bitCount_0f7a4 16 = .ok (.iconst 2, 1) := by decide +kernel
theorem dJ6_bitCount_0f7a4_17 : decode cJ6_bitCount_0f7a4 17 = .ok (.iushr, 1) := by decide +kernel
theorem dJ6_bitCount_0f7a4_18 : decode cJ6_bitCount_0f7a4 18 = .ok (.ldc_w 266, 3) := by decide +kernel
theorem dJ6_bitCount_0f7a4_21 : decode cJ6_bitCount_0f7a4 21 = .ok (.iand, 1) := by decide +kernel
theorem dJ6_bitCount_0f7a4_22 : decode cJ6_bitCount_0f7a4 22 = .ok (.iadd, 1) := by decide +kernel
theorem dJ6_bitCount_0f7a4_23 : decode cJ6_bitCount_0f7a4 23 = .ok (.istore_n 0, 1) := by decide +kernel
theorem dJ6_bitCount_0f7a4_24 : decode cJ6_bitCount_0f7a4 24 = .ok (.iload_n 0, 1) := by decide +kernel
theorem dJ6_bitCount_0f7a4_25 : decode cJ6_bitCount_0f7a4 25 = .ok (.iload_n 0, 1) := by decide +kernel
theorem dJ6_bitCount_0f7a4_26 : decode cJ6_bitCount_0f7a4 26 = .ok (.iconst 4, 1) := by decide +kernel
theorem dJ6_bitCount_0f7a4_27 : decode cJ6_bitCount_0f7a4 27 = .ok (.iushr, 1) := by decide +kernel
theorem dJ6_bitCount_0f7a4_28 : decode cJ6_bitCount_0f7a4 28 = .ok (.iadd, 1) := by decide +kernel
theorem dJ6_bitCount_0f7a4_29 : decode cJ6_bitCount_0f7a4 29 = .ok (.ldc_w 267, 3) := by decide +kernel
theorem dJ6_bitCount_0f7a4_32 : decode cJ6_bitCount_0f7a4 32 = .ok (.iand, 1) := by decide +kernel
theorem dJ6_bitCount_0f7a4_33 : decode cJ6_bitCount_0f7a4 33 = .ok (.istore_n 0, 1) := by decide +kernel
theorem dJ6_bitCount_0f7a4_34 : decode cJ6_bitCount_0f7a4 34 = .ok (.iload_n 0, 1) := by decide +kernel
theorem dJ6_bitCount_0f7a4_35 : decode cJ6_bitCount_0f7a4 35 = .ok (.iload_n 0, 1) := by decide +kernel
theorem dJ6_bitCount_0f7a4_36 : decode cJ6_bitCount_0f7a4 36 = .ok (.bipush 8, 2) := by decide +kernel
theorem dJ6_bitCount_0f7a4_38 : decode cJ6_bitCount_0f7a4 38 = .ok (.iushr, 1) := by decide +kernel
theorem dJ6_bitCount_0f7a4_39 : decode cJ6_bitCount_0f7a4 39 = .ok (.iadd, 1) := by decide +kernel
theorem dJ6_bitCount_0f7a4_40 : decode cJ6_bitCount_0f7a4 40 = .ok (.istore_n 0, 1) := by decide +kernel
theorem dJ6_bitCount_0f7a4_41 : decode cJ6_bitCount_0f7a4 41 = .ok (.iload_n 0, 1) := by decide +kernel
theorem dJ6_bitCount_0f7a4_42 : decode cJ6_bitCount_0f7a4 42 = .ok (.iload_n 0, 1) := by decide +kernel
theorem dJ6_bitCount_0f7a4_43 : decode cJ6_bitCount_0f7a4 43 = .ok (.bipush 16, 2) := by decide +kernel
theorem dJ6_bitCount_0f7a4_45 : decode cJ6_bitCount_0f7a4 45 = .ok (.iushr, 1) := by decide +kernel
theorem dJ6_bitCount_0f7a4_46 : decode cJ6_bitCount_0f7a4 46 = .ok (.iadd, 1) := by decide +kernel
theorem dJ6_bitCount_0f7a4_47 : decode cJ6_bitCount_0f7a4 47 = .ok (.istore_n 0, 1) := by decide +kernel
theorem dJ6_bitCount_0f7a4_48 : decode cJ6_bitCount_0f7a4 48 = .ok (.iload_n 0, 1) := by decide +kernel
theorem dJ6_bitCount_0f7a4_49 : decode cJ6_bitCount_0f7a4 49 = .ok (.bipush 63, 2) := by decide +kernel
theorem dJ6_bitCount_0f7a4_51 : decode cJ6_bitCount_0f7a4 51 = .ok (.iand, 1) := by decide +kernel
theorem dJ6_bitCount_0f7a4_52 : decode cJ6_bitCount_0f7a4 52 = .ok (.ireturn, 1) := by decide +kernel
abbrev rJ6_bitCount_0f7a4 : Room := { frames := 0, cells := 0, slots := 0, locals := 0 }
abbrev mJ6_bitCount_0f7a4 : gY := (cJ6_bitCount_0f7a4, RJ6, 1, rJ6_bitCount_0f7a4)
def fJ6_bitCount_0f7a4 (x0 : Int32) : Option Int32 :=
  (nm (x0 - (((x0.toUInt32 >>> ((1 : Int32).toUInt32 &&& Int32.toUInt32 31)).toInt32) &&& (1431655765 : Int32)))).bind fun v1 => (nm ((v1 &&& (858993459 : Int32)) + (((v1.toUInt32 >>> ((2 : Int32).toUInt32 &&& Int32.toUInt32 31)).toInt32) &&& (858993459 : Int32)))).bind fun v2 => (nm ((v2 + ((v2.toUInt32 >>> ((4 : Int32).toUInt32 &&& Int32.toUInt32 31)).toInt32)) &&& (252645135 : Int32))).bind fun v3 => (nm (v3 + ((v3.toUInt32 >>> ((8 : Int32).toUInt32 &&& Int32.toUInt32 31)).toInt32))).bind fun v4 => (nm (v4 + ((v4.toUInt32 >>> ((16 : Int32).toUInt32 &&& Int32.toUInt32 31)).toInt32))).bind fun v5 => some (v5 &&& (63 : Int32))
set_option maxRecDepth 20000 in
theorem tJ6_bitCount_0f7a4 {X : gX} {V : gEnv} {Sh : List gShp} {M0 : gMem} {x0 : Int32}  {o : Int32} (h : fJ6_bitCount_0f7a4 x0 = some o) (O : gO X V mJ6_bitCount_0f7a4 Sh (some .int) (some (.int o)) M0) : gG X V mJ6_bitCount_0f7a4 Sh M0 0 0 0 [(0, .int x0)] [] := by
  unfold fJ6_bitCount_0f7a4 at h
  refine g_iload_n 0 rfl rfl dJ6_bitCount_0f7a4_0 ?_
  refine g_iload_n 0 rfl rfl dJ6_bitCount_0f7a4_1 ?_
  refine g_iconst (v := 1) rfl dJ6_bitCount_0f7a4_2 ?_
  refine g_iushr dJ6_bitCount_0f7a4_3 ?_
  refine g_ldcw KJ6_265 dJ6_bitCount_0f7a4_4 ?_
  refine g_iand dJ6_bitCount_0f7a4_7 ?_
  refine g_isub dJ6_bitCount_0f7a4_8 ?_
  obtain ⟨v1, ev1, h⟩ := g_bnd h
  refine g_nmI ev1 ?_
  refine g_istore_n (ls' := [(0, .int v1)]) rfl (Nat.le_of_ble_eq_true rfl) rfl dJ6_bitCount_0f7a4_9 ?_
  refine g_iload_n 0 rfl rfl dJ6_bitCount_0f7a4_10 ?_
  refine g_ldcw KJ6_266 dJ6_bitCount_0f7a4_11 ?_
  refine g_iand dJ6_bitCount_0f7a4_14 ?_
  refine g_iload_n 0 rfl rfl dJ6_bitCount_0f7a4_15 ?_
  refine g_iconst (v := 2) rfl dJ6_bitCount_0f7a4_16 ?_
  refine g_iushr dJ6_bitCount_0f7a4_17 ?_
  refine g_ldcw KJ6_266 dJ6_bitCount_0f7a4_18 ?_
  refine g_iand dJ6_bitCount_0f7a4_21 ?_
  refine g_iadd dJ6_bitCount_0f7a4_22 ?_
  obtain ⟨v2, ev2, h⟩ := g_bnd h
  refine g_nmI ev2 ?_
  refine g_istore_n (ls' := [(0, .int v2)]) rfl (Nat.le_of_ble_eq_true rfl) rfl dJ6_bitCount_0f7a4_23 ?_
  refine g_iload_n 0 rfl rfl dJ6_bitCount_0f7a4_24 ?_
  refine g_iload_n 0 rfl rfl dJ6_bitCount_0f7a4_25 ?_
  refine g_iconst (v := 4) rfl dJ6_bitCount_0f7a4_26 ?_
  refine g_iushr dJ6_bitCount_0f7a4_27 ?_
  refine g_iadd dJ6_bitCount_0f7a4_28 ?_
  refine g_ldcw KJ6_267 dJ6_bitCount_0f7a4_29 ?_
  refine g_iand dJ6_bitCount_0f7a4_32 ?_
  obtain ⟨v3, ev3, h⟩ := g_bnd h
  refine g_nmI ev3 ?_
  refine g_istore_n (ls' := [(0, .int v3)]) rfl (Nat.le_of_ble_eq_true rfl) rfl dJ6_bitCount_0f7a4_33 ?_
  refine g_iload_n 0 rfl rfl dJ6_bitCount_0f7a4_34 ?_
  refine g_iload_n 0 rfl rfl dJ6_bitCount_0f7a4_35 ?_
  refine g_bipush (v := 8) rfl dJ6_bitCount_0f7a4_36 ?_
  refine g_iushr dJ6_bitCount_0f7a4_38 ?_
  refine g_iadd dJ6_bitCount_0f7a4_39 ?_
  obtain ⟨v4, ev4, h⟩ := g_bnd h
  refine g_nmI ev4 ?_
  refine g_istore_n (ls' := [(0, .int v4)]) rfl (Nat.le_of_ble_eq_true rfl) rfl dJ6_bitCount_0f7a4_40 ?_
  refine g_iload_n 0 rfl rfl dJ6_bitCount_0f7a4_41 ?_
  refine g_iload_n 0 rfl rfl dJ6_bitCount_0f7a4_42 ?_
  refine g_bipush (v := 16) rfl dJ6_bitCount_0f7a4_43 ?_
  refine g_iushr dJ6_bitCount_0f7a4_45 ?_
  refine g_iadd dJ6_bitCount_0f7a4_46 ?_
  obtain ⟨v5, ev5, h⟩ := g_bnd h
  refine g_nmI ev5 ?_
  refine g_istore_n (ls' := [(0, .int v5)]) rfl (Nat.le_of_ble_eq_true rfl) rfl dJ6_bitCount_0f7a4_47 ?_
  refine g_iload_n 0 rfl rfl dJ6_bitCount_0f7a4_48 ?_
  refine g_bipush (v := 63) rfl dJ6_bitCount_0f7a4_49 ?_
  refine g_iand dJ6_bitCount_0f7a4_51 ?_
  cases h
  exact g_iret O ⟨Nat.le_of_ble_eq_true rfl, Nat.le_of_ble_eq_true rfl⟩ rfl dJ6_bitCount_0f7a4_52
theorem kJ6_bitCount_0f7a4 {l : Launch} {V : gEnv} {Sh : List gShp} {M0 : gMem} {x0 : Int32}  {o : Int32} (h : fJ6_bitCount_0f7a4 x0 = some o) : gM l yJ6_bitCount_0f7a4 cJ6_bitCount_0f7a4 1 (some .int) rJ6_bitCount_0f7a4 V Sh [.int x0] M0 (some (.int o)) M0 :=
  gM.of (by decide) (Nat.le_of_ble_eq_true rfl) rfl (fun X _ O => tJ6_bitCount_0f7a4  h O)
