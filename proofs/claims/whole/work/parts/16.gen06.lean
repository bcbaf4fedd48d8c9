/-! METHODS, by program: pure functions and contracts -/
theorem dX11_laysGroups_0 : decode cX11_laysGroups 0 = .ok (.aload_n 0, 1) := by decide +kernel
theorem dX11_laysGroups_1 : decode cX11_laysGroups 1 = .ok (.iconst (-1), 1) := by decide +kernel
theorem dX11_laysGroups_2 : decode cX11_laysGroups 2 = .ok (.invokevirtual 104, 3) := by decide +kernel
theorem dX11_laysGroups_5 : decode cX11_laysGroups 5 = .ok (.iconst 0, 1) := by decide +kernel
theorem dX11_laysGroups_6 : decode cX11_laysGroups 6 = .ok (.istore_n 2, 1) := by decide +kernel
theorem dX11_laysGroups_7 : decode cX11_laysGroups 7 = .ok (.iconst 0, 1) := by decide +kernel
theorem dX11_laysGroups_8 : decode cX11_laysGroups 8 = .ok (.istore_n 3, 1) := by decide +kernel
theorem dX11_laysGroups_9 : decode cX11_laysGroups 9 = .ok (.iload_n 3, 1) := by decide +kernel
theorem dX11_laysGroups_10 : decode cX11_laysGroups 10 = .ok (.aload_n 0, 1) := by decide +kernel
theorem dX11_laysGroups_11 : decode cX11_laysGroups 11 = .ok (.getfield 9, 3) := by decide +kernel
theorem dX11_laysGroups_14 : decode cX11_laysGroups 14 = .ok (.iconst 0, 1) := by decide +kernel
theorem dX11_laysGroups_15 : decode cX11_laysGroups 15 = .ok (.iaload, 1) := by decide +kernel
theorem dX11_laysGroups_16 : decode cX11_laysGroups 16 = .ok (.if_icmp .ge 81, 3) := by decide +kernel
theorem dX11_laysGroups_19 : decode cX11_laysGroups 19 = .ok (.iload_n 1, 1) := by decide +kernel
theorem dX11_laysGroups_20 : decode cX11_laysGroups 20 = .ok (.iload_n 3, 1) := by decide +kernel
theorem dX11_laysGroups_21 : decode cX11_laysGroups 21 = .ok (.invokestatic 93, 3) := by decide +kernel
theorem dX11_laysGroups_24 : decode cX11_laysGroups 24 = .ok (.ifCond .ne 6, 3) := by decide +kernel
theorem dX11_laysGroups_27 : decode cX11_laysGroups 27 = .ok (.goto 64, 3) := by decide +kernel
theorem dX11_laysGroups_30 : decode cX11_laysGroups 30 = .ok (.iconst 0, 1) := by decide +kernel
theorem dX11_laysGroups_31 : decode cX11_laysGroups 31 = .ok (.istore 4, 2) := by decide +kernel
theorem dX11_laysGroups_33 : decode cX11_laysGroups 33 = .ok (.aload_n 0, 1) := by decide +kernel
theorem dX11_laysGroups_34 : decode cX11_laysGroups 34 = .ok (.getfield 25, 3) := by decide +kernel
theorem dX11_laysGroups_37 : decode cX11_laysGroups 37 = .ok (.iload_n 3, 1) := by decide +kernel
theorem dX11_laysGroups_38 : decode cX11_laysGroups 38 = .ok (.iaload, 1) := by decide +kernel
theorem dX11_laysGroups_39 : decode cX11_laysGroups 39 = .ok (.iload 4, 2) := by decide +kernel
theorem dX11_laysGroups_41 : decode cX11_laysGroups 41 = .ok (.invokestatic 93, 3) := by decide +kernel
theorem dX11_laysGroups_44 : decode cX11_laysGroups 44 = .ok (.ifCond .eq 17, 3) := by decide +kernel
theorem dX11_laysGroups_47 : decode cX11_laysGroups 47 = .ok (.aload_n 0, 1) := by decide +kernel
theorem dX11_laysGroups_48 : decode cX11_laysGroups 48 = .ok (.getfield 25, 3) := by decide +kernel
theorem dX11_laysGroups_51 : decode cX11_laysGroups 51 = .ok (.iload 4, 2) := by decide +kernel
theorem dX11_laysGroups_53 : decode cX11_laysGroups 53 = .ok (.iaload, 1) := by decide +kernel
theorem dX11_laysGroups_54 : decode cX11_laysGroups 54 = .ok (.iload_n 3, 1) := by decide +kernel
theorem dX11_laysGroups_55 : decode cX11_laysGroups 55 = .ok (.invokestatic 93, 3) := by decide +kernel
theorem dX11_laysGroups_58 : decode cX11_laysGroups 58 = .ok (.ifCond .ne 9, 3) := by decide +kernel
theorem dX11_laysGroups_61 : decode cX11_laysGroups 61 = .ok (.iinc 4 1, 3) := by decide +kernel
theorem dX11_laysGroups_64 : decode cX11_laysGroups 64 = .ok (.goto (-31), 3) := by decide +kernel
theorem dX11_laysGroups_67 : decode cX11_laysGroups 67 = .ok (.aload_n 0, 1) := by decide +kernel
theorem dX11_laysGroups_68 : decode cX11_laysGroups 68 = .ok (.iload_n 3, 1) := by decide +kernel
theorem dX11_laysGroups_69 : decode cX11_laysGroups 69 = .ok (.iconst 1, 1) := by decide +kernel
theorem dX11_laysGroups_70 : decode cX11_laysGroups 70 = .ok (.iload 4, 2) := by decide +kernel
theorem dX11_laysGroups_72 : decode cX11_laysGroups 72 = .ok (.invokevirtual 78, 3) := by decide +kernel
theorem dX11_laysGroups_75 : decode cX11_laysGroups 75 = .ok (.iload 4, 2) := by decide +kernel
theorem dX11_laysGroups_77 : decode cX11_laysGroups 77 = .ok (.iload_n 3, 1) := by decide +kernel
theorem dX11_laysGroups_78 : decode cX11_laysGroups 78 = .ok (.if_icmp .ne 13, 3) := by decide +kernel
theorem dX11_laysGroups_81 : decode cX11_laysGroups 81 = .ok (.aload_n 0, 1) := by decide +kernel
theorem dX11_laysGroups_82 : decode cX11_laysGroups 82 = .ok (.getfield 40, 3) := by decide +kernel
theorem dX11_laysGroups_85 : decode cX11_laysGroups 85 = .ok (.iload_n 2, 1) := by decide +kernel
theorem dX11_laysGroups_86 : decode cX11_laysGroups 86 = .ok (.iload_n 3, 1) := by decide +kernel
theorem dX11_laysGroups_87 : decode cX11_laysGroups 87 = .ok (.iastore, 1) := by decide +kernel
theorem dX11_laysGroups_88 : decode cX11_laysGroups 88 = .ok (.iinc 2 1, 3) := by decide +kernel
theorem dX11_laysGroups_91 : decode cX11_laysGroups 91 = .ok (.iinc 3 1, 3) := by decide +kernel
theorem dX11_laysGroups_94 : decode cX11_laysGroups 94 = .ok (.goto (-85), 3) := by decide +kernel
theorem dX11_laysGroups_97 : decode cX11_laysGroups 97 = .ok (.iload_n 2, 1) := by decide +kernel
theorem dX11_laysGroups_98 : decode cX11_laysGroups 98 = .ok (.ireturn, 1) := by decide +kernel
abbrev rX11_laysGroups : Room := { frames := 2, cells := 0, slots := 0, locals := 44 }
abbrev mX11_laysGroups : gY := (cX11_laysGroups, RX11, 5, rX11_laysGroups)
def fX11_laysGroups_b91 (x1 : Int32) (x2 : Int32) (x3 : Int32) (M0 : gMem) : Option ((Int32 × Int32 × gMem) ⊕ (Int32 × gMem)) :=
  some (.inl (x2, x3 + (1 : Int32), M0))
set_option maxRecDepth 20000 in
theorem tX11_laysGroups_b91 {X : gX} {V : gEnv} {x1 : Int32} {x2 : Int32} {x3 : Int32} {M0 : gMem}  {o : ((Int32 × Int32 × gMem) ⊕ (Int32 × gMem))} (h : fX11_laysGroups_b91 x1 x2 x3 M0 = some o) (Kc : ∀ s9, o = .inl s9 → gG X V mX11_laysGroups gShM s9.2.2 0 0 9 [(0, .ref (gAd V 0)), (1, .int x1), (2, .int s9.1), (3, .int s9.2.1)] []) (Kx : ∀ e9, o = .inr e9 → gG X V mX11_laysGroups gShM e9.2 0 0 97 [(2, .int e9.1)] []) : gG X V mX11_laysGroups gShM M0 0 0 91 [(0, .ref (gAd V 0)), (1, .int x1), (2, .int x2), (3, .int x3)] [] := by
  unfold fX11_laysGroups_b91 at h
  refine g_iinc (j := 3) (v := x3 + (1 : Int32)) (ls' := [(3, .int (x3 + (1 : Int32))), (0, .ref (gAd V 0)), (1, .int x1), (2, .int x2)]) rfl rfl (Nat.le_of_ble_eq_true rfl) rfl dX11_laysGroups_91 ?_
  refine g_goto (tgt := 9) rfl dX11_laysGroups_94 ?_
  cases h
  refine g_sub [1, 2, 3, 0] rfl ?_
  exact Kc (x2, x3 + (1 : Int32), M0) rfl
def fX11_laysGroups_b61 (x1 : Int32) (x2 : Int32) (x3 : Int32) (x4 : Int32) (M0 : gMem) : Option (Int32 ⊕ Int32) :=
  some (.inl (x4 + (1 : Int32)))
set_option maxRecDepth 20000 in
theorem tX11_laysGroups_b61 {X : gX} {V : gEnv} {x1 : Int32} {x2 : Int32} {x3 : Int32} {x4 : Int32} {M0 : gMem}  {o : (Int32 ⊕ Int32)} (h : fX11_laysGroups_b61 x1 x2 x3 x4 M0 = some o) (Kc : ∀ s9, o = .inl s9 → gG X V mX11_laysGroups gShM M0 0 0 33 [(0, .ref (gAd V 0)), (1, .int x1), (2, .int x2), (3, .int x3), (4, .int s9)] []) (Kx : ∀ e9, o = .inr e9 → gG X V mX11_laysGroups gShM M0 0 0 67 [(0, .ref (gAd V 0)), (1, .int x1), (2, .int x2), (3, .int x3), (4, .int e9)] []) : gG X V mX11_laysGroups gShM M0 0 0 61 [(0, .ref (gAd V 0)), (1, .int x1), (2, .int x2), (3, .int x3), (4, .int x4)] [] := by
  unfold fX11_laysGroups_b61 at h
  refine g_iinc (j := 4) (v := x4 + (1 : Int32)) (ls' := [(4, .int (x4 + (1 : Int32))), (0, .ref (gAd V 0)), (1, .int x1), (2, .int x2), (3, .int x3)]) rfl rfl (Nat.le_of_ble_eq_true rfl) rfl dX11_laysGroups_61 ?_
  refine g_goto (tgt := 33) rfl dX11_laysGroups_64 ?_
  cases h
  refine g_sub [1, 2, 3, 4, 0] rfl ?_
  exact Kc (x4 + (1 : Int32)) rfl
def fX11_laysGroups_l33 (x1 : Int32) (x2 : Int32) (x3 : Int32) (M0 : gMem) (x4 : Int32) : Option (Int32 ⊕ Int32) :=
  (rI M0 6 24 x3).bind fun v6 => (fX11_has v6 x4).bind fun v7 => if v7 = 0 then (fX11_laysGroups_b61 x1 x2 x3 x4 M0) else (rI M0 6 24 x4).bind fun v9 => (fX11_has v9 x3).bind fun v10 => if v10 = 0 then (fX11_laysGroups_b61 x1 x2 x3 x4 M0) else some (.inr x4)
set_option maxRecDepth 20000 in
theorem tX11_laysGroups_l33 {X : gX} {V : gEnv} {x1 : Int32} {x2 : Int32} {x3 : Int32} {M0 : gMem} {x4 : Int32}  {o : (Int32 ⊕ Int32)} (h : fX11_laysGroups_l33 x1 x2 x3 M0 x4 = some o) (Kc : ∀ s9, o = .inl s9 → gG X V mX11_laysGroups gShM M0 0 0 33 [(0, .ref (gAd V 0)), (1, .int x1), (2, .int x2), (3, .int x3), (4, .int s9)] []) (Kx : ∀ e9, o = .inr e9 → gG X V mX11_laysGroups gShM M0 0 0 67 [(0, .ref (gAd V 0)), (1, .int x1), (2, .int x2), (3, .int x3), (4, .int e9)] []) : gG X V mX11_laysGroups gShM M0 0 0 33 [(0, .ref (gAd V 0)), (1, .int x1), (2, .int x2), (3, .int x3), (4, .int x4)] [] := by
  unfold fX11_laysGroups_l33 at h
  refine g_aload_n 0 rfl rfl dX11_laysGroups_33 ?_
  refine g_getR FX11_25 sM_0 rfl dX11_laysGroups_34 ?_
  refine g_iload_n 3 rfl rfl dX11_laysGroups_37 ?_
  obtain ⟨v6, ev6, h⟩ := g_bnd h
  refine g_iald' ev6 sM_6 dX11_laysGroups_38 ?_
  refine g_iload 4 rfl dX11_laysGroups_39 ?_
  obtain ⟨v7, ev7, h⟩ := g_bnd h
  refine g_callS LX11_93 (kX11_has ev7) rfl rfl (Nat.le_of_ble_eq_true rfl) ⟨Nat.le_of_ble_eq_true rfl, Nat.le_of_ble_eq_true rfl⟩ ⟨Nat.le_of_ble_eq_true rfl, Nat.le_of_ble_eq_true rfl⟩ dX11_laysGroups_41 rfl ?_
  rcases g_ite h with ⟨c8, h⟩ | ⟨c8, h⟩
  · refine g_if_eq_t c8 (tgt := 61) rfl dX11_laysGroups_44 ?_
    exact tX11_laysGroups_b61  h Kc Kx
  · refine g_if_eq_f c8 (tgt := 61) rfl dX11_laysGroups_44 ?_
    refine g_aload_n 0 rfl rfl dX11_laysGroups_47 ?_
    refine g_getR FX11_25 sM_0 rfl dX11_laysGroups_48 ?_
    refine g_iload 4 rfl dX11_laysGroups_51 ?_
    obtain ⟨v9, ev9, h⟩ := g_bnd h
    refine g_iald' ev9 sM_6 dX11_laysGroups_53 ?_
    refine g_iload_n 3 rfl rfl dX11_laysGroups_54 ?_
    obtain ⟨v10, ev10, h⟩ := g_bnd h
    refine g_callS LX11_93 (kX11_has ev10) rfl rfl (Nat.le_of_ble_eq_true rfl) ⟨Nat.le_of_ble_eq_true rfl, Nat.le_of_ble_eq_true rfl⟩ ⟨Nat.le_of_ble_eq_true rfl, Nat.le_of_ble_eq_true rfl⟩ dX11_laysGroups_55 rfl ?_
    rcases g_ite h with ⟨c11, h⟩ | ⟨c11, h⟩
    · refine g_if_ne_f c11 (tgt := 67) rfl dX11_laysGroups_58 ?_
      exact tX11_laysGroups_b61  h Kc Kx
    · refine g_if_ne_t c11 (tgt := 67) rfl dX11_laysGroups_58 ?_
      cases h
      exact Kx x4 rfl
def fX11_laysGroups_l9 (x1 : Int32) (x2 : Int32) (x3 : Int32) (M0 : gMem) : Option ((Int32 × Int32 × gMem) ⊕ (Int32 × gMem)) :=
  (rI M0 1 374 (0 : Int32)).bind fun v2 => if v2 ≤ x3 then (some (.inr (x2, M0))) else (fX11_has x1 x3).bind fun v4 => if v4 = 0 then (fX11_laysGroups_b91 x1 x2 x3 M0) else (gLoop (fun z9 => fX11_laysGroups_l33 x1 x2 x3 M0 z9) gFu (0 : Int32)).bind fun w12 => (fX11_puts x3 (1 : Int32) w12 M0).bind fun v13 => if w12 = x3 then ((wI v13 11 24 x2 x3).bind fun M15 => fX11_laysGroups_b91 x1 (x2 + (1 : Int32)) x3 M15) else fX11_laysGroups_b91 x1 x2 x3 v13
set_option maxRecDepth 20000 in
theorem tX11_laysGroups_l9 {X : gX} {V : gEnv} {x1 : Int32} {x2 : Int32} {x3 : Int32} {M0 : gMem}  {o : ((Int32 × Int32 × gMem) ⊕ (Int32 × gMem))} (h : fX11_laysGroups_l9 x1 x2 x3 M0 = some o) (Kc : ∀ s9, o = .inl s9 → gG X V mX11_laysGroups gShM s9.2.2 0 0 9 [(0, .ref (gAd V 0)), (1, .int x1), (2, .int s9.1), (3, .int s9.2.1)] []) (Kx : ∀ e9, o = .inr e9 → gG X V mX11_laysGroups gShM e9.2 0 0 97 [(2, .int e9.1)] []) : gG X V mX11_laysGroups gShM M0 0 0 9 [(0, .ref (gAd V 0)), (1, .int x1), (2, .int x2), (3, .int x3)] [] := by
  unfold fX11_laysGroups_l9 at h
  refine g_iload_n 3 rfl rfl dX11_laysGroups_9 ?_
  refine g_aload_n 0 rfl rfl dX11_laysGroups_10 ?_
  refine g_getR FX11_9 sM_0 rfl dX11_laysGroups_11 ?_
  refine g_iconst (v := 0) rfl dX11_laysGroups_14 ?_
  obtain ⟨v2, ev2, h⟩ := g_bnd h
  refine g_iald' ev2 sM_1 dX11_laysGroups_15 ?_
  rcases g_ite h with ⟨c3, h⟩ | ⟨c3, h⟩
  · refine g_icmp_ge_t c3 (tgt := 97) rfl dX11_laysGroups_16 ?_
    cases h
    refine g_sub [2] rfl ?_
    exact Kx (x2, M0) rfl
  · refine g_icmp_ge_f c3 (tgt := 97) rfl dX11_laysGroups_16 ?_
    refine g_iload_n 1 rfl rfl dX11_laysGroups_19 ?_
    refine g_iload_n 3 rfl rfl dX11_laysGroups_20 ?_
    obtain ⟨v4, ev4, h⟩ := g_bnd h
    refine g_callS LX11_93 (kX11_has ev4) rfl rfl (Nat.le_of_ble_eq_true rfl) ⟨Nat.le_of_ble_eq_true rfl, Nat.le_of_ble_eq_true rfl⟩ ⟨Nat.le_of_ble_eq_true rfl, Nat.le_of_ble_eq_true rfl⟩ dX11_laysGroups_21 rfl ?_
    rcases g_ite h with ⟨c5, h⟩ | ⟨c5, h⟩
    · refine g_if_ne_f c5 (tgt := 30) rfl dX11_laysGroups_24 ?_
      refine g_goto (tgt := 91) rfl dX11_laysGroups_27 ?_
      exact tX11_laysGroups_b91  h Kc Kx
    · refine g_if_ne_t c5 (tgt := 30) rfl dX11_laysGroups_24 ?_
      refine g_iconst (v := 0) rfl dX11_laysGroups_30 ?_
      refine g_istore (ls' := [(4, .int (0 : Int32)), (0, .ref (gAd V 0)), (1, .int x1), (2, .int x2), (3, .int x3)]) (Nat.le_of_ble_eq_true rfl) rfl dX11_laysGroups_31 ?_
      obtain ⟨w12, ew12, h⟩ := g_bnd h
      refine g_sub [1, 2, 3, 4, 0] rfl ?_
      have KX : gG X V mX11_laysGroups gShM M0 0 0 67 [(0, .ref (gAd V 0)), (1, .int x1), (2, .int x2), (3, .int x3), (4, .int w12)] [] := by
        refine g_aload_n 0 rfl rfl dX11_laysGroups_67 ?_
        refine g_iload_n 3 rfl rfl dX11_laysGroups_68 ?_
        refine g_iconst (v := 1) rfl dX11_laysGroups_69 ?_
        refine g_iload 4 rfl dX11_laysGroups_70 ?_
        obtain ⟨v13, ev13, h⟩ := g_bnd h
        refine g_callV LX11_78 sM_0 rfl (kX11_puts ev13) rfl rfl (Nat.le_of_ble_eq_true rfl) ⟨Nat.le_of_ble_eq_true rfl, Nat.le_of_ble_eq_true rfl⟩ ⟨Nat.le_of_ble_eq_true rfl, Nat.le_of_ble_eq_true rfl⟩ dX11_laysGroups_72 rfl ?_
        refine g_iload 4 rfl dX11_laysGroups_75 ?_
        refine g_iload_n 3 rfl rfl dX11_laysGroups_77 ?_
        rcases g_ite h with ⟨c14, h⟩ | ⟨c14, h⟩
        · refine g_icmp_ne_f c14 (tgt := 91) rfl dX11_laysGroups_78 ?_
          refine g_aload_n 0 rfl rfl dX11_laysGroups_81 ?_
          refine g_getR FX11_40 sM_0 rfl dX11_laysGroups_82 ?_
          refine g_iload_n 2 rfl rfl dX11_laysGroups_85 ?_
          refine g_iload_n 3 rfl rfl dX11_laysGroups_86 ?_
          obtain ⟨M15, eM15, h⟩ := g_bnd h
          refine g_iast' eM15 sM_11 dX11_laysGroups_87 ?_
          refine g_iinc (j := 2) (v := x2 + (1 : Int32)) (ls' := [(2, .int (x2 + (1 : Int32))), (0, .ref (gAd V 0)), (1, .int x1), (3, .int x3), (4, .int w12)]) rfl rfl (Nat.le_of_ble_eq_true rfl) rfl dX11_laysGroups_88 ?_
          refine g_sub [1, 2, 0, 3] rfl ?_
          exact tX11_laysGroups_b91  h Kc Kx
        · refine g_icmp_ne_t c14 (tgt := 91) rfl dX11_laysGroups_78 ?_
          refine g_sub [0, 1, 2, 3] rfl ?_
          exact tX11_laysGroups_b91  h Kc Kx
      exact gLoop_Q ew12 (fun z9 => gG X V mX11_laysGroups gShM M0 0 0 33 [(0, .ref (gAd V 0)), (1, .int x1), (2, .int x2), (3, .int x3), (4, .int z9)] []) (fun s9 o9 hb9 hc9 hx9 => tX11_laysGroups_l33  hb9 hc9 (fun e9 he9 => by cases hx9 _ he9; exact KX))
def fX11_laysGroups (x1 : Int32) (M0 : gMem) : Option (Int32 × gMem) :=
  (fX11_laysReach (-1 : Int32) M0).bind fun v1 => (gLoop (fun z9 => fX11_laysGroups_l9 x1 z9.1 z9.2.1 z9.2.2) gFu ((0 : Int32), (0 : Int32), v1)).bind fun w16 => some (w16.1, w16.2)
set_option maxRecDepth 20000 in
theorem tX11_laysGroups {X : gX} {V : gEnv} {x1 : Int32} {M0 : gMem}  {o : (Int32 × gMem)} (h : fX11_laysGroups x1 M0 = some o) (O : gO X V mX11_laysGroups gShM (some .int) (some (.int o.1)) o.2) : gG X V mX11_laysGroups gShM M0 0 0 0 [(0, .ref (gAd V 0)), (1, .int x1)] [] := by
  unfold fX11_laysGroups at h
  refine g_aload_n 0 rfl rfl dX11_laysGroups_0 ?_
  refine g_iconst (v := -1) rfl dX11_laysGroups_1 ?_
  obtain ⟨v1, ev1, h⟩ := g_bnd h
  refine g_callV LX11_104 sM_0 rfl (kX11_laysReach ev1) rfl rfl (Nat.le_of_ble_eq_true rfl) ⟨Nat.le_of_ble_eq_true rfl, Nat.le_of_ble_eq_true rfl⟩ ⟨Nat.le_of_ble_eq_true rfl, Nat.le_of_ble_eq_true rfl⟩ dX11_laysGroups_2 rfl ?_
  refine g_iconst (v := 0) rfl dX11_laysGroups_5 ?_
  refine g_istore_n (ls' := [(2, .int (0 : Int32)), (0, .ref (gAd V 0)), (1, .int x1)]) rfl (Nat.le_of_ble_eq_true rfl) rfl dX11_laysGroups_6 ?_
  refine g_iconst (v := 0) rfl dX11_laysGroups_7 ?_
  refine g_istore_n (ls' := [(3, .int (0 : Int32)), (2, .int (0 : Int32)), (0, .ref (gAd V 0)), (1, .int x1)]) rfl (Nat.le_of_ble_eq_true rfl) rfl dX11_laysGroups_8 ?_
  obtain ⟨w16, ew16, h⟩ := g_bnd h
  refine g_sub [2, 3, 1, 0] rfl ?_
  have KX : gG X V mX11_laysGroups gShM w16.2 0 0 97 [(2, .int w16.1)] [] := by
    refine g_iload_n 0 rfl rfl dX11_laysGroups_97 ?_
    cases h
    exact g_iret O ⟨Nat.le_of_ble_eq_true rfl, Nat.le_of_ble_eq_true rfl⟩ rfl dX11_laysGroups_98
  exact gLoop_Q ew16 (fun z9 => gG X V mX11_laysGroups gShM z9.2.2 0 0 9 [(0, .ref (gAd V 0)), (1, .int x1), (2, .int z9.1), (3, .int z9.2.1)] []) (fun s9 o9 hb9 hc9 hx9 => tX11_laysGroups_l9  hb9 hc9 (fun e9 he9 => by cases hx9 _ he9; exact KX))
theorem kX11_laysGroups {l : Launch} {V : gEnv} {M0 : gMem} {x1 : Int32}  {o : (Int32 × gMem)} (h : fX11_laysGroups x1 M0 = some o) : gM l yX11_laysGroups cX11_laysGroups 5 (some .int) rX11_laysGroups V gShM [.ref (gAd V 0), .int x1] M0 (some (.int o.1)) o.2 :=
  gM.of (by decide) (Nat.le_of_ble_eq_true rfl) rfl (fun X _ O => tX11_laysGroups  h O)
theorem dX11_isBehind_0 : decode cX11_isBehind 0 = .ok (.iload_n 2, 1) := by decide +kernel
theorem dX11_isBehind_1 : decode cX11_isBehind 1 = .ok (.istore 4, 2) := by decide +kernel
theorem dX11_isBehind_3 : decode cX11_isBehind 3 = .ok (.iload 4, 2) := by decide +kernel
theorem dX11_isBehind_5 : decode cX11_isBehind 5 = .ok (.iload_n 3, 1) := by decide +kernel
theorem dX11_isBehind_6 : decode cX11_isBehind 6 = .ok (.if_icmp .ge 45, 3) := by decide +kernel
theorem dX11_isBehind_9 : decode cX11_isBehind 9 = .ok (.iload 4, 2) := by decide +kernel
theorem dX11_isBehind_11 : decode cX11_isBehind 11 = .ok (.iload_n 1, 1) := by decide +kernel
theorem dX11_isBehind_12 : decode cX11_isBehind 12 = .ok (.if_icmp .eq 33, 3) := by decide +kernel
theorem dX11_isBehind_15 : decode cX11_isBehind 15 = .ok (.aload_n 0, 1) := by decide +kernel
theorem dX11_isBehind_16 : decode cX11_isBehind 16 = .ok (.aload_n 0, 1) := by decide +kernel
theorem dX11_isBehind_17 : decode cX11_isBehind 17 = .ok (.aload_n 0, 1) := by decide +kernel
theorem dX11_isBehind_18 : decode cX11_isBehind 18 = .ok (.getfield 40, 3) := by decide +kernel
theorem dX11_isBehind_21 : decode cX11_isBehind 21 = .ok (.iload 4, 2) := by decide +kernel
theorem dX11_isBehind_23 : decode cX11_isBehind 23 = .ok (.iaload, 1) := by decide +kernel
theorem dX11_isBehind_24 : decode cX11_isBehind 24 = .ok (.invokevirtual 90, 3) := by decide +kernel
theorem dX11_isBehind_27 : decode cX11_isBehind 27 = .ok (.aload_n 0, 1) := by decide +kernel
theorem dX11_isBehind_28 : decode cX11_isBehind 28 = .ok (.aload_n 0, 1) := by decide +kernel
theorem dX11_isBehind_29 : decode cX11_isBehind 29 = .ok (.getfield 40, 3) := by decide +kernel
theorem dX11_isBehind_32 : decode cX11_isBehind 32 = .ok (.iload_n 1, 1) := by decide +kernel
theorem dX11_isBehind_33 : decode cX11_isBehind 33 = .ok (.iaload, 1) := by decide +kernel
theorem dX11_isBehind_34 : decode cX11_isBehind 34 = .ok (.invokevirtual 90, 3) := by decide +kernel
theorem dX11_isBehind_37 : decode cX11_isBehind 37 = .ok (.invokevirtual 194, 3) := by decide +kernel
theorem dX11_isBehind_40 : decode cX11_isBehind 40 = .ok (.ifCond .eq 5, 3) := by decide +kernel
theorem dX11_isBehind_43 : decode cX11_isBehind 43 = .ok (.iconst 1, 1) := by decide +kernel
theorem dX11_isBehind_44 : decode cX11_isBehind 44 = .ok (.ireturn, 1) := by decide +kernel
theorem dX11_isBehind_45 : decode cX11_isBehind 45 = .ok (.iinc 4 1, 3) := by decide +kernel
theorem dX11_isBehind_48 : decode cX11_isBehind 48 = .ok (.goto (-45), 3) := by decide +kernel
theorem dX11_isBehind_51 : decode cX11_isBehind 51 = .ok (.iconst 0, 1) := by decide +kernel
theorem dX11_isBehind_52 : decode cX11_isBehind 52 = .ok (.ireturn, 1) := by decide +kernel
abbrev rX11_isBehind : Room := { frames := 2, cells := 0, slots := 0, locals := 45 }
abbrev mX11_isBehind : gY := (cX11_isBehind, RX11, 5, rX11_isBehind)
def fX11_isBehind_b45 (x1 : Int32) (x3 : Int32) (x4 : Int32) (M0 : gMem) : Option (Int32 ⊕ (Unit ⊕ Int32)) :=
  some (.inl (x4 + (1 : Int32)))
set_option maxRecDepth 20000 in
theorem tX11_isBehind_b45 {X : gX} {V : gEnv} {x1 : Int32} {x3 : Int32} {x4 : Int32} {M0 : gMem}  {o : (Int32 ⊕ (Unit ⊕ Int32))} (h : fX11_isBehind_b45 x1 x3 x4 M0 = some o) (Kc : ∀ s9, o = .inl s9 → gG X V mX11_isBehind gShM M0 0 0 3 [(0, .ref (gAd V 0)), (1, .int x1), (3, .int x3), (4, .int s9)] []) (Kx : ∀ e9, o = .inr (.inl e9) → gG X V mX11_isBehind gShM M0 0 0 51 [] []) (Kr : ∀ r9, o = .inr (.inr r9) → gO X V mX11_isBehind gShM (some .boolean) (some (.int r9)) M0) : gG X V mX11_isBehind gShM M0 0 0 45 [(0, .ref (gAd V 0)), (1, .int x1), (3, .int x3), (4, .int x4)] [] := by
  unfold fX11_isBehind_b45 at h
  refine g_iinc (j := 3) (v := x4 + (1 : Int32)) (ls' := [(4, .int (x4 + (1 : Int32))), (0, .ref (gAd V 0)), (1, .int x1), (3, .int x3)]) rfl rfl (Nat.le_of_ble_eq_true rfl) rfl dX11_isBehind_45 ?_
  refine g_goto (tgt := 3) rfl dX11_isBehind_48 ?_
  cases h
  refine g_sub [1, 2, 3, 0] rfl ?_
  exact Kc (x4 + (1 : Int32)) rfl
def fX11_isBehind_l3 (x1 : Int32) (x3 : Int32) (M0 : gMem) (x4 : Int32) : Option (Int32 ⊕ (Unit ⊕ Int32)) :=
  if x3 ≤ x4 then (some (.inr (.inl ()))) else if x4 = x1 then (fX11_isBehind_b45 x1 x3 x4 M0) else (rI M0 11 24 x4).bind fun v3 => (fX11_members v3 M0).bind fun v4 => (rI M0 11 24 x1).bind fun v5 => (fX11_members v5 M0).bind fun v6 => (fX11_leads v4 v6 M0).bind fun v7 => if v7 = 0 then (fX11_isBehind_b45 x1 x3 x4 M0) else some (.inr (.inr (1 : Int32)))
set_option maxRecDepth 20000 in
theorem tX11_isBehind_l3 {X : gX} {V : gEnv} {x1 : Int32} {x3 : Int32} {M0 : gMem} {x4 : Int32}  {o : (Int32 ⊕ (Unit ⊕ Int32))} (h : fX11_isBehind_l3 x1 x3 M0 x4 = some o) (Kc : ∀ s9, o = .inl s9 → gG X V mX11_isBehind gShM M0 0 0 3 [(0, .ref (gAd V 0)), (1, .int x1), (3, .int x3), (4, .int s9)] []) (Kx : ∀ e9, o = .inr (.inl e9) → gG X V mX11_isBehind gShM M0 0 0 51 [] []) (Kr : ∀ r9, o = .inr (.inr r9) → gO X V mX11_isBehind gShM (some .boolean) (some (.int r9)) M0) : gG X V mX11_isBehind gShM M0 0 0 3 [(0, .ref (gAd V 0)), (1, .int x1), (3, .int x3), (4, .int x4)] [] := by
  unfold fX11_isBehind_l3 at h
  refine g_iload 3 rfl dX11_isBehind_3 ?_
  refine g_iload_n 2 rfl rfl dX11_isBehind_5 ?_
  rcases g_ite h with ⟨c1, h⟩ | ⟨c1, h⟩
  · refine g_icmp_ge_t c1 (tgt := 51) rfl dX11_isBehind_6 ?_
    cases h
    refine g_sub [] rfl ?_
    exact Kx () rfl
  · refine g_icmp_ge_f c1 (tgt := 51) rfl dX11_isBehind_6 ?_
    refine g_iload 3 rfl dX11_isBehind_9 ?_
    refine g_iload_n 1 rfl rfl dX11_isBehind_11 ?_
    rcases g_ite h with ⟨c2, h⟩ | ⟨c2, h⟩
    · refine g_icmp_eq_t c2 (tgt := 45) rfl dX11_isBehind_12 ?_
      exact tX11_isBehind_b45  h Kc Kx Kr
    · refine g_icmp_eq_f c2 (tgt := 45) rfl dX11_isBehind_12 ?_
      refine g_aload_n 0 rfl rfl dX11_isBehind_15 ?_
      refine g_aload_n 0 rfl rfl dX11_isBehind_16 ?_
      refine g_aload_n 0 rfl rfl dX11_isBehind_17 ?_
      refine g_getR FX11_40 sM_0 rfl dX11_isBehind_18 ?_
      refine g_iload 3 rfl dX11_isBehind_21 ?_
      obtain ⟨v3, ev3, h⟩ := g_bnd h
      refine g_iald' ev3 sM_11 dX11_isBehind_23 ?_
      obtain ⟨v4, ev4, h⟩ := g_bnd h
      refine g_callV LX11_90 sM_0 rfl (kX11_members ev4) rfl rfl (Nat.le_of_ble_eq_true rfl) ⟨Nat.le_of_ble_eq_true rfl, Nat.le_of_ble_eq_true rfl⟩ ⟨Nat.le_of_ble_eq_true rfl, Nat.le_of_ble_eq_true rfl⟩ dX11_isBehind_24 rfl ?_
      refine g_aload_n 0 rfl rfl dX11_isBehind_27 ?_
      refine g_aload_n 0 rfl rfl dX11_isBehind_28 ?_
      refine g_getR FX11_40 sM_0 rfl dX11_isBehind_29 ?_
      refine g_iload_n 1 rfl rfl dX11_isBehind_32 ?_
      obtain ⟨v5, ev5, h⟩ := g_bnd h
      refine g_iald' ev5 sM_11 dX11_isBehind_33 ?_
      obtain ⟨v6, ev6, h⟩ := g_bnd h
      refine g_callV LX11_90 sM_0 rfl (kX11_members ev6) rfl rfl (Nat.le_of_ble_eq_true rfl) ⟨Nat.le_of_ble_eq_true rfl, Nat.le_of_ble_eq_true rfl⟩ ⟨Nat.le_of_ble_eq_true rfl, Nat.le_of_ble_eq_true rfl⟩ dX11_isBehind_34 rfl ?_
      obtain ⟨v7, ev7, h⟩ := g_bnd h
      refine g_callV LX11_194 sM_0 rfl (kX11_leads ev7) rfl rfl (Nat.le_of_ble_eq_true rfl) ⟨Nat.le_of_ble_eq_true rfl, Nat.le_of_ble_eq_true rfl⟩ ⟨Nat.le_of_ble_eq_true rfl, Nat.le_of_ble_eq_true rfl⟩ dX11_isBehind_37 rfl ?_
      rcases g_ite h with ⟨c8, h⟩ | ⟨c8, h⟩
      · refine g_if_eq_t c8 (tgt := 45) rfl dX11_isBehind_40 ?_
        exact tX11_isBehind_b45  h Kc Kx Kr
      · refine g_if_eq_f c8 (tgt := 45) rfl dX11_isBehind_40 ?_
        refine g_iconst (v := 1) rfl dX11_isBehind_43 ?_
        cases h
        exact g_iret (Kr (1 : Int32) rfl) ⟨Nat.le_of_ble_eq_true rfl, Nat.le_of_ble_eq_true rfl⟩ rfl dX11_isBehind_44
def fX11_isBehind (x1 : Int32) (x2 : Int32) (x3 : Int32) (M0 : gMem) : Option Int32 :=
  (gLoop (fun z9 => fX11_isBehind_l3 x1 x3 M0 z9) gFu x2).bind fun w9 => gSE w9 (fun y10 => some (0 : Int32)) (fun r11 => some r11)
set_option maxRecDepth 20000 in
theorem tX11_isBehind {X : gX} {V : gEnv} {x1 : Int32} {x2 : Int32} {x3 : Int32} {M0 : gMem}  {o : Int32} (h : fX11_isBehind x1 x2 x3 M0 = some o) (O : gO X V mX11_isBehind gShM (some .boolean) (some (.int o)) M0) : gG X V mX11_isBehind gShM M0 0 0 0 [(0, .ref (gAd V 0)), (1, .int x1), (2, .int x2), (3, .int x3)] [] := by
  unfold fX11_isBehind at h
  refine g_iload_n 2 rfl rfl dX11_isBehind_0 ?_
  refine g_istore (ls' := [(4, .int x2), (0, .ref (gAd V 0)), (1, .int x1), (2, .int x2), (3, .int x3)]) (Nat.le_of_ble_eq_true rfl) rfl dX11_isBehind_1 ?_
  obtain ⟨w9, ew9, h⟩ := g_bnd h
  refine g_sub [1, 2, 4, 0] rfl ?_
  rcases w9 with y10 | r11
  · have h := g_sl h
    have KX : gG X V mX11_isBehind gShM M0 0 0 51 [] [] := by
      refine g_iconst (v := 0) rfl dX11_isBehind_51 ?_
      cases h
      exact g_iret O ⟨Nat.le_of_ble_eq_true rfl, Nat.le_of_ble_eq_true rfl⟩ rfl dX11_isBehind_52
    exact gLoop_Q ew9 (fun z9 => gG X V mX11_isBehind gShM M0 0 0 3 [(0, .ref (gAd V 0)), (1, .int x1), (3, .int x3), (4, .int z9)] []) (fun s9 o9 hb9 hc9 hx9 => tX11_isBehind_l3  hb9 hc9 (fun e9 he9 => by cases hx9 _ he9; exact KX) (fun r9 he9 => by cases hx9 _ he9))
  · have h := g_sr h
    cases h
    exact gLoop_Q ew9 (fun z9 => gG X V mX11_isBehind gShM M0 0 0 3 [(0, .ref (gAd V 0)), (1, .int x1), (3, .int x3), (4, .int z9)] []) (fun s9 o9 hb9 hc9 hx9 => tX11_isBehind_l3  hb9 hc9 (fun e9 he9 => by cases hx9 _ he9) (fun r9 he9 => by cases hx9 _ he9; exact O))
theorem kX11_isBehind {l : Launch} {V : gEnv} {M0 : gMem} {x1 : Int32} {x2 : Int32} {x3 : Int32}  {o : Int32} (h : fX11_isBehind x1 x2 x3 M0 = some o) : gM l yX11_isBehind cX11_isBehind 5 (some .boolean) rX11_isBehind V gShM [.ref (gAd V 0), .int x1, .int x2, .int x3] M0 (some (.int o)) M0 :=
  gM.of (by decide) (Nat.le_of_ble_eq_true rfl) rfl (fun X _ O => tX11_isBehind  h O)
theorem dX11_sortsHeads_0 : decode cX11_sortsHeads 0 = .ok (.iconst 0, 1) := by decide +kernel
theorem dX11_sortsHeads_1 : decode cX11_sortsHeads 1 = .ok (.istore_n 2, 1) := by decide +kernel
theorem dX11_sortsHeads_2 : decode cX11_sortsHeads 2 = .ok (.iload_n 2, 1) := by decide +kernel
theorem dX11_sortsHeads_3 : decode cX11_sortsHeads 3 = .ok (.iload_n 1, 1) := by decide +kernel
theorem dX11_sortsHeads_4 : decode cX11_sortsHeads 4 = .ok (.if_icmp .ge 74, 3) := by decide +kernel
theorem dX11_sortsHeads_7 : decode cX11_sortsHeads 7 = .ok (.iload_n 2, 1) := by decide +kernel
theorem dX11_sortsHeads_8 : decode cX11_sortsHeads 8 = .ok (.istore_n 3, 1) := by decide +kernel
theorem dX11_sortsHeads_9 : decode cX11_sortsHeads 9 = .ok (.aload_n 0, 1) := by decide +kernel
theorem dX11_sortsHeads_10 : decode cX11_sortsHeads 10 = .ok (.iload_n 3, 1) := by decide +kernel
theorem dX11_sortsHeads_11 : decode cX11_sortsHeads 11 = .ok (.iload_n 2, 1) := by decide +kernel
theorem dX11_sortsHeads_12 : decode cX11_sortsHeads 12 = .ok (.iload_n 1, 1) := by decide +kernel
theorem dX11_sortsHeads_13 : decode cX11_sortsHeads 13 = .ok (.invokevirtual 191, 3) := by decide +kernel
theorem dX11_sortsHeads_16 : decode cX11_sortsHeads 16 = .ok (.ifCond .eq 9, 3) := by decide +kernel
theorem dX11_sortsHeads_19 : decode cX11_sortsHeads 19 = .ok (.iinc 3 1, 3) := by decide +kernel
theorem dX11_sortsHeads_22 : decode cX11_sortsHeads 22 = .ok (.goto (-13), 3) := by decide +kernel
theorem dX11_sortsHeads_25 : decode cX11_sortsHeads 25 = .ok (.aload_n 0, 1) := by decide +kernel
theorem dX11_sortsHeads_26 : decode cX11_sortsHeads 26 = .ok (.getfield 40, 3) := by decide +kernel
theorem dX11_sortsHeads_29 : decode cX11_sortsHeads 29 = .ok (.iload_n 3, 1) := by decide +kernel
theorem dX11_sortsHeads_30 : decode cX11_sortsHeads 30 = .ok (.iaload, 1) := by decide +kernel
theorem dX11_sortsHeads_31 : decode cX11_sortsHeads 31 = .ok (.istore 4, 2) := by decide +kernel
theorem dX11_sortsHeads_33 : decode cX11_sortsHeads 33 = .ok (.iload_n 3, 1) := by decide +kernel
theorem dX11_sortsHeads_34 : decode cX11_sortsHeads 34 = .ok (.istore 5, 2) := by decide +kernel
theorem dX11_sortsHeads_36 : decode cX11_sortsHeads 36 = .ok (.iload 5, 2) := by decide +kernel
theorem dX11_sortsHeads_38 : decode cX11_sortsHeads 38 = .ok (.iload_n 2, 1) := by decide +kernel
theorem dX11_sortsHeads_39 : decode cX11_sortsHeads 39 = .ok (.if_icmp .le 25, 3) := by decide +kernel
theorem dX11_sortsHeads_42 : decode cX11_sortsHeads 42 = .ok (.aload_n 0, 1) := by decide +kernel
theorem dX11_sortsHeads_43 : decode cX11_sortsHeads 43 = .ok (.getfield 40, 3) := by decide +kernel
theorem dX11_sortsHeads_46 : decode cX11_sortsHeads 46 = .ok (.iload 5, 2) := by decide +kernel
theorem dX11_sortsHeads_48 : decode cX11_sortsHeads 48 = .ok (.aload_n 0, 1) := by decide +kernel
theorem dX11_sortsHeads_49 : decode cX11_sortsHeads 49 = .ok (.getfield 40, 3) := by decide +kernel
theorem dX11_sortsHeads_52 : decode cX11_sortsHeads 52 = .ok (.iload 5, 2) := by decide +kernel
theorem dX11_sortsHeads_54 : decode cX11_sortsHeads 54 = .ok (.iconst 1, 1) := by decide +kernel
theorem dX11_sortsHeads_55 : decode cX11_sortsHeads 55 = .ok (.isub, 1) := by decide +kernel
theorem dX11_sortsHeads_56 : decode cX11_sortsHeads 56 = .ok (.iaload, 1) := by decide +kernel
theorem dX11_sortsHeads_57 : decode cX11_sortsHeads 57 = .ok (.iastore, 1) := by decide +kernel
theorem dX11_sortsHeads_58 : decode cX11_sortsHeads 58 = .ok (.iinc 5 (-1), 3) := by decide +kernel
theorem dX11_sortsHeads_61 : decode cX11_sortsHeads 61 = .ok (.goto (-25), 3) := by decide +kernel
theorem dX11_sortsHeads_64 : decode cX11_sortsHeads 64 = .ok (.aload_n 0, 1) := by decide +kernel
theorem dX11_sortsHeads_65 : decode cX11_sortsHeads 65 = .ok (.getfield 40, 3) := by decide +kernel
theorem dX11_sortsHeads_68 : decode cX11_sortsHeads 68 = .ok (.iload_n 2, 1) := by decide +kernel
theorem dX11_sortsHeads_69 : decode cX11_sortsHeads 69 = .ok (.iload 4, 2) := by decide +kernel
theorem dX11_sortsHeads_71 : decode cX11_sortsHeads 71 = .ok (.iastore, 1) := by decide +kernel
theorem dX11_sortsHeads_72 : decode cX11_sortsHeads 72 = .ok (.iinc 2 1, 3) := by decide +kernel
theorem dX11_sortsHeads_75 : decode cX11_sortsHeads 75 = .ok (.goto (-73), 3) := by decide +kernel
theorem dX11_sortsHeads_78 : decode cX11_sortsHeads 78 = .ok (.return_, 1) := by decide +kernel
abbrev rX11_sortsHeads : Room := { frames := 3, cells := 0, slots := 0, locals := 69 }
abbrev mX11_sortsHeads : gY := (cX11_sortsHeads, RX11, 6, rX11_sortsHeads)
def fX11_sortsHeads_l9 (x1 : Int32) (x2 : Int32) (M0 : gMem) (x3 : Int32) : Option (Int32 ⊕ Int32) :=
  (fX11_isBehind x3 x2 x1 M0).bind fun v2 => if v2 = 0 then (some (.inr x3)) else some (.inl (x3 + (1 : Int32)))
set_option maxRecDepth 20000 in
theorem tX11_sortsHeads_l9 {X : gX} {V : gEnv} {x1 : Int32} {x2 : Int32} {M0 : gMem} {x3 : Int32}  {o : (Int32 ⊕ Int32)} (h : fX11_sortsHeads_l9 x1 x2 M0 x3 = some o) (Kc : ∀ s9, o = .inl s9 → gG X V mX11_sortsHeads gShM M0 0 0 9 [(0, .ref (gAd V 0)), (1, .int x1), (2, .int x2), (3, .int s9)] []) (Kx : ∀ e9, o = .inr e9 → gG X V mX11_sortsHeads gShM M0 0 0 25 [(0, .ref (gAd V 0)), (1, .int x1), (2, .int x2), (3, .int e9)] []) : gG X V mX11_sortsHeads gShM M0 0 0 9 [(0, .ref (gAd V 0)), (1, .int x1), (2, .int x2), (3, .int x3)] [] := by
  unfold fX11_sortsHeads_l9 at h
  refine g_aload_n 0 rfl rfl dX11_sortsHeads_9 ?_
  refine g_iload_n 3 rfl rfl dX11_sortsHeads_10 ?_
  refine g_iload_n 2 rfl rfl dX11_sortsHeads_11 ?_
  refine g_iload_n 1 rfl rfl dX11_sortsHeads_12 ?_
  obtain ⟨v2, ev2, h⟩ := g_bnd h
  refine g_callV LX11_191 sM_0 rfl (kX11_isBehind ev2) rfl rfl (Nat.le_of_ble_eq_true rfl) ⟨Nat.le_of_ble_eq_true rfl, Nat.le_of_ble_eq_true rfl⟩ ⟨Nat.le_of_ble_eq_true rfl, Nat.le_of_ble_eq_true rfl⟩ dX11_sortsHeads_13 rfl ?_
  rcases g_ite h with ⟨c3, h⟩ | ⟨c3, h⟩
  · refine g_if_eq_t c3 (tgt := 25) rfl dX11_sortsHeads_16 ?_
    cases h
    exact Kx x3 rfl
  · refine g_if_eq_f c3 (tgt := 25) rfl dX11_sortsHeads_16 ?_
    refine g_iinc (j := 3) (v := x3 + (1 : Int32)) (ls' := [(3, .int (x3 + (1 : Int32))), (0, .ref (gAd V 0)), (1, .int x1), (2, .int x2)]) rfl rfl (Nat.le_of_ble_eq_true rfl) rfl dX11_sortsHeads_19 ?_
    refine g_goto (tgt := 9) rfl dX11_sortsHeads_22 ?_
    cases h
    refine g_sub [1, 2, 3, 0] rfl ?_
    exact Kc (x3 + (1 : Int32)) rfl
def fX11_sortsHeads_l36 (x1 : Int32) (x2 : Int32) (x4 : Int32) (x5 : Int32) (M0 : gMem) : Option ((Int32 × gMem) ⊕ gMem) :=
  if x5 ≤ x2 then (some (.inr M0)) else (rI M0 11 24 (x5 - (1 : Int32))).bind fun v7 => (wI M0 11 24 x5 v7).bind fun M8 => some (.inl (x5 + (-1 : Int32), M8))
set_option maxRecDepth 20000 in
theorem tX11_sortsHeads_l36 {X : gX} {V : gEnv} {x1 : Int32} {x2 : Int32} {x4 : Int32} {x5 : Int32} {M0 : gMem}  {o : ((Int32 × gMem) ⊕ gMem)} (h : fX11_sortsHeads_l36 x1 x2 x4 x5 M0 = some o) (Kc : ∀ s9, o = .inl s9 → gG X V mX11_sortsHeads gShM s9.2 0 0 36 [(0, .ref (gAd V 0)), (1, .int x1), (2, .int x2), (4, .int x4), (5, .int s9.1)] []) (Kx : ∀ e9, o = .inr e9 → gG X V mX11_sortsHeads gShM e9 0 0 64 [(0, .ref (gAd V 0)), (1, .int x1), (2, .int x2), (4, .int x4)] []) : gG X V mX11_sortsHeads gShM M0 0 0 36 [(0, .ref (gAd V 0)), (1, .int x1), (2, .int x2), (4, .int x4), (5, .int x5)] [] := by
  unfold fX11_sortsHeads_l36 at h
  refine g_iload 4 rfl dX11_sortsHeads_36 ?_
  refine g_iload_n 2 rfl rfl dX11_sortsHeads_38 ?_
  rcases g_ite h with ⟨c6, h⟩ | ⟨c6, h⟩
  · refine g_icmp_le_t c6 (tgt := 64) rfl dX11_sortsHeads_39 ?_
    cases h
    refine g_sub [0, 1, 2, 3] rfl ?_
    exact Kx M0 rfl
  · refine g_icmp_le_f c6 (tgt := 64) rfl dX11_sortsHeads_39 ?_
    refine g_aload_n 0 rfl rfl dX11_sortsHeads_42 ?_
    refine g_getR FX11_40 sM_0 rfl dX11_sortsHeads_43 ?_
    refine g_iload 4 rfl dX11_sortsHeads_46 ?_
    refine g_aload_n 0 rfl rfl dX11_sortsHeads_48 ?_
    refine g_getR FX11_40 sM_0 rfl dX11_sortsHeads_49 ?_
    refine g_iload 4 rfl dX11_sortsHeads_52 ?_
    refine g_iconst (v := 1) rfl dX11_sortsHeads_54 ?_
    refine g_isub dX11_sortsHeads_55 ?_
    obtain ⟨v7, ev7, h⟩ := g_bnd h
    refine g_iald' ev7 sM_11 dX11_sortsHeads_56 ?_
    obtain ⟨M8, eM8, h⟩ := g_bnd h
    refine g_iast' eM8 sM_11 dX11_sortsHeads_57 ?_
    refine g_iinc (j := 4) (v := x5 + (-1 : Int32)) (ls' := [(5, .int (x5 + (-1 : Int32))), (0, .ref (gAd V 0)), (1, .int x1), (2, .int x2), (4, .int x4)]) rfl (congrArg (fun z => x5 + z) (by decide)) (Nat.le_of_ble_eq_true rfl) rfl dX11_sortsHeads_58 ?_
    refine g_goto (tgt := 36) rfl dX11_sortsHeads_61 ?_
    cases h
    refine g_sub [1, 2, 3, 4, 0] rfl ?_
    exact Kc (x5 + (-1 : Int32), M8) rfl
def fX11_sortsHeads_l2 (x1 : Int32) (x2 : Int32) (M0 : gMem) : Option ((Int32 × gMem) ⊕ gMem) :=
  if x1 ≤ x2 then (some (.inr M0)) else (gLoop (fun z9 => fX11_sortsHeads_l9 x1 x2 M0 z9) gFu x2).bind fun w4 => (rI M0 11 24 w4).bind fun v5 => (gLoop (fun z9 => fX11_sortsHeads_l36 x1 x2 v5 z9.1 z9.2) gFu (w4, M0)).bind fun w9 => (wI w9 11 24 x2 v5).bind fun M10 => some (.inl (x2 + (1 : Int32), M10))
set_option maxRecDepth 20000 in
theorem tX11_sortsHeads_l2 {X : gX} {V : gEnv} {x1 : Int32} {x2 : Int32} {M0 : gMem}  {o : ((Int32 × gMem) ⊕ gMem)} (h : fX11_sortsHeads_l2 x1 x2 M0 = some o) (Kc : ∀ s9, o = .inl s9 → gG X V mX11_sortsHeads gShM s9.2 0 0 2 [(0, .ref (gAd V 0)), (1, .int x1), (2, .int s9.1)] []) (Kx : ∀ e9, o = .inr e9 → gG X V mX11_sortsHeads gShM e9 0 0 78 [] []) : gG X V mX11_sortsHeads gShM M0 0 0 2 [(0, .ref (gAd V 0)), (1, .int x1), (2, .int x2)] [] := by
  unfold fX11_sortsHeads_l2 at h
  refine g_iload_n 2 rfl rfl dX11_sortsHeads_2 ?_
  refine g_iload_n 1 rfl rfl dX11_sortsHeads_3 ?_
  rcases g_ite h with ⟨c1, h⟩ | ⟨c1, h⟩
  · refine g_icmp_ge_t c1 (tgt := 78) rfl dX11_sortsHeads_4 ?_
    cases h
    refine g_sub [] rfl ?_
    exact Kx M0 rfl
  · refine g_icmp_ge_f c1 (tgt := 78) rfl dX11_sortsHeads_4 ?_
    refine g_iload_n 2 rfl rfl dX11_sortsHeads_7 ?_
    refine g_istore_n (ls' := [(3, .int x2), (0, .ref (gAd V 0)), (1, .int x1), (2, .int x2)]) rfl (Nat.le_of_ble_eq_true rfl) rfl dX11_sortsHeads_8 ?_
    obtain ⟨w4, ew4, h⟩ := g_bnd h
    refine g_sub [1, 2, 3, 0] rfl ?_
    have KX : gG X V mX11_sortsHeads gShM M0 0 0 25 [(0, .ref (gAd V 0)), (1, .int x1), (2, .int x2), (3, .int w4)] [] := by
      refine g_aload_n 0 rfl rfl dX11_sortsHeads_25 ?_
      refine g_getR FX11_40 sM_0 rfl dX11_sortsHeads_26 ?_
      refine g_iload_n 3 rfl rfl dX11_sortsHeads_29 ?_
      obtain ⟨v5, ev5, h⟩ := g_bnd h
      refine g_iald' ev5 sM_11 dX11_sortsHeads_30 ?_
      refine g_istore (ls' := [(4, .int v5), (0, .ref (gAd V 0)), (1, .int x1), (2, .int x2), (3, .int w4)]) (Nat.le_of_ble_eq_true rfl) rfl dX11_sortsHeads_31 ?_
      refine g_iload_n 4 rfl rfl dX11_sortsHeads_33 ?_
      refine g_istore (ls' := [(5, .int w4), (4, .int v5), (0, .ref (gAd V 0)), (1, .int x1), (2, .int x2), (3, .int w4)]) (Nat.le_of_ble_eq_true rfl) rfl dX11_sortsHeads_34 ?_
      obtain ⟨w9, ew9, h⟩ := g_bnd h
      refine g_sub [2, 3, 4, 1, 0] rfl ?_
      have KX : gG X V mX11_sortsHeads gShM w9 0 0 64 [(0, .ref (gAd V 0)), (1, .int x1), (2, .int x2), (4, .int v5)] [] := by
        refine g_aload_n 0 rfl rfl dX11_sortsHeads_64 ?_
        refine g_getR FX11_40 sM_0 rfl dX11_sortsHeads_65 ?_
        refine g_iload_n 2 rfl rfl dX11_sortsHeads_68 ?_
        refine g_iload 3 rfl dX11_sortsHeads_69 ?_
        obtain ⟨M10, eM10, h⟩ := g_bnd h
        refine g_iast' eM10 sM_11 dX11_sortsHeads_71 ?_
        refine g_iinc (j := 2) (v := x2 + (1 : Int32)) (ls' := [(2, .int (x2 + (1 : Int32))), (0, .ref (gAd V 0)), (1, .int x1), (4, .int v5)]) rfl rfl (Nat.le_of_ble_eq_true rfl) rfl dX11_sortsHeads_72 ?_
        refine g_goto (tgt := 2) rfl dX11_sortsHeads_75 ?_
        cases h
        refine g_sub [1, 2, 0] rfl ?_
        exact Kc (x2 + (1 : Int32), M10) rfl
      exact gLoop_Q ew9 (fun z9 => gG X V mX11_sortsHeads gShM z9.2 0 0 36 [(0, .ref (gAd V 0)), (1, .int x1), (2, .int x2), (4, .int v5), (5, .int z9.1)] []) (fun s9 o9 hb9 hc9 hx9 => tX11_sortsHeads_l36  hb9 hc9 (fun e9 he9 => by cases hx9 _ he9; exact KX))
    exact gLoop_Q ew4 (fun z9 => gG X V mX11_sortsHeads gShM M0 0 0 9 [(0, .ref (gAd V 0)), (1, .int x1), (2, .int x2), (3, .int z9)] []) (fun s9 o9 hb9 hc9 hx9 => tX11_sortsHeads_l9  hb9 hc9 (fun e9 he9 => by cases hx9 _ he9; exact KX))
def fX11_sortsHeads (x1 : Int32) (M0 : gMem) : Option gMem :=
  (gLoop (fun z9 => fX11_sortsHeads_l2 x1 z9.1 z9.2) gFu ((0 : Int32), M0)).bind fun w11 => some w11
set_option maxRecDepth 20000 in
theorem tX11_sortsHeads {X : gX} {V : gEnv} {x1 : Int32} {M0 : gMem}  {o : gMem} (h : fX11_sortsHeads x1 M0 = some o) (O : gO X V mX11_sortsHeads gShM none none o) : gG X V mX11_sortsHeads gShM M0 0 0 0 [(0, .ref (gAd V 0)), (1, .int x1)] [] := by
  unfold fX11_sortsHeads at h
  refine g_iconst (v := 0) rfl dX11_sortsHeads_0 ?_
  refine g_istore_n (ls' := [(2, .int (0 : Int32)), (0, .ref (gAd V 0)), (1, .int x1)]) rfl (Nat.le_of_ble_eq_true rfl) rfl dX11_sortsHeads_1 ?_
  obtain ⟨w11, ew11, h⟩ := g_bnd h
  refine g_sub [1, 2, 0] rfl ?_
  have KX : gG X V mX11_sortsHeads gShM w11 0 0 78 [] [] := by
    cases h
    exact g_vret O ⟨Nat.le_of_ble_eq_true rfl, Nat.le_of_ble_eq_true rfl⟩ dX11_sortsHeads_78
  exact gLoop_Q ew11 (fun z9 => gG X V mX11_sortsHeads gShM z9.2 0 0 2 [(0, .ref (gAd V 0)), (1, .int x1), (2, .int z9.1)] []) (fun s9 o9 hb9 hc9 hx9 => tX11_sortsHeads_l2  hb9 hc9 (fun e9 he9 => by cases hx9 _ he9; exact KX))
theorem kX11_sortsHeads {l : Launch} {V : gEnv} {M0 : gMem} {x1 : Int32}  {o : gMem} (h : fX11_sortsHeads x1 M0 = some o) : gM l yX11_sortsHeads cX11_sortsHeads 6 none rX11_sortsHeads V gShM [.ref (gAd V 0), .int x1] M0 none o :=
  gM.of (by decide) (Nat.le_of_ble_eq_true rfl) rfl (fun X _ O => tX11_sortsHeads  h O)
theorem dX11_cuts_0 : decode cX11_cuts 0 = .ok (.aload_n 0, 1) := by decide +kernel
theorem dX11_cuts_1 : decode cX11_cuts 1 = .ok (.iload_n 1, 1) := by decide +kernel
theorem dX11_cuts_2 : decode cX11_cuts 2 = .ok (.invokevirtual 97, 3) := by decide +kernel
theorem dX11_cuts_5 : decode cX11_cuts 5 = .ok (.istore_n 2, 1) := by decide +kernel
theorem dX11_cuts_6 : decode cX11_cuts 6 = .ok (.aload_n 0, 1) := by decide +kernel
theorem dX11_cuts_7 : decode cX11_cuts 7 = .ok (.aload_n 0, 1) := by decide +kernel
theorem dX11_cuts_8 : decode cX11_cuts 8 = .ok (.getfield 9, 3) := by decide +kernel
theorem dX11_cuts_11 : decode cX11_cuts 11 = .ok (.bipush 38, 2) := by decide +kernel
theorem dX11_cuts_13 : decode cX11_cuts 13 = .ok (.iload_n 1, 1) := by decide +kernel
theorem dX11_cuts_14 : decode cX11_cuts 14 = .ok (.iadd, 1) := by decide +kernel
theorem dX11_cuts_15 : decode cX11_cuts 15 = .ok (.iaload, 1) := by decide +kernel
theorem dX11_cuts_16 : decode cX11_cuts 16 = .ok (.iconst 1, 1) := by decide +kernel
theorem dX11_cuts_17 : decode cX11_cuts 17 = .ok (.invokevirtual 82, 3) := by decide +kernel
theorem dX11_cuts_20 : decode cX11_cuts 20 = .ok (.istore_n 3, 1) := by decide +kernel
theorem dX11_cuts_21 : decode cX11_cuts 21 = .ok (.aload_n 0, 1) := by decide +kernel
theorem dX11_cuts_22 : decode cX11_cuts 22 = .ok (.iload_n 1, 1) := by decide +kernel
theorem dX11_cuts_23 : decode cX11_cuts 23 = .ok (.invokevirtual 197, 3) := by decide +kernel
theorem dX11_cuts_26 : decode cX11_cuts 26 = .ok (.aload_n 0, 1) := by decide +kernel
theorem dX11_cuts_27 : decode cX11_cuts 27 = .ok (.iconst 1, 1) := by decide +kernel
theorem dX11_cuts_28 : decode cX11_cuts 28 = .ok (.iconst 1, 1) := by decide +kernel
theorem dX11_cuts_29 : decode cX11_cuts 29 = .ok (.invokevirtual 185, 3) := by decide +kernel
theorem dX11_cuts_32 : decode cX11_cuts 32 = .ok (.iload_n 2, 1) := by decide +kernel
theorem dX11_cuts_33 : decode cX11_cuts 33 = .ok (.ifCond .ne 5, 3) := by decide +kernel
theorem dX11_cuts_36 : decode cX11_cuts 36 = .ok (.iconst 0, 1) := by decide +kernel
theorem dX11_cuts_37 : decode cX11_cuts 37 = .ok (.ireturn, 1) := by decide +kernel
theorem dX11_cuts_38 : decode cX11_cuts 38 = .ok (.aload_n 0, 1) := by decide +kernel
theorem dX11_cuts_39 : decode cX11_cuts 39 = .ok (.iload_n 3, 1) := by decide +kernel
theorem dX11_cuts_40 : decode cX11_cuts 40 = .ok (.invokevirtual 86, 3) := by decide +kernel
theorem dX11_cuts_43 : decode cX11_cuts 43 = .ok (.istore 4, 2) := by decide +kernel
theorem dX11_cuts_45 : decode cX11_cuts 45 = .ok (.aload_n 0, 1) := by decide +kernel
theorem dX11_cuts_46 : decode cX11_cuts 46 = .ok (.aload_n 0, 1) := by decide +kernel
theorem dX11_cuts_47 : decode cX11_cuts 47 = .ok (.iload_n 3, 1) := by decide +kernel
theorem dX11_cuts_48 : decode cX11_cuts 48 = .ok (.invokevirtual 90, 3) := by decide +kernel
theorem dX11_cuts_51 : decode cX11_cuts 51 = .ok (.invokevirtual 200, 3) := by decide +kernel
theorem dX11_cuts_54 : decode cX11_cuts 54 = .ok (.istore 5, 2) := by decide +kernel
theorem dX11_cuts_56 : decode cX11_cuts 56 = .ok (.iload 5, 2) := by decide +kernel
theorem dX11_cuts_58 : decode cX11_cuts 58 = .ok (.iconst 1, 1) := by decide +kernel
theorem dX11_cuts_59 : decode cX11_cuts 59 = .ok (.if_icmp .ne 5, 3) := by decide +kernel
theorem dX11_cuts_62 : decode cX11_cuts 62 = .ok (.iconst 1, 1) := by decide +kernel
theorem dX11_cuts_63 : decode cX11_cuts 63 = .ok (.ireturn, 1) := by decide +kernel
theorem dX11_cuts_64 : decode cX11_cuts 64 = .ok (.aload_n 0, 1) := by decide +kernel
theorem dX11_cuts_65 : decode cX11_cuts 65 = .ok (.iload 5, 2) := by decide +kernel
theorem dX11_cuts_67 : decode cX11_cuts 67 = .ok (.invokevirtual 203, 3) := by decide +kernel
theorem dX11_cuts_70 : decode cX11_cuts 70 = .ok (.aload_n 0, 1) := by decide +kernel
theorem dX11_cuts_71 : decode cX11_cuts 71 = .ok (.getfield 9, 3) := by decide +kernel
theorem dX11_cuts_74 : decode cX11_cuts 74 = .ok (.iconst 2, 1) := by decide +kernel
theorem dX11_cuts_75 : decode cX11_cuts 75 = .ok (.iaload, 1) := by decide +kernel
theorem dX11_cuts_76 : decode cX11_cuts 76 = .ok (.iconst 1, 1) := by decide +kernel
theorem dX11_cuts_77 : decode cX11_cuts 77 = .ok (.isub, 1) := by decide +kernel
theorem dX11_cuts_78 : decode cX11_cuts 78 = .ok (.istore 6, 2) := by decide +kernel
theorem dX11_cuts_80 : decode cX11_cuts 80 = .ok (.iload 6, 2) := by decide +kernel
theorem dX11_cuts_82 : decode cX11_cuts 82 = .ok (.iload 4, 2) := by decide +kernel
theorem dX11_cuts_84 : decode cX11_cuts 84 = .ok (.if_icmp .le 34, 3) := by decide +kernel
theorem dX11_cuts_87 : decode cX11_cuts 87 = .ok (.aload_n 0, 1) := by decide +kernel
theorem dX11_cuts_88 : decode cX11_cuts 88 = .ok (.getfield 9, 3) := by decide +kernel
theorem dX11_cuts_91 : decode cX11_cuts 91 = .ok (.bipush 14, 2) := by decide +kernel
theorem dX11_cuts_93 : decode cX11_cuts 93 = .ok (.iload 6, 2) := by decide +kernel
theorem dX11_cuts_95 : decode cX11_cuts 95 = .ok (.iadd, 1) := by decide +kernel
theorem dX11_cuts_96 : decode cX11_cuts 96 = .ok (.iload 5, 2) := by decide +kernel
theorem dX11_cuts_98 : decode cX11_cuts 98 = .ok (.iadd, 1) := by decide +kernel
theorem dX11_cuts_99 : decode cX11_cuts 99 = .ok (.iconst 1, 1) := by decide +kernel
theorem dX11_cuts_100 : decode cX11_cuts 100 = .ok (.isub, 1) := by decide +kernel
theorem dX11_cuts_101 : decode cX11_cuts 101 = .ok (.aload_n 0, 1) := by decide +kernel
theorem dX11_cuts_102 : decode cX11_cuts 102 = .ok (.getfield 9, 3) := by decide +kernel
theorem dX11_cuts_105 : decode cX11_cuts 105 = .ok (.bipush 14, 2) := by decide +kernel
theorem dX11_cuts_107 : decode cX11_cuts 107 = .ok (.iload 6, 2) := by decide +kernel
theorem dX11_cuts_109 : decode cX11_cuts 109 = .ok (.iadd, 1) := by decide +kernel
theorem dX11_cuts_110 : decode cX11_cuts 110 = .ok (.iaload, 1) := by decide +kernel
theorem dX11_cuts_111 : decode cX11_cuts 111 = .ok (.iastore, 1) := by decide +kernel
theorem dX11_cuts_112 : decode cX11_cuts 112 = .ok (.iinc 6 (-1), 3) := by decide +kernel
theorem dX11_cuts_115 : decode cX11_cuts 115 = .ok (.goto (-35), 3) := by decide +kernel
theorem dX11_cuts_118 : decode cX11_cuts 118 = .ok (.iconst 0, 1) := by decide +kernel
theorem dX11_cuts_119 : decode cX11_cuts 119 = .ok (.istore 6, 2) := by decide +kernel
theorem dX11_cuts_121 : decode cX11_cuts 121 = .ok (.iload 6, 2) := by decide +kernel
theorem dX11_cuts_123 : decode cX11_cuts 123 = .ok (.iload 5, 2) := by decide +kernel
theorem dX11_cuts_125 : decode cX11_cuts 125 = .ok (.if_icmp .ge 29, 3) := by decide +kernel
theorem dX11_cuts_128 : decode cX11_cuts 128 = .ok (.aload_n 0, 1) := by decide +kernel
theorem dX11_cuts_129 : decode cX11_cuts 129 = .ok (.getfield 9, 3) := by decide +kernel
theorem dX11_cuts_132 : decode cX11_cuts 132 = .ok (.bipush 14, 2) := by decide +kernel
theorem dX11_cuts_134 : decode cX11_cuts 134 = .ok (.iload 4, 2) := by decide +kernel
theorem dX11_cuts_136 : decode cX11_cuts 136 = .ok (.iadd, 1) := by decide +kernel
theorem dX11_cuts_137 : decode cX11_cuts 137 = .ok (.iload 6, 2) := by decide +kernel
theorem dX11_cuts_139 : decode cX11_cuts 139 = .ok (.iadd, 1) := by decide +kernel
theorem dX11_cuts_140 : decode cX11_cuts 140 = .ok (.aload_n 0, 1) := by decide +kernel
theorem dX11_cuts_141 : decode cX11_cuts 141 = .ok (.getfield 40, 3) := by decide +kernel
theorem dX11_cuts_144 : decode cX11_cuts 144 = .ok (.iload 6, 2) := by decide +kernel
theorem dX11_cuts_146 : decode cX11_cuts 146 = .ok (.iaload, 1) := by decide +kernel
theorem dX11_cuts_147 : decode cX11_cuts 147 = .ok (.iastore, 1) := by decide +kernel
theorem dX11_cuts_148 : decode cX11_cuts 148 = .ok (.iinc 6 1, 3) := by decide +kernel
theorem dX11_cuts_151 : decode cX11_cuts 151 = .ok (.goto (-30), 3) := by decide +kernel
theorem dX11_cuts_154 : decode cX11_cuts 154 = .ok (.aload_n 0, 1) := by decide +kernel
theorem dX11_cuts_155 : decode cX11_cuts 155 = .ok (.getfield 9, 3) := by decide +kernel
theorem dX11_cuts_158 : decode cX11_cuts 158 = .ok (.iconst 2, 1) := by decide +kernel
theorem dX11_cuts_159 : decode cX11_cuts 159 = .ok (.dup2, 1) := by decide +kernel
theorem dX11_cuts_160 : decode cX11_cuts 160 = .ok (.iaload, 1) := by decide +kernel
theorem dX11_cuts_161 : decode cX11_cuts 161 = .ok (.iload 5, 2) := by decide +kernel
theorem dX11_cuts_163 : decode cX11_cuts 163 = .ok (.iconst 1, 1) := by decide +kernel
theorem dX11_cuts_164 : decode cX11_cuts 164 = .ok (.isub, 1) := by decide +kernel
theorem dX11_cuts_165 : decode cX11_cuts 165 = .ok (.iadd, 1) := by decide +kernel
theorem dX11_cuts_166 : decode cX11_cuts 166 = .ok (.iastore, 1) := by decide +kernel
theorem dX11_cuts_167 : decode cX11_cuts 167 = .ok (.aload_n 0, 1) := by decide +kernel
theorem dX11_cuts_168 : decode cX11_cuts 168 = .ok (.bipush 7, 2) := by decide +kernel
theorem dX11_cuts_170 : decode cX11_cuts 170 = .ok (.iload 5, 2) := by decide +kernel
theorem dX11_cuts_172 : decode cX11_cuts 172 = .ok (.invokevirtual 185, 3) := by decide +kernel
theorem dX11_cuts_175 : decode cX11_cuts 175 = .ok (.iload 5, 2) := by decide +kernel
theorem dX11_cuts_177 : decode cX11_cuts 177 = .ok (.ireturn, 1) := by decide +kernel
abbrev rX11_cuts : Room := { frames := 4, cells := 0, slots := 0, locals := 94 }
abbrev mX11_cuts : gY := (cX11_cuts, RX11, 7, rX11_cuts)
def fX11_cuts_l80 (x4 : Int32) (x5 : Int32) (x6 : Int32) (M0 : gMem) : Option ((Int32 × gMem) ⊕ gMem) :=
  if x6 ≤ x4 then (some (.inr M0)) else (rI M0 1 374 ((14 : Int32) + x6)).bind fun v15 => (wI M0 1 374 ((((14 : Int32) + x6) + x5) - (1 : Int32)) v15).bind fun M16 => some (.inl (x6 + (-1 : Int32), M16))
set_option maxRecDepth 20000 in
theorem tX11_cuts_l80 {X : gX} {V : gEnv} {x4 : Int32} {x5 : Int32} {x6 : Int32} {M0 : gMem}  {o : ((Int32 × gMem) ⊕ gMem)} (h : fX11_cuts_l80 x4 x5 x6 M0 = some o) (Kc : ∀ s9, o = .inl s9 → gG X V mX11_cuts gShM s9.2 0 0 80 [(0, .ref (gAd V 0)), (4, .int x4), (5, .int x5), (6, .int s9.1)] []) (Kx : ∀ e9, o = .inr e9 → gG X V mX11_cuts gShM e9 0 0 118 [(0, .ref (gAd V 0)), (4, .int x4), (5, .int x5)] []) : gG X V mX11_cuts gShM M0 0 0 80 [(0, .ref (gAd V 0)), (4, .int x4), (5, .int x5), (6, .int x6)] [] := by
  unfold fX11_cuts_l80 at h
  refine g_iload 3 rfl dX11_cuts_80 ?_
  refine g_iload 1 rfl dX11_cuts_82 ?_
  rcases g_ite h with ⟨c14, h⟩ | ⟨c14, h⟩
  · refine g_icmp_le_t c14 (tgt := 118) rfl dX11_cuts_84 ?_
    cases h
    refine g_sub [0, 1, 2] rfl ?_
    exact Kx M0 rfl
  · refine g_icmp_le_f c14 (tgt := 118) rfl dX11_cuts_84 ?_
    refine g_aload_n 0 rfl rfl dX11_cuts_87 ?_
    refine g_getR FX11_9 sM_0 rfl dX11_cuts_88 ?_
    refine g_bipush (v := 14) rfl dX11_cuts_91 ?_
    refine g_iload 3 rfl dX11_cuts_93 ?_
    refine g_iadd dX11_cuts_95 ?_
    refine g_iload 2 rfl dX11_cuts_96 ?_
    refine g_iadd dX11_cuts_98 ?_
    refine g_iconst (v := 1) rfl dX11_cuts_99 ?_
    refine g_isub dX11_cuts_100 ?_
    refine g_aload_n 0 rfl rfl dX11_cuts_101 ?_
    refine g_getR FX11_9 sM_0 rfl dX11_cuts_102 ?_
    refine g_bipush (v := 14) rfl dX11_cuts_105 ?_
    refine g_iload 3 rfl dX11_cuts_107 ?_
    refine g_iadd dX11_cuts_109 ?_
    obtain ⟨v15, ev15, h⟩ := g_bnd h
    refine g_iald' ev15 sM_1 dX11_cuts_110 ?_
    obtain ⟨M16, eM16, h⟩ := g_bnd h
    refine g_iast' eM16 sM_1 dX11_cuts_111 ?_
    refine g_iinc (j := 3) (v := x6 + (-1 : Int32)) (ls' := [(6, .int (x6 + (-1 : Int32))), (0, .ref (gAd V 0)), (4, .int x4), (5, .int x5)]) rfl (congrArg (fun z => x6 + z) (by decide)) (Nat.le_of_ble_eq_true rfl) rfl dX11_cuts_112 ?_
    refine g_goto (tgt := 80) rfl dX11_cuts_115 ?_
    cases h
    refine g_sub [1, 2, 3, 0] rfl ?_
    exact Kc (x6 + (-1 : Int32), M16) rfl
def fX11_cuts_l121 (x4 : Int32) (x5 : Int32) (x6 : Int32) (M0 : gMem) : Option ((Int32 × gMem) ⊕ gMem) :=
  if x5 ≤ x6 then (some (.inr M0)) else (rI M0 11 24 x6).bind fun v19 => (wI M0 1 374 (((14 : Int32) + x4) + x6) v19).bind fun M20 => some (.inl (x6 + (1 : Int32), M20))
set_option maxRecDepth 20000 in
theorem tX11_cuts_l121 {X : gX} {V : gEnv} {x4 : Int32} {x5 : Int32} {x6 : Int32} {M0 : gMem}  {o : ((Int32 × gMem) ⊕ gMem)} (h : fX11_cuts_l121 x4 x5 x6 M0 = some o) (Kc : ∀ s9, o = .inl s9 → gG X V mX11_cuts gShM s9.2 0 0 121 [(0, .ref (gAd V 0)), (4, .int x4), (5, .int x5), (6, .int s9.1)] []) (Kx : ∀ e9, o = .inr e9 → gG X V mX11_cuts gShM e9 0 0 154 [(0, .ref (gAd V 0)), (5, .int x5)] []) : gG X V mX11_cuts gShM M0 0 0 121 [(0, .ref (gAd V 0)), (4, .int x4), (5, .int x5), (6, .int x6)] [] := by
  unfold fX11_cuts_l121 at h
  refine g_iload 3 rfl dX11_cuts_121 ?_
  refine g_iload 2 rfl dX11_cuts_123 ?_
  rcases g_ite h with ⟨c18, h⟩ | ⟨c18, h⟩
  · refine g_icmp_ge_t c18 (tgt := 154) rfl dX11_cuts_125 ?_
    cases h
    refine g_sub [0, 2] rfl ?_
    exact Kx M0 rfl
  · refine g_icmp_ge_f c18 (tgt := 154) rfl dX11_cuts_125 ?_
    refine g_aload_n 0 rfl rfl dX11_cuts_128 ?_
    refine g_getR FX11_9 sM_0 rfl dX11_cuts_129 ?_
    refine g_bipush (v := 14) rfl dX11_cuts_132 ?_
    refine g_iload 1 rfl dX11_cuts_134 ?_
    refine g_iadd dX11_cuts_136 ?_
    refine g_iload 3 rfl dX11_cuts_137 ?_
    refine g_iadd dX11_cuts_139 ?_
    refine g_aload_n 0 rfl rfl dX11_cuts_140 ?_
    refine g_getR FX11_40 sM_0 rfl dX11_cuts_141 ?_
    refine g_iload 3 rfl dX11_cuts_144 ?_
    obtain ⟨v19, ev19, h⟩ := g_bnd h
    refine g_iald' ev19 sM_11 dX11_cuts_146 ?_
    obtain ⟨M20, eM20, h⟩ := g_bnd h
    refine g_iast' eM20 sM_1 dX11_cuts_147 ?_
    refine g_iinc (j := 3) (v := x6 + (1 : Int32)) (ls' := [(6, .int (x6 + (1 : Int32))), (0, .ref (gAd V 0)), (4, .int x4), (5, .int x5)]) rfl rfl (Nat.le_of_ble_eq_true rfl) rfl dX11_cuts_148 ?_
    refine g_goto (tgt := 121) rfl dX11_cuts_151 ?_
    cases h
    refine g_sub [1, 2, 3, 0] rfl ?_
    exact Kc (x6 + (1 : Int32), M20) rfl
def fX11_cuts (x1 : Int32) (M0 : gMem) : Option (Int32 × gMem) :=
  (fX11_isInner x1 M0).bind fun v1 => (rI M0 1 374 ((38 : Int32) + x1)).bind fun v2 => (fX11_of v2 (1 : Int32) M0).bind fun v3 => (fX11_takesAway x1 M0).bind fun v4 => (fX11_counts (1 : Int32) (1 : Int32) v4).bind fun v5 => if v1 = 0 then (some ((0 : Int32), v5)) else (fX11_placeOfHead v3 v5).bind fun v7 => (fX11_members v3 v5).bind fun v8 => (fX11_laysGroups v8 v5).bind fun v9 => if v9.1 = (1 : Int32) then (some ((1 : Int32), v9.2)) else (fX11_sortsHeads v9.1 v9.2).bind fun v11 => (rI v11 1 374 (2 : Int32)).bind fun v12 => (nm (v12 - (1 : Int32))).bind fun v13 => (gLoop (fun z9 => fX11_cuts_l80 v7 v9.1 z9.1 z9.2) gFu (v13, v11)).bind fun w17 => (gLoop (fun z9 => fX11_cuts_l121 v7 v9.1 z9.1 z9.2) gFu ((0 : Int32), w17)).bind fun w21 => (rI w21 1 374 (2 : Int32)).bind fun v22 => (wI w21 1 374 (2 : Int32) (v22 + (v9.1 - (1 : Int32)))).bind fun M23 => (fX11_counts (7 : Int32) v9.1 M23).bind fun v24 => some (v9.1, v24)
set_option maxRecDepth 20000 in
theorem tX11_cuts {X : gX} {V : gEnv} {x1 : Int32} {M0 : gMem}  {o : (Int32 × gMem)} (h : fX11_cuts x1 M0 = some o) (O : gO X V mX11_cuts gShM (some .int) (some (.int o.1)) o.2) : gG X V mX11_cuts gShM M0 0 0 0 [(0, .ref (gAd V 0)), (1, .int x1)] [] := by
  unfold fX11_cuts at h
  refine g_aload_n 0 rfl rfl dX11_cuts_0 ?_
  refine g_iload_n 1 rfl rfl dX11_cuts_1 ?_
  obtain ⟨v1, ev1, h⟩ := g_bnd h
  refine g_callV LX11_97 sM_0 rfl (kX11_isInner ev1) rfl rfl (Nat.le_of_ble_eq_true rfl) ⟨Nat.le_of_ble_eq_true rfl, Nat.le_of_ble_eq_true rfl⟩ ⟨Nat.le_of_ble_eq_true rfl, Nat.le_of_ble_eq_true rfl⟩ dX11_cuts_2 rfl ?_
  refine g_istore_n (ls' := [(2, .int v1), (0, .ref (gAd V 0)), (1, .int x1)]) rfl (Nat.le_of_ble_eq_true rfl) rfl dX11_cuts_5 ?_
  refine g_aload_n 1 rfl rfl dX11_cuts_6 ?_
  refine g_aload_n 1 rfl rfl dX11_cuts_7 ?_
  refine g_getR FX11_9 sM_0 rfl dX11_cuts_8 ?_
  refine g_bipush (v := 38) rfl dX11_cuts_11 ?_
  refine g_iload_n 2 rfl rfl dX11_cuts_13 ?_
  refine g_iadd dX11_cuts_14 ?_
  obtain ⟨v2, ev2, h⟩ := g_bnd h
  refine g_iald' ev2 sM_1 dX11_cuts_15 ?_
  refine g_iconst (v := 1) rfl dX11_cuts_16 ?_
  obtain ⟨v3, ev3, h⟩ := g_bnd h
  refine g_callV LX11_82 sM_0 rfl (kX11_of ev3) rfl rfl (Nat.le_of_ble_eq_true rfl) ⟨Nat.le_of_ble_eq_true rfl, Nat.le_of_ble_eq_true rfl⟩ ⟨Nat.le_of_ble_eq_true rfl, Nat.le_of_ble_eq_true rfl⟩ dX11_cuts_17 rfl ?_
  refine g_istore_n (ls' := [(3, .int v3), (2, .int v1), (0, .ref (gAd V 0)), (1, .int x1)]) rfl (Nat.le_of_ble_eq_true rfl) rfl dX11_cuts_20 ?_
  refine g_aload_n 2 rfl rfl dX11_cuts_21 ?_
  refine g_iload_n 3 rfl rfl dX11_cuts_22 ?_
  obtain ⟨v4, ev4, h⟩ := g_bnd h
  refine g_callV LX11_197 sM_0 rfl (kX11_takesAway ev4) rfl rfl (Nat.le_of_ble_eq_true rfl) ⟨Nat.le_of_ble_eq_true rfl, Nat.le_of_ble_eq_true rfl⟩ ⟨Nat.le_of_ble_eq_true rfl, Nat.le_of_ble_eq_true rfl⟩ dX11_cuts_23 rfl ?_
  refine g_aload_n 2 rfl rfl dX11_cuts_26 ?_
  refine g_iconst (v := 1) rfl dX11_cuts_27 ?_
  refine g_iconst (v := 1) rfl dX11_cuts_28 ?_
  obtain ⟨v5, ev5, h⟩ := g_bnd h
  refine g_callV LX11_185 sM_0 rfl (kX11_counts ev5) rfl rfl (Nat.le_of_ble_eq_true rfl) ⟨Nat.le_of_ble_eq_true rfl, Nat.le_of_ble_eq_true rfl⟩ ⟨Nat.le_of_ble_eq_true rfl, Nat.le_of_ble_eq_true rfl⟩ dX11_cuts_29 rfl ?_
  refine g_iload_n 1 rfl rfl dX11_cuts_32 ?_
  rcases g_ite h with ⟨c6, h⟩ | ⟨c6, h⟩
  · refine g_if_ne_f c6 (tgt := 38) rfl dX11_cuts_33 ?_
    refine g_iconst (v := 0) rfl dX11_cuts_36 ?_
    cases h
    exact g_iret O ⟨Nat.le_of_ble_eq_true rfl, Nat.le_of_ble_eq_true rfl⟩ rfl dX11_cuts_37
  · refine g_if_ne_t c6 (tgt := 38) rfl dX11_cuts_33 ?_
    refine g_aload_n 2 rfl rfl dX11_cuts_38 ?_
    refine g_iload_n 0 rfl rfl dX11_cuts_39 ?_
    obtain ⟨v7, ev7, h⟩ := g_bnd h
    refine g_callV LX11_86 sM_0 rfl (kX11_placeOfHead ev7) rfl rfl (Nat.le_of_ble_eq_true rfl) ⟨Nat.le_of_ble_eq_true rfl, Nat.le_of_ble_eq_true rfl⟩ ⟨Nat.le_of_ble_eq_true rfl, Nat.le_of_ble_eq_true rfl⟩ dX11_cuts_40 rfl ?_
    refine g_istore (ls' := [(4, .int v7), (3, .int v3), (2, .int v1), (0, .ref (gAd V 0)), (1, .int x1)]) (Nat.le_of_ble_eq_true rfl) rfl dX11_cuts_43 ?_
    refine g_aload_n 3 rfl rfl dX11_cuts_45 ?_
    refine g_aload_n 3 rfl rfl dX11_cuts_46 ?_
    refine g_iload_n 1 rfl rfl dX11_cuts_47 ?_
    obtain ⟨v8, ev8, h⟩ := g_bnd h
    refine g_callV LX11_90 sM_0 rfl (kX11_members ev8) rfl rfl (Nat.le_of_ble_eq_true rfl) ⟨Nat.le_of_ble_eq_true rfl, Nat.le_of_ble_eq_true rfl⟩ ⟨Nat.le_of_ble_eq_true rfl, Nat.le_of_ble_eq_true rfl⟩ dX11_cuts_48 rfl ?_
    obtain ⟨v9, ev9, h⟩ := g_bnd h
    refine g_callV LX11_200 sM_0 rfl (kX11_laysGroups ev9) rfl rfl (Nat.le_of_ble_eq_true rfl) ⟨Nat.le_of_ble_eq_true rfl, Nat.le_of_ble_eq_true rfl⟩ ⟨Nat.le_of_ble_eq_true rfl, Nat.le_of_ble_eq_true rfl⟩ dX11_cuts_51 rfl ?_
    refine g_istore (ls' := [(5, .int v9.1), (4, .int v7), (3, .int v3), (2, .int v1), (0, .ref (gAd V 0)), (1, .int x1)]) (Nat.le_of_ble_eq_true rfl) rfl dX11_cuts_54 ?_
    refine g_iload 0 rfl dX11_cuts_56 ?_
    refine g_iconst (v := 1) rfl dX11_cuts_58 ?_
    rcases g_ite h with ⟨c10, h⟩ | ⟨c10, h⟩
    · refine g_icmp_ne_f c10 (tgt := 64) rfl dX11_cuts_59 ?_
      refine g_iconst (v := 1) rfl dX11_cuts_62 ?_
      cases h
      exact g_iret O ⟨Nat.le_of_ble_eq_true rfl, Nat.le_of_ble_eq_true rfl⟩ rfl dX11_cuts_63
    · refine g_icmp_ne_t c10 (tgt := 64) rfl dX11_cuts_59 ?_
      refine g_aload_n 4 rfl rfl dX11_cuts_64 ?_
      refine g_iload 0 rfl dX11_cuts_65 ?_
      obtain ⟨v11, ev11, h⟩ := g_bnd h
      refine g_callV LX11_203 sM_0 rfl (kX11_sortsHeads ev11) rfl rfl (Nat.le_of_ble_eq_true rfl) ⟨Nat.le_of_ble_eq_true rfl, Nat.le_of_ble_eq_true rfl⟩ ⟨Nat.le_of_ble_eq_true rfl, Nat.le_of_ble_eq_true rfl⟩ dX11_cuts_67 rfl ?_
      refine g_aload_n 4 rfl rfl dX11_cuts_70 ?_
      refine g_getR FX11_9 sM_0 rfl dX11_cuts_71 ?_
      refine g_iconst (v := 2) rfl dX11_cuts_74 ?_
      obtain ⟨v12, ev12, h⟩ := g_bnd h
      refine g_iald' ev12 sM_1 dX11_cuts_75 ?_
      refine g_iconst (v := 1) rfl dX11_cuts_76 ?_
      refine g_isub dX11_cuts_77 ?_
      obtain ⟨v13, ev13, h⟩ := g_bnd h
      refine g_nmI ev13 ?_
      refine g_istore (ls' := [(6, .int v13), (5, .int v9.1), (4, .int v7), (3, .int v3), (2, .int v1), (0, .ref (gAd V 0)), (1, .int x1)]) (Nat.le_of_ble_eq_true rfl) rfl dX11_cuts_78 ?_
      obtain ⟨w17, ew17, h⟩ := g_bnd h
      refine g_sub [5, 2, 1, 0] rfl ?_
      have KX : gG X V mX11_cuts gShM w17 0 0 118 [(0, .ref (gAd V 0)), (4, .int v7), (5, .int v9.1)] [] := by
        refine g_iconst (v := 0) rfl dX11_cuts_118 ?_
        refine g_istore (ls' := [(6, .int (0 : Int32)), (0, .ref (gAd V 0)), (4, .int v7), (5, .int v9.1)]) (Nat.le_of_ble_eq_true rfl) rfl dX11_cuts_119 ?_
        obtain ⟨w21, ew21, h⟩ := g_bnd h
        refine g_sub [1, 2, 3, 0] rfl ?_
        have KX : gG X V mX11_cuts gShM w21 0 0 154 [(0, .ref (gAd V 0)), (5, .int v9.1)] [] := by
          refine g_aload_n 0 rfl rfl dX11_cuts_154 ?_
          refine g_getR FX11_9 sM_0 rfl dX11_cuts_155 ?_
          refine g_iconst (v := 2) rfl dX11_cuts_158 ?_
          refine g_dup2 rfl rfl dX11_cuts_159 ?_
          obtain ⟨v22, ev22, h⟩ := g_bnd h
          refine g_iald' ev22 sM_1 dX11_cuts_160 ?_
          refine g_iload 1 rfl dX11_cuts_161 ?_
          refine g_iconst (v := 1) rfl dX11_cuts_163 ?_
          refine g_isub dX11_cuts_164 ?_
          refine g_iadd dX11_cuts_165 ?_
          obtain ⟨M23, eM23, h⟩ := g_bnd h
          refine g_iast' eM23 sM_1 dX11_cuts_166 ?_
          refine g_aload_n 0 rfl rfl dX11_cuts_167 ?_
          refine g_bipush (v := 7) rfl dX11_cuts_168 ?_
          refine g_iload 1 rfl dX11_cuts_170 ?_
          obtain ⟨v24, ev24, h⟩ := g_bnd h
          refine g_callV LX11_185 sM_0 rfl (kX11_counts ev24) rfl rfl (Nat.le_of_ble_eq_true rfl) ⟨Nat.le_of_ble_eq_true rfl, Nat.le_of_ble_eq_true rfl⟩ ⟨Nat.le_of_ble_eq_true rfl, Nat.le_of_ble_eq_true rfl⟩ dX11_cuts_172 rfl ?_
          refine g_iload 1 rfl dX11_cuts_175 ?_
          cases h
          exact g_iret O ⟨Nat.le_of_ble_eq_true rfl, Nat.le_of_ble_eq_true rfl⟩ rfl dX11_cuts_177
        exact gLoop_Q ew21 (fun z9 => gG X V mX11_cuts gShM z9.2 0 0 121 [(0, .ref (gAd V 0)), (4, .int v7), (5, .int v9.1), (6, .int z9.1)] []) (fun s9 o9 hb9 hc9 hx9 => tX11_cuts_l121  hb9 hc9 (fun e9 he9 => by cases hx9 _ he9; exact KX))
      exact gLoop_Q ew17 (fun z9 => gG X V mX11_cuts gShM z9.2 0 0 80 [(0, .ref (gAd V 0)), (4, .int v7), (5, .int v9.1), (6, .int z9.1)] []) (fun s9 o9 hb9 hc9 hx9 => tX11_cuts_l80  hb9 hc9 (fun e9 he9 => by cases hx9 _ he9; exact KX))
theorem kX11_cuts {l : Launch} {V : gEnv} {M0 : gMem} {x1 : Int32}  {o : (Int32 × gMem)} (h : fX11_cuts x1 M0 = some o) : gM l yX11_cuts cX11_cuts 7 (some .int) rX11_cuts V gShM [.ref (gAd V 0), .int x1] M0 (some (.int o.1)) o.2 :=
  gM.of (by decide) (Nat.le_of_ble_eq_true rfl) rfl (fun X _ O => tX11_cuts  h O)
theorem dX11_swaps_0 : decode cX11_swaps 0 = .ok (.aload_n 0, 1) := by decide +kernel
theorem dX11_swaps_1 : decode cX11_swaps 1 = .ok (.getfield 9, 3) := by decide +kernel
theorem dX11_swaps_4 : decode cX11_swaps 4 = .ok (.bipush 14, 2) := by decide +kernel
theorem dX11_swaps_6 : decode cX11_swaps 6 = .ok (.iload_n 1, 1) := by decide +kernel
theorem dX11_swaps_7 : decode cX11_swaps 7 = .ok (.iadd, 1) := by decide +kernel
theorem dX11_swaps_8 : decode cX11_swaps 8 = .ok (.iaload, 1) := by decide +kernel
theorem dX11_swaps_9 : decode cX11_swaps 9 = .ok (.istore_n 2, 1) := by decide +kernel
theorem dX11_swaps_10 : decode cX11_swaps 10 = .ok (.aload_n 0, 1) := by decide +kernel
theorem dX11_swaps_11 : decode cX11_swaps 11 = .ok (.getfield 9, 3) := by decide +kernel
theorem dX11_swaps_14 : decode cX11_swaps 14 = .ok (.bipush 14, 2) := by decide +kernel
theorem dX11_swaps_16 : decode cX11_swaps 16 = .ok (.iload_n 1, 1) := by decide +kernel
theorem dX11_swaps_17 : decode cX11_swaps 17 = .ok (.iadd, 1) := by decide +kernel
theorem dX11_swaps_18 : decode cX11_swaps 18 = .ok (.iconst 1, 1) := by decide +kernel
theorem dX11_swaps_19 : decode cX11_swaps 19 = .ok (.iadd, 1) := by decide +kernel
theorem dX11_swaps_20 : decode cX11_swaps 20 = .ok (.iaload, 1) := by decide +kernel
theorem dX11_swaps_21 : decode cX11_swaps 21 = .ok (.istore_n 3, 1) := by decide +kernel
theorem dX11_swaps_22 : decode cX11_swaps 22 = .ok (.aload_n 0, 1) := by decide +kernel
theorem dX11_swaps_23 : decode cX11_swaps 23 = .ok (.aload_n 0, 1) := by decide +kernel
theorem dX11_swaps_24 : decode cX11_swaps 24 = .ok (.iload_n 2, 1) := by decide +kernel
theorem dX11_swaps_25 : decode cX11_swaps 25 = .ok (.invokevirtual 90, 3) := by decide +kernel
theorem dX11_swaps_28 : decode cX11_swaps 28 = .ok (.aload_n 0, 1) := by decide +kernel
theorem dX11_swaps_29 : decode cX11_swaps 29 = .ok (.iload_n 3, 1) := by decide +kernel
theorem dX11_swaps_30 : decode cX11_swaps 30 = .ok (.invokevirtual 90, 3) := by decide +kernel
theorem dX11_swaps_33 : decode cX11_swaps 33 = .ok (.invokevirtual 194, 3) := by decide +kernel
theorem dX11_swaps_36 : decode cX11_swaps 36 = .ok (.ifCond .eq 6, 3) := by decide +kernel
theorem dX11_swaps_39 : decode cX11_swaps 39 = .ok (.bipush (-5), 2) := by decide +kernel
theorem dX11_swaps_41 : decode cX11_swaps 41 = .ok (.ireturn, 1) := by decide +kernel
theorem dX11_swaps_42 : decode cX11_swaps 42 = .ok (.aload_n 0, 1) := by decide +kernel
theorem dX11_swaps_43 : decode cX11_swaps 43 = .ok (.getfield 9, 3) := by decide +kernel
theorem dX11_swaps_46 : decode cX11_swaps 46 = .ok (.bipush 14, 2) := by decide +kernel
theorem dX11_swaps_48 : decode cX11_swaps 48 = .ok (.iload_n 1, 1) := by decide +kernel
theorem dX11_swaps_49 : decode cX11_swaps 49 = .ok (.iadd, 1) := by decide +kernel
theorem dX11_swaps_50 : decode cX11_swaps 50 = .ok (.iload_n 3, 1) := by decide +kernel
theorem dX11_swaps_51 : decode cX11_swaps 51 = .ok (.iastore, 1) := by decide +kernel
theorem dX11_swaps_52 : decode cX11_swaps 52 = .ok (.aload_n 0, 1) := by decide +kernel
theorem dX11_swaps_53 : decode cX11_swaps 53 = .ok (.getfield 9, 3) := by decide +kernel
theorem dX11_swaps_56 : decode cX11_swaps 56 = .ok (.bipush 14, 2) := by decide +kernel
theorem dX11_swaps_58 : decode cX11_swaps 58 = .ok (.iload_n 1, 1) := by decide +kernel
theorem dX11_swaps_59 : decode cX11_swaps 59 = .ok (.iadd, 1) := by decide +kernel
theorem dX11_swaps_60 : decode cX11_swaps 60 = .ok (.iconst 1, 1) := by decide +kernel
theorem dX11_swaps_61 : decode cX11_swaps 61 = .ok (.iadd, 1) := by decide +kernel
theorem dX11_swaps_62 : decode cX11_swaps 62 = .ok (.iload_n 2, 1) := by decide +kernel
theorem dX11_swaps_63 : decode cX11_swaps 63 = .ok (.iastore, 1) := by decide +kernel
theorem dX11_swaps_64 : decode cX11_swaps 64 = .ok (.aload_n 0, 1) := by decide +kernel
theorem dX11_swaps_65 : decode cX11_swaps 65 = .ok (.bipush 8, 2) := by decide +kernel
theorem dX11_swaps_67 : decode cX11_swaps 67 = .ok (.iconst 1, 1) := by decide +kernel
theorem dX11_swaps_68 : decode cX11_swaps 68 = .ok (.invokevirtual 185, 3) := by decide +kernel
theorem dX11_swaps_71 : decode cX11_swaps 71 = .ok (.iload_n 3, 1) := by decide +kernel
theorem dX11_swaps_72 : decode cX11_swaps 72 = .ok (.ireturn, 1) := by decide +kernel
abbrev rX11_swaps : Room := { frames := 2, cells := 0, slots := 0, locals := 45 }
abbrev mX11_swaps : gY := (cX11_swaps, RX11, 4, rX11_swaps)
def fX11_swaps (x1 : Int32) (M0 : gMem) : Option (Int32 × gMem) :=
  (rI M0 1 374 ((14 : Int32) + x1)).bind fun v1 => (rI M0 1 374 (((14 : Int32) + x1) + (1 : Int32))).bind fun v2 => (fX11_members v1 M0).bind fun v3 => (fX11_members v2 M0).bind fun v4 => (fX11_leads v3 v4 M0).bind fun v5 => if v5 = 0 then ((wI M0 1 374 ((14 : Int32) + x1) v2).bind fun M7 => (wI M7 1 374 (((14 : Int32) + x1) + (1 : Int32)) v1).bind fun M8 => (fX11_counts (8 : Int32) (1 : Int32) M8).bind fun v9 => some (v2, v9)) else some ((-5 : Int32), M0)
set_option maxRecDepth 20000 in
theorem tX11_swaps {X : gX} {V : gEnv} {x1 : Int32} {M0 : gMem}  {o : (Int32 × gMem)} (h : fX11_swaps x1 M0 = some o) (O : gO X V mX11_swaps gShM (some .int) (some (.int o.1)) o.2) : gG X V mX11_swaps gShM M0 0 0 0 [(0, .ref (gAd V 0)), (1, .int x1)] [] := by
  unfold fX11_swaps at h
  refine g_aload_n 0 rfl rfl dX11_swaps_0 ?_
  refine g_getR FX11_9 sM_0 rfl dX11_swaps_1 ?_
  refine g_bipush (v := 14) rfl dX11_swaps_4 ?_
  refine g_iload_n 1 rfl rfl dX11_swaps_6 ?_
  refine g_iadd dX11_swaps_7 ?_
  obtain ⟨v1, ev1, h⟩ := g_bnd h
  refine g_iald' ev1 sM_1 dX11_swaps_8 ?_
  refine g_istore_n (ls' := [(2, .int v1), (0, .ref (gAd V 0)), (1, .int x1)]) rfl (Nat.le_of_ble_eq_true rfl) rfl dX11_swaps_9 ?_
  refine g_aload_n 1 rfl rfl dX11_swaps_10 ?_
  refine g_getR FX11_9 sM_0 rfl dX11_swaps_11 ?_
  refine g_bipush (v := 14) rfl dX11_swaps_14 ?_
  refine g_iload_n 2 rfl rfl dX11_swaps_16 ?_
  refine g_iadd dX11_swaps_17 ?_
  refine g_iconst (v := 1) rfl dX11_swaps_18 ?_
  refine g_iadd dX11_swaps_19 ?_
  obtain ⟨v2, ev2, h⟩ := g_bnd h
  refine g_iald' ev2 sM_1 dX11_swaps_20 ?_
  refine g_istore_n (ls' := [(3, .int v2), (2, .int v1), (0, .ref (gAd V 0)), (1, .int x1)]) rfl (Nat.le_of_ble_eq_true rfl) rfl dX11_swaps_21 ?_
  refine g_aload_n 2 rfl rfl dX11_swaps_22 ?_
  refine g_aload_n 2 rfl rfl dX11_swaps_23 ?_
  refine g_iload_n 1 rfl rfl dX11_swaps_24 ?_
  obtain ⟨v3, ev3, h⟩ := g_bnd h
  refine g_callV LX11_90 sM_0 rfl (kX11_members ev3) rfl rfl (Nat.le_of_ble_eq_true rfl) ⟨Nat.le_of_ble_eq_true rfl, Nat.le_of_ble_eq_true rfl⟩ ⟨Nat.le_of_ble_eq_true rfl, Nat.le_of_ble_eq_true rfl⟩ dX11_swaps_25 rfl ?_
  refine g_aload_n 2 rfl rfl dX11_swaps_28 ?_
  refine g_iload_n 0 rfl rfl dX11_swaps_29 ?_
  obtain ⟨v4, ev4, h⟩ := g_bnd h
  refine g_callV LX11_90 sM_0 rfl (kX11_members ev4) rfl rfl (Nat.le_of_ble_eq_true rfl) ⟨Nat.le_of_ble_eq_true rfl, Nat.le_of_ble_eq_true rfl⟩ ⟨Nat.le_of_ble_eq_true rfl, Nat.le_of_ble_eq_true rfl⟩ dX11_swaps_30 rfl ?_
  obtain ⟨v5, ev5, h⟩ := g_bnd h
  refine g_callV LX11_194 sM_0 rfl (kX11_leads ev5) rfl rfl (Nat.le_of_ble_eq_true rfl) ⟨Nat.le_of_ble_eq_true rfl, Nat.le_of_ble_eq_true rfl⟩ ⟨Nat.le_of_ble_eq_true rfl, Nat.le_of_ble_eq_true rfl⟩ dX11_swaps_33 rfl ?_
  rcases g_ite h with ⟨c6, h⟩ | ⟨c6, h⟩
  · refine g_if_eq_t c6 (tgt := 42) rfl dX11_swaps_36 ?_
    refine g_aload_n 2 rfl rfl dX11_swaps_42 ?_
    refine g_getR FX11_9 sM_0 rfl dX11_swaps_43 ?_
    refine g_bipush (v := 14) rfl dX11_swaps_46 ?_
    refine g_iload_n 3 rfl rfl dX11_swaps_48 ?_
    refine g_iadd dX11_swaps_49 ?_
    refine g_iload_n 0 rfl rfl dX11_swaps_50 ?_
    obtain ⟨M7, eM7, h⟩ := g_bnd h
    refine g_iast' eM7 sM_1 dX11_swaps_51 ?_
    refine g_aload_n 2 rfl rfl dX11_swaps_52 ?_
    refine g_getR FX11_9 sM_0 rfl dX11_swaps_53 ?_
    refine g_bipush (v := 14) rfl dX11_swaps_56 ?_
    refine g_iload_n 3 rfl rfl dX11_swaps_58 ?_
    refine g_iadd dX11_swaps_59 ?_
    refine g_iconst (v := 1) rfl dX11_swaps_60 ?_
    refine g_iadd dX11_swaps_61 ?_
    refine g_iload_n 1 rfl rfl dX11_swaps_62 ?_
    obtain ⟨M8, eM8, h⟩ := g_bnd h
    refine g_iast' eM8 sM_1 dX11_swaps_63 ?_
    refine g_aload_n 2 rfl rfl dX11_swaps_64 ?_
    refine g_bipush (v := 8) rfl dX11_swaps_65 ?_
    refine g_iconst (v := 1) rfl dX11_swaps_67 ?_
    obtain ⟨v9, ev9, h⟩ := g_bnd h
    refine g_callV LX11_185 sM_0 rfl (kX11_counts ev9) rfl rfl (Nat.le_of_ble_eq_true rfl) ⟨Nat.le_of_ble_eq_true rfl, Nat.le_of_ble_eq_true rfl⟩ ⟨Nat.le_of_ble_eq_true rfl, Nat.le_of_ble_eq_true rfl⟩ dX11_swaps_68 rfl ?_
    refine g_iload_n 0 rfl rfl dX11_swaps_71 ?_
    cases h
    exact g_iret O ⟨Nat.le_of_ble_eq_true rfl, Nat.le_of_ble_eq_true rfl⟩ rfl dX11_swaps_72
  · refine g_if_eq_f c6 (tgt := 42) rfl dX11_swaps_36 ?_
    refine g_bipush (v := -5) rfl dX11_swaps_39 ?_
    cases h
    exact g_iret O ⟨Nat.le_of_ble_eq_true rfl, Nat.le_of_ble_eq_true rfl⟩ rfl dX11_swaps_41
theorem kX11_swaps {l : Launch} {V : gEnv} {M0 : gMem} {x1 : Int32}  {o : (Int32 × gMem)} (h : fX11_swaps x1 M0 = some o) : gM l yX11_swaps cX11_swaps 4 (some .int) rX11_swaps V gShM [.ref (gAd V 0), .int x1] M0 (some (.int o.1)) o.2 :=
  gM.of (by decide) (Nat.le_of_ble_eq_true rfl) rfl (fun X _ O => tX11_swaps  h O)
theorem dX11_becomes_0 : decode cX11_becomes 0 = .ok (.aload_n 0, 1) := by decide +kernel
theorem dX11_becomes_1 : decode cX11_becomes 1 = .ok (.getfield 9, 3) := by decide +kernel
theorem dX11_becomes_4 : decode cX11_becomes 4 = .ok (.iload_n 1, 1) := by decide +kernel
theorem dX11_becomes_5 : decode cX11_becomes 5 = .ok (.iaload, 1) := by decide +kernel
theorem dX11_becomes_6 : decode cX11_becomes 6 = .ok (.istore_n 3, 1) := by decide +kernel
theorem dX11_becomes_7 : decode cX11_becomes 7 = .ok (.aload_n 0, 1) := by decide +kernel
theorem dX11_becomes_8 : decode cX11_becomes 8 = .ok (.getfield 9, 3) := by decide +kernel
theorem dX11_becomes_11 : decode cX11_becomes 11 = .ok (.iload_n 1, 1) := by decide +kernel
theorem dX11_becomes_12 : decode cX11_becomes 12 = .ok (.iload_n 2, 1) := by decide +kernel
theorem dX11_becomes_13 : decode cX11_becomes 13 = .ok (.iastore, 1) := by decide +kernel
theorem dX11_becomes_14 : decode cX11_becomes 14 = .ok (.iload_n 3, 1) := by decide +kernel
theorem dX11_becomes_15 : decode cX11_becomes 15 = .ok (.ireturn, 1) := by decide +kernel
abbrev rX11_becomes : Room := { frames := 0, cells := 0, slots := 0, locals := 0 }
abbrev mX11_becomes : gY := (cX11_becomes, RX11, 4, rX11_becomes)
def fX11_becomes (x1 : Int32) (x2 : Int32) (M0 : gMem) : Option (Int32 × gMem) :=
  (rI M0 1 374 x1).bind fun v1 => (wI M0 1 374 x1 x2).bind fun M2 => some (v1, M2)
set_option maxRecDepth 20000 in
theorem tX11_becomes {X : gX} {V : gEnv} {x1 : Int32} {x2 : Int32} {M0 : gMem}  {o : (Int32 × gMem)} (h : fX11_becomes x1 x2 M0 = some o) (O : gO X V mX11_becomes gShM (some .int) (some (.int o.1)) o.2) : gG X V mX11_becomes gShM M0 0 0 0 [(0, .ref (gAd V 0)), (1, .int x1), (2, .int x2)] [] := by
  unfold fX11_becomes at h
  refine g_aload_n 0 rfl rfl dX11_becomes_0 ?_
  refine g_getR FX11_9 sM_0 rfl dX11_becomes_1 ?_
  refine g_iload_n 1 rfl rfl dX11_becomes_4 ?_
  obtain ⟨v1, ev1, h⟩ := g_bnd h
  refine g_iald' ev1 sM_1 dX11_becomes_5 ?_
  refine g_istore_n (ls' := [(3, .int v1), (0, .ref (gAd V 0)), (1, .int x1), (2, .int x2)]) rfl (Nat.le_of_ble_eq_true rfl) rfl dX11_becomes_6 ?_
  refine g_aload_n 1 rfl rfl dX11_becomes_7 ?_
  refine g_getR FX11_9 sM_0 rfl dX11_becomes_8 ?_
  refine g_iload_n 2 rfl rfl dX11_becomes_11 ?_
  refine g_iload_n 3 rfl rfl dX11_becomes_12 ?_
  obtain ⟨M2, eM2, h⟩ := g_bnd h
  refine g_iast' eM2 sM_1 dX11_becomes_13 ?_
  refine g_iload_n 0 rfl rfl dX11_becomes_14 ?_
  cases h
  exact g_iret O ⟨Nat.le_of_ble_eq_true rfl, Nat.le_of_ble_eq_true rfl⟩ rfl dX11_becomes_15
theorem kX11_becomes {l : Launch} {V : gEnv} {M0 : gMem} {x1 : Int32} {x2 : Int32}  {o : (Int32 × gMem)} (h : fX11_becomes x1 x2 M0 = some o) : gM l yX11_becomes cX11_becomes 4 (some .int) rX11_becomes V gShM [.ref (gAd V 0), .int x1, .int x2] M0 (some (.int o.1)) o.2 :=
  gM.of (by decide) (Nat.le_of_ble_eq_true rfl) rfl (fun X _ O => tX11_becomes  h O)
