/-! METHODS, by program: pure functions and contracts -/
theorem dX11_bestMode_0 : decode cX11_bestMode 0 = .ok (.aload_n 0, 1) := by decide +kernel
theorem dX11_bestMode_1 : decode cX11_bestMode 1 = .ok (.iload_n 1, 1) := by decide +kernel
theorem dX11_bestMode_2 : decode cX11_bestMode 2 = .ok (.iload_n 2, 1) := by decide +kernel
theorem dX11_bestMode_3 : decode cX11_bestMode 3 = .ok (.invokevirtual 424, 3) := by decide +kernel
theorem dX11_bestMode_6 : decode cX11_bestMode 6 = .ok (.ifCond .eq 5, 3) := by decide +kernel
theorem dX11_bestMode_9 : decode cX11_bestMode 9 = .ok (.iconst 0, 1) := by decide +kernel
theorem dX11_bestMode_10 : decode cX11_bestMode 10 = .ok (.ireturn, 1) := by decide +kernel
theorem dX11_bestMode_11 : decode cX11_bestMode 11 = .ok (.iconst (-1), 1) := by decide +kernel
theorem dX11_bestMode_12 : decode cX11_bestMode 12 = .ok (.istore_n 3, 1) := by decide +kernel
theorem dX11_bestMode_13 : decode cX11_bestMode 13 = .ok (.sipush 1000, 3) := by decide +kernel
theorem dX11_bestMode_16 : decode cX11_bestMode 16 = .ok (.istore 4, 2) := by decide +kernel
theorem dX11_bestMode_18 : decode cX11_bestMode 18 = .ok (.iconst 0, 1) := by decide +kernel
theorem dX11_bestMode_19 : decode cX11_bestMode 19 = .ok (.istore 5, 2) := by decide +kernel
theorem dX11_bestMode_21 : decode cX11_bestMode 21 = .ok (.iload 5, 2) := by decide +kernel
theorem dX11_bestMode_23 : decode cX11_bestMode 23 = .ok (.iconst 3, 1) := by decide +kernel
theorem dX11_bestMode_24 : decode cX11_bestMode 24 = .ok (.if_icmp .ge 38, 3) := by decide +kernel
theorem dX11_bestMode_27 : decode cX11_bestMode 27 = .ok (.aload_n 0, 1) := by decide +kernel
theorem dX11_bestMode_28 : decode cX11_bestMode 28 = .ok (.iload_n 1, 1) := by decide +kernel
theorem dX11_bestMode_29 : decode cX11_bestMode 29 = .ok (.iload_n 2, 1) := by decide +kernel
theorem dX11_bestMode_30 : decode cX11_bestMode 30 = .ok (.iload 5, 2) := by decide +kernel
theorem dX11_bestMode_32 : decode cX11_bestMode 32 = .ok (.invokevirtual 433, 3) := by decide +kernel
theorem dX11_bestMode_35 : decode cX11_bestMode 35 = .ok (.istore 6, 2) := by decide +kernel
theorem dX11_bestMode_37 : decode cX11_bestMode 37 = .ok (.iload 6, 2) := by decide +kernel
theorem dX11_bestMode_39 : decode cX11_bestMode 39 = .ok (.ifCond .lt 17, 3) := by decide +kernel
theorem dX11_bestMode_42 : decode cX11_bestMode 42 = .ok (.iload 6, 2) := by decide +kernel
theorem dX11_bestMode_44 : decode cX11_bestMode 44 = .ok (.iload 4, 2) := by decide +kernel
theorem dX11_bestMode_46 : decode cX11_bestMode 46 = .ok (.if_icmp .ge 10, 3) := by decide +kernel
theorem dX11_bestMode_49 : decode cX11_bestMode 49 = .ok (.iload 5, 2) := by decide +kernel
theorem dX11_bestMode_51 : decode cX11_bestMode 51 = .ok (.istore_n 3, 1) := by decide +kernel
theorem dX11_bestMode_52 : decode cX11_bestMode 52 = .ok (.iload 6, 2) := by decide +kernel
theorem dX11_bestMode_54 : decode cX11_bestMode 54 = .ok (.istore 4, 2) := by decide +kernel
theorem dX11_bestMode_56 : decode cX11_bestMode 56 = .ok (.iinc 5 1, 3) := by decide +kernel
theorem dX11_bestMode_59 : decode cX11_bestMode 59 = .ok (.goto (-38), 3) := by decide +kernel
theorem dX11_bestMode_62 : decode cX11_bestMode 62 = .ok (.iload_n 3, 1) := by decide +kernel
theorem dX11_bestMode_63 : decode cX11_bestMode 63 = .ok (.ireturn, 1) := by decide +kernel
abbrev rX11_bestMode : Room := { frames := 8, cells := 0, slots := 0, locals := 185 }
abbrev mX11_bestMode : gY := (cX11_bestMode, RX11, 7, rX11_bestMode)
def fX11_bestMode_b56 (x1 : Int32) (x2 : Int32) (x3 : Int32) (x4 : Int32) (x5 : Int32) (M0 : gMem) : Option ((Int32 × Int32 × Int32 × gMem) ⊕ (Int32 × gMem)) :=
  some (.inl (x3, x4, x5 + (1 : Int32), M0))
set_option maxRecDepth 20000 in
theorem tX11_bestMode_b56 {X : gX} {V : gEnv} {x1 : Int32} {x2 : Int32} {x3 : Int32} {x4 : Int32} {x5 : Int32} {M0 : gMem}  {o : ((Int32 × Int32 × Int32 × gMem) ⊕ (Int32 × gMem))} (h : fX11_bestMode_b56 x1 x2 x3 x4 x5 M0 = some o) (Kc : ∀ s9, o = .inl s9 → gG X V mX11_bestMode gShM s9.2.2.2 0 0 21 [(0, .ref (gAd V 0)), (1, .int x1), (2, .int x2), (3, .int s9.1), (4, .int s9.2.1), (5, .int s9.2.2.1)] []) (Kx : ∀ e9, o = .inr e9 → gG X V mX11_bestMode gShM e9.2 0 0 62 [(3, .int e9.1)] []) : gG X V mX11_bestMode gShM M0 0 0 56 [(0, .ref (gAd V 0)), (1, .int x1), (2, .int x2), (3, .int x3), (4, .int x4), (5, .int x5)] [] := by
  unfold fX11_bestMode_b56 at h
  refine g_iinc (j := 5) (v := x5 + (1 : Int32)) (ls' := [(5, .int (x5 + (1 : Int32))), (0, .ref (gAd V 0)), (1, .int x1), (2, .int x2), (3, .int x3), (4, .int x4)]) rfl rfl (Nat.le_of_ble_eq_true rfl) rfl dX11_bestMode_56 ?_
  refine g_goto (tgt := 21) rfl dX11_bestMode_59 ?_
  cases h
  refine g_sub [1, 2, 3, 4, 5, 0] rfl ?_
  exact Kc (x3, x4, x5 + (1 : Int32), M0) rfl
def fX11_bestMode_l21 (x1 : Int32) (x2 : Int32) (x3 : Int32) (x4 : Int32) (x5 : Int32) (M0 : gMem) : Option ((Int32 × Int32 × Int32 × gMem) ⊕ (Int32 × gMem)) :=
  if (3 : Int32) ≤ x5 then (some (.inr (x3, M0))) else (fX11_wouldMove x1 x2 x5 M0).bind fun v4 => if v4.1 < 0 then (fX11_bestMode_b56 x1 x2 x3 x4 x5 v4.2) else if x4 ≤ v4.1 then (fX11_bestMode_b56 x1 x2 x3 x4 x5 v4.2) else fX11_bestMode_b56 x1 x2 x5 v4.1 x5 v4.2
set_option maxRecDepth 20000 in
theorem tX11_bestMode_l21 {X : gX} {V : gEnv} {x1 : Int32} {x2 : Int32} {x3 : Int32} {x4 : Int32} {x5 : Int32} {M0 : gMem}  {o : ((Int32 × Int32 × Int32 × gMem) ⊕ (Int32 × gMem))} (h : fX11_bestMode_l21 x1 x2 x3 x4 x5 M0 = some o) (Kc : ∀ s9, o = .inl s9 → gG X V mX11_bestMode gShM s9.2.2.2 0 0 21 [(0, .ref (gAd V 0)), (1, .int x1), (2, .int x2), (3, .int s9.1), (4, .int s9.2.1), (5, .int s9.2.2.1)] []) (Kx : ∀ e9, o = .inr e9 → gG X V mX11_bestMode gShM e9.2 0 0 62 [(3, .int e9.1)] []) : gG X V mX11_bestMode gShM M0 0 0 21 [(0, .ref (gAd V 0)), (1, .int x1), (2, .int x2), (3, .int x3), (4, .int x4), (5, .int x5)] [] := by
  unfold fX11_bestMode_l21 at h
  refine g_iload 5 rfl dX11_bestMode_21 ?_
  refine g_iconst (v := 3) rfl dX11_bestMode_23 ?_
  rcases g_ite h with ⟨c3, h⟩ | ⟨c3, h⟩
  · refine g_icmp_ge_t c3 (tgt := 62) rfl dX11_bestMode_24 ?_
    cases h
    refine g_sub [3] rfl ?_
    exact Kx (x3, M0) rfl
  · refine g_icmp_ge_f c3 (tgt := 62) rfl dX11_bestMode_24 ?_
    refine g_aload_n 0 rfl rfl dX11_bestMode_27 ?_
    refine g_iload_n 1 rfl rfl dX11_bestMode_28 ?_
    refine g_iload_n 2 rfl rfl dX11_bestMode_29 ?_
    refine g_iload 5 rfl dX11_bestMode_30 ?_
    obtain ⟨v4, ev4, h⟩ := g_bnd h
    refine g_callV LX11_433 sM_0 rfl (kX11_wouldMove ev4) rfl rfl (Nat.le_of_ble_eq_true rfl) ⟨Nat.le_of_ble_eq_true rfl, Nat.le_of_ble_eq_true rfl⟩ ⟨Nat.le_of_ble_eq_true rfl, Nat.le_of_ble_eq_true rfl⟩ dX11_bestMode_32 rfl ?_
    refine g_istore (ls' := [(6, .int v4.1), (0, .ref (gAd V 0)), (1, .int x1), (2, .int x2), (3, .int x3), (4, .int x4), (5, .int x5)]) (Nat.le_of_ble_eq_true rfl) rfl dX11_bestMode_35 ?_
    refine g_iload 0 rfl dX11_bestMode_37 ?_
    rcases g_ite h with ⟨c5, h⟩ | ⟨c5, h⟩
    · refine g_if_lt_t c5 (tgt := 56) rfl dX11_bestMode_39 ?_
      refine g_sub [1, 2, 3, 4, 5, 6] rfl ?_
      exact tX11_bestMode_b56  h Kc Kx
    · refine g_if_lt_f c5 (tgt := 56) rfl dX11_bestMode_39 ?_
      refine g_iload 0 rfl dX11_bestMode_42 ?_
      refine g_iload 5 rfl dX11_bestMode_44 ?_
      rcases g_ite h with ⟨c6, h⟩ | ⟨c6, h⟩
      · refine g_icmp_ge_t c6 (tgt := 56) rfl dX11_bestMode_46 ?_
        refine g_sub [1, 2, 3, 4, 5, 6] rfl ?_
        exact tX11_bestMode_b56  h Kc Kx
      · refine g_icmp_ge_f c6 (tgt := 56) rfl dX11_bestMode_46 ?_
        refine g_iload 6 rfl dX11_bestMode_49 ?_
        refine g_istore_n (ls' := [(3, .int x5), (6, .int v4.1), (0, .ref (gAd V 0)), (1, .int x1), (2, .int x2), (4, .int x4), (5, .int x5)]) rfl (Nat.le_of_ble_eq_true rfl) rfl dX11_bestMode_51 ?_
        refine g_iload 1 rfl dX11_bestMode_52 ?_
        refine g_istore (ls' := [(4, .int v4.1), (3, .int x5), (6, .int v4.1), (0, .ref (gAd V 0)), (1, .int x1), (2, .int x2), (5, .int x5)]) (Nat.le_of_ble_eq_true rfl) rfl dX11_bestMode_54 ?_
        refine g_sub [3, 4, 5, 1, 0, 6] rfl ?_
        exact tX11_bestMode_b56  h Kc Kx
def fX11_bestMode (x1 : Int32) (x2 : Int32) (M0 : gMem) : Option (Int32 × gMem) :=
  (fX11_noTasks x1 x2 M0).bind fun v1 => if v1.1 = 0 then ((gLoop (fun z9 => fX11_bestMode_l21 x1 x2 z9.1 z9.2.1 z9.2.2.1 z9.2.2.2) gFu ((-1 : Int32), (1000 : Int32), (0 : Int32), v1.2)).bind fun w7 => some (w7.1, w7.2)) else some ((0 : Int32), v1.2)
set_option maxRecDepth 20000 in
theorem tX11_bestMode {X : gX} {V : gEnv} {x1 : Int32} {x2 : Int32} {M0 : gMem}  {o : (Int32 × gMem)} (h : fX11_bestMode x1 x2 M0 = some o) (O : gO X V mX11_bestMode gShM (some .int) (some (.int o.1)) o.2) : gG X V mX11_bestMode gShM M0 0 0 0 [(0, .ref (gAd V 0)), (1, .int x1), (2, .int x2)] [] := by
  unfold fX11_bestMode at h
  refine g_aload_n 0 rfl rfl dX11_bestMode_0 ?_
  refine g_iload_n 1 rfl rfl dX11_bestMode_1 ?_
  refine g_iload_n 2 rfl rfl dX11_bestMode_2 ?_
  obtain ⟨v1, ev1, h⟩ := g_bnd h
  refine g_callV LX11_424 sM_0 rfl (kX11_noTasks ev1) rfl rfl (Nat.le_of_ble_eq_true rfl) ⟨Nat.le_of_ble_eq_true rfl, Nat.le_of_ble_eq_true rfl⟩ ⟨Nat.le_of_ble_eq_true rfl, Nat.le_of_ble_eq_true rfl⟩ dX11_bestMode_3 rfl ?_
  rcases g_ite h with ⟨c2, h⟩ | ⟨c2, h⟩
  · refine g_if_eq_t c2 (tgt := 11) rfl dX11_bestMode_6 ?_
    refine g_iconst (v := -1) rfl dX11_bestMode_11 ?_
    refine g_istore_n (ls' := [(3, .int (-1 : Int32)), (0, .ref (gAd V 0)), (1, .int x1), (2, .int x2)]) rfl (Nat.le_of_ble_eq_true rfl) rfl dX11_bestMode_12 ?_
    refine g_sipush (v := 1000) rfl dX11_bestMode_13 ?_
    refine g_istore (ls' := [(4, .int (1000 : Int32)), (3, .int (-1 : Int32)), (0, .ref (gAd V 0)), (1, .int x1), (2, .int x2)]) (Nat.le_of_ble_eq_true rfl) rfl dX11_bestMode_16 ?_
    refine g_iconst (v := 0) rfl dX11_bestMode_18 ?_
    refine g_istore (ls' := [(5, .int (0 : Int32)), (4, .int (1000 : Int32)), (3, .int (-1 : Int32)), (0, .ref (gAd V 0)), (1, .int x1), (2, .int x2)]) (Nat.le_of_ble_eq_true rfl) rfl dX11_bestMode_19 ?_
    obtain ⟨w7, ew7, h⟩ := g_bnd h
    refine g_sub [3, 4, 5, 2, 1, 0] rfl ?_
    have KX : gG X V mX11_bestMode gShM w7.2 0 0 62 [(3, .int w7.1)] [] := by
      refine g_iload_n 0 rfl rfl dX11_bestMode_62 ?_
      cases h
      exact g_iret O ⟨Nat.le_of_ble_eq_true rfl, Nat.le_of_ble_eq_true rfl⟩ rfl dX11_bestMode_63
    exact gLoop_Q ew7 (fun z9 => gG X V mX11_bestMode gShM z9.2.2.2 0 0 21 [(0, .ref (gAd V 0)), (1, .int x1), (2, .int x2), (3, .int z9.1), (4, .int z9.2.1), (5, .int z9.2.2.1)] []) (fun s9 o9 hb9 hc9 hx9 => tX11_bestMode_l21  hb9 hc9 (fun e9 he9 => by cases hx9 _ he9; exact KX))
  · refine g_if_eq_f c2 (tgt := 11) rfl dX11_bestMode_6 ?_
    refine g_iconst (v := 0) rfl dX11_bestMode_9 ?_
    cases h
    exact g_iret O ⟨Nat.le_of_ble_eq_true rfl, Nat.le_of_ble_eq_true rfl⟩ rfl dX11_bestMode_10
theorem kX11_bestMode {l : Launch} {V : gEnv} {M0 : gMem} {x1 : Int32} {x2 : Int32}  {o : (Int32 × gMem)} (h : fX11_bestMode x1 x2 M0 = some o) : gM l yX11_bestMode cX11_bestMode 7 (some .int) rX11_bestMode V gShM [.ref (gAd V 0), .int x1, .int x2] M0 (some (.int o.1)) o.2 :=
  gM.of (by decide) (Nat.le_of_ble_eq_true rfl) rfl (fun X _ O => tX11_bestMode  h O)
theorem dX11_leastPlace_0 : decode cX11_leastPlace 0 = .ok (.aload_n 0, 1) := by decide +kernel
theorem dX11_leastPlace_1 : decode cX11_leastPlace 1 = .ok (.iload_n 1, 1) := by decide +kernel
theorem dX11_leastPlace_2 : decode cX11_leastPlace 2 = .ok (.invokevirtual 389, 3) := by decide +kernel
theorem dX11_leastPlace_5 : decode cX11_leastPlace 5 = .ok (.ifCond .eq 5, 3) := by decide +kernel
theorem dX11_leastPlace_8 : decode cX11_leastPlace 8 = .ok (.iconst 0, 1) := by decide +kernel
theorem dX11_leastPlace_9 : decode cX11_leastPlace 9 = .ok (.ireturn, 1) := by decide +kernel
theorem dX11_leastPlace_10 : decode cX11_leastPlace 10 = .ok (.aload_n 0, 1) := by decide +kernel
theorem dX11_leastPlace_11 : decode cX11_leastPlace 11 = .ok (.iload_n 1, 1) := by decide +kernel
theorem dX11_leastPlace_12 : decode cX11_leastPlace 12 = .ok (.invokevirtual 101, 3) := by decide +kernel
theorem dX11_leastPlace_15 : decode cX11_leastPlace 15 = .ok (.istore_n 2, 1) := by decide +kernel
theorem dX11_leastPlace_16 : decode cX11_leastPlace 16 = .ok (.aload_n 0, 1) := by decide +kernel
theorem dX11_leastPlace_17 : decode cX11_leastPlace 17 = .ok (.iload_n 2, 1) := by decide +kernel
theorem dX11_leastPlace_18 : decode cX11_leastPlace 18 = .ok (.invokevirtual 179, 3) := by decide +kernel
theorem dX11_leastPlace_21 : decode cX11_leastPlace 21 = .ok (.istore_n 3, 1) := by decide +kernel
theorem dX11_leastPlace_22 : decode cX11_leastPlace 22 = .ok (.iload_n 2, 1) := by decide +kernel
theorem dX11_leastPlace_23 : decode cX11_leastPlace 23 = .ok (.ifCond .le 24, 3) := by decide +kernel
theorem dX11_leastPlace_26 : decode cX11_leastPlace 26 = .ok (.aload_n 0, 1) := by decide +kernel
theorem dX11_leastPlace_27 : decode cX11_leastPlace 27 = .ok (.aload_n 0, 1) := by decide +kernel
theorem dX11_leastPlace_28 : decode cX11_leastPlace 28 = .ok (.iload_n 2, 1) := by decide +kernel
theorem dX11_leastPlace_29 : decode cX11_leastPlace 29 = .ok (.iconst 1, 1) := by decide +kernel
theorem dX11_leastPlace_30 : decode cX11_leastPlace 30 = .ok (.isub, 1) := by decide +kernel
theorem dX11_leastPlace_31 : decode cX11_leastPlace 31 = .ok (.invokevirtual 179, 3) := by decide +kernel
theorem dX11_leastPlace_34 : decode cX11_leastPlace 34 = .ok (.iload_n 3, 1) := by decide +kernel
theorem dX11_leastPlace_35 : decode cX11_leastPlace 35 = .ok (.invokevirtual 194, 3) := by decide +kernel
theorem dX11_leastPlace_38 : decode cX11_leastPlace 38 = .ok (.ifCond .ne 9, 3) := by decide +kernel
theorem dX11_leastPlace_41 : decode cX11_leastPlace 41 = .ok (.iinc 2 (-1), 3) := by decide +kernel
theorem dX11_leastPlace_44 : decode cX11_leastPlace 44 = .ok (.goto (-22), 3) := by decide +kernel
theorem dX11_leastPlace_47 : decode cX11_leastPlace 47 = .ok (.iload_n 2, 1) := by decide +kernel
theorem dX11_leastPlace_48 : decode cX11_leastPlace 48 = .ok (.ireturn, 1) := by decide +kernel
abbrev rX11_leastPlace : Room := { frames := 3, cells := 0, slots := 0, locals := 66 }
abbrev mX11_leastPlace : gY := (cX11_leastPlace, RX11, 4, rX11_leastPlace)
def fX11_leastPlace_l22 (x3 : Int32) (M0 : gMem) (x2 : Int32) : Option (Int32 ⊕ Int32) :=
  if x2 ≤ 0 then (some (.inr x2)) else (fX11_membersAt (x2 - (1 : Int32)) M0).bind fun v6 => (fX11_leads v6 x3 M0).bind fun v7 => if v7 = 0 then (some (.inl (x2 + (-1 : Int32)))) else some (.inr x2)
set_option maxRecDepth 20000 in
theorem tX11_leastPlace_l22 {X : gX} {V : gEnv} {x3 : Int32} {M0 : gMem} {x2 : Int32}  {o : (Int32 ⊕ Int32)} (h : fX11_leastPlace_l22 x3 M0 x2 = some o) (Kc : ∀ s9, o = .inl s9 → gG X V mX11_leastPlace gShM M0 0 0 22 [(0, .ref (gAd V 0)), (2, .int s9), (3, .int x3)] []) (Kx : ∀ e9, o = .inr e9 → gG X V mX11_leastPlace gShM M0 0 0 47 [(2, .int e9)] []) : gG X V mX11_leastPlace gShM M0 0 0 22 [(0, .ref (gAd V 0)), (2, .int x2), (3, .int x3)] [] := by
  unfold fX11_leastPlace_l22 at h
  refine g_iload_n 1 rfl rfl dX11_leastPlace_22 ?_
  rcases g_ite h with ⟨c5, h⟩ | ⟨c5, h⟩
  · refine g_if_le_t c5 (tgt := 47) rfl dX11_leastPlace_23 ?_
    cases h
    refine g_sub [1] rfl ?_
    exact Kx x2 rfl
  · refine g_if_le_f c5 (tgt := 47) rfl dX11_leastPlace_23 ?_
    refine g_aload_n 0 rfl rfl dX11_leastPlace_26 ?_
    refine g_aload_n 0 rfl rfl dX11_leastPlace_27 ?_
    refine g_iload_n 1 rfl rfl dX11_leastPlace_28 ?_
    refine g_iconst (v := 1) rfl dX11_leastPlace_29 ?_
    refine g_isub dX11_leastPlace_30 ?_
    obtain ⟨v6, ev6, h⟩ := g_bnd h
    refine g_callV LX11_179 sM_0 rfl (kX11_membersAt ev6) rfl rfl (Nat.le_of_ble_eq_true rfl) ⟨Nat.le_of_ble_eq_true rfl, Nat.le_of_ble_eq_true rfl⟩ ⟨Nat.le_of_ble_eq_true rfl, Nat.le_of_ble_eq_true rfl⟩ dX11_leastPlace_31 rfl ?_
    refine g_iload_n 2 rfl rfl dX11_leastPlace_34 ?_
    obtain ⟨v7, ev7, h⟩ := g_bnd h
    refine g_callV LX11_194 sM_0 rfl (kX11_leads ev7) rfl rfl (Nat.le_of_ble_eq_true rfl) ⟨Nat.le_of_ble_eq_true rfl, Nat.le_of_ble_eq_true rfl⟩ ⟨Nat.le_of_ble_eq_true rfl, Nat.le_of_ble_eq_true rfl⟩ dX11_leastPlace_35 rfl ?_
    rcases g_ite h with ⟨c8, h⟩ | ⟨c8, h⟩
    · refine g_if_ne_f c8 (tgt := 47) rfl dX11_leastPlace_38 ?_
      refine g_iinc (j := 1) (v := x2 + (-1 : Int32)) (ls' := [(2, .int (x2 + (-1 : Int32))), (0, .ref (gAd V 0)), (3, .int x3)]) rfl (congrArg (fun z => x2 + z) (by decide)) (Nat.le_of_ble_eq_true rfl) rfl dX11_leastPlace_41 ?_
      refine g_goto (tgt := 22) rfl dX11_leastPlace_44 ?_
      cases h
      refine g_sub [1, 0, 2] rfl ?_
      exact Kc (x2 + (-1 : Int32)) rfl
    · refine g_if_ne_t c8 (tgt := 47) rfl dX11_leastPlace_38 ?_
      cases h
      refine g_sub [1] rfl ?_
      exact Kx x2 rfl
def fX11_leastPlace (x1 : Int32) (M0 : gMem) : Option (Int32 × gMem) :=
  (fX11_noTask x1 M0).bind fun v1 => if v1.1 = 0 then ((fX11_placeOf x1 v1.2).bind fun v3 => (fX11_membersAt v3 v1.2).bind fun v4 => (gLoop (fun z9 => fX11_leastPlace_l22 v4 v1.2 z9) gFu v3).bind fun w9 => some (w9, v1.2)) else some ((0 : Int32), v1.2)
set_option maxRecDepth 20000 in
theorem tX11_leastPlace {X : gX} {V : gEnv} {x1 : Int32} {M0 : gMem}  {o : (Int32 × gMem)} (h : fX11_leastPlace x1 M0 = some o) (O : gO X V mX11_leastPlace gShM (some .int) (some (.int o.1)) o.2) : gG X V mX11_leastPlace gShM M0 0 0 0 [(0, .ref (gAd V 0)), (1, .int x1)] [] := by
  unfold fX11_leastPlace at h
  refine g_aload_n 0 rfl rfl dX11_leastPlace_0 ?_
  refine g_iload_n 1 rfl rfl dX11_leastPlace_1 ?_
  obtain ⟨v1, ev1, h⟩ := g_bnd h
  refine g_callV LX11_389 sM_0 rfl (kX11_noTask ev1) rfl rfl (Nat.le_of_ble_eq_true rfl) ⟨Nat.le_of_ble_eq_true rfl, Nat.le_of_ble_eq_true rfl⟩ ⟨Nat.le_of_ble_eq_true rfl, Nat.le_of_ble_eq_true rfl⟩ dX11_leastPlace_2 rfl ?_
  rcases g_ite h with ⟨c2, h⟩ | ⟨c2, h⟩
  · refine g_if_eq_t c2 (tgt := 10) rfl dX11_leastPlace_5 ?_
    refine g_aload_n 0 rfl rfl dX11_leastPlace_10 ?_
    refine g_iload_n 1 rfl rfl dX11_leastPlace_11 ?_
    obtain ⟨v3, ev3, h⟩ := g_bnd h
    refine g_callV LX11_101 sM_0 rfl (kX11_placeOf ev3) rfl rfl (Nat.le_of_ble_eq_true rfl) ⟨Nat.le_of_ble_eq_true rfl, Nat.le_of_ble_eq_true rfl⟩ ⟨Nat.le_of_ble_eq_true rfl, Nat.le_of_ble_eq_true rfl⟩ dX11_leastPlace_12 rfl ?_
    refine g_istore_n (ls' := [(2, .int v3), (0, .ref (gAd V 0)), (1, .int x1)]) rfl (Nat.le_of_ble_eq_true rfl) rfl dX11_leastPlace_15 ?_
    refine g_aload_n 1 rfl rfl dX11_leastPlace_16 ?_
    refine g_iload_n 0 rfl rfl dX11_leastPlace_17 ?_
    obtain ⟨v4, ev4, h⟩ := g_bnd h
    refine g_callV LX11_179 sM_0 rfl (kX11_membersAt ev4) rfl rfl (Nat.le_of_ble_eq_true rfl) ⟨Nat.le_of_ble_eq_true rfl, Nat.le_of_ble_eq_true rfl⟩ ⟨Nat.le_of_ble_eq_true rfl, Nat.le_of_ble_eq_true rfl⟩ dX11_leastPlace_18 rfl ?_
    refine g_istore_n (ls' := [(3, .int v4), (2, .int v3), (0, .ref (gAd V 0)), (1, .int x1)]) rfl (Nat.le_of_ble_eq_true rfl) rfl dX11_leastPlace_21 ?_
    obtain ⟨w9, ew9, h⟩ := g_bnd h
    refine g_sub [2, 1, 0] rfl ?_
    have KX : gG X V mX11_leastPlace gShM v1.2 0 0 47 [(2, .int w9)] [] := by
      refine g_iload_n 0 rfl rfl dX11_leastPlace_47 ?_
      cases h
      exact g_iret O ⟨Nat.le_of_ble_eq_true rfl, Nat.le_of_ble_eq_true rfl⟩ rfl dX11_leastPlace_48
    exact gLoop_Q ew9 (fun z9 => gG X V mX11_leastPlace gShM v1.2 0 0 22 [(0, .ref (gAd V 0)), (2, .int z9), (3, .int v4)] []) (fun s9 o9 hb9 hc9 hx9 => tX11_leastPlace_l22  hb9 hc9 (fun e9 he9 => by cases hx9 _ he9; exact KX))
  · refine g_if_eq_f c2 (tgt := 10) rfl dX11_leastPlace_5 ?_
    refine g_iconst (v := 0) rfl dX11_leastPlace_8 ?_
    cases h
    exact g_iret O ⟨Nat.le_of_ble_eq_true rfl, Nat.le_of_ble_eq_true rfl⟩ rfl dX11_leastPlace_9
theorem kX11_leastPlace {l : Launch} {V : gEnv} {M0 : gMem} {x1 : Int32}  {o : (Int32 × gMem)} (h : fX11_leastPlace x1 M0 = some o) : gM l yX11_leastPlace cX11_leastPlace 4 (some .int) rX11_leastPlace V gShM [.ref (gAd V 0), .int x1] M0 (some (.int o.1)) o.2 :=
  gM.of (by decide) (Nat.le_of_ble_eq_true rfl) rfl (fun X _ O => tX11_leastPlace  h O)
theorem dX11_mostPlace_0 : decode cX11_mostPlace 0 = .ok (.aload_n 0, 1) := by decide +kernel
theorem dX11_mostPlace_1 : decode cX11_mostPlace 1 = .ok (.iload_n 1, 1) := by decide +kernel
theorem dX11_mostPlace_2 : decode cX11_mostPlace 2 = .ok (.invokevirtual 389, 3) := by decide +kernel
theorem dX11_mostPlace_5 : decode cX11_mostPlace 5 = .ok (.ifCond .eq 5, 3) := by decide +kernel
theorem dX11_mostPlace_8 : decode cX11_mostPlace 8 = .ok (.iconst 0, 1) := by decide +kernel
theorem dX11_mostPlace_9 : decode cX11_mostPlace 9 = .ok (.ireturn, 1) := by decide +kernel
theorem dX11_mostPlace_10 : decode cX11_mostPlace 10 = .ok (.aload_n 0, 1) := by decide +kernel
theorem dX11_mostPlace_11 : decode cX11_mostPlace 11 = .ok (.iload_n 1, 1) := by decide +kernel
theorem dX11_mostPlace_12 : decode cX11_mostPlace 12 = .ok (.invokevirtual 101, 3) := by decide +kernel
theorem dX11_mostPlace_15 : decode cX11_mostPlace 15 = .ok (.istore_n 2, 1) := by decide +kernel
theorem dX11_mostPlace_16 : decode cX11_mostPlace 16 = .ok (.aload_n 0, 1) := by decide +kernel
theorem dX11_mostPlace_17 : decode cX11_mostPlace 17 = .ok (.iload_n 2, 1) := by decide +kernel
theorem dX11_mostPlace_18 : decode cX11_mostPlace 18 = .ok (.invokevirtual 179, 3) := by decide +kernel
theorem dX11_mostPlace_21 : decode cX11_mostPlace 21 = .ok (.istore_n 3, 1) := by decide +kernel
theorem dX11_mostPlace_22 : decode cX11_mostPlace 22 = .ok (.iload_n 2, 1) := by decide +kernel
theorem dX11_mostPlace_23 : decode cX11_mostPlace 23 = .ok (.aload_n 0, 1) := by decide +kernel
theorem dX11_mostPlace_24 : decode cX11_mostPlace 24 = .ok (.getfield 9, 3) := by decide +kernel
theorem dX11_mostPlace_27 : decode cX11_mostPlace 27 = .ok (.iconst 2, 1) := by decide +kernel
theorem dX11_mostPlace_28 : decode cX11_mostPlace 28 = .ok (.iaload, 1) := by decide +kernel
theorem dX11_mostPlace_29 : decode cX11_mostPlace 29 = .ok (.iconst 1, 1) := by decide +kernel
theorem dX11_mostPlace_30 : decode cX11_mostPlace 30 = .ok (.isub, 1) := by decide +kernel
theorem dX11_mostPlace_31 : decode cX11_mostPlace 31 = .ok (.if_icmp .ge 24, 3) := by decide +kernel
theorem dX11_mostPlace_34 : decode cX11_mostPlace 34 = .ok (.aload_n 0, 1) := by decide +kernel
theorem dX11_mostPlace_35 : decode cX11_mostPlace 35 = .ok (.iload_n 3, 1) := by decide +kernel
theorem dX11_mostPlace_36 : decode cX11_mostPlace 36 = .ok (.aload_n 0, 1) := by decide +kernel
theorem dX11_mostPlace_37 : decode cX11_mostPlace 37 = .ok (.iload_n 2, 1) := by decide +kernel
theorem dX11_mostPlace_38 : decode cX11_mostPlace 38 = .ok (.iconst 1, 1) := by decide +kernel
theorem dX11_mostPlace_39 : decode cX11_mostPlace 39 = .ok (.iadd, 1) := by decide +kernel
theorem dX11_mostPlace_40 : decode cX11_mostPlace 40 = .ok (.invokevirtual 179, 3) := by decide +kernel
theorem dX11_mostPlace_43 : decode cX11_mostPlace 43 = .ok (.invokevirtual 194, 3) := by decide +kernel
theorem dX11_mostPlace_46 : decode cX11_mostPlace 46 = .ok (.ifCond .ne 9, 3) := by decide +kernel
theorem dX11_mostPlace_49 : decode cX11_mostPlace 49 = .ok (.iinc 2 1, 3) := by decide +kernel
theorem dX11_mostPlace_52 : decode cX11_mostPlace 52 = .ok (.goto (-30), 3) := by decide +kernel
theorem dX11_mostPlace_55 : decode cX11_mostPlace 55 = .ok (.iload_n 2, 1) := by decide +kernel
theorem dX11_mostPlace_56 : decode cX11_mostPlace 56 = .ok (.ireturn, 1) := by decide +kernel
abbrev rX11_mostPlace : Room := { frames := 3, cells := 0, slots := 0, locals := 66 }
abbrev mX11_mostPlace : gY := (cX11_mostPlace, RX11, 4, rX11_mostPlace)
def fX11_mostPlace_l22 (x3 : Int32) (M0 : gMem) (x2 : Int32) : Option (Int32 ⊕ Int32) :=
  (rI M0 1 374 (2 : Int32)).bind fun v5 => if (v5 - (1 : Int32)) ≤ x2 then (some (.inr x2)) else (fX11_membersAt (x2 + (1 : Int32)) M0).bind fun v7 => (fX11_leads x3 v7 M0).bind fun v8 => if v8 = 0 then (some (.inl (x2 + (1 : Int32)))) else some (.inr x2)
set_option maxRecDepth 20000 in
theorem tX11_mostPlace_l22 {X : gX} {V : gEnv} {x3 : Int32} {M0 : gMem} {x2 : Int32}  {o : (Int32 ⊕ Int32)} (h : fX11_mostPlace_l22 x3 M0 x2 = some o) (Kc : ∀ s9, o = .inl s9 → gG X V mX11_mostPlace gShM M0 0 0 22 [(0, .ref (gAd V 0)), (2, .int s9), (3, .int x3)] []) (Kx : ∀ e9, o = .inr e9 → gG X V mX11_mostPlace gShM M0 0 0 55 [(2, .int e9)] []) : gG X V mX11_mostPlace gShM M0 0 0 22 [(0, .ref (gAd V 0)), (2, .int x2), (3, .int x3)] [] := by
  unfold fX11_mostPlace_l22 at h
  refine g_iload_n 1 rfl rfl dX11_mostPlace_22 ?_
  refine g_aload_n 0 rfl rfl dX11_mostPlace_23 ?_
  refine g_getR FX11_9 sM_0 rfl dX11_mostPlace_24 ?_
  refine g_iconst (v := 2) rfl dX11_mostPlace_27 ?_
  obtain ⟨v5, ev5, h⟩ := g_bnd h
  refine g_iald' ev5 sM_1 dX11_mostPlace_28 ?_
  refine g_iconst (v := 1) rfl dX11_mostPlace_29 ?_
  refine g_isub dX11_mostPlace_30 ?_
  rcases g_ite h with ⟨c6, h⟩ | ⟨c6, h⟩
  · refine g_icmp_ge_t c6 (tgt := 55) rfl dX11_mostPlace_31 ?_
    cases h
    refine g_sub [1] rfl ?_
    exact Kx x2 rfl
  · refine g_icmp_ge_f c6 (tgt := 55) rfl dX11_mostPlace_31 ?_
    refine g_aload_n 0 rfl rfl dX11_mostPlace_34 ?_
    refine g_iload_n 2 rfl rfl dX11_mostPlace_35 ?_
    refine g_aload_n 0 rfl rfl dX11_mostPlace_36 ?_
    refine g_iload_n 1 rfl rfl dX11_mostPlace_37 ?_
    refine g_iconst (v := 1) rfl dX11_mostPlace_38 ?_
    refine g_iadd dX11_mostPlace_39 ?_
    obtain ⟨v7, ev7, h⟩ := g_bnd h
    refine g_callV LX11_179 sM_0 rfl (kX11_membersAt ev7) rfl rfl (Nat.le_of_ble_eq_true rfl) ⟨Nat.le_of_ble_eq_true rfl, Nat.le_of_ble_eq_true rfl⟩ ⟨Nat.le_of_ble_eq_true rfl, Nat.le_of_ble_eq_true rfl⟩ dX11_mostPlace_40 rfl ?_
    obtain ⟨v8, ev8, h⟩ := g_bnd h
    refine g_callV LX11_194 sM_0 rfl (kX11_leads ev8) rfl rfl (Nat.le_of_ble_eq_true rfl) ⟨Nat.le_of_ble_eq_true rfl, Nat.le_of_ble_eq_true rfl⟩ ⟨Nat.le_of_ble_eq_true rfl, Nat.le_of_ble_eq_true rfl⟩ dX11_mostPlace_43 rfl ?_
    rcases g_ite h with ⟨c9, h⟩ | ⟨c9, h⟩
    · refine g_if_ne_f c9 (tgt := 55) rfl dX11_mostPlace_46 ?_
      refine g_iinc (j := 1) (v := x2 + (1 : Int32)) (ls' := [(2, .int (x2 + (1 : Int32))), (0, .ref (gAd V 0)), (3, .int x3)]) rfl rfl (Nat.le_of_ble_eq_true rfl) rfl dX11_mostPlace_49 ?_
      refine g_goto (tgt := 22) rfl dX11_mostPlace_52 ?_
      cases h
      refine g_sub [1, 0, 2] rfl ?_
      exact Kc (x2 + (1 : Int32)) rfl
    · refine g_if_ne_t c9 (tgt := 55) rfl dX11_mostPlace_46 ?_
      cases h
      refine g_sub [1] rfl ?_
      exact Kx x2 rfl
def fX11_mostPlace (x1 : Int32) (M0 : gMem) : Option (Int32 × gMem) :=
  (fX11_noTask x1 M0).bind fun v1 => if v1.1 = 0 then ((fX11_placeOf x1 v1.2).bind fun v3 => (fX11_membersAt v3 v1.2).bind fun v4 => (gLoop (fun z9 => fX11_mostPlace_l22 v4 v1.2 z9) gFu v3).bind fun w10 => some (w10, v1.2)) else some ((0 : Int32), v1.2)
set_option maxRecDepth 20000 in
theorem tX11_mostPlace {X : gX} {V : gEnv} {x1 : Int32} {M0 : gMem}  {o : (Int32 × gMem)} (h : fX11_mostPlace x1 M0 = some o) (O : gO X V mX11_mostPlace gShM (some .int) (some (.int o.1)) o.2) : gG X V mX11_mostPlace gShM M0 0 0 0 [(0, .ref (gAd V 0)), (1, .int x1)] [] := by
  unfold fX11_mostPlace at h
  refine g_aload_n 0 rfl rfl dX11_mostPlace_0 ?_
  refine g_iload_n 1 rfl rfl dX11_mostPlace_1 ?_
  obtain ⟨v1, ev1, h⟩ := g_bnd h
  refine g_callV LX11_389 sM_0 rfl (kX11_noTask ev1) rfl rfl (Nat.le_of_ble_eq_true rfl) ⟨Nat.le_of_ble_eq_true rfl, Nat.le_of_ble_eq_true rfl⟩ ⟨Nat.le_of_ble_eq_true rfl, Nat.le_of_ble_eq_true rfl⟩ dX11_mostPlace_2 rfl ?_
  rcases g_ite h with ⟨c2, h⟩ | ⟨c2, h⟩
  · refine g_if_eq_t c2 (tgt := 10) rfl dX11_mostPlace_5 ?_
    refine g_aload_n 0 rfl rfl dX11_mostPlace_10 ?_
    refine g_iload_n 1 rfl rfl dX11_mostPlace_11 ?_
    obtain ⟨v3, ev3, h⟩ := g_bnd h
    refine g_callV LX11_101 sM_0 rfl (kX11_placeOf ev3) rfl rfl (Nat.le_of_ble_eq_true rfl) ⟨Nat.le_of_ble_eq_true rfl, Nat.le_of_ble_eq_true rfl⟩ ⟨Nat.le_of_ble_eq_true rfl, Nat.le_of_ble_eq_true rfl⟩ dX11_mostPlace_12 rfl ?_
    refine g_istore_n (ls' := [(2, .int v3), (0, .ref (gAd V 0)), (1, .int x1)]) rfl (Nat.le_of_ble_eq_true rfl) rfl dX11_mostPlace_15 ?_
    refine g_aload_n 1 rfl rfl dX11_mostPlace_16 ?_
    refine g_iload_n 0 rfl rfl dX11_mostPlace_17 ?_
    obtain ⟨v4, ev4, h⟩ := g_bnd h
    refine g_callV LX11_179 sM_0 rfl (kX11_membersAt ev4) rfl rfl (Nat.le_of_ble_eq_true rfl) ⟨Nat.le_of_ble_eq_true rfl, Nat.le_of_ble_eq_true rfl⟩ ⟨Nat.le_of_ble_eq_true rfl, Nat.le_of_ble_eq_true rfl⟩ dX11_mostPlace_18 rfl ?_
    refine g_istore_n (ls' := [(3, .int v4), (2, .int v3), (0, .ref (gAd V 0)), (1, .int x1)]) rfl (Nat.le_of_ble_eq_true rfl) rfl dX11_mostPlace_21 ?_
    obtain ⟨w10, ew10, h⟩ := g_bnd h
    refine g_sub [2, 1, 0] rfl ?_
    have KX : gG X V mX11_mostPlace gShM v1.2 0 0 55 [(2, .int w10)] [] := by
      refine g_iload_n 0 rfl rfl dX11_mostPlace_55 ?_
      cases h
      exact g_iret O ⟨Nat.le_of_ble_eq_true rfl, Nat.le_of_ble_eq_true rfl⟩ rfl dX11_mostPlace_56
    exact gLoop_Q ew10 (fun z9 => gG X V mX11_mostPlace gShM v1.2 0 0 22 [(0, .ref (gAd V 0)), (2, .int z9), (3, .int v4)] []) (fun s9 o9 hb9 hc9 hx9 => tX11_mostPlace_l22  hb9 hc9 (fun e9 he9 => by cases hx9 _ he9; exact KX))
  · refine g_if_eq_f c2 (tgt := 10) rfl dX11_mostPlace_5 ?_
    refine g_iconst (v := 0) rfl dX11_mostPlace_8 ?_
    cases h
    exact g_iret O ⟨Nat.le_of_ble_eq_true rfl, Nat.le_of_ble_eq_true rfl⟩ rfl dX11_mostPlace_9
theorem kX11_mostPlace {l : Launch} {V : gEnv} {M0 : gMem} {x1 : Int32}  {o : (Int32 × gMem)} (h : fX11_mostPlace x1 M0 = some o) : gM l yX11_mostPlace cX11_mostPlace 4 (some .int) rX11_mostPlace V gShM [.ref (gAd V 0), .int x1] M0 (some (.int o.1)) o.2 :=
  gM.of (by decide) (Nat.le_of_ble_eq_true rfl) rfl (fun X _ O => tX11_mostPlace  h O)
theorem dX11_fresh_0 : decode cX11_fresh 0 = .ok (.aload_n 0, 1) := by decide +kernel
theorem dX11_fresh_1 : decode cX11_fresh 1 = .ok (.iload_n 1, 1) := by decide +kernel
theorem dX11_fresh_2 : decode cX11_fresh 2 = .ok (.invokevirtual 409, 3) := by decide +kernel
theorem dX11_fresh_5 : decode cX11_fresh 5 = .ok (.ifCond .eq 5, 3) := by decide +kernel
theorem dX11_fresh_8 : decode cX11_fresh 8 = .ok (.iconst 0, 1) := by decide +kernel
theorem dX11_fresh_9 : decode cX11_fresh 9 = .ok (.ireturn, 1) := by decide +kernel
theorem dX11_fresh_10 : decode cX11_fresh 10 = .ok (.aload_n 0, 1) := by decide +kernel
theorem dX11_fresh_11 : decode cX11_fresh 11 = .ok (.invokevirtual 206, 3) := by decide +kernel
theorem dX11_fresh_14 : decode cX11_fresh 14 = .ok (.aload_n 0, 1) := by decide +kernel
theorem dX11_fresh_15 : decode cX11_fresh 15 = .ok (.getfield 40, 3) := by decide +kernel
theorem dX11_fresh_18 : decode cX11_fresh 18 = .ok (.iload_n 1, 1) := by decide +kernel
theorem dX11_fresh_19 : decode cX11_fresh 19 = .ok (.iaload, 1) := by decide +kernel
theorem dX11_fresh_20 : decode cX11_fresh 20 = .ok (.ireturn, 1) := by decide +kernel
abbrev rX11_fresh : Room := { frames := 5, cells := 0, slots := 0, locals := 116 }
abbrev mX11_fresh : gY := (cX11_fresh, RX11, 2, rX11_fresh)
def fX11_fresh (x1 : Int32) (M0 : gMem) : Option (Int32 × gMem) :=
  (fX11_noPlace x1 M0).bind fun v1 => if v1.1 = 0 then ((fX11_laysFresh v1.2).bind fun v3 => (rI v3 11 24 x1).bind fun v4 => some (v4, v3)) else some ((0 : Int32), v1.2)
set_option maxRecDepth 20000 in
theorem tX11_fresh {X : gX} {V : gEnv} {x1 : Int32} {M0 : gMem}  {o : (Int32 × gMem)} (h : fX11_fresh x1 M0 = some o) (O : gO X V mX11_fresh gShM (some .int) (some (.int o.1)) o.2) : gG X V mX11_fresh gShM M0 0 0 0 [(0, .ref (gAd V 0)), (1, .int x1)] [] := by
  unfold fX11_fresh at h
  refine g_aload_n 0 rfl rfl dX11_fresh_0 ?_
  refine g_iload_n 1 rfl rfl dX11_fresh_1 ?_
  obtain ⟨v1, ev1, h⟩ := g_bnd h
  refine g_callV LX11_409 sM_0 rfl (kX11_noPlace ev1) rfl rfl (Nat.le_of_ble_eq_true rfl) ⟨Nat.le_of_ble_eq_true rfl, Nat.le_of_ble_eq_true rfl⟩ ⟨Nat.le_of_ble_eq_true rfl, Nat.le_of_ble_eq_true rfl⟩ dX11_fresh_2 rfl ?_
  rcases g_ite h with ⟨c2, h⟩ | ⟨c2, h⟩
  · refine g_if_eq_t c2 (tgt := 10) rfl dX11_fresh_5 ?_
    refine g_aload_n 0 rfl rfl dX11_fresh_10 ?_
    obtain ⟨v3, ev3, h⟩ := g_bnd h
    refine g_callV LX11_206 sM_0 rfl (kX11_laysFresh ev3) rfl rfl (Nat.le_of_ble_eq_true rfl) ⟨Nat.le_of_ble_eq_true rfl, Nat.le_of_ble_eq_true rfl⟩ ⟨Nat.le_of_ble_eq_true rfl, Nat.le_of_ble_eq_true rfl⟩ dX11_fresh_11 rfl ?_
    refine g_aload_n 0 rfl rfl dX11_fresh_14 ?_
    refine g_getR FX11_40 sM_0 rfl dX11_fresh_15 ?_
    refine g_iload_n 1 rfl rfl dX11_fresh_18 ?_
    obtain ⟨v4, ev4, h⟩ := g_bnd h
    refine g_iald' ev4 sM_11 dX11_fresh_19 ?_
    cases h
    exact g_iret O ⟨Nat.le_of_ble_eq_true rfl, Nat.le_of_ble_eq_true rfl⟩ rfl dX11_fresh_20
  · refine g_if_eq_f c2 (tgt := 10) rfl dX11_fresh_5 ?_
    refine g_iconst (v := 0) rfl dX11_fresh_8 ?_
    cases h
    exact g_iret O ⟨Nat.le_of_ble_eq_true rfl, Nat.le_of_ble_eq_true rfl⟩ rfl dX11_fresh_9
theorem kX11_fresh {l : Launch} {V : gEnv} {M0 : gMem} {x1 : Int32}  {o : (Int32 × gMem)} (h : fX11_fresh x1 M0 = some o) : gM l yX11_fresh cX11_fresh 2 (some .int) rX11_fresh V gShM [.ref (gAd V 0), .int x1] M0 (some (.int o.1)) o.2 :=
  gM.of (by decide) (Nat.le_of_ble_eq_true rfl) rfl (fun X _ O => tX11_fresh  h O)
theorem dX11_turned_0 : decode cX11_turned 0 = .ok (.aload_n 0, 1) := by decide +kernel
theorem dX11_turned_1 : decode cX11_turned 1 = .ok (.iconst 0, 1) := by decide +kernel
theorem dX11_turned_2 : decode cX11_turned 2 = .ok (.putfield 72, 3) := by decide +kernel
theorem dX11_turned_5 : decode cX11_turned 5 = .ok (.aload_n 0, 1) := by decide +kernel
theorem dX11_turned_6 : decode cX11_turned 6 = .ok (.invokevirtual 206, 3) := by decide +kernel
theorem dX11_turned_9 : decode cX11_turned 9 = .ok (.iconst 0, 1) := by decide +kernel
theorem dX11_turned_10 : decode cX11_turned 10 = .ok (.istore_n 1, 1) := by decide +kernel
theorem dX11_turned_11 : decode cX11_turned 11 = .ok (.iconst 0, 1) := by decide +kernel
theorem dX11_turned_12 : decode cX11_turned 12 = .ok (.istore_n 2, 1) := by decide +kernel
theorem dX11_turned_13 : decode cX11_turned 13 = .ok (.iload_n 2, 1) := by decide +kernel
theorem dX11_turned_14 : decode cX11_turned 14 = .ok (.aload_n 0, 1) := by decide +kernel
theorem dX11_turned_15 : decode cX11_turned 15 = .ok (.getfield 9, 3) := by decide +kernel
theorem dX11_turned_18 : decode cX11_turned 18 = .ok (.iconst 2, 1) := by decide +kernel
theorem dX11_turned_19 : decode cX11_turned 19 = .ok (.iaload, 1) := by decide +kernel
theorem dX11_turned_20 : decode cX11_turned 20 = .ok (.if_icmp .ge 60, 3) := by decide +kernel
theorem dX11_turned_23 : decode cX11_turned 23 = .ok (.iload_n 2, 1) := by decide +kernel
theorem dX11_turned_24 : decode cX11_turned 24 = .ok (.iconst 1, 1) := by decide +kernel
theorem dX11_turned_25 : decode cX11_turned 25 = .ok (.iadd, 1) := by decide +kernel
theorem dX11_turned_26 : decode cX11_turned 26 = .ok (.istore_n 3, 1) := by decide +kernel
theorem dX11_turned_27 : decode cX11_turned 27 = .ok (.iload_n 3, 1) := by decide +kernel
theorem dX11_turned_28 : decode cX11_turned 28 = .ok (.aload_n 0, 1) := by decide +kernel
theorem dX11_turned_29 : decode cX11_turned 29 = .ok (.getfield 9, 3) := by decide +kernel
theorem dX11_turned_32 : decode cX11_turned 32 = .ok (.iconst 2, 1) := by decide +kernel
theorem dX11_turned_33 : decode cX11_turned 33 = .ok (.iaload, 1) := by decide +kernel
theorem dX11_turned_34 : decode cX11_turned 34 = .ok (.if_icmp .ge 40, 3) := by decide +kernel
theorem dX11_turned_37 : decode cX11_turned 37 = .ok (.iload_n 1, 1) := by decide +kernel
theorem dX11_turned_38 : decode cX11_turned 38 = .ok (.aload_n 0, 1) := by decide +kernel
theorem dX11_turned_39 : decode cX11_turned 39 = .ok (.aload_n 0, 1) := by decide +kernel
theorem dX11_turned_40 : decode cX11_turned 40 = .ok (.getfield 40, 3) := by decide +kernel
theorem dX11_turned_43 : decode cX11_turned 43 = .ok (.iload_n 2, 1) := by decide +kernel
theorem dX11_turned_44 : decode cX11_turned 44 = .ok (.iaload, 1) := by decide +kernel
theorem dX11_turned_45 : decode cX11_turned 45 = .ok (.invokevirtual 86, 3) := by decide +kernel
theorem dX11_turned_48 : decode cX11_turned 48 = .ok (.aload_n 0, 1) := by decide +kernel
theorem dX11_turned_49 : decode cX11_turned 49 = .ok (.aload_n 0, 1) := by decide +kernel
theorem dX11_turned_50 : decode cX11_turned 50 = .ok (.getfield 40, 3) := by decide +kernel
theorem dX11_turned_53 : decode cX11_turned 53 = .ok (.iload_n 3, 1) := by decide +kernel
theorem dX11_turned_54 : decode cX11_turned 54 = .ok (.iaload, 1) := by decide +kernel
theorem dX11_turned_55 : decode cX11_turned 55 = .ok (.invokevirtual 86, 3) := by decide +kernel
theorem dX11_turned_58 : decode cX11_turned 58 = .ok (.if_icmp .le 7, 3) := by decide +kernel
theorem dX11_turned_61 : decode cX11_turned 61 = .ok (.iconst 1, 1) := by decide +kernel
theorem dX11_turned_62 : decode cX11_turned 62 = .ok (.goto 4, 3) := by decide +kernel
theorem dX11_turned_65 : decode cX11_turned 65 = .ok (.iconst 0, 1) := by decide +kernel
theorem dX11_turned_66 : decode cX11_turned 66 = .ok (.iadd, 1) := by decide +kernel
theorem dX11_turned_67 : decode cX11_turned 67 = .ok (.istore_n 1, 1) := by decide +kernel
theorem dX11_turned_68 : decode cX11_turned 68 = .ok (.iinc 3 1, 3) := by decide +kernel
theorem dX11_turned_71 : decode cX11_turned 71 = .ok (.goto (-44), 3) := by decide +kernel
theorem dX11_turned_74 : decode cX11_turned 74 = .ok (.iinc 2 1, 3) := by decide +kernel
theorem dX11_turned_77 : decode cX11_turned 77 = .ok (.goto (-64), 3) := by decide +kernel
theorem dX11_turned_80 : decode cX11_turned 80 = .ok (.iload_n 1, 1) := by decide +kernel
theorem dX11_turned_81 : decode cX11_turned 81 = .ok (.ireturn, 1) := by decide +kernel
abbrev rX11_turned : Room := { frames := 5, cells := 0, slots := 0, locals := 116 }
abbrev mX11_turned : gY := (cX11_turned, RX11, 4, rX11_turned)
def fX11_turned_l27 (x2 : Int32) (M0 : gMem) (x1 : Int32) (x3 : Int32) : Option ((Int32 × Int32) ⊕ Int32) :=
  (rI M0 1 374 (2 : Int32)).bind fun v6 => if v6 ≤ x3 then (some (.inr x1)) else (rI M0 11 24 x2).bind fun v8 => (fX11_placeOfHead v8 M0).bind fun v9 => (rI M0 11 24 x3).bind fun v10 => (fX11_placeOfHead v10 M0).bind fun v11 => (nm (x1 + (if v9 ≤ v11 then (0 : Int32) else (1 : Int32)))).bind fun v13 => some (.inl (v13, x3 + (1 : Int32)))
set_option maxRecDepth 20000 in
theorem tX11_turned_l27 {X : gX} {V : gEnv} {x2 : Int32} {M0 : gMem} {x1 : Int32} {x3 : Int32}  {o : ((Int32 × Int32) ⊕ Int32)} (h : fX11_turned_l27 x2 M0 x1 x3 = some o) (Kc : ∀ s9, o = .inl s9 → gG X V mX11_turned gShM M0 0 0 27 [(0, .ref (gAd V 0)), (1, .int s9.1), (2, .int x2), (3, .int s9.2)] []) (Kx : ∀ e9, o = .inr e9 → gG X V mX11_turned gShM M0 0 0 74 [(0, .ref (gAd V 0)), (1, .int e9), (2, .int x2)] []) : gG X V mX11_turned gShM M0 0 0 27 [(0, .ref (gAd V 0)), (1, .int x1), (2, .int x2), (3, .int x3)] [] := by
  unfold fX11_turned_l27 at h
  refine g_iload_n 3 rfl rfl dX11_turned_27 ?_
  refine g_aload_n 0 rfl rfl dX11_turned_28 ?_
  refine g_getR FX11_9 sM_0 rfl dX11_turned_29 ?_
  refine g_iconst (v := 2) rfl dX11_turned_32 ?_
  obtain ⟨v6, ev6, h⟩ := g_bnd h
  refine g_iald' ev6 sM_1 dX11_turned_33 ?_
  rcases g_ite h with ⟨c7, h⟩ | ⟨c7, h⟩
  · refine g_icmp_ge_t c7 (tgt := 74) rfl dX11_turned_34 ?_
    cases h
    refine g_sub [0, 1, 2] rfl ?_
    exact Kx x1 rfl
  · refine g_icmp_ge_f c7 (tgt := 74) rfl dX11_turned_34 ?_
    refine g_iload_n 1 rfl rfl dX11_turned_37 ?_
    refine g_aload_n 0 rfl rfl dX11_turned_38 ?_
    refine g_aload_n 0 rfl rfl dX11_turned_39 ?_
    refine g_getR FX11_40 sM_0 rfl dX11_turned_40 ?_
    refine g_iload_n 2 rfl rfl dX11_turned_43 ?_
    obtain ⟨v8, ev8, h⟩ := g_bnd h
    refine g_iald' ev8 sM_11 dX11_turned_44 ?_
    obtain ⟨v9, ev9, h⟩ := g_bnd h
    refine g_callV LX11_86 sM_0 rfl (kX11_placeOfHead ev9) rfl rfl (Nat.le_of_ble_eq_true rfl) ⟨Nat.le_of_ble_eq_true rfl, Nat.le_of_ble_eq_true rfl⟩ ⟨Nat.le_of_ble_eq_true rfl, Nat.le_of_ble_eq_true rfl⟩ dX11_turned_45 rfl ?_
    refine g_aload_n 0 rfl rfl dX11_turned_48 ?_
    refine g_aload_n 0 rfl rfl dX11_turned_49 ?_
    refine g_getR FX11_40 sM_0 rfl dX11_turned_50 ?_
    refine g_iload_n 3 rfl rfl dX11_turned_53 ?_
    obtain ⟨v10, ev10, h⟩ := g_bnd h
    refine g_iald' ev10 sM_11 dX11_turned_54 ?_
    obtain ⟨v11, ev11, h⟩ := g_bnd h
    refine g_callV LX11_86 sM_0 rfl (kX11_placeOfHead ev11) rfl rfl (Nat.le_of_ble_eq_true rfl) ⟨Nat.le_of_ble_eq_true rfl, Nat.le_of_ble_eq_true rfl⟩ ⟨Nat.le_of_ble_eq_true rfl, Nat.le_of_ble_eq_true rfl⟩ dX11_turned_55 rfl ?_
    have KJ : gG X V mX11_turned gShM M0 0 0 66 [(0, .ref (gAd V 0)), (1, .int x1), (2, .int x2), (3, .int x3)] [.int (if v9 ≤ v11 then (0 : Int32) else (1 : Int32)), .int x1] := by
      refine g_iadd dX11_turned_66 ?_
      obtain ⟨v13, ev13, h⟩ := g_bnd h
      refine g_nmI ev13 ?_
      refine g_istore_n (ls' := [(1, .int v13), (0, .ref (gAd V 0)), (2, .int x2), (3, .int x3)]) rfl (Nat.le_of_ble_eq_true rfl) rfl dX11_turned_67 ?_
      refine g_iinc (j := 3) (v := x3 + (1 : Int32)) (ls' := [(3, .int (x3 + (1 : Int32))), (1, .int v13), (0, .ref (gAd V 0)), (2, .int x2)]) rfl rfl (Nat.le_of_ble_eq_true rfl) rfl dX11_turned_68 ?_
      refine g_goto (tgt := 27) rfl dX11_turned_71 ?_
      cases h
      refine g_sub [2, 1, 3, 0] rfl ?_
      exact Kc (v13, x3 + (1 : Int32)) rfl
    by_cases c12 : v9 ≤ v11
    · rw [if_pos c12] at KJ
      refine g_icmp_le_t c12 (tgt := 65) rfl dX11_turned_58 ?_
      refine g_iconst (v := 0) rfl dX11_turned_65 ?_
      exact KJ
    · rw [if_neg c12] at KJ
      refine g_icmp_le_f c12 (tgt := 65) rfl dX11_turned_58 ?_
      refine g_iconst (v := 1) rfl dX11_turned_61 ?_
      refine g_goto (tgt := 66) rfl dX11_turned_62 ?_
      exact KJ
def fX11_turned_l13 (M0 : gMem) (x1 : Int32) (x2 : Int32) : Option ((Int32 × Int32) ⊕ Int32) :=
  (rI M0 1 374 (2 : Int32)).bind fun v3 => if v3 ≤ x2 then (some (.inr x1)) else (nm (x2 + (1 : Int32))).bind fun v5 => (gLoop (fun z9 => fX11_turned_l27 x2 M0 z9.1 z9.2) gFu (x1, v5)).bind fun w14 => some (.inl (w14, x2 + (1 : Int32)))
set_option maxRecDepth 20000 in
theorem tX11_turned_l13 {X : gX} {V : gEnv} {M0 : gMem} {x1 : Int32} {x2 : Int32}  {o : ((Int32 × Int32) ⊕ Int32)} (h : fX11_turned_l13 M0 x1 x2 = some o) (Kc : ∀ s9, o = .inl s9 → gG X V mX11_turned gShM M0 0 0 13 [(0, .ref (gAd V 0)), (1, .int s9.1), (2, .int s9.2)] []) (Kx : ∀ e9, o = .inr e9 → gG X V mX11_turned gShM M0 0 0 80 [(1, .int e9)] []) : gG X V mX11_turned gShM M0 0 0 13 [(0, .ref (gAd V 0)), (1, .int x1), (2, .int x2)] [] := by
  unfold fX11_turned_l13 at h
  refine g_iload_n 2 rfl rfl dX11_turned_13 ?_
  refine g_aload_n 0 rfl rfl dX11_turned_14 ?_
  refine g_getR FX11_9 sM_0 rfl dX11_turned_15 ?_
  refine g_iconst (v := 2) rfl dX11_turned_18 ?_
  obtain ⟨v3, ev3, h⟩ := g_bnd h
  refine g_iald' ev3 sM_1 dX11_turned_19 ?_
  rcases g_ite h with ⟨c4, h⟩ | ⟨c4, h⟩
  · refine g_icmp_ge_t c4 (tgt := 80) rfl dX11_turned_20 ?_
    cases h
    refine g_sub [1] rfl ?_
    exact Kx x1 rfl
  · refine g_icmp_ge_f c4 (tgt := 80) rfl dX11_turned_20 ?_
    refine g_iload_n 2 rfl rfl dX11_turned_23 ?_
    refine g_iconst (v := 1) rfl dX11_turned_24 ?_
    refine g_iadd dX11_turned_25 ?_
    obtain ⟨v5, ev5, h⟩ := g_bnd h
    refine g_nmI ev5 ?_
    refine g_istore_n (ls' := [(3, .int v5), (0, .ref (gAd V 0)), (1, .int x1), (2, .int x2)]) rfl (Nat.le_of_ble_eq_true rfl) rfl dX11_turned_26 ?_
    obtain ⟨w14, ew14, h⟩ := g_bnd h
    refine g_sub [1, 2, 3, 0] rfl ?_
    have KX : gG X V mX11_turned gShM M0 0 0 74 [(0, .ref (gAd V 0)), (1, .int w14), (2, .int x2)] [] := by
      refine g_iinc (j := 2) (v := x2 + (1 : Int32)) (ls' := [(2, .int (x2 + (1 : Int32))), (0, .ref (gAd V 0)), (1, .int w14)]) rfl rfl (Nat.le_of_ble_eq_true rfl) rfl dX11_turned_74 ?_
      refine g_goto (tgt := 13) rfl dX11_turned_77 ?_
      cases h
      refine g_sub [1, 2, 0] rfl ?_
      exact Kc (w14, x2 + (1 : Int32)) rfl
    exact gLoop_Q ew14 (fun z9 => gG X V mX11_turned gShM M0 0 0 27 [(0, .ref (gAd V 0)), (1, .int z9.1), (2, .int x2), (3, .int z9.2)] []) (fun s9 o9 hb9 hc9 hx9 => tX11_turned_l27  hb9 hc9 (fun e9 he9 => by cases hx9 _ he9; exact KX))
def fX11_turned (M0 : gMem) : Option (Int32 × gMem) :=
  (wF M0 0 0 (0 : Int32)).bind fun M1 => (fX11_laysFresh M1).bind fun v2 => (gLoop (fun z9 => fX11_turned_l13 v2 z9.1 z9.2) gFu ((0 : Int32), (0 : Int32))).bind fun w15 => some (w15, v2)
set_option maxRecDepth 20000 in
theorem tX11_turned {X : gX} {V : gEnv} {M0 : gMem}  {o : (Int32 × gMem)} (h : fX11_turned M0 = some o) (O : gO X V mX11_turned gShM (some .int) (some (.int o.1)) o.2) : gG X V mX11_turned gShM M0 0 0 0 [(0, .ref (gAd V 0))] [] := by
  unfold fX11_turned at h
  refine g_aload_n 0 rfl rfl dX11_turned_0 ?_
  refine g_iconst (v := 0) rfl dX11_turned_1 ?_
  obtain ⟨M1, eM1, h⟩ := g_bnd h
  refine g_putI' eM1 FX11_72 jX11 sM_0 rfl rfl rfl dX11_turned_2 ?_
  refine g_aload_n 0 rfl rfl dX11_turned_5 ?_
  obtain ⟨v2, ev2, h⟩ := g_bnd h
  refine g_callV LX11_206 sM_0 rfl (kX11_laysFresh ev2) rfl rfl (Nat.le_of_ble_eq_true rfl) ⟨Nat.le_of_ble_eq_true rfl, Nat.le_of_ble_eq_true rfl⟩ ⟨Nat.le_of_ble_eq_true rfl, Nat.le_of_ble_eq_true rfl⟩ dX11_turned_6 rfl ?_
  refine g_iconst (v := 0) rfl dX11_turned_9 ?_
  refine g_istore_n (ls' := [(1, .int (0 : Int32)), (0, .ref (gAd V 0))]) rfl (Nat.le_of_ble_eq_true rfl) rfl dX11_turned_10 ?_
  refine g_iconst (v := 0) rfl dX11_turned_11 ?_
  refine g_istore_n (ls' := [(2, .int (0 : Int32)), (1, .int (0 : Int32)), (0, .ref (gAd V 0))]) rfl (Nat.le_of_ble_eq_true rfl) rfl dX11_turned_12 ?_
  obtain ⟨w15, ew15, h⟩ := g_bnd h
  refine g_sub [2, 1, 0] rfl ?_
  have KX : gG X V mX11_turned gShM v2 0 0 80 [(1, .int w15)] [] := by
    refine g_iload_n 0 rfl rfl dX11_turned_80 ?_
    cases h
    exact g_iret O ⟨Nat.le_of_ble_eq_true rfl, Nat.le_of_ble_eq_true rfl⟩ rfl dX11_turned_81
  exact gLoop_Q ew15 (fun z9 => gG X V mX11_turned gShM v2 0 0 13 [(0, .ref (gAd V 0)), (1, .int z9.1), (2, .int z9.2)] []) (fun s9 o9 hb9 hc9 hx9 => tX11_turned_l13  hb9 hc9 (fun e9 he9 => by cases hx9 _ he9; exact KX))
theorem kX11_turned {l : Launch} {V : gEnv} {M0 : gMem}   {o : (Int32 × gMem)} (h : fX11_turned M0 = some o) : gM l yX11_turned cX11_turned 4 (some .int) rX11_turned V gShM [.ref (gAd V 0)] M0 (some (.int o.1)) o.2 :=
  gM.of (by decide) (Nat.le_of_ble_eq_true rfl) rfl (fun X _ O => tX11_turned  h O)
theorem dX11_length_0 : decode cX11_length 0 = .ok (.aload_n 0, 1) := by decide +kernel
theorem dX11_length_1 : decode cX11_length 1 = .ok (.iconst 0, 1) := by decide +kernel
theorem dX11_length_2 : decode cX11_length 2 = .ok (.putfield 72, 3) := by decide +kernel
theorem dX11_length_5 : decode cX11_length 5 = .ok (.aload_n 0, 1) := by decide +kernel
theorem dX11_length_6 : decode cX11_length 6 = .ok (.invokevirtual 412, 3) := by decide +kernel
theorem dX11_length_9 : decode cX11_length 9 = .ok (.aload_n 0, 1) := by decide +kernel
theorem dX11_length_10 : decode cX11_length 10 = .ok (.getfield 403, 3) := by decide +kernel
theorem dX11_length_13 : decode cX11_length 13 = .ok (.ireturn, 1) := by decide +kernel
abbrev rX11_length : Room := { frames := 4, cells := 0, slots := 0, locals := 88 }
abbrev mX11_length : gY := (cX11_length, RX11, 1, rX11_length)
def fX11_length (M0 : gMem) : Option (Int32 × gMem) :=
  (wF M0 0 0 (0 : Int32)).bind fun M1 => (fX11_laysChains M1).bind fun v2 => some (v2.1 0 38, v2)
set_option maxRecDepth 20000 in
theorem tX11_length {X : gX} {V : gEnv} {M0 : gMem}  {o : (Int32 × gMem)} (h : fX11_length M0 = some o) (O : gO X V mX11_length gShM (some .int) (some (.int o.1)) o.2) : gG X V mX11_length gShM M0 0 0 0 [(0, .ref (gAd V 0))] [] := by
  unfold fX11_length at h
  refine g_aload_n 0 rfl rfl dX11_length_0 ?_
  refine g_iconst (v := 0) rfl dX11_length_1 ?_
  obtain ⟨M1, eM1, h⟩ := g_bnd h
  refine g_putI' eM1 FX11_72 jX11 sM_0 rfl rfl rfl dX11_length_2 ?_
  refine g_aload_n 0 rfl rfl dX11_length_5 ?_
  obtain ⟨v2, ev2, h⟩ := g_bnd h
  refine g_callV LX11_412 sM_0 rfl (kX11_laysChains ev2) rfl rfl (Nat.le_of_ble_eq_true rfl) ⟨Nat.le_of_ble_eq_true rfl, Nat.le_of_ble_eq_true rfl⟩ ⟨Nat.le_of_ble_eq_true rfl, Nat.le_of_ble_eq_true rfl⟩ dX11_length_6 rfl ?_
  refine g_aload_n 0 rfl rfl dX11_length_9 ?_
  refine g_getI FX11_403 sM_0 rfl dX11_length_10 ?_
  cases h
  exact g_iret O ⟨Nat.le_of_ble_eq_true rfl, Nat.le_of_ble_eq_true rfl⟩ rfl dX11_length_13
theorem kX11_length {l : Launch} {V : gEnv} {M0 : gMem}   {o : (Int32 × gMem)} (h : fX11_length M0 = some o) : gM l yX11_length cX11_length 1 (some .int) rX11_length V gShM [.ref (gAd V 0)] M0 (some (.int o.1)) o.2 :=
  gM.of (by decide) (Nat.le_of_ble_eq_true rfl) rfl (fun X _ O => tX11_length  h O)
theorem dX11_tight_0 : decode cX11_tight 0 = .ok (.aload_n 0, 1) := by decide +kernel
theorem dX11_tight_1 : decode cX11_tight 1 = .ok (.iconst 0, 1) := by decide +kernel
theorem dX11_tight_2 : decode cX11_tight 2 = .ok (.putfield 72, 3) := by decide +kernel
theorem dX11_tight_5 : decode cX11_tight 5 = .ok (.aload_n 0, 1) := by decide +kernel
theorem dX11_tight_6 : decode cX11_tight 6 = .ok (.invokevirtual 412, 3) := by decide +kernel
theorem dX11_tight_9 : decode cX11_tight 9 = .ok (.iconst 0, 1) := by decide +kernel
theorem dX11_tight_10 : decode cX11_tight 10 = .ok (.istore_n 1, 1) := by decide +kernel
theorem dX11_tight_11 : decode cX11_tight 11 = .ok (.iconst 0, 1) := by decide +kernel
theorem dX11_tight_12 : decode cX11_tight 12 = .ok (.istore_n 2, 1) := by decide +kernel
theorem dX11_tight_13 : decode cX11_tight 13 = .ok (.iload_n 2, 1) := by decide +kernel
theorem dX11_tight_14 : decode cX11_tight 14 = .ok (.aload_n 0, 1) := by decide +kernel
theorem dX11_tight_15 : decode cX11_tight 15 = .ok (.getfield 9, 3) := by decide +kernel
theorem dX11_tight_18 : decode cX11_tight 18 = .ok (.iconst 2, 1) := by decide +kernel
theorem dX11_tight_19 : decode cX11_tight 19 = .ok (.iaload, 1) := by decide +kernel
theorem dX11_tight_20 : decode cX11_tight 20 = .ok (.if_icmp .ge 35, 3) := by decide +kernel
theorem dX11_tight_23 : decode cX11_tight 23 = .ok (.iload_n 1, 1) := by decide +kernel
theorem dX11_tight_24 : decode cX11_tight 24 = .ok (.aload_n 0, 1) := by decide +kernel
theorem dX11_tight_25 : decode cX11_tight 25 = .ok (.iload_n 2, 1) := by decide +kernel
theorem dX11_tight_26 : decode cX11_tight 26 = .ok (.invokevirtual 418, 3) := by decide +kernel
theorem dX11_tight_29 : decode cX11_tight 29 = .ok (.ifCond .ne 17, 3) := by decide +kernel
theorem dX11_tight_32 : decode cX11_tight 32 = .ok (.iconst 1, 1) := by decide +kernel
theorem dX11_tight_33 : decode cX11_tight 33 = .ok (.aload_n 0, 1) := by decide +kernel
theorem dX11_tight_34 : decode cX11_tight 34 = .ok (.getfield 9, 3) := by decide +kernel
theorem dX11_tight_37 : decode cX11_tight 37 = .ok (.bipush 14, 2) := by decide +kernel
theorem dX11_tight_39 : decode cX11_tight 39 = .ok (.iload_n 2, 1) := by decide +kernel
theorem dX11_tight_40 : decode cX11_tight 40 = .ok (.iadd, 1) := by decide +kernel
theorem dX11_tight_41 : decode cX11_tight 41 = .ok (.iaload, 1) := by decide +kernel
theorem dX11_tight_42 : decode cX11_tight 42 = .ok (.ishl, 1) := by decide +kernel
theorem dX11_tight_43 : decode cX11_tight 43 = .ok (.goto 4, 3) := by decide +kernel
theorem dX11_tight_46 : decode cX11_tight 46 = .ok (.iconst 0, 1) := by decide +kernel
theorem dX11_tight_47 : decode cX11_tight 47 = .ok (.ior, 1) := by decide +kernel
theorem dX11_tight_48 : decode cX11_tight 48 = .ok (.istore_n 1, 1) := by decide +kernel
theorem dX11_tight_49 : decode cX11_tight 49 = .ok (.iinc 2 1, 3) := by decide +kernel
theorem dX11_tight_52 : decode cX11_tight 52 = .ok (.goto (-39), 3) := by decide +kernel
theorem dX11_tight_55 : decode cX11_tight 55 = .ok (.iload_n 1, 1) := by decide +kernel
theorem dX11_tight_56 : decode cX11_tight 56 = .ok (.ireturn, 1) := by decide +kernel
abbrev rX11_tight : Room := { frames := 4, cells := 0, slots := 0, locals := 88 }
abbrev mX11_tight : gY := (cX11_tight, RX11, 3, rX11_tight)
def fX11_tight_b47 (x2 : Int32) (s0 : Int32) (s1 : Int32) (M0 : gMem) : Option ((Int32 × Int32) ⊕ Int32) :=
  (nm (s0 ||| s1)).bind fun v8 => some (.inl (v8, x2 + (1 : Int32)))
set_option maxRecDepth 20000 in
theorem tX11_tight_b47 {X : gX} {V : gEnv} {x2 : Int32} {s0 : Int32} {s1 : Int32} {M0 : gMem}  {o : ((Int32 × Int32) ⊕ Int32)} (h : fX11_tight_b47 x2 s0 s1 M0 = some o) (Kc : ∀ s9, o = .inl s9 → gG X V mX11_tight gShM M0 0 0 13 [(0, .ref (gAd V 0)), (1, .int s9.1), (2, .int s9.2)] []) (Kx : ∀ e9, o = .inr e9 → gG X V mX11_tight gShM M0 0 0 55 [(1, .int e9)] []) : gG X V mX11_tight gShM M0 0 0 47 [(0, .ref (gAd V 0)), (2, .int x2)] [.int s1, .int s0] := by
  unfold fX11_tight_b47 at h
  refine g_ior dX11_tight_47 ?_
  obtain ⟨v8, ev8, h⟩ := g_bnd h
  refine g_nmI ev8 ?_
  refine g_istore_n (ls' := [(1, .int v8), (0, .ref (gAd V 0)), (2, .int x2)]) rfl (Nat.le_of_ble_eq_true rfl) rfl dX11_tight_48 ?_
  refine g_iinc (j := 2) (v := x2 + (1 : Int32)) (ls' := [(2, .int (x2 + (1 : Int32))), (1, .int v8), (0, .ref (gAd V 0))]) rfl rfl (Nat.le_of_ble_eq_true rfl) rfl dX11_tight_49 ?_
  refine g_goto (tgt := 13) rfl dX11_tight_52 ?_
  cases h
  refine g_sub [2, 1, 0] rfl ?_
  exact Kc (v8, x2 + (1 : Int32)) rfl
def fX11_tight_l13 (M0 : gMem) (x1 : Int32) (x2 : Int32) : Option ((Int32 × Int32) ⊕ Int32) :=
  (rI M0 1 374 (2 : Int32)).bind fun v3 => if v3 ≤ x2 then (some (.inr x1)) else (fX11_slack x2 M0).bind fun v5 => if v5 = 0 then ((rI M0 1 374 ((14 : Int32) + x2)).bind fun v7 => fX11_tight_b47 x2 x1 ((1 : Int32) <<< (v7 &&& 31)) M0) else fX11_tight_b47 x2 x1 (0 : Int32) M0
set_option maxRecDepth 20000 in
theorem tX11_tight_l13 {X : gX} {V : gEnv} {M0 : gMem} {x1 : Int32} {x2 : Int32}  {o : ((Int32 × Int32) ⊕ Int32)} (h : fX11_tight_l13 M0 x1 x2 = some o) (Kc : ∀ s9, o = .inl s9 → gG X V mX11_tight gShM M0 0 0 13 [(0, .ref (gAd V 0)), (1, .int s9.1), (2, .int s9.2)] []) (Kx : ∀ e9, o = .inr e9 → gG X V mX11_tight gShM M0 0 0 55 [(1, .int e9)] []) : gG X V mX11_tight gShM M0 0 0 13 [(0, .ref (gAd V 0)), (1, .int x1), (2, .int x2)] [] := by
  unfold fX11_tight_l13 at h
  refine g_iload_n 2 rfl rfl dX11_tight_13 ?_
  refine g_aload_n 0 rfl rfl dX11_tight_14 ?_
  refine g_getR FX11_9 sM_0 rfl dX11_tight_15 ?_
  refine g_iconst (v := 2) rfl dX11_tight_18 ?_
  obtain ⟨v3, ev3, h⟩ := g_bnd h
  refine g_iald' ev3 sM_1 dX11_tight_19 ?_
  rcases g_ite h with ⟨c4, h⟩ | ⟨c4, h⟩
  · refine g_icmp_ge_t c4 (tgt := 55) rfl dX11_tight_20 ?_
    cases h
    refine g_sub [1] rfl ?_
    exact Kx x1 rfl
  · refine g_icmp_ge_f c4 (tgt := 55) rfl dX11_tight_20 ?_
    refine g_iload_n 1 rfl rfl dX11_tight_23 ?_
    refine g_aload_n 0 rfl rfl dX11_tight_24 ?_
    refine g_iload_n 2 rfl rfl dX11_tight_25 ?_
    obtain ⟨v5, ev5, h⟩ := g_bnd h
    refine g_callV LX11_418 sM_0 rfl (kX11_slack ev5) rfl rfl (Nat.le_of_ble_eq_true rfl) ⟨Nat.le_of_ble_eq_true rfl, Nat.le_of_ble_eq_true rfl⟩ ⟨Nat.le_of_ble_eq_true rfl, Nat.le_of_ble_eq_true rfl⟩ dX11_tight_26 rfl ?_
    rcases g_ite h with ⟨c6, h⟩ | ⟨c6, h⟩
    · refine g_if_ne_f c6 (tgt := 46) rfl dX11_tight_29 ?_
      refine g_iconst (v := 1) rfl dX11_tight_32 ?_
      refine g_aload_n 0 rfl rfl dX11_tight_33 ?_
      refine g_getR FX11_9 sM_0 rfl dX11_tight_34 ?_
      refine g_bipush (v := 14) rfl dX11_tight_37 ?_
      refine g_iload_n 2 rfl rfl dX11_tight_39 ?_
      refine g_iadd dX11_tight_40 ?_
      obtain ⟨v7, ev7, h⟩ := g_bnd h
      refine g_iald' ev7 sM_1 dX11_tight_41 ?_
      refine g_ishl dX11_tight_42 ?_
      refine g_goto (tgt := 47) rfl dX11_tight_43 ?_
      refine g_sub [0, 2] rfl ?_
      exact tX11_tight_b47  h Kc Kx
    · refine g_if_ne_t c6 (tgt := 46) rfl dX11_tight_29 ?_
      refine g_iconst (v := 0) rfl dX11_tight_46 ?_
      refine g_sub [0, 2] rfl ?_
      exact tX11_tight_b47  h Kc Kx
def fX11_tight (M0 : gMem) : Option (Int32 × gMem) :=
  (wF M0 0 0 (0 : Int32)).bind fun M1 => (fX11_laysChains M1).bind fun v2 => (gLoop (fun z9 => fX11_tight_l13 v2 z9.1 z9.2) gFu ((0 : Int32), (0 : Int32))).bind fun w9 => some (w9, v2)
set_option maxRecDepth 20000 in
theorem tX11_tight {X : gX} {V : gEnv} {M0 : gMem}  {o : (Int32 × gMem)} (h : fX11_tight M0 = some o) (O : gO X V mX11_tight gShM (some .int) (some (.int o.1)) o.2) : gG X V mX11_tight gShM M0 0 0 0 [(0, .ref (gAd V 0))] [] := by
  unfold fX11_tight at h
  refine g_aload_n 0 rfl rfl dX11_tight_0 ?_
  refine g_iconst (v := 0) rfl dX11_tight_1 ?_
  obtain ⟨M1, eM1, h⟩ := g_bnd h
  refine g_putI' eM1 FX11_72 jX11 sM_0 rfl rfl rfl dX11_tight_2 ?_
  refine g_aload_n 0 rfl rfl dX11_tight_5 ?_
  obtain ⟨v2, ev2, h⟩ := g_bnd h
  refine g_callV LX11_412 sM_0 rfl (kX11_laysChains ev2) rfl rfl (Nat.le_of_ble_eq_true rfl) ⟨Nat.le_of_ble_eq_true rfl, Nat.le_of_ble_eq_true rfl⟩ ⟨Nat.le_of_ble_eq_true rfl, Nat.le_of_ble_eq_true rfl⟩ dX11_tight_6 rfl ?_
  refine g_iconst (v := 0) rfl dX11_tight_9 ?_
  refine g_istore_n (ls' := [(1, .int (0 : Int32)), (0, .ref (gAd V 0))]) rfl (Nat.le_of_ble_eq_true rfl) rfl dX11_tight_10 ?_
  refine g_iconst (v := 0) rfl dX11_tight_11 ?_
  refine g_istore_n (ls' := [(2, .int (0 : Int32)), (1, .int (0 : Int32)), (0, .ref (gAd V 0))]) rfl (Nat.le_of_ble_eq_true rfl) rfl dX11_tight_12 ?_
  obtain ⟨w9, ew9, h⟩ := g_bnd h
  refine g_sub [2, 1, 0] rfl ?_
  have KX : gG X V mX11_tight gShM v2 0 0 55 [(1, .int w9)] [] := by
    refine g_iload_n 0 rfl rfl dX11_tight_55 ?_
    cases h
    exact g_iret O ⟨Nat.le_of_ble_eq_true rfl, Nat.le_of_ble_eq_true rfl⟩ rfl dX11_tight_56
  exact gLoop_Q ew9 (fun z9 => gG X V mX11_tight gShM v2 0 0 13 [(0, .ref (gAd V 0)), (1, .int z9.1), (2, .int z9.2)] []) (fun s9 o9 hb9 hc9 hx9 => tX11_tight_l13  hb9 hc9 (fun e9 he9 => by cases hx9 _ he9; exact KX))
theorem kX11_tight {l : Launch} {V : gEnv} {M0 : gMem}   {o : (Int32 × gMem)} (h : fX11_tight M0 = some o) : gM l yX11_tight cX11_tight 3 (some .int) rX11_tight V gShM [.ref (gAd V 0)] M0 (some (.int o.1)) o.2 :=
  gM.of (by decide) (Nat.le_of_ble_eq_true rfl) rfl (fun X _ O => tX11_tight  h O)
