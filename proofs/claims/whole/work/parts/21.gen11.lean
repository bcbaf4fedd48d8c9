/-! METHODS, by program: pure functions and contracts -/
theorem dX11_noTasks_0 : decode cX11_noTasks 0 = .ok (.aload_n 0, 1) := by decide +kernel
theorem dX11_noTasks_1 : decode cX11_noTasks 1 = .ok (.iload_n 1, 1) := by decide +kernel
theorem dX11_noTasks_2 : decode cX11_noTasks 2 = .ok (.invokevirtual 389, 3) := by decide +kernel
theorem dX11_noTasks_5 : decode cX11_noTasks 5 = .ok (.ifCond .ne 11, 3) := by decide +kernel
theorem dX11_noTasks_8 : decode cX11_noTasks 8 = .ok (.aload_n 0, 1) := by decide +kernel
theorem dX11_noTasks_9 : decode cX11_noTasks 9 = .ok (.iload_n 2, 1) := by decide +kernel
theorem dX11_noTasks_10 : decode cX11_noTasks 10 = .ok (.invokevirtual 389, 3) := by decide +kernel
theorem dX11_noTasks_13 : decode cX11_noTasks 13 = .ok (.ifCond .eq 7, 3) := by decide +kernel
theorem dX11_noTasks_16 : decode cX11_noTasks 16 = .ok (.iconst 1, 1) := by decide +kernel
theorem dX11_noTasks_17 : decode cX11_noTasks 17 = .ok (.goto 4, 3) := by decide +kernel
theorem dX11_noTasks_20 : decode cX11_noTasks 20 = .ok (.iconst 0, 1) := by decide +kernel
theorem dX11_noTasks_21 : decode cX11_noTasks 21 = .ok (.ireturn, 1) := by decide +kernel
abbrev rX11_noTasks : Room := { frames := 2, cells := 0, slots := 0, locals := 43 }
abbrev mX11_noTasks : gY := (cX11_noTasks, RX11, 3, rX11_noTasks)
def fX11_noTasks_b16 (M0 : gMem) : Option (Int32 × gMem) :=
  some ((1 : Int32), M0)
set_option maxRecDepth 20000 in
theorem tX11_noTasks_b16 {X : gX} {V : gEnv} {M0 : gMem}  {o : (Int32 × gMem)} (h : fX11_noTasks_b16 M0 = some o) (O : gO X V mX11_noTasks gShM (some .boolean) (some (.int o.1)) o.2) : gG X V mX11_noTasks gShM M0 0 0 16 [] [] := by
  unfold fX11_noTasks_b16 at h
  refine g_iconst (v := 1) rfl dX11_noTasks_16 ?_
  refine g_goto (tgt := 21) rfl dX11_noTasks_17 ?_
  cases h
  exact g_iret O ⟨Nat.le_of_ble_eq_true rfl, Nat.le_of_ble_eq_true rfl⟩ rfl dX11_noTasks_21
def fX11_noTasks (x1 : Int32) (x2 : Int32) (M0 : gMem) : Option (Int32 × gMem) :=
  (fX11_noTask x1 M0).bind fun v1 => if v1.1 = 0 then ((fX11_noTask x2 v1.2).bind fun v3 => if v3.1 = 0 then (some ((0 : Int32), v3.2)) else fX11_noTasks_b16 v3.2) else fX11_noTasks_b16 v1.2
set_option maxRecDepth 20000 in
theorem tX11_noTasks {X : gX} {V : gEnv} {x1 : Int32} {x2 : Int32} {M0 : gMem}  {o : (Int32 × gMem)} (h : fX11_noTasks x1 x2 M0 = some o) (O : gO X V mX11_noTasks gShM (some .boolean) (some (.int o.1)) o.2) : gG X V mX11_noTasks gShM M0 0 0 0 [(0, .ref (gAd V 0)), (1, .int x1), (2, .int x2)] [] := by
  unfold fX11_noTasks at h
  refine g_aload_n 0 rfl rfl dX11_noTasks_0 ?_
  refine g_iload_n 1 rfl rfl dX11_noTasks_1 ?_
  obtain ⟨v1, ev1, h⟩ := g_bnd h
  refine g_callV LX11_389 sM_0 rfl (kX11_noTask ev1) rfl rfl (Nat.le_of_ble_eq_true rfl) ⟨Nat.le_of_ble_eq_true rfl, Nat.le_of_ble_eq_true rfl⟩ ⟨Nat.le_of_ble_eq_true rfl, Nat.le_of_ble_eq_true rfl⟩ dX11_noTasks_2 rfl ?_
  rcases g_ite h with ⟨c2, h⟩ | ⟨c2, h⟩
  · refine g_if_ne_f c2 (tgt := 16) rfl dX11_noTasks_5 ?_
    refine g_aload_n 0 rfl rfl dX11_noTasks_8 ?_
    refine g_iload_n 2 rfl rfl dX11_noTasks_9 ?_
    obtain ⟨v3, ev3, h⟩ := g_bnd h
    refine g_callV LX11_389 sM_0 rfl (kX11_noTask ev3) rfl rfl (Nat.le_of_ble_eq_true rfl) ⟨Nat.le_of_ble_eq_true rfl, Nat.le_of_ble_eq_true rfl⟩ ⟨Nat.le_of_ble_eq_true rfl, Nat.le_of_ble_eq_true rfl⟩ dX11_noTasks_10 rfl ?_
    rcases g_ite h with ⟨c4, h⟩ | ⟨c4, h⟩
    · refine g_if_eq_t c4 (tgt := 20) rfl dX11_noTasks_13 ?_
      refine g_iconst (v := 0) rfl dX11_noTasks_20 ?_
      cases h
      exact g_iret O ⟨Nat.le_of_ble_eq_true rfl, Nat.le_of_ble_eq_true rfl⟩ rfl dX11_noTasks_21
    · refine g_if_eq_f c4 (tgt := 20) rfl dX11_noTasks_13 ?_
      refine g_sub [] rfl ?_
      exact tX11_noTasks_b16  h O
  · refine g_if_ne_t c2 (tgt := 16) rfl dX11_noTasks_5 ?_
    refine g_sub [] rfl ?_
    exact tX11_noTasks_b16  h O
theorem kX11_noTasks {l : Launch} {V : gEnv} {M0 : gMem} {x1 : Int32} {x2 : Int32}  {o : (Int32 × gMem)} (h : fX11_noTasks x1 x2 M0 = some o) : gM l yX11_noTasks cX11_noTasks 3 (some .boolean) rX11_noTasks V gShM [.ref (gAd V 0), .int x1, .int x2] M0 (some (.int o.1)) o.2 :=
  gM.of (by decide) (Nat.le_of_ble_eq_true rfl) rfl (fun X _ O => tX11_noTasks  h O)
theorem dX11_arrowsOf_0 : decode cX11_arrowsOf 0 = .ok (.iconst 0, 1) := by decide +kernel
theorem dX11_arrowsOf_1 : decode cX11_arrowsOf 1 = .ok (.istore_n 3, 1) := by decide +kernel
theorem dX11_arrowsOf_2 : decode cX11_arrowsOf 2 = .ok (.iconst 0, 1) := by decide +kernel
theorem dX11_arrowsOf_3 : decode cX11_arrowsOf 3 = .ok (.istore 4, 2) := by decide +kernel
theorem dX11_arrowsOf_5 : decode cX11_arrowsOf 5 = .ok (.iload 4, 2) := by decide +kernel
theorem dX11_arrowsOf_7 : decode cX11_arrowsOf 7 = .ok (.aload_n 0, 1) := by decide +kernel
theorem dX11_arrowsOf_8 : decode cX11_arrowsOf 8 = .ok (.getfield 9, 3) := by decide +kernel
theorem dX11_arrowsOf_11 : decode cX11_arrowsOf 11 = .ok (.iconst 1, 1) := by decide +kernel
theorem dX11_arrowsOf_12 : decode cX11_arrowsOf 12 = .ok (.iaload, 1) := by decide +kernel
theorem dX11_arrowsOf_13 : decode cX11_arrowsOf 13 = .ok (.if_icmp .ge 48, 3) := by decide +kernel
theorem dX11_arrowsOf_16 : decode cX11_arrowsOf 16 = .ok (.iload_n 3, 1) := by decide +kernel
theorem dX11_arrowsOf_17 : decode cX11_arrowsOf 17 = .ok (.iload_n 2, 1) := by decide +kernel
theorem dX11_arrowsOf_18 : decode cX11_arrowsOf 18 = .ok (.ifCond .eq 16, 3) := by decide +kernel
theorem dX11_arrowsOf_21 : decode cX11_arrowsOf 21 = .ok (.aload_n 0, 1) := by decide +kernel
theorem dX11_arrowsOf_22 : decode cX11_arrowsOf 22 = .ok (.getfield 9, 3) := by decide +kernel
theorem dX11_arrowsOf_25 : decode cX11_arrowsOf 25 = .ok (.bipush 38, 2) := by decide +kernel
theorem dX11_arrowsOf_27 : decode cX11_arrowsOf 27 = .ok (.iload 4, 2) := by decide +kernel
theorem dX11_arrowsOf_29 : decode cX11_arrowsOf 29 = .ok (.iadd, 1) := by decide +kernel
theorem dX11_arrowsOf_30 : decode cX11_arrowsOf 30 = .ok (.iaload, 1) := by decide +kernel
theorem dX11_arrowsOf_31 : decode cX11_arrowsOf 31 = .ok (.goto 13, 3) := by decide +kernel
theorem dX11_arrowsOf_34 : decode cX11_arrowsOf 34 = .ok (.aload_n 0, 1) := by decide +kernel
theorem dX11_arrowsOf_35 : decode cX11_arrowsOf 35 = .ok (.getfield 9, 3) := by decide +kernel
theorem dX11_arrowsOf_38 : decode cX11_arrowsOf 38 = .ok (.bipush 98, 2) := by decide +kernel
theorem dX11_arrowsOf_40 : decode cX11_arrowsOf 40 = .ok (.iload 4, 2) := by decide +kernel
theorem dX11_arrowsOf_42 : decode cX11_arrowsOf 42 = .ok (.iadd, 1) := by decide +kernel
theorem dX11_arrowsOf_43 : decode cX11_arrowsOf 43 = .ok (.iaload, 1) := by decide +kernel
theorem dX11_arrowsOf_44 : decode cX11_arrowsOf 44 = .ok (.iload_n 1, 1) := by decide +kernel
theorem dX11_arrowsOf_45 : decode cX11_arrowsOf 45 = .ok (.if_icmp .ne 7, 3) := by decide +kernel
theorem dX11_arrowsOf_48 : decode cX11_arrowsOf 48 = .ok (.iconst 1, 1) := by decide +kernel
theorem dX11_arrowsOf_49 : decode cX11_arrowsOf 49 = .ok (.goto 4, 3) := by decide +kernel
theorem dX11_arrowsOf_52 : decode cX11_arrowsOf 52 = .ok (.iconst 0, 1) := by decide +kernel
theorem dX11_arrowsOf_53 : decode cX11_arrowsOf 53 = .ok (.iadd, 1) := by decide +kernel
theorem dX11_arrowsOf_54 : decode cX11_arrowsOf 54 = .ok (.istore_n 3, 1) := by decide +kernel
theorem dX11_arrowsOf_55 : decode cX11_arrowsOf 55 = .ok (.iinc 4 1, 3) := by decide +kernel
theorem dX11_arrowsOf_58 : decode cX11_arrowsOf 58 = .ok (.goto (-53), 3) := by decide +kernel
theorem dX11_arrowsOf_61 : decode cX11_arrowsOf 61 = .ok (.iload_n 3, 1) := by decide +kernel
theorem dX11_arrowsOf_62 : decode cX11_arrowsOf 62 = .ok (.ireturn, 1) := by decide +kernel
abbrev rX11_arrowsOf : Room := { frames := 0, cells := 0, slots := 0, locals := 0 }
abbrev mX11_arrowsOf : gY := (cX11_arrowsOf, RX11, 5, rX11_arrowsOf)
def fX11_arrowsOf_b44 (x1 : Int32) (x2 : Int32) (x4 : Int32) (s0 : Int32) (s1 : Int32) (M0 : gMem) : Option ((Int32 × Int32) ⊕ Int32) :=
  (nm (s0 + (if s1 = x1 then (1 : Int32) else (0 : Int32)))).bind fun v6 => some (.inl (v6, x4 + (1 : Int32)))
set_option maxRecDepth 20000 in
theorem tX11_arrowsOf_b44 {X : gX} {V : gEnv} {x1 : Int32} {x2 : Int32} {x4 : Int32} {s0 : Int32} {s1 : Int32} {M0 : gMem}  {o : ((Int32 × Int32) ⊕ Int32)} (h : fX11_arrowsOf_b44 x1 x2 x4 s0 s1 M0 = some o) (Kc : ∀ s9, o = .inl s9 → gG X V mX11_arrowsOf gShM M0 0 0 5 [(0, .ref (gAd V 0)), (1, .int x1), (2, .int x2), (3, .int s9.1), (4, .int s9.2)] []) (Kx : ∀ e9, o = .inr e9 → gG X V mX11_arrowsOf gShM M0 0 0 61 [(3, .int e9)] []) : gG X V mX11_arrowsOf gShM M0 0 0 44 [(0, .ref (gAd V 0)), (1, .int x1), (2, .int x2), (4, .int x4)] [.int s1, .int s0] := by
  unfold fX11_arrowsOf_b44 at h
  refine g_iload_n 1 rfl rfl dX11_arrowsOf_44 ?_
  have KJ : gG X V mX11_arrowsOf gShM M0 0 0 53 [(0, .ref (gAd V 0)), (1, .int x1), (2, .int x2), (4, .int x4)] [.int (if s1 = x1 then (1 : Int32) else (0 : Int32)), .int s0] := by
    refine g_iadd dX11_arrowsOf_53 ?_
    obtain ⟨v6, ev6, h⟩ := g_bnd h
    refine g_nmI ev6 ?_
    refine g_istore_n (ls' := [(3, .int v6), (0, .ref (gAd V 0)), (1, .int x1), (2, .int x2), (4, .int x4)]) rfl (Nat.le_of_ble_eq_true rfl) rfl dX11_arrowsOf_54 ?_
    refine g_iinc (j := 4) (v := x4 + (1 : Int32)) (ls' := [(4, .int (x4 + (1 : Int32))), (3, .int v6), (0, .ref (gAd V 0)), (1, .int x1), (2, .int x2)]) rfl rfl (Nat.le_of_ble_eq_true rfl) rfl dX11_arrowsOf_55 ?_
    refine g_goto (tgt := 5) rfl dX11_arrowsOf_58 ?_
    cases h
    refine g_sub [2, 3, 4, 1, 0] rfl ?_
    exact Kc (v6, x4 + (1 : Int32)) rfl
  by_cases c5 : s1 = x1
  · rw [if_pos c5] at KJ
    refine g_icmp_ne_f c5 (tgt := 52) rfl dX11_arrowsOf_45 ?_
    refine g_iconst (v := 1) rfl dX11_arrowsOf_48 ?_
    refine g_goto (tgt := 53) rfl dX11_arrowsOf_49 ?_
    exact KJ
  · rw [if_neg c5] at KJ
    refine g_icmp_ne_t c5 (tgt := 52) rfl dX11_arrowsOf_45 ?_
    refine g_iconst (v := 0) rfl dX11_arrowsOf_52 ?_
    exact KJ
def fX11_arrowsOf_l5 (x1 : Int32) (x2 : Int32) (M0 : gMem) (x3 : Int32) (x4 : Int32) : Option ((Int32 × Int32) ⊕ Int32) :=
  (rI M0 1 374 (1 : Int32)).bind fun v1 => if v1 ≤ x4 then (some (.inr x3)) else if x2 = 0 then ((rI M0 1 374 ((98 : Int32) + x4)).bind fun v4 => fX11_arrowsOf_b44 x1 x2 x4 x3 v4 M0) else (rI M0 1 374 ((38 : Int32) + x4)).bind fun v7 => fX11_arrowsOf_b44 x1 x2 x4 x3 v7 M0
set_option maxRecDepth 20000 in
theorem tX11_arrowsOf_l5 {X : gX} {V : gEnv} {x1 : Int32} {x2 : Int32} {M0 : gMem} {x3 : Int32} {x4 : Int32}  {o : ((Int32 × Int32) ⊕ Int32)} (h : fX11_arrowsOf_l5 x1 x2 M0 x3 x4 = some o) (Kc : ∀ s9, o = .inl s9 → gG X V mX11_arrowsOf gShM M0 0 0 5 [(0, .ref (gAd V 0)), (1, .int x1), (2, .int x2), (3, .int s9.1), (4, .int s9.2)] []) (Kx : ∀ e9, o = .inr e9 → gG X V mX11_arrowsOf gShM M0 0 0 61 [(3, .int e9)] []) : gG X V mX11_arrowsOf gShM M0 0 0 5 [(0, .ref (gAd V 0)), (1, .int x1), (2, .int x2), (3, .int x3), (4, .int x4)] [] := by
  unfold fX11_arrowsOf_l5 at h
  refine g_iload 4 rfl dX11_arrowsOf_5 ?_
  refine g_aload_n 0 rfl rfl dX11_arrowsOf_7 ?_
  refine g_getR FX11_9 sM_0 rfl dX11_arrowsOf_8 ?_
  refine g_iconst (v := 1) rfl dX11_arrowsOf_11 ?_
  obtain ⟨v1, ev1, h⟩ := g_bnd h
  refine g_iald' ev1 sM_1 dX11_arrowsOf_12 ?_
  rcases g_ite h with ⟨c2, h⟩ | ⟨c2, h⟩
  · refine g_icmp_ge_t c2 (tgt := 61) rfl dX11_arrowsOf_13 ?_
    cases h
    refine g_sub [3] rfl ?_
    exact Kx x3 rfl
  · refine g_icmp_ge_f c2 (tgt := 61) rfl dX11_arrowsOf_13 ?_
    refine g_iload_n 3 rfl rfl dX11_arrowsOf_16 ?_
    refine g_iload_n 2 rfl rfl dX11_arrowsOf_17 ?_
    rcases g_ite h with ⟨c3, h⟩ | ⟨c3, h⟩
    · refine g_if_eq_t c3 (tgt := 34) rfl dX11_arrowsOf_18 ?_
      refine g_aload_n 0 rfl rfl dX11_arrowsOf_34 ?_
      refine g_getR FX11_9 sM_0 rfl dX11_arrowsOf_35 ?_
      refine g_bipush (v := 98) rfl dX11_arrowsOf_38 ?_
      refine g_iload 4 rfl dX11_arrowsOf_40 ?_
      refine g_iadd dX11_arrowsOf_42 ?_
      obtain ⟨v4, ev4, h⟩ := g_bnd h
      refine g_iald' ev4 sM_1 dX11_arrowsOf_43 ?_
      refine g_sub [0, 1, 2, 4] rfl ?_
      exact tX11_arrowsOf_b44  h Kc Kx
    · refine g_if_eq_f c3 (tgt := 34) rfl dX11_arrowsOf_18 ?_
      refine g_aload_n 0 rfl rfl dX11_arrowsOf_21 ?_
      refine g_getR FX11_9 sM_0 rfl dX11_arrowsOf_22 ?_
      refine g_bipush (v := 38) rfl dX11_arrowsOf_25 ?_
      refine g_iload 4 rfl dX11_arrowsOf_27 ?_
      refine g_iadd dX11_arrowsOf_29 ?_
      obtain ⟨v7, ev7, h⟩ := g_bnd h
      refine g_iald' ev7 sM_1 dX11_arrowsOf_30 ?_
      refine g_goto (tgt := 44) rfl dX11_arrowsOf_31 ?_
      refine g_sub [0, 1, 2, 4] rfl ?_
      exact tX11_arrowsOf_b44  h Kc Kx
def fX11_arrowsOf (x1 : Int32) (x2 : Int32) (M0 : gMem) : Option Int32 :=
  (gLoop (fun z9 => fX11_arrowsOf_l5 x1 x2 M0 z9.1 z9.2) gFu ((0 : Int32), (0 : Int32))).bind fun w8 => some w8
set_option maxRecDepth 20000 in
theorem tX11_arrowsOf {X : gX} {V : gEnv} {x1 : Int32} {x2 : Int32} {M0 : gMem}  {o : Int32} (h : fX11_arrowsOf x1 x2 M0 = some o) (O : gO X V mX11_arrowsOf gShM (some .int) (some (.int o)) M0) : gG X V mX11_arrowsOf gShM M0 0 0 0 [(0, .ref (gAd V 0)), (1, .int x1), (2, .int x2)] [] := by
  unfold fX11_arrowsOf at h
  refine g_iconst (v := 0) rfl dX11_arrowsOf_0 ?_
  refine g_istore_n (ls' := [(3, .int (0 : Int32)), (0, .ref (gAd V 0)), (1, .int x1), (2, .int x2)]) rfl (Nat.le_of_ble_eq_true rfl) rfl dX11_arrowsOf_1 ?_
  refine g_iconst (v := 0) rfl dX11_arrowsOf_2 ?_
  refine g_istore (ls' := [(4, .int (0 : Int32)), (3, .int (0 : Int32)), (0, .ref (gAd V 0)), (1, .int x1), (2, .int x2)]) (Nat.le_of_ble_eq_true rfl) rfl dX11_arrowsOf_3 ?_
  obtain ⟨w8, ew8, h⟩ := g_bnd h
  refine g_sub [2, 3, 4, 1, 0] rfl ?_
  have KX : gG X V mX11_arrowsOf gShM M0 0 0 61 [(3, .int w8)] [] := by
    refine g_iload_n 0 rfl rfl dX11_arrowsOf_61 ?_
    cases h
    exact g_iret O ⟨Nat.le_of_ble_eq_true rfl, Nat.le_of_ble_eq_true rfl⟩ rfl dX11_arrowsOf_62
  exact gLoop_Q ew8 (fun z9 => gG X V mX11_arrowsOf gShM M0 0 0 5 [(0, .ref (gAd V 0)), (1, .int x1), (2, .int x2), (3, .int z9.1), (4, .int z9.2)] []) (fun s9 o9 hb9 hc9 hx9 => tX11_arrowsOf_l5  hb9 hc9 (fun e9 he9 => by cases hx9 _ he9; exact KX))
theorem kX11_arrowsOf {l : Launch} {V : gEnv} {M0 : gMem} {x1 : Int32} {x2 : Int32}  {o : Int32} (h : fX11_arrowsOf x1 x2 M0 = some o) : gM l yX11_arrowsOf cX11_arrowsOf 5 (some .int) rX11_arrowsOf V gShM [.ref (gAd V 0), .int x1, .int x2] M0 (some (.int o)) M0 :=
  gM.of (by decide) (Nat.le_of_ble_eq_true rfl) rfl (fun X _ O => tX11_arrowsOf  h O)
theorem dX11_reaching_0 : decode cX11_reaching 0 = .ok (.iconst 0, 1) := by decide +kernel
theorem dX11_reaching_1 : decode cX11_reaching 1 = .ok (.istore_n 2, 1) := by decide +kernel
theorem dX11_reaching_2 : decode cX11_reaching 2 = .ok (.iconst 0, 1) := by decide +kernel
theorem dX11_reaching_3 : decode cX11_reaching 3 = .ok (.istore_n 3, 1) := by decide +kernel
theorem dX11_reaching_4 : decode cX11_reaching 4 = .ok (.iload_n 3, 1) := by decide +kernel
theorem dX11_reaching_5 : decode cX11_reaching 5 = .ok (.aload_n 0, 1) := by decide +kernel
theorem dX11_reaching_6 : decode cX11_reaching 6 = .ok (.getfield 9, 3) := by decide +kernel
theorem dX11_reaching_9 : decode cX11_reaching 9 = .ok (.iconst 0, 1) := by decide +kernel
theorem dX11_reaching_10 : decode cX11_reaching 10 = .ok (.iaload, 1) := by decide +kernel
theorem dX11_reaching_11 : decode cX11_reaching 11 = .ok (.if_icmp .ge 30, 3) := by decide +kernel
theorem dX11_reaching_14 : decode cX11_reaching 14 = .ok (.iload_n 2, 1) := by decide +kernel
theorem dX11_reaching_15 : decode cX11_reaching 15 = .ok (.aload_n 0, 1) := by decide +kernel
theorem dX11_reaching_16 : decode cX11_reaching 16 = .ok (.getfield 25, 3) := by decide +kernel
theorem dX11_reaching_19 : decode cX11_reaching 19 = .ok (.iload_n 3, 1) := by decide +kernel
theorem dX11_reaching_20 : decode cX11_reaching 20 = .ok (.iaload, 1) := by decide +kernel
theorem dX11_reaching_21 : decode cX11_reaching 21 = .ok (.iload_n 1, 1) := by decide +kernel
theorem dX11_reaching_22 : decode cX11_reaching 22 = .ok (.invokestatic 93, 3) := by decide +kernel
theorem dX11_reaching_25 : decode cX11_reaching 25 = .ok (.ifCond .eq 7, 3) := by decide +kernel
theorem dX11_reaching_28 : decode cX11_reaching 28 = .ok (.iconst 1, 1) := by decide +kernel
theorem dX11_reaching_29 : decode cX11_reaching 29 = .ok (.goto 4, 3) := by decide +kernel
theorem dX11_reaching_32 : decode cX11_reaching 32 = .ok (.iconst 0, 1) := by decide +kernel
theorem dX11_reaching_33 : decode cX11_reaching 33 = .ok (.iadd, 1) := by decide +kernel
theorem dX11_reaching_34 : decode cX11_reaching 34 = .ok (.istore_n 2, 1) := by decide +kernel
theorem dX11_reaching_35 : decode cX11_reaching 35 = .ok (.iinc 3 1, 3) := by decide +kernel
theorem dX11_reaching_38 : decode cX11_reaching 38 = .ok (.goto (-34), 3) := by decide +kernel
theorem dX11_reaching_41 : decode cX11_reaching 41 = .ok (.iload_n 2, 1) := by decide +kernel
theorem dX11_reaching_42 : decode cX11_reaching 42 = .ok (.iconst 1, 1) := by decide +kernel
theorem dX11_reaching_43 : decode cX11_reaching 43 = .ok (.isub, 1) := by decide +kernel
theorem dX11_reaching_44 : decode cX11_reaching 44 = .ok (.ireturn, 1) := by decide +kernel
abbrev rX11_reaching : Room := { frames := 1, cells := 0, slots := 0, locals := 21 }
abbrev mX11_reaching : gY := (cX11_reaching, RX11, 4, rX11_reaching)
def fX11_reaching_l4 (x1 : Int32) (M0 : gMem) (x2 : Int32) (x3 : Int32) : Option ((Int32 × Int32) ⊕ Int32) :=
  (rI M0 1 374 (0 : Int32)).bind fun v1 => if v1 ≤ x3 then (some (.inr x2)) else (rI M0 6 24 x3).bind fun v3 => (fX11_has v3 x1).bind fun v4 => (nm (x2 + (if v4 = 0 then (0 : Int32) else (1 : Int32)))).bind fun v6 => some (.inl (v6, x3 + (1 : Int32)))
set_option maxRecDepth 20000 in
theorem tX11_reaching_l4 {X : gX} {V : gEnv} {x1 : Int32} {M0 : gMem} {x2 : Int32} {x3 : Int32}  {o : ((Int32 × Int32) ⊕ Int32)} (h : fX11_reaching_l4 x1 M0 x2 x3 = some o) (Kc : ∀ s9, o = .inl s9 → gG X V mX11_reaching gShM M0 0 0 4 [(0, .ref (gAd V 0)), (1, .int x1), (2, .int s9.1), (3, .int s9.2)] []) (Kx : ∀ e9, o = .inr e9 → gG X V mX11_reaching gShM M0 0 0 41 [(2, .int e9)] []) : gG X V mX11_reaching gShM M0 0 0 4 [(0, .ref (gAd V 0)), (1, .int x1), (2, .int x2), (3, .int x3)] [] := by
  unfold fX11_reaching_l4 at h
  refine g_iload_n 3 rfl rfl dX11_reaching_4 ?_
  refine g_aload_n 0 rfl rfl dX11_reaching_5 ?_
  refine g_getR FX11_9 sM_0 rfl dX11_reaching_6 ?_
  refine g_iconst (v := 0) rfl dX11_reaching_9 ?_
  obtain ⟨v1, ev1, h⟩ := g_bnd h
  refine g_iald' ev1 sM_1 dX11_reaching_10 ?_
  rcases g_ite h with ⟨c2, h⟩ | ⟨c2, h⟩
  · refine g_icmp_ge_t c2 (tgt := 41) rfl dX11_reaching_11 ?_
    cases h
    refine g_sub [2] rfl ?_
    exact Kx x2 rfl
  · refine g_icmp_ge_f c2 (tgt := 41) rfl dX11_reaching_11 ?_
    refine g_iload_n 2 rfl rfl dX11_reaching_14 ?_
    refine g_aload_n 0 rfl rfl dX11_reaching_15 ?_
    refine g_getR FX11_25 sM_0 rfl dX11_reaching_16 ?_
    refine g_iload_n 3 rfl rfl dX11_reaching_19 ?_
    obtain ⟨v3, ev3, h⟩ := g_bnd h
    refine g_iald' ev3 sM_6 dX11_reaching_20 ?_
    refine g_iload_n 1 rfl rfl dX11_reaching_21 ?_
    obtain ⟨v4, ev4, h⟩ := g_bnd h
    refine g_callS LX11_93 (kX11_has ev4) rfl rfl (Nat.le_of_ble_eq_true rfl) ⟨Nat.le_of_ble_eq_true rfl, Nat.le_of_ble_eq_true rfl⟩ ⟨Nat.le_of_ble_eq_true rfl, Nat.le_of_ble_eq_true rfl⟩ dX11_reaching_22 rfl ?_
    have KJ : gG X V mX11_reaching gShM M0 0 0 33 [(0, .ref (gAd V 0)), (1, .int x1), (2, .int x2), (3, .int x3)] [.int (if v4 = 0 then (0 : Int32) else (1 : Int32)), .int x2] := by
      refine g_iadd dX11_reaching_33 ?_
      obtain ⟨v6, ev6, h⟩ := g_bnd h
      refine g_nmI ev6 ?_
      refine g_istore_n (ls' := [(2, .int v6), (0, .ref (gAd V 0)), (1, .int x1), (3, .int x3)]) rfl (Nat.le_of_ble_eq_true rfl) rfl dX11_reaching_34 ?_
      refine g_iinc (j := 3) (v := x3 + (1 : Int32)) (ls' := [(3, .int (x3 + (1 : Int32))), (2, .int v6), (0, .ref (gAd V 0)), (1, .int x1)]) rfl rfl (Nat.le_of_ble_eq_true rfl) rfl dX11_reaching_35 ?_
      refine g_goto (tgt := 4) rfl dX11_reaching_38 ?_
      cases h
      refine g_sub [2, 3, 1, 0] rfl ?_
      exact Kc (v6, x3 + (1 : Int32)) rfl
    by_cases c5 : v4 = 0
    · rw [if_pos c5] at KJ
      refine g_if_eq_t c5 (tgt := 32) rfl dX11_reaching_25 ?_
      refine g_iconst (v := 0) rfl dX11_reaching_32 ?_
      exact KJ
    · rw [if_neg c5] at KJ
      refine g_if_eq_f c5 (tgt := 32) rfl dX11_reaching_25 ?_
      refine g_iconst (v := 1) rfl dX11_reaching_28 ?_
      refine g_goto (tgt := 33) rfl dX11_reaching_29 ?_
      exact KJ
def fX11_reaching (x1 : Int32) (M0 : gMem) : Option Int32 :=
  (gLoop (fun z9 => fX11_reaching_l4 x1 M0 z9.1 z9.2) gFu ((0 : Int32), (0 : Int32))).bind fun w7 => some (w7 - (1 : Int32))
set_option maxRecDepth 20000 in
theorem tX11_reaching {X : gX} {V : gEnv} {x1 : Int32} {M0 : gMem}  {o : Int32} (h : fX11_reaching x1 M0 = some o) (O : gO X V mX11_reaching gShM (some .int) (some (.int o)) M0) : gG X V mX11_reaching gShM M0 0 0 0 [(0, .ref (gAd V 0)), (1, .int x1)] [] := by
  unfold fX11_reaching at h
  refine g_iconst (v := 0) rfl dX11_reaching_0 ?_
  refine g_istore_n (ls' := [(2, .int (0 : Int32)), (0, .ref (gAd V 0)), (1, .int x1)]) rfl (Nat.le_of_ble_eq_true rfl) rfl dX11_reaching_1 ?_
  refine g_iconst (v := 0) rfl dX11_reaching_2 ?_
  refine g_istore_n (ls' := [(3, .int (0 : Int32)), (2, .int (0 : Int32)), (0, .ref (gAd V 0)), (1, .int x1)]) rfl (Nat.le_of_ble_eq_true rfl) rfl dX11_reaching_3 ?_
  obtain ⟨w7, ew7, h⟩ := g_bnd h
  refine g_sub [2, 3, 1, 0] rfl ?_
  have KX : gG X V mX11_reaching gShM M0 0 0 41 [(2, .int w7)] [] := by
    refine g_iload_n 0 rfl rfl dX11_reaching_41 ?_
    refine g_iconst (v := 1) rfl dX11_reaching_42 ?_
    refine g_isub dX11_reaching_43 ?_
    cases h
    exact g_iret O ⟨Nat.le_of_ble_eq_true rfl, Nat.le_of_ble_eq_true rfl⟩ rfl dX11_reaching_44
  exact gLoop_Q ew7 (fun z9 => gG X V mX11_reaching gShM M0 0 0 4 [(0, .ref (gAd V 0)), (1, .int x1), (2, .int z9.1), (3, .int z9.2)] []) (fun s9 o9 hb9 hc9 hx9 => tX11_reaching_l4  hb9 hc9 (fun e9 he9 => by cases hx9 _ he9; exact KX))
theorem kX11_reaching {l : Launch} {V : gEnv} {M0 : gMem} {x1 : Int32}  {o : Int32} (h : fX11_reaching x1 M0 = some o) : gM l yX11_reaching cX11_reaching 4 (some .int) rX11_reaching V gShM [.ref (gAd V 0), .int x1] M0 (some (.int o)) M0 :=
  gM.of (by decide) (Nat.le_of_ble_eq_true rfl) rfl (fun X _ O => tX11_reaching  h O)
theorem dX11_task_0 : decode cX11_task 0 = .ok (.aload_n 0, 1) := by decide +kernel
theorem dX11_task_1 : decode cX11_task 1 = .ok (.iload_n 1, 1) := by decide +kernel
theorem dX11_task_2 : decode cX11_task 2 = .ok (.invokevirtual 389, 3) := by decide +kernel
theorem dX11_task_5 : decode cX11_task 5 = .ok (.ifCond .ne 26, 3) := by decide +kernel
theorem dX11_task_8 : decode cX11_task 8 = .ok (.aload_n 0, 1) := by decide +kernel
theorem dX11_task_9 : decode cX11_task 9 = .ok (.iload_n 2, 1) := by decide +kernel
theorem dX11_task_10 : decode cX11_task 10 = .ok (.iconst 0, 1) := by decide +kernel
theorem dX11_task_11 : decode cX11_task 11 = .ok (.bipush 7, 2) := by decide +kernel
theorem dX11_task_13 : decode cX11_task 13 = .ok (.invokestatic 172, 3) := by decide +kernel
theorem dX11_task_16 : decode cX11_task 16 = .ok (.ifCond .ne 7, 3) := by decide +kernel
theorem dX11_task_19 : decode cX11_task 19 = .ok (.iconst 1, 1) := by decide +kernel
theorem dX11_task_20 : decode cX11_task 20 = .ok (.goto 4, 3) := by decide +kernel
theorem dX11_task_23 : decode cX11_task 23 = .ok (.iconst 0, 1) := by decide +kernel
theorem dX11_task_24 : decode cX11_task 24 = .ok (.iconst 2, 1) := by decide +kernel
theorem dX11_task_25 : decode cX11_task 25 = .ok (.invokevirtual 392, 3) := by decide +kernel
theorem dX11_task_28 : decode cX11_task 28 = .ok (.ifCond .eq 5, 3) := by decide +kernel
theorem dX11_task_31 : decode cX11_task 31 = .ok (.iconst 0, 1) := by decide +kernel
theorem dX11_task_32 : decode cX11_task 32 = .ok (.ireturn, 1) := by decide +kernel
theorem dX11_task_33 : decode cX11_task 33 = .ok (.aload_n 0, 1) := by decide +kernel
theorem dX11_task_34 : decode cX11_task 34 = .ok (.iconst (-1), 1) := by decide +kernel
theorem dX11_task_35 : decode cX11_task 35 = .ok (.invokevirtual 104, 3) := by decide +kernel
theorem dX11_task_38 : decode cX11_task 38 = .ok (.iload_n 2, 1) := by decide +kernel
theorem dX11_task_39 : decode cX11_task 39 = .ok (.tableswitch 95 0 6 #[41, 48, 55, 61, 61, 77, 89], 41) := by decide +kernel
theorem dX11_task_80 : decode cX11_task 80 = .ok (.aload_n 0, 1) := by decide +kernel
theorem dX11_task_81 : decode cX11_task 81 = .ok (.iload_n 1, 1) := by decide +kernel
theorem dX11_task_82 : decode cX11_task 82 = .ok (.iconst 0, 1) := by decide +kernel
theorem dX11_task_83 : decode cX11_task 83 = .ok (.invokevirtual 82, 3) := by decide +kernel
theorem dX11_task_86 : decode cX11_task 86 = .ok (.ireturn, 1) := by decide +kernel
theorem dX11_task_87 : decode cX11_task 87 = .ok (.aload_n 0, 1) := by decide +kernel
theorem dX11_task_88 : decode cX11_task 88 = .ok (.iload_n 1, 1) := by decide +kernel
theorem dX11_task_89 : decode cX11_task 89 = .ok (.iconst 1, 1) := by decide +kernel
theorem dX11_task_90 : decode cX11_task 90 = .ok (.invokevirtual 82, 3) := by decide +kernel
theorem dX11_task_93 : decode cX11_task 93 = .ok (.ireturn, 1) := by decide +kernel
theorem dX11_task_94 : decode cX11_task 94 = .ok (.aload_n 0, 1) := by decide +kernel
theorem dX11_task_95 : decode cX11_task 95 = .ok (.iload_n 1, 1) := by decide +kernel
theorem dX11_task_96 : decode cX11_task 96 = .ok (.invokevirtual 101, 3) := by decide +kernel
theorem dX11_task_99 : decode cX11_task 99 = .ok (.ireturn, 1) := by decide +kernel
theorem dX11_task_100 : decode cX11_task 100 = .ok (.aload_n 0, 1) := by decide +kernel
theorem dX11_task_101 : decode cX11_task 101 = .ok (.iload_n 1, 1) := by decide +kernel
theorem dX11_task_102 : decode cX11_task 102 = .ok (.iload_n 2, 1) := by decide +kernel
theorem dX11_task_103 : decode cX11_task 103 = .ok (.iconst 3, 1) := by decide +kernel
theorem dX11_task_104 : decode cX11_task 104 = .ok (.if_icmp .ne 7, 3) := by decide +kernel
theorem dX11_task_107 : decode cX11_task 107 = .ok (.iconst 1, 1) := by decide +kernel
theorem dX11_task_108 : decode cX11_task 108 = .ok (.goto 4, 3) := by decide +kernel
theorem dX11_task_111 : decode cX11_task 111 = .ok (.iconst 0, 1) := by decide +kernel
theorem dX11_task_112 : decode cX11_task 112 = .ok (.invokevirtual 396, 3) := by decide +kernel
theorem dX11_task_115 : decode cX11_task 115 = .ok (.ireturn, 1) := by decide +kernel
theorem dX11_task_116 : decode cX11_task 116 = .ok (.aload_n 0, 1) := by decide +kernel
theorem dX11_task_117 : decode cX11_task 117 = .ok (.getfield 25, 3) := by decide +kernel
theorem dX11_task_120 : decode cX11_task 120 = .ok (.iload_n 1, 1) := by decide +kernel
theorem dX11_task_121 : decode cX11_task 121 = .ok (.iaload, 1) := by decide +kernel
theorem dX11_task_122 : decode cX11_task 122 = .ok (.invokestatic 139, 3) := by decide +kernel
theorem dX11_task_125 : decode cX11_task 125 = .ok (.iconst 1, 1) := by decide +kernel
theorem dX11_task_126 : decode cX11_task 126 = .ok (.isub, 1) := by decide +kernel
theorem dX11_task_127 : decode cX11_task 127 = .ok (.ireturn, 1) := by decide +kernel
theorem dX11_task_128 : decode cX11_task 128 = .ok (.aload_n 0, 1) := by decide +kernel
theorem dX11_task_129 : decode cX11_task 129 = .ok (.iload_n 1, 1) := by decide +kernel
theorem dX11_task_130 : decode cX11_task 130 = .ok (.invokevirtual 400, 3) := by decide +kernel
theorem dX11_task_133 : decode cX11_task 133 = .ok (.ireturn, 1) := by decide +kernel
theorem dX11_task_134 : decode cX11_task 134 = .ok (.aload_n 0, 1) := by decide +kernel
theorem dX11_task_135 : decode cX11_task 135 = .ok (.iload_n 1, 1) := by decide +kernel
theorem dX11_task_136 : decode cX11_task 136 = .ok (.iconst 2, 1) := by decide +kernel
theorem dX11_task_137 : decode cX11_task 137 = .ok (.invokevirtual 82, 3) := by decide +kernel
theorem dX11_task_140 : decode cX11_task 140 = .ok (.ireturn, 1) := by decide +kernel
abbrev rX11_task : Room := { frames := 2, cells := 0, slots := 0, locals := 44 }
abbrev mX11_task : gY := (cX11_task, RX11, 3, rX11_task)
def fX11_task (x1 : Int32) (x2 : Int32) (M0 : gMem) : Option (Int32 × gMem) :=
  (fX11_noTask x1 M0).bind fun v1 => if v1.1 = 0 then ((fX11_in x2 (0 : Int32) (7 : Int32)).bind fun v3 => (fX11_throwsIf (if v3 = 0 then (1 : Int32) else (0 : Int32)) (2 : Int32) v1.2).bind fun v5 => if v5.1 = 0 then ((fX11_laysReach (-1 : Int32) v5.2).bind fun v7 => if x2 = (0 : Int32) then ((fX11_of x1 (0 : Int32) v7).bind fun v9 => some (v9, v7)) else if x2 = (1 : Int32) then ((fX11_of x1 (1 : Int32) v7).bind fun v11 => some (v11, v7)) else if x2 = (2 : Int32) then ((fX11_placeOf x1 v7).bind fun v13 => some (v13, v7)) else if x2 = (3 : Int32) then ((fX11_arrowsOf x1 (if x2 = (3 : Int32) then (1 : Int32) else (0 : Int32)) v7).bind fun v16 => some (v16, v7)) else if x2 = (4 : Int32) then ((fX11_arrowsOf x1 (if x2 = (3 : Int32) then (1 : Int32) else (0 : Int32)) v7).bind fun v19 => some (v19, v7)) else if x2 = (5 : Int32) then ((rI v7 6 24 x1).bind fun v21 => (fX11_many v21).bind fun v22 => some (v22 - (1 : Int32), v7)) else if x2 = (6 : Int32) then ((fX11_reaching x1 v7).bind fun v24 => some (v24, v7)) else (fX11_of x1 (2 : Int32) v7).bind fun v25 => some (v25, v7)) else some ((0 : Int32), v5.2)) else some ((0 : Int32), v1.2)
set_option maxRecDepth 20000 in
theorem tX11_task {X : gX} {V : gEnv} {x1 : Int32} {x2 : Int32} {M0 : gMem}  {o : (Int32 × gMem)} (h : fX11_task x1 x2 M0 = some o) (O : gO X V mX11_task gShM (some .int) (some (.int o.1)) o.2) : gG X V mX11_task gShM M0 0 0 0 [(0, .ref (gAd V 0)), (1, .int x1), (2, .int x2)] [] := by
  unfold fX11_task at h
  refine g_aload_n 0 rfl rfl dX11_task_0 ?_
  refine g_iload_n 1 rfl rfl dX11_task_1 ?_
  obtain ⟨v1, ev1, h⟩ := g_bnd h
  refine g_callV LX11_389 sM_0 rfl (kX11_noTask ev1) rfl rfl (Nat.le_of_ble_eq_true rfl) ⟨Nat.le_of_ble_eq_true rfl, Nat.le_of_ble_eq_true rfl⟩ ⟨Nat.le_of_ble_eq_true rfl, Nat.le_of_ble_eq_true rfl⟩ dX11_task_2 rfl ?_
  rcases g_ite h with ⟨c2, h⟩ | ⟨c2, h⟩
  · refine g_if_ne_f c2 (tgt := 31) rfl dX11_task_5 ?_
    refine g_aload_n 0 rfl rfl dX11_task_8 ?_
    refine g_iload_n 2 rfl rfl dX11_task_9 ?_
    refine g_iconst (v := 0) rfl dX11_task_10 ?_
    refine g_bipush (v := 7) rfl dX11_task_11 ?_
    obtain ⟨v3, ev3, h⟩ := g_bnd h
    refine g_callS LX11_172 (kX11_in ev3) rfl rfl (Nat.le_of_ble_eq_true rfl) ⟨Nat.le_of_ble_eq_true rfl, Nat.le_of_ble_eq_true rfl⟩ ⟨Nat.le_of_ble_eq_true rfl, Nat.le_of_ble_eq_true rfl⟩ dX11_task_13 rfl ?_
    have KJ : gG X V mX11_task gShM v1.2 0 0 24 [(0, .ref (gAd V 0)), (1, .int x1), (2, .int x2)] [.int (if v3 = 0 then (1 : Int32) else (0 : Int32)), .ref (gAd V 0)] := by
      refine g_iconst (v := 2) rfl dX11_task_24 ?_
      obtain ⟨v5, ev5, h⟩ := g_bnd h
      refine g_callV LX11_392 sM_0 rfl (kX11_throwsIf ev5) rfl rfl (Nat.le_of_ble_eq_true rfl) ⟨Nat.le_of_ble_eq_true rfl, Nat.le_of_ble_eq_true rfl⟩ ⟨Nat.le_of_ble_eq_true rfl, Nat.le_of_ble_eq_true rfl⟩ dX11_task_25 rfl ?_
      rcases g_ite h with ⟨c6, h⟩ | ⟨c6, h⟩
      · refine g_if_eq_t c6 (tgt := 33) rfl dX11_task_28 ?_
        refine g_aload_n 0 rfl rfl dX11_task_33 ?_
        refine g_iconst (v := -1) rfl dX11_task_34 ?_
        obtain ⟨v7, ev7, h⟩ := g_bnd h
        refine g_callV LX11_104 sM_0 rfl (kX11_laysReach ev7) rfl rfl (Nat.le_of_ble_eq_true rfl) ⟨Nat.le_of_ble_eq_true rfl, Nat.le_of_ble_eq_true rfl⟩ ⟨Nat.le_of_ble_eq_true rfl, Nat.le_of_ble_eq_true rfl⟩ dX11_task_35 rfl ?_
        refine g_iload_n 2 rfl rfl dX11_task_38 ?_
        rcases g_ite h with ⟨c8, h⟩ | ⟨c8, h⟩
        · refine g_tabIn (off := 41) (tgt := 80) (by rw [c8]; decide) (by rw [c8]; decide) (by rw [c8]; rfl) rfl dX11_task_39 ?_
          refine g_aload_n 0 rfl rfl dX11_task_80 ?_
          refine g_iload_n 1 rfl rfl dX11_task_81 ?_
          refine g_iconst (v := 0) rfl dX11_task_82 ?_
          obtain ⟨v9, ev9, h⟩ := g_bnd h
          refine g_callV LX11_82 sM_0 rfl (kX11_of ev9) rfl rfl (Nat.le_of_ble_eq_true rfl) ⟨Nat.le_of_ble_eq_true rfl, Nat.le_of_ble_eq_true rfl⟩ ⟨Nat.le_of_ble_eq_true rfl, Nat.le_of_ble_eq_true rfl⟩ dX11_task_83 rfl ?_
          cases h
          exact g_iret O ⟨Nat.le_of_ble_eq_true rfl, Nat.le_of_ble_eq_true rfl⟩ rfl dX11_task_86
        ·
          rcases g_ite h with ⟨c10, h⟩ | ⟨c10, h⟩
          · refine g_tabIn (off := 48) (tgt := 87) (by rw [c10]; decide) (by rw [c10]; decide) (by rw [c10]; rfl) rfl dX11_task_39 ?_
            refine g_aload_n 0 rfl rfl dX11_task_87 ?_
            refine g_iload_n 1 rfl rfl dX11_task_88 ?_
            refine g_iconst (v := 1) rfl dX11_task_89 ?_
            obtain ⟨v11, ev11, h⟩ := g_bnd h
            refine g_callV LX11_82 sM_0 rfl (kX11_of ev11) rfl rfl (Nat.le_of_ble_eq_true rfl) ⟨Nat.le_of_ble_eq_true rfl, Nat.le_of_ble_eq_true rfl⟩ ⟨Nat.le_of_ble_eq_true rfl, Nat.le_of_ble_eq_true rfl⟩ dX11_task_90 rfl ?_
            cases h
            exact g_iret O ⟨Nat.le_of_ble_eq_true rfl, Nat.le_of_ble_eq_true rfl⟩ rfl dX11_task_93
          ·
            rcases g_ite h with ⟨c12, h⟩ | ⟨c12, h⟩
            · refine g_tabIn (off := 55) (tgt := 94) (by rw [c12]; decide) (by rw [c12]; decide) (by rw [c12]; rfl) rfl dX11_task_39 ?_
              refine g_aload_n 0 rfl rfl dX11_task_94 ?_
              refine g_iload_n 1 rfl rfl dX11_task_95 ?_
              obtain ⟨v13, ev13, h⟩ := g_bnd h
              refine g_callV LX11_101 sM_0 rfl (kX11_placeOf ev13) rfl rfl (Nat.le_of_ble_eq_true rfl) ⟨Nat.le_of_ble_eq_true rfl, Nat.le_of_ble_eq_true rfl⟩ ⟨Nat.le_of_ble_eq_true rfl, Nat.le_of_ble_eq_true rfl⟩ dX11_task_96 rfl ?_
              cases h
              exact g_iret O ⟨Nat.le_of_ble_eq_true rfl, Nat.le_of_ble_eq_true rfl⟩ rfl dX11_task_99
            ·
              rcases g_ite h with ⟨c14, h⟩ | ⟨c14, h⟩
              · refine g_tabIn (off := 61) (tgt := 100) (by rw [c14]; decide) (by rw [c14]; decide) (by rw [c14]; rfl) rfl dX11_task_39 ?_
                refine g_aload_n 0 rfl rfl dX11_task_100 ?_
                refine g_iload_n 1 rfl rfl dX11_task_101 ?_
                refine g_iload_n 2 rfl rfl dX11_task_102 ?_
                refine g_iconst (v := 3) rfl dX11_task_103 ?_
                have KJ : gG X V mX11_task gShM v7 0 0 112 [(0, .ref (gAd V 0)), (1, .int x1), (2, .int x2)] [.int (if x2 = (3 : Int32) then (1 : Int32) else (0 : Int32)), .int x1, .ref (gAd V 0)] := by
                  obtain ⟨v16, ev16, h⟩ := g_bnd h
                  refine g_callV LX11_396 sM_0 rfl (kX11_arrowsOf ev16) rfl rfl (Nat.le_of_ble_eq_true rfl) ⟨Nat.le_of_ble_eq_true rfl, Nat.le_of_ble_eq_true rfl⟩ ⟨Nat.le_of_ble_eq_true rfl, Nat.le_of_ble_eq_true rfl⟩ dX11_task_112 rfl ?_
                  cases h
                  exact g_iret O ⟨Nat.le_of_ble_eq_true rfl, Nat.le_of_ble_eq_true rfl⟩ rfl dX11_task_115
                by_cases c15 : x2 = (3 : Int32)
                · rw [if_pos c15] at KJ
                  refine g_icmp_ne_f c15 (tgt := 111) rfl dX11_task_104 ?_
                  refine g_iconst (v := 1) rfl dX11_task_107 ?_
                  refine g_goto (tgt := 112) rfl dX11_task_108 ?_
                  exact KJ
                · rw [if_neg c15] at KJ
                  refine g_icmp_ne_t c15 (tgt := 111) rfl dX11_task_104 ?_
                  refine g_iconst (v := 0) rfl dX11_task_111 ?_
                  exact KJ
              ·
                rcases g_ite h with ⟨c17, h⟩ | ⟨c17, h⟩
                · refine g_tabIn (off := 61) (tgt := 100) (by rw [c17]; decide) (by rw [c17]; decide) (by rw [c17]; rfl) rfl dX11_task_39 ?_
                  refine g_aload_n 0 rfl rfl dX11_task_100 ?_
                  refine g_iload_n 1 rfl rfl dX11_task_101 ?_
                  refine g_iload_n 2 rfl rfl dX11_task_102 ?_
                  refine g_iconst (v := 3) rfl dX11_task_103 ?_
                  have KJ : gG X V mX11_task gShM v7 0 0 112 [(0, .ref (gAd V 0)), (1, .int x1), (2, .int x2)] [.int (if x2 = (3 : Int32) then (1 : Int32) else (0 : Int32)), .int x1, .ref (gAd V 0)] := by
                    obtain ⟨v19, ev19, h⟩ := g_bnd h
                    refine g_callV LX11_396 sM_0 rfl (kX11_arrowsOf ev19) rfl rfl (Nat.le_of_ble_eq_true rfl) ⟨Nat.le_of_ble_eq_true rfl, Nat.le_of_ble_eq_true rfl⟩ ⟨Nat.le_of_ble_eq_true rfl, Nat.le_of_ble_eq_true rfl⟩ dX11_task_112 rfl ?_
                    cases h
                    exact g_iret O ⟨Nat.le_of_ble_eq_true rfl, Nat.le_of_ble_eq_true rfl⟩ rfl dX11_task_115
                  by_cases c18 : x2 = (3 : Int32)
                  · rw [if_pos c18] at KJ
                    refine g_icmp_ne_f c18 (tgt := 111) rfl dX11_task_104 ?_
                    refine g_iconst (v := 1) rfl dX11_task_107 ?_
                    refine g_goto (tgt := 112) rfl dX11_task_108 ?_
                    exact KJ
                  · rw [if_neg c18] at KJ
                    refine g_icmp_ne_t c18 (tgt := 111) rfl dX11_task_104 ?_
                    refine g_iconst (v := 0) rfl dX11_task_111 ?_
                    exact KJ
                ·
                  rcases g_ite h with ⟨c20, h⟩ | ⟨c20, h⟩
                  · refine g_tabIn (off := 77) (tgt := 116) (by rw [c20]; decide) (by rw [c20]; decide) (by rw [c20]; rfl) rfl dX11_task_39 ?_
                    refine g_aload_n 0 rfl rfl dX11_task_116 ?_
                    refine g_getR FX11_25 sM_0 rfl dX11_task_117 ?_
                    refine g_iload_n 1 rfl rfl dX11_task_120 ?_
                    obtain ⟨v21, ev21, h⟩ := g_bnd h
                    refine g_iald' ev21 sM_6 dX11_task_121 ?_
                    obtain ⟨v22, ev22, h⟩ := g_bnd h
                    refine g_callS LX11_139 (kX11_many ev22) rfl rfl (Nat.le_of_ble_eq_true rfl) ⟨Nat.le_of_ble_eq_true rfl, Nat.le_of_ble_eq_true rfl⟩ ⟨Nat.le_of_ble_eq_true rfl, Nat.le_of_ble_eq_true rfl⟩ dX11_task_122 rfl ?_
                    refine g_iconst (v := 1) rfl dX11_task_125 ?_
                    refine g_isub dX11_task_126 ?_
                    cases h
                    exact g_iret O ⟨Nat.le_of_ble_eq_true rfl, Nat.le_of_ble_eq_true rfl⟩ rfl dX11_task_127
                  ·
                    rcases g_ite h with ⟨c23, h⟩ | ⟨c23, h⟩
                    · refine g_tabIn (off := 89) (tgt := 128) (by rw [c23]; decide) (by rw [c23]; decide) (by rw [c23]; rfl) rfl dX11_task_39 ?_
                      refine g_aload_n 0 rfl rfl dX11_task_128 ?_
                      refine g_iload_n 1 rfl rfl dX11_task_129 ?_
                      obtain ⟨v24, ev24, h⟩ := g_bnd h
                      refine g_callV LX11_400 sM_0 rfl (kX11_reaching ev24) rfl rfl (Nat.le_of_ble_eq_true rfl) ⟨Nat.le_of_ble_eq_true rfl, Nat.le_of_ble_eq_true rfl⟩ ⟨Nat.le_of_ble_eq_true rfl, Nat.le_of_ble_eq_true rfl⟩ dX11_task_130 rfl ?_
                      cases h
                      exact g_iret O ⟨Nat.le_of_ble_eq_true rfl, Nat.le_of_ble_eq_true rfl⟩ rfl dX11_task_133
                    ·
                      have nc8 := gne (0 : Int32) (j := 0) rfl c8
                      have nc10 := gne (1 : Int32) (j := 1) rfl c10
                      have nc12 := gne (2 : Int32) (j := 2) rfl c12
                      have nc14 := gne (3 : Int32) (j := 3) rfl c14
                      have nc17 := gne (4 : Int32) (j := 4) rfl c17
                      have nc20 := gne (5 : Int32) (j := 5) rfl c20
                      have nc23 := gne (6 : Int32) (j := 6) rfl c23
                      refine g_tabOut (tgt := 134) (by omega) rfl dX11_task_39 ?_
                      refine g_aload_n 0 rfl rfl dX11_task_134 ?_
                      refine g_iload_n 1 rfl rfl dX11_task_135 ?_
                      refine g_iconst (v := 2) rfl dX11_task_136 ?_
                      obtain ⟨v25, ev25, h⟩ := g_bnd h
                      refine g_callV LX11_82 sM_0 rfl (kX11_of ev25) rfl rfl (Nat.le_of_ble_eq_true rfl) ⟨Nat.le_of_ble_eq_true rfl, Nat.le_of_ble_eq_true rfl⟩ ⟨Nat.le_of_ble_eq_true rfl, Nat.le_of_ble_eq_true rfl⟩ dX11_task_137 rfl ?_
                      cases h
                      exact g_iret O ⟨Nat.le_of_ble_eq_true rfl, Nat.le_of_ble_eq_true rfl⟩ rfl dX11_task_140
      · refine g_if_eq_f c6 (tgt := 33) rfl dX11_task_28 ?_
        refine g_iconst (v := 0) rfl dX11_task_31 ?_
        cases h
        exact g_iret O ⟨Nat.le_of_ble_eq_true rfl, Nat.le_of_ble_eq_true rfl⟩ rfl dX11_task_32
    by_cases c4 : v3 = 0
    · rw [if_pos c4] at KJ
      refine g_if_ne_f c4 (tgt := 23) rfl dX11_task_16 ?_
      refine g_iconst (v := 1) rfl dX11_task_19 ?_
      refine g_goto (tgt := 24) rfl dX11_task_20 ?_
      exact KJ
    · rw [if_neg c4] at KJ
      refine g_if_ne_t c4 (tgt := 23) rfl dX11_task_16 ?_
      refine g_iconst (v := 0) rfl dX11_task_23 ?_
      exact KJ
  · refine g_if_ne_t c2 (tgt := 31) rfl dX11_task_5 ?_
    refine g_iconst (v := 0) rfl dX11_task_31 ?_
    cases h
    exact g_iret O ⟨Nat.le_of_ble_eq_true rfl, Nat.le_of_ble_eq_true rfl⟩ rfl dX11_task_32
theorem kX11_task {l : Launch} {V : gEnv} {M0 : gMem} {x1 : Int32} {x2 : Int32}  {o : (Int32 × gMem)} (h : fX11_task x1 x2 M0 = some o) : gM l yX11_task cX11_task 3 (some .int) rX11_task V gShM [.ref (gAd V 0), .int x1, .int x2] M0 (some (.int o.1)) o.2 :=
  gM.of (by decide) (Nat.le_of_ble_eq_true rfl) rfl (fun X _ O => tX11_task  h O)
theorem dX11_letter_0 : decode cX11_letter 0 = .ok (.aload_n 0, 1) := by decide +kernel
theorem dX11_letter_1 : decode cX11_letter 1 = .ok (.iload_n 1, 1) := by decide +kernel
theorem dX11_letter_2 : decode cX11_letter 2 = .ok (.invokevirtual 389, 3) := by decide +kernel
theorem dX11_letter_5 : decode cX11_letter 5 = .ok (.ifCond .eq 5, 3) := by decide +kernel
theorem dX11_letter_8 : decode cX11_letter 8 = .ok (.iconst 0, 1) := by decide +kernel
theorem dX11_letter_9 : decode cX11_letter 9 = .ok (.ireturn, 1) := by decide +kernel
theorem dX11_letter_10 : decode cX11_letter 10 = .ok (.iload_n 2, 1) := by decide +kernel
theorem dX11_letter_11 : decode cX11_letter 11 = .ok (.iconst 0, 1) := by decide +kernel
theorem dX11_letter_12 : decode cX11_letter 12 = .ok (.aload_n 0, 1) := by decide +kernel
theorem dX11_letter_13 : decode cX11_letter 13 = .ok (.iload_n 1, 1) := by decide +kernel
theorem dX11_letter_14 : decode cX11_letter 14 = .ok (.iconst 2, 1) := by decide +kernel
theorem dX11_letter_15 : decode cX11_letter 15 = .ok (.invokevirtual 82, 3) := by decide +kernel
theorem dX11_letter_18 : decode cX11_letter 18 = .ok (.iconst 1, 1) := by decide +kernel
theorem dX11_letter_19 : decode cX11_letter 19 = .ok (.isub, 1) := by decide +kernel
theorem dX11_letter_20 : decode cX11_letter 20 = .ok (.invokestatic 172, 3) := by decide +kernel
theorem dX11_letter_23 : decode cX11_letter 23 = .ok (.ifCond .eq 14, 3) := by decide +kernel
theorem dX11_letter_26 : decode cX11_letter 26 = .ok (.aload_n 0, 1) := by decide +kernel
theorem dX11_letter_27 : decode cX11_letter 27 = .ok (.iload_n 1, 1) := by decide +kernel
theorem dX11_letter_28 : decode cX11_letter 28 = .ok (.iconst 3, 1) := by decide +kernel
theorem dX11_letter_29 : decode cX11_letter 29 = .ok (.iload_n 2, 1) := by decide +kernel
theorem dX11_letter_30 : decode cX11_letter 30 = .ok (.iadd, 1) := by decide +kernel
theorem dX11_letter_31 : decode cX11_letter 31 = .ok (.invokevirtual 82, 3) := by decide +kernel
theorem dX11_letter_34 : decode cX11_letter 34 = .ok (.goto 4, 3) := by decide +kernel
theorem dX11_letter_37 : decode cX11_letter 37 = .ok (.iconst (-1), 1) := by decide +kernel
theorem dX11_letter_38 : decode cX11_letter 38 = .ok (.ireturn, 1) := by decide +kernel
abbrev rX11_letter : Room := { frames := 2, cells := 0, slots := 0, locals := 43 }
abbrev mX11_letter : gY := (cX11_letter, RX11, 3, rX11_letter)
def fX11_letter (x1 : Int32) (x2 : Int32) (M0 : gMem) : Option (Int32 × gMem) :=
  (fX11_noTask x1 M0).bind fun v1 => if v1.1 = 0 then ((fX11_of x1 (2 : Int32) v1.2).bind fun v3 => (fX11_in x2 (0 : Int32) (v3 - (1 : Int32))).bind fun v4 => if v4 = 0 then (some ((-1 : Int32), v1.2)) else (fX11_of x1 ((3 : Int32) + x2) v1.2).bind fun v6 => some (v6, v1.2)) else some ((0 : Int32), v1.2)
set_option maxRecDepth 20000 in
theorem tX11_letter {X : gX} {V : gEnv} {x1 : Int32} {x2 : Int32} {M0 : gMem}  {o : (Int32 × gMem)} (h : fX11_letter x1 x2 M0 = some o) (O : gO X V mX11_letter gShM (some .int) (some (.int o.1)) o.2) : gG X V mX11_letter gShM M0 0 0 0 [(0, .ref (gAd V 0)), (1, .int x1), (2, .int x2)] [] := by
  unfold fX11_letter at h
  refine g_aload_n 0 rfl rfl dX11_letter_0 ?_
  refine g_iload_n 1 rfl rfl dX11_letter_1 ?_
  obtain ⟨v1, ev1, h⟩ := g_bnd h
  refine g_callV LX11_389 sM_0 rfl (kX11_noTask ev1) rfl rfl (Nat.le_of_ble_eq_true rfl) ⟨Nat.le_of_ble_eq_true rfl, Nat.le_of_ble_eq_true rfl⟩ ⟨Nat.le_of_ble_eq_true rfl, Nat.le_of_ble_eq_true rfl⟩ dX11_letter_2 rfl ?_
  rcases g_ite h with ⟨c2, h⟩ | ⟨c2, h⟩
  · refine g_if_eq_t c2 (tgt := 10) rfl dX11_letter_5 ?_
    refine g_iload_n 2 rfl rfl dX11_letter_10 ?_
    refine g_iconst (v := 0) rfl dX11_letter_11 ?_
    refine g_aload_n 0 rfl rfl dX11_letter_12 ?_
    refine g_iload_n 1 rfl rfl dX11_letter_13 ?_
    refine g_iconst (v := 2) rfl dX11_letter_14 ?_
    obtain ⟨v3, ev3, h⟩ := g_bnd h
    refine g_callV LX11_82 sM_0 rfl (kX11_of ev3) rfl rfl (Nat.le_of_ble_eq_true rfl) ⟨Nat.le_of_ble_eq_true rfl, Nat.le_of_ble_eq_true rfl⟩ ⟨Nat.le_of_ble_eq_true rfl, Nat.le_of_ble_eq_true rfl⟩ dX11_letter_15 rfl ?_
    refine g_iconst (v := 1) rfl dX11_letter_18 ?_
    refine g_isub dX11_letter_19 ?_
    obtain ⟨v4, ev4, h⟩ := g_bnd h
    refine g_callS LX11_172 (kX11_in ev4) rfl rfl (Nat.le_of_ble_eq_true rfl) ⟨Nat.le_of_ble_eq_true rfl, Nat.le_of_ble_eq_true rfl⟩ ⟨Nat.le_of_ble_eq_true rfl, Nat.le_of_ble_eq_true rfl⟩ dX11_letter_20 rfl ?_
    rcases g_ite h with ⟨c5, h⟩ | ⟨c5, h⟩
    · refine g_if_eq_t c5 (tgt := 37) rfl dX11_letter_23 ?_
      refine g_iconst (v := -1) rfl dX11_letter_37 ?_
      cases h
      exact g_iret O ⟨Nat.le_of_ble_eq_true rfl, Nat.le_of_ble_eq_true rfl⟩ rfl dX11_letter_38
    · refine g_if_eq_f c5 (tgt := 37) rfl dX11_letter_23 ?_
      refine g_aload_n 0 rfl rfl dX11_letter_26 ?_
      refine g_iload_n 1 rfl rfl dX11_letter_27 ?_
      refine g_iconst (v := 3) rfl dX11_letter_28 ?_
      refine g_iload_n 2 rfl rfl dX11_letter_29 ?_
      refine g_iadd dX11_letter_30 ?_
      obtain ⟨v6, ev6, h⟩ := g_bnd h
      refine g_callV LX11_82 sM_0 rfl (kX11_of ev6) rfl rfl (Nat.le_of_ble_eq_true rfl) ⟨Nat.le_of_ble_eq_true rfl, Nat.le_of_ble_eq_true rfl⟩ ⟨Nat.le_of_ble_eq_true rfl, Nat.le_of_ble_eq_true rfl⟩ dX11_letter_31 rfl ?_
      refine g_goto (tgt := 38) rfl dX11_letter_34 ?_
      cases h
      exact g_iret O ⟨Nat.le_of_ble_eq_true rfl, Nat.le_of_ble_eq_true rfl⟩ rfl dX11_letter_38
  · refine g_if_eq_f c2 (tgt := 10) rfl dX11_letter_5 ?_
    refine g_iconst (v := 0) rfl dX11_letter_8 ?_
    cases h
    exact g_iret O ⟨Nat.le_of_ble_eq_true rfl, Nat.le_of_ble_eq_true rfl⟩ rfl dX11_letter_9
theorem kX11_letter {l : Launch} {V : gEnv} {M0 : gMem} {x1 : Int32} {x2 : Int32}  {o : (Int32 × gMem)} (h : fX11_letter x1 x2 M0 = some o) : gM l yX11_letter cX11_letter 3 (some .int) rX11_letter V gShM [.ref (gAd V 0), .int x1, .int x2] M0 (some (.int o.1)) o.2 :=
  gM.of (by decide) (Nat.le_of_ble_eq_true rfl) rfl (fun X _ O => tX11_letter  h O)
