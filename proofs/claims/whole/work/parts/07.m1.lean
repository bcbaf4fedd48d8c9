theorem dX11_many_0 : decode cX11_many 0 = .ok (.iconst 0, 1) := by decide +kernel
theorem dX11_many_1 : decode cX11_many 1 = .ok (.istore_n 1, 1) := by decide +kernel
theorem dX11_many_2 : decode cX11_many 2 = .ok (.iload_n 0, 1) := by decide +kernel
theorem dX11_many_3 : decode cX11_many 3 = .ok (.istore_n 2, 1) := by decide +kernel
theorem dX11_many_4 : decode cX11_many 4 = .ok (.iload_n 2, 1) := by decide +kernel
theorem dX11_many_5 : decode cX11_many 5 = .ok (.ifCond .eq 15, 3) := by decide +kernel
theorem dX11_many_8 : decode cX11_many 8 = .ok (.iinc 1 1, 3) := by decide +kernel
theorem dX11_many_11 : decode cX11_many 11 = .ok (.iload_n 2, 1) := by decide +kernel
theorem dX11_many_12 : decode cX11_many 12 = .ok (.iload_n 2, 1) := by decide +kernel
theorem dX11_many_13 : decode cX11_many 13 = .ok (.iconst 1, 1) := by decide +kernel
theorem dX11_many_14 : decode cX11_many 14 = .ok (.isub, 1) := by decide +kernel
theorem dX11_many_15 : decode cX11_many 15 = .ok (.iand, 1) := by decide +kernel
theorem dX11_many_16 : decode cX11_many 16 = .ok (.istore_n 2, 1) := by decide +kernel
theorem dX11_many_17 : decode cX11_many 17 = .ok (.goto (-13), 3) := by decide +kernel
theorem dX11_many_20 : decode cX11_many 20 = .ok (.iload_n 1, 1) := by decide +kernel
theorem dX11_many_21 : decode cX11_many 21 = .ok (.ireturn, 1) := by decide +kernel
abbrev rX11_many : Room := { frames := 0, cells := 0, slots := 0, locals := 0 }
abbrev mX11_many : gY := (cX11_many, RX11, 3, rX11_many)
def fX11_many_l4 (x1 : Int32) (x2 : Int32) : Option ((Int32 × Int32) ⊕ Int32) :=
  if x2 = 0 then (some (.inr x1)) else (nm (x2 &&& (x2 - (1 : Int32)))).bind fun v2 => some (.inl (x1 + (1 : Int32), v2))
set_option maxRecDepth 20000 in
theorem tX11_many_l4 {X : gX} {V : gEnv} {M0 : gMem} {x1 : Int32} {x2 : Int32}  {o : ((Int32 × Int32) ⊕ Int32)} (h : fX11_many_l4 x1 x2 = some o) (Kc : ∀ s9, o = .inl s9 → gG X V mX11_many gShM M0 0 0 4 [(1, .int s9.1), (2, .int s9.2)] []) (Kx : ∀ e9, o = .inr e9 → gG X V mX11_many gShM M0 0 0 20 [(1, .int e9)] []) : gG X V mX11_many gShM M0 0 0 4 [(1, .int x1), (2, .int x2)] [] := by
  unfold fX11_many_l4 at h
  refine g_iload_n 1 rfl rfl dX11_many_4 ?_
  rcases g_ite h with ⟨c1, h⟩ | ⟨c1, h⟩
  · refine g_if_eq_t c1 (tgt := 20) rfl dX11_many_5 ?_
    cases h
    refine g_sub [0] rfl ?_
    exact Kx _ rfl
  · refine g_if_eq_f c1 (tgt := 20) rfl dX11_many_5 ?_
    refine g_iinc (j := 0) (v := x1 + (1 : Int32)) (ls' := [(1, .int (x1 + (1 : Int32))), (2, .int x2)]) rfl rfl (Nat.le_of_ble_eq_true rfl) rfl dX11_many_8 ?_
    refine g_iload_n 1 rfl rfl dX11_many_11 ?_
    refine g_iload_n 1 rfl rfl dX11_many_12 ?_
    refine g_iconst (v := 1) rfl dX11_many_13 ?_
    refine g_isub dX11_many_14 ?_
    refine g_iand dX11_many_15 ?_
    obtain ⟨v2, ev2, h⟩ := g_bnd h
    refine g_nmI ev2 ?_
    refine g_istore_n (ls' := [(2, .int v2), (1, .int (x1 + (1 : Int32)))]) rfl (Nat.le_of_ble_eq_true rfl) rfl dX11_many_16 ?_
    refine g_goto (tgt := 4) rfl dX11_many_17 ?_
    cases h
    refine g_sub [1, 0] rfl ?_
    exact Kc _ rfl
def fX11_many (x0 : Int32) : Option Int32 :=
  (gLoop (fun z9 => fX11_many_l4 z9.1 z9.2) gFu ((0 : Int32), x0)).bind fun w3 => some w3
set_option maxRecDepth 20000 in
theorem tX11_many {X : gX} {V : gEnv} {M0 : gMem} {x0 : Int32}  {o : Int32} (h : fX11_many x0 = some o) (O : gO X V mX11_many gShM (some .int) (some (.int o)) M0) : gG X V mX11_many gShM M0 0 0 0 [(0, .int x0)] [] := by
  unfold fX11_many at h
  refine g_iconst (v := 0) rfl dX11_many_0 ?_
  refine g_istore_n (ls' := [(1, .int (0 : Int32)), (0, .int x0)]) rfl (Nat.le_of_ble_eq_true rfl) rfl dX11_many_1 ?_
  refine g_iload_n 1 rfl rfl dX11_many_2 ?_
  refine g_istore_n (ls' := [(2, .int x0), (1, .int (0 : Int32)), (0, .int x0)]) rfl (Nat.le_of_ble_eq_true rfl) rfl dX11_many_3 ?_
  obtain ⟨w3, ew3, h⟩ := g_bnd h
  refine g_sub [1, 0] rfl ?_
  have KX : gG X V mX11_many gShM M0 0 0 20 [(1, .int w3)] [] := by
    refine g_iload_n 0 rfl rfl dX11_many_20 ?_
    cases h
    exact g_iret O ⟨Nat.le_of_ble_eq_true rfl, Nat.le_of_ble_eq_true rfl⟩ rfl dX11_many_21
  exact gLoop_Q ew3 (fun z9 => gG X V mX11_many gShM M0 0 0 4 [(1, .int z9.1), (2, .int z9.2)] []) (fun s9 o9 hb9 hc9 hx9 => tX11_many_l4  hb9 hc9 (fun e9 he9 => by cases hx9 _ he9; exact KX))
theorem kX11_many {l : Launch} {V : gEnv} {M0 : gMem} {x0 : Int32}  {o : Int32} (h : fX11_many x0 = some o) : gM l yX11_many cX11_many 3 (some .int) rX11_many V gShM [.int x0] M0 (some (.int o)) M0 :=
  gM.of (by decide) (Nat.le_of_ble_eq_true rfl) rfl (fun X _ O => tX11_many  h O)
theorem dX11_in_0 : decode cX11_in 0 = .ok (.iload_n 0, 1) := by decide +kernel
theorem dX11_in_1 : decode cX11_in 1 = .ok (.iload_n 1, 1) := by decide +kernel
theorem dX11_in_2 : decode cX11_in 2 = .ok (.if_icmp .lt 12, 3) := by decide +kernel
theorem dX11_in_5 : decode cX11_in 5 = .ok (.iload_n 0, 1) := by decide +kernel
theorem dX11_in_6 : decode cX11_in 6 = .ok (.iload_n 2, 1) := by decide +kernel
theorem dX11_in_7 : decode cX11_in 7 = .ok (.if_icmp .gt 7, 3) := by decide +kernel
theorem dX11_in_10 : decode cX11_in 10 = .ok (.iconst 1, 1) := by decide +kernel
theorem dX11_in_11 : decode cX11_in 11 = .ok (.goto 4, 3) := by decide +kernel
theorem dX11_in_14 : decode cX11_in 14 = .ok (.iconst 0, 1) := by decide +kernel
theorem dX11_in_15 : decode cX11_in 15 = .ok (.ireturn, 1) := by decide +kernel
abbrev rX11_in : Room := { frames := 0, cells := 0, slots := 0, locals := 0 }
abbrev mX11_in : gY := (cX11_in, RX11, 3, rX11_in)
def fX11_in (x0 : Int32) (x1 : Int32) (x2 : Int32) : Option Int32 :=
  if x0 < x1 then (some (0 : Int32)) else if x2 < x0 then (some (0 : Int32)) else some (1 : Int32)
set_option maxRecDepth 20000 in
theorem tX11_in {X : gX} {V : gEnv} {M0 : gMem} {x0 : Int32} {x1 : Int32} {x2 : Int32}  {o : Int32} (h : fX11_in x0 x1 x2 = some o) (O : gO X V mX11_in gShM (some .boolean) (some (.int o)) M0) : gG X V mX11_in gShM M0 0 0 0 [(0, .int x0), (1, .int x1), (2, .int x2)] [] := by
  unfold fX11_in at h
  refine g_iload_n 0 rfl rfl dX11_in_0 ?_
  refine g_iload_n 1 rfl rfl dX11_in_1 ?_
  rcases g_ite h with ⟨c1, h⟩ | ⟨c1, h⟩
  · refine g_icmp_lt_t c1 (tgt := 14) rfl dX11_in_2 ?_
    refine g_iconst (v := 0) rfl dX11_in_14 ?_
    cases h
    exact g_iret O ⟨Nat.le_of_ble_eq_true rfl, Nat.le_of_ble_eq_true rfl⟩ rfl dX11_in_15
  · refine g_icmp_lt_f c1 (tgt := 14) rfl dX11_in_2 ?_
    refine g_iload_n 0 rfl rfl dX11_in_5 ?_
    refine g_iload_n 2 rfl rfl dX11_in_6 ?_
    rcases g_ite h with ⟨c2, h⟩ | ⟨c2, h⟩
    · refine g_icmp_gt_t c2 (tgt := 14) rfl dX11_in_7 ?_
      refine g_iconst (v := 0) rfl dX11_in_14 ?_
      cases h
      exact g_iret O ⟨Nat.le_of_ble_eq_true rfl, Nat.le_of_ble_eq_true rfl⟩ rfl dX11_in_15
    · refine g_icmp_gt_f c2 (tgt := 14) rfl dX11_in_7 ?_
      refine g_iconst (v := 1) rfl dX11_in_10 ?_
      refine g_goto (tgt := 15) rfl dX11_in_11 ?_
      cases h
      exact g_iret O ⟨Nat.le_of_ble_eq_true rfl, Nat.le_of_ble_eq_true rfl⟩ rfl dX11_in_15
theorem kX11_in {l : Launch} {V : gEnv} {M0 : gMem} {x0 : Int32} {x1 : Int32} {x2 : Int32}  {o : Int32} (h : fX11_in x0 x1 x2 = some o) : gM l yX11_in cX11_in 3 (some .boolean) rX11_in V gShM [.int x0, .int x1, .int x2] M0 (some (.int o)) M0 :=
  gM.of (by decide) (Nat.le_of_ble_eq_true rfl) rfl (fun X _ O => tX11_in  h O)
theorem dX11_of_0 : decode cX11_of 0 = .ok (.aload_n 0, 1) := by decide +kernel
theorem dX11_of_1 : decode cX11_of 1 = .ok (.getfield 9, 3) := by decide +kernel
theorem dX11_of_4 : decode cX11_of 4 = .ok (.sipush 158, 3) := by decide +kernel
theorem dX11_of_7 : decode cX11_of 7 = .ok (.bipush 9, 2) := by decide +kernel
theorem dX11_of_9 : decode cX11_of 9 = .ok (.iload_n 1, 1) := by decide +kernel
theorem dX11_of_10 : decode cX11_of 10 = .ok (.imul, 1) := by decide +kernel
theorem dX11_of_11 : decode cX11_of 11 = .ok (.iadd, 1) := by decide +kernel
theorem dX11_of_12 : decode cX11_of 12 = .ok (.iload_n 2, 1) := by decide +kernel
theorem dX11_of_13 : decode cX11_of 13 = .ok (.iadd, 1) := by decide +kernel
theorem dX11_of_14 : decode cX11_of 14 = .ok (.iaload, 1) := by decide +kernel
theorem dX11_of_15 : decode cX11_of 15 = .ok (.ireturn, 1) := by decide +kernel
abbrev rX11_of : Room := { frames := 0, cells := 0, slots := 0, locals := 0 }
abbrev mX11_of : gY := (cX11_of, RX11, 3, rX11_of)
def fX11_of (x1 : Int32) (x2 : Int32) (M0 : gMem) : Option Int32 :=
  (rI M0 1 374 (((158 : Int32) + ((9 : Int32) * x1)) + x2)).bind fun v1 => some v1
set_option maxRecDepth 20000 in
theorem tX11_of {X : gX} {V : gEnv} {x1 : Int32} {x2 : Int32} {M0 : gMem}  {o : Int32} (h : fX11_of x1 x2 M0 = some o) (O : gO X V mX11_of gShM (some .int) (some (.int o)) M0) : gG X V mX11_of gShM M0 0 0 0 [(0, .ref (gAd V 0)), (1, .int x1), (2, .int x2)] [] := by
  unfold fX11_of at h
  refine g_aload_n 0 rfl rfl dX11_of_0 ?_
  refine g_getR FX11_9 sM_0 rfl dX11_of_1 ?_
  refine g_sipush (v := 158) rfl dX11_of_4 ?_
  refine g_bipush (v := 9) rfl dX11_of_7 ?_
  refine g_iload_n 1 rfl rfl dX11_of_9 ?_
  refine g_imul dX11_of_10 ?_
  refine g_iadd dX11_of_11 ?_
  refine g_iload_n 2 rfl rfl dX11_of_12 ?_
  refine g_iadd dX11_of_13 ?_
  obtain ⟨v1, ev1, h⟩ := g_bnd h
  refine g_iald' ev1 sM_1 dX11_of_14 ?_
  cases h
  exact g_iret O ⟨Nat.le_of_ble_eq_true rfl, Nat.le_of_ble_eq_true rfl⟩ rfl dX11_of_15
theorem kX11_of {l : Launch} {V : gEnv} {M0 : gMem} {x1 : Int32} {x2 : Int32}  {o : Int32} (h : fX11_of x1 x2 M0 = some o) : gM l yX11_of cX11_of 3 (some .int) rX11_of V gShM [.ref (gAd V 0), .int x1, .int x2] M0 (some (.int o)) M0 :=
  gM.of (by decide) (Nat.le_of_ble_eq_true rfl) rfl (fun X _ O => tX11_of  h O)
theorem dX11_members_0 : decode cX11_members 0 = .ok (.iconst 0, 1) := by decide +kernel
theorem dX11_members_1 : decode cX11_members 1 = .ok (.istore_n 2, 1) := by decide +kernel
theorem dX11_members_2 : decode cX11_members 2 = .ok (.iconst 0, 1) := by decide +kernel
theorem dX11_members_3 : decode cX11_members 3 = .ok (.istore_n 3, 1) := by decide +kernel
theorem dX11_members_4 : decode cX11_members 4 = .ok (.iload_n 3, 1) := by decide +kernel
theorem dX11_members_5 : decode cX11_members 5 = .ok (.aload_n 0, 1) := by decide +kernel
theorem dX11_members_6 : decode cX11_members 6 = .ok (.getfield 9, 3) := by decide +kernel
theorem dX11_members_9 : decode cX11_members 9 = .ok (.iconst 0, 1) := by decide +kernel
theorem dX11_members_10 : decode cX11_members 10 = .ok (.iaload, 1) := by decide +kernel
theorem dX11_members_11 : decode cX11_members 11 = .ok (.if_icmp .ge 29, 3) := by decide +kernel
theorem dX11_members_14 : decode cX11_members 14 = .ok (.iload_n 2, 1) := by decide +kernel
theorem dX11_members_15 : decode cX11_members 15 = .ok (.aload_n 0, 1) := by decide +kernel
theorem dX11_members_16 : decode cX11_members 16 = .ok (.iload_n 3, 1) := by decide +kernel
theorem dX11_members_17 : decode cX11_members 17 = .ok (.iconst 1, 1) := by decide +kernel
theorem dX11_members_18 : decode cX11_members 18 = .ok (.invokevirtual 82, 3) := by decide +kernel
theorem dX11_members_21 : decode cX11_members 21 = .ok (.iload_n 1, 1) := by decide +kernel
theorem dX11_members_22 : decode cX11_members 22 = .ok (.if_icmp .ne 9, 3) := by decide +kernel
theorem dX11_members_25 : decode cX11_members 25 = .ok (.iconst 1, 1) := by decide +kernel
theorem dX11_members_26 : decode cX11_members 26 = .ok (.iload_n 3, 1) := by decide +kernel
theorem dX11_members_27 : decode cX11_members 27 = .ok (.ishl, 1) := by decide +kernel
theorem dX11_members_28 : decode cX11_members 28 = .ok (.goto 4, 3) := by decide +kernel
theorem dX11_members_31 : decode cX11_members 31 = .ok (.iconst 0, 1) := by decide +kernel
theorem dX11_members_32 : decode cX11_members 32 = .ok (.ior, 1) := by decide +kernel
theorem dX11_members_33 : decode cX11_members 33 = .ok (.istore_n 2, 1) := by decide +kernel
theorem dX11_members_34 : decode cX11_members 34 = .ok (.iinc 3 1, 3) := by decide +kernel
theorem dX11_members_37 : decode cX11_members 37 = .ok (.goto (-33), 3) := by decide +kernel
theorem dX11_members_40 : decode cX11_members 40 = .ok (.iload_n 2, 1) := by decide +kernel
theorem dX11_members_41 : decode cX11_members 41 = .ok (.ireturn, 1) := by decide +kernel
abbrev rX11_members : Room := { frames := 1, cells := 0, slots := 0, locals := 22 }
abbrev mX11_members : gY := (cX11_members, RX11, 4, rX11_members)
def fX11_members_l4 (x1 : Int32) (M0 : gMem) (x2 : Int32) (x3 : Int32) : Option ((Int32 × Int32) ⊕ Int32) :=
  (rI M0 1 374 (0 : Int32)).bind fun v1 => if v1 ≤ x3 then (some (.inr x2)) else (fX11_of x3 (1 : Int32) M0).bind fun v3 => (nm (x2 ||| (if v3 = x1 then (1 : Int32) <<< (x3 &&& 31) else (0 : Int32)))).bind fun v5 => some (.inl (v5, x3 + (1 : Int32)))
set_option maxRecDepth 20000 in
theorem tX11_members_l4 {X : gX} {V : gEnv} {x1 : Int32} {M0 : gMem} {x2 : Int32} {x3 : Int32}  {o : ((Int32 × Int32) ⊕ Int32)} (h : fX11_members_l4 x1 M0 x2 x3 = some o) (Kc : ∀ s9, o = .inl s9 → gG X V mX11_members gShM M0 0 0 4 [(0, .ref (gAd V 0)), (1, .int x1), (2, .int s9.1), (3, .int s9.2)] []) (Kx : ∀ e9, o = .inr e9 → gG X V mX11_members gShM M0 0 0 40 [(2, .int e9)] []) : gG X V mX11_members gShM M0 0 0 4 [(0, .ref (gAd V 0)), (1, .int x1), (2, .int x2), (3, .int x3)] [] := by
  unfold fX11_members_l4 at h
  refine g_iload_n 3 rfl rfl dX11_members_4 ?_
  refine g_aload_n 0 rfl rfl dX11_members_5 ?_
  refine g_getR FX11_9 sM_0 rfl dX11_members_6 ?_
  refine g_iconst (v := 0) rfl dX11_members_9 ?_
  obtain ⟨v1, ev1, h⟩ := g_bnd h
  refine g_iald' ev1 sM_1 dX11_members_10 ?_
  rcases g_ite h with ⟨c2, h⟩ | ⟨c2, h⟩
  · refine g_icmp_ge_t c2 (tgt := 40) rfl dX11_members_11 ?_
    cases h
    refine g_sub [2] rfl ?_
    exact Kx _ rfl
  · refine g_icmp_ge_f c2 (tgt := 40) rfl dX11_members_11 ?_
    refine g_iload_n 2 rfl rfl dX11_members_14 ?_
    refine g_aload_n 0 rfl rfl dX11_members_15 ?_
    refine g_iload_n 3 rfl rfl dX11_members_16 ?_
    refine g_iconst (v := 1) rfl dX11_members_17 ?_
    obtain ⟨v3, ev3, h⟩ := g_bnd h
    refine g_callV LX11_82 sM_0 rfl (kX11_of ev3) rfl rfl (Nat.le_of_ble_eq_true rfl) ⟨Nat.le_of_ble_eq_true rfl, Nat.le_of_ble_eq_true rfl⟩ ⟨Nat.le_of_ble_eq_true rfl, Nat.le_of_ble_eq_true rfl⟩ dX11_members_18 rfl ?_
    refine g_iload_n 1 rfl rfl dX11_members_21 ?_
    have KJ : gG X V mX11_members gShM M0 0 0 32 [(0, .ref (gAd V 0)), (1, .int x1), (2, .int x2), (3, .int x3)] [.int (if v3 = x1 then (1 : Int32) <<< (x3 &&& 31) else (0 : Int32)), .int x2] := by
      refine g_ior dX11_members_32 ?_
      obtain ⟨v5, ev5, h⟩ := g_bnd h
      refine g_nmI ev5 ?_
      refine g_istore_n (ls' := [(2, .int v5), (0, .ref (gAd V 0)), (1, .int x1), (3, .int x3)]) rfl (Nat.le_of_ble_eq_true rfl) rfl dX11_members_33 ?_
      refine g_iinc (j := 3) (v := x3 + (1 : Int32)) (ls' := [(3, .int (x3 + (1 : Int32))), (2, .int v5), (0, .ref (gAd V 0)), (1, .int x1)]) rfl rfl (Nat.le_of_ble_eq_true rfl) rfl dX11_members_34 ?_
      refine g_goto (tgt := 4) rfl dX11_members_37 ?_
      cases h
      refine g_sub [2, 3, 1, 0] rfl ?_
      exact Kc _ rfl
    by_cases c4 : v3 = x1
    · rw [if_pos c4] at KJ
      refine g_icmp_ne_f c4 (tgt := 31) rfl dX11_members_22 ?_
      refine g_iconst (v := 1) rfl dX11_members_25 ?_
      refine g_iload_n 3 rfl rfl dX11_members_26 ?_
      refine g_ishl dX11_members_27 ?_
      refine g_goto (tgt := 32) rfl dX11_members_28 ?_
      exact KJ
    · rw [if_neg c4] at KJ
      refine g_icmp_ne_t c4 (tgt := 31) rfl dX11_members_22 ?_
      refine g_iconst (v := 0) rfl dX11_members_31 ?_
      exact KJ
def fX11_members (x1 : Int32) (M0 : gMem) : Option Int32 :=
  (gLoop (fun z9 => fX11_members_l4 x1 M0 z9.1 z9.2) gFu ((0 : Int32), (0 : Int32))).bind fun w6 => some w6
set_option maxRecDepth 20000 in
theorem tX11_members {X : gX} {V : gEnv} {x1 : Int32} {M0 : gMem}  {o : Int32} (h : fX11_members x1 M0 = some o) (O : gO X V mX11_members gShM (some .int) (some (.int o)) M0) : gG X V mX11_members gShM M0 0 0 0 [(0, .ref (gAd V 0)), (1, .int x1)] [] := by
  unfold fX11_members at h
  refine g_iconst (v := 0) rfl dX11_members_0 ?_
  refine g_istore_n (ls' := [(2, .int (0 : Int32)), (0, .ref (gAd V 0)), (1, .int x1)]) rfl (Nat.le_of_ble_eq_true rfl) rfl dX11_members_1 ?_
  refine g_iconst (v := 0) rfl dX11_members_2 ?_
  refine g_istore_n (ls' := [(3, .int (0 : Int32)), (2, .int (0 : Int32)), (0, .ref (gAd V 0)), (1, .int x1)]) rfl (Nat.le_of_ble_eq_true rfl) rfl dX11_members_3 ?_
  obtain ⟨w6, ew6, h⟩ := g_bnd h
  refine g_sub [2, 3, 1, 0] rfl ?_
  have KX : gG X V mX11_members gShM M0 0 0 40 [(2, .int w6)] [] := by
    refine g_iload_n 0 rfl rfl dX11_members_40 ?_
    cases h
    exact g_iret O ⟨Nat.le_of_ble_eq_true rfl, Nat.le_of_ble_eq_true rfl⟩ rfl dX11_members_41
  exact gLoop_Q ew6 (fun z9 => gG X V mX11_members gShM M0 0 0 4 [(0, .ref (gAd V 0)), (1, .int x1), (2, .int z9.1), (3, .int z9.2)] []) (fun s9 o9 hb9 hc9 hx9 => tX11_members_l4  hb9 hc9 (fun e9 he9 => by cases hx9 _ he9; exact KX))
theorem kX11_members {l : Launch} {V : gEnv} {M0 : gMem} {x1 : Int32}  {o : Int32} (h : fX11_members x1 M0 = some o) : gM l yX11_members cX11_members 4 (some .int) rX11_members V gShM [.ref (gAd V 0), .int x1] M0 (some (.int o)) M0 :=
  gM.of (by decide) (Nat.le_of_ble_eq_true rfl) rfl (fun X _ O => tX11_members  h O)
theorem dX11_named_0 : decode cX11_named 0 = .ok (.iconst 0, 1) := by decide +kernel
theorem dX11_named_1 : decode cX11_named 1 = .ok (.istore_n 3, 1) := by decide +kernel
theorem dX11_named_2 : decode cX11_named 2 = .ok (.iload_n 3, 1) := by decide +kernel
theorem dX11_named_3 : decode cX11_named 3 = .ok (.aload_n 0, 1) := by decide +kernel
theorem dX11_named_4 : decode cX11_named 4 = .ok (.getfield 9, 3) := by decide +kernel
theorem dX11_named_7 : decode cX11_named 7 = .ok (.iconst 0, 1) := by decide +kernel
theorem dX11_named_8 : decode cX11_named 8 = .ok (.iaload, 1) := by decide +kernel
theorem dX11_named_9 : decode cX11_named 9 = .ok (.if_icmp .ge 81, 3) := by decide +kernel
theorem dX11_named_12 : decode cX11_named 12 = .ok (.aload_n 0, 1) := by decide +kernel
theorem dX11_named_13 : decode cX11_named 13 = .ok (.iload_n 3, 1) := by decide +kernel
theorem dX11_named_14 : decode cX11_named 14 = .ok (.iconst 2, 1) := by decide +kernel
theorem dX11_named_15 : decode cX11_named 15 = .ok (.invokevirtual 82, 3) := by decide +kernel
theorem dX11_named_18 : decode cX11_named 18 = .ok (.iload_n 2, 1) := by decide +kernel
theorem dX11_named_19 : decode cX11_named 19 = .ok (.if_icmp .ne 7, 3) := by decide +kernel
theorem dX11_named_22 : decode cX11_named 22 = .ok (.iconst 1, 1) := by decide +kernel
theorem dX11_named_23 : decode cX11_named 23 = .ok (.goto 4, 3) := by decide +kernel
theorem dX11_named_26 : decode cX11_named 26 = .ok (.iconst 0, 1) := by decide +kernel
theorem dX11_named_27 : decode cX11_named 27 = .ok (.istore 4, 2) := by decide +kernel
theorem dX11_named_29 : decode cX11_named 29 = .ok (.iconst 0, 1) := by decide +kernel
theorem dX11_named_30 : decode cX11_named 30 = .ok (.istore 5, 2) := by decide +kernel
theorem dX11_named_32 : decode cX11_named 32 = .ok (.iload 5, 2) := by decide +kernel
theorem dX11_named_34 : decode cX11_named 34 = .ok (.iload_n 2, 1) := by decide +kernel
theorem dX11_named_35 : decode cX11_named 35 = .ok (.if_icmp .ge 42, 3) := by decide +kernel
theorem dX11_named_38 : decode cX11_named 38 = .ok (.iload 4, 2) := by decide +kernel
theorem dX11_named_40 : decode cX11_named 40 = .ok (.ifCond .eq 37, 3) := by decide +kernel
theorem dX11_named_43 : decode cX11_named 43 = .ok (.aload_n 0, 1) := by decide +kernel
theorem dX11_named_44 : decode cX11_named 44 = .ok (.iload_n 3, 1) := by decide +kernel
theorem dX11_named_45 : decode cX11_named 45 = .ok (.iconst 3, 1) := by decide +kernel
theorem dX11_named_46 : decode cX11_named 46 = .ok (.iload 5, 2) := by decide +kernel
theorem dX11_named_48 : decode cX11_named 48 = .ok (.iadd, 1) := by decide +kernel
theorem dX11_named_49 : decode cX11_named 49 = .ok (.invokevirtual 82, 3) := by decide +kernel
theorem dX11_named_52 : decode cX11_named 52 = .ok (.aload_n 0, 1) := by decide +kernel
theorem dX11_named_53 : decode cX11_named 53 = .ok (.getfield 43, 3) := by decide +kernel
theorem dX11_named_56 : decode cX11_named 56 = .ok (.iload_n 1, 1) := by decide +kernel
theorem dX11_named_57 : decode cX11_named 57 = .ok (.iload 5, 2) := by decide +kernel
theorem dX11_named_59 : decode cX11_named 59 = .ok (.iadd, 1) := by decide +kernel
theorem dX11_named_60 : decode cX11_named 60 = .ok (.iaload, 1) := by decide +kernel
theorem dX11_named_61 : decode cX11_named 61 = .ok (.if_icmp .ne 7, 3) := by decide +kernel
theorem dX11_named_64 : decode cX11_named 64 = .ok (.iconst 1, 1) := by decide +kernel
theorem dX11_named_65 : decode cX11_named 65 = .ok (.goto 4, 3) := by decide +kernel
theorem dX11_named_68 : decode cX11_named 68 = .ok (.iconst 0, 1) := by decide +kernel
theorem dX11_named_69 : decode cX11_named 69 = .ok (.istore 4, 2) := by decide +kernel
theorem dX11_named_71 : decode cX11_named 71 = .ok (.iinc 5 1, 3) := by decide +kernel
theorem dX11_named_74 : decode cX11_named 74 = .ok (.goto (-42), 3) := by decide +kernel
theorem dX11_named_77 : decode cX11_named 77 = .ok (.iload 4, 2) := by decide +kernel
theorem dX11_named_79 : decode cX11_named 79 = .ok (.ifCond .eq 5, 3) := by decide +kernel
theorem dX11_named_82 : decode cX11_named 82 = .ok (.iload_n 3, 1) := by decide +kernel
theorem dX11_named_83 : decode cX11_named 83 = .ok (.ireturn, 1) := by decide +kernel
theorem dX11_named_84 : decode cX11_named 84 = .ok (.iinc 3 1, 3) := by decide +kernel
theorem dX11_named_87 : decode cX11_named 87 = .ok (.goto (-85), 3) := by decide +kernel
theorem dX11_named_90 : decode cX11_named 90 = .ok (.iconst (-1), 1) := by decide +kernel
theorem dX11_named_91 : decode cX11_named 91 = .ok (.ireturn, 1) := by decide +kernel
abbrev rX11_named : Room := { frames := 1, cells := 0, slots := 0, locals := 22 }
abbrev mX11_named : gY := (cX11_named, RX11, 6, rX11_named)
def fX11_named_l32 (x1 : Int32) (x2 : Int32) (x3 : Int32) (M0 : gMem) (x4 : Int32) (x5 : Int32) : Option ((Int32 × Int32) ⊕ Int32) :=
  if x2 ≤ x5 then (some (.inr x4)) else if x4 = 0 then (some (.inr x4)) else (fX11_of x3 ((3 : Int32) + x5) M0).bind fun v8 => (rI M0 12 900 (x1 + x5)).bind fun v9 => (nm (if v8 = v9 then (1 : Int32) else (0 : Int32))).bind fun v11 => some (.inl (v11, x5 + (1 : Int32)))
set_option maxRecDepth 20000 in
theorem tX11_named_l32 {X : gX} {V : gEnv} {x1 : Int32} {x2 : Int32} {x3 : Int32} {M0 : gMem} {x4 : Int32} {x5 : Int32}  {o : ((Int32 × Int32) ⊕ Int32)} (h : fX11_named_l32 x1 x2 x3 M0 x4 x5 = some o) (Kc : ∀ s9, o = .inl s9 → gG X V mX11_named gShM M0 0 0 32 [(0, .ref (gAd V 0)), (1, .int x1), (2, .int x2), (3, .int x3), (4, .int s9.1), (5, .int s9.2)] []) (Kx : ∀ e9, o = .inr e9 → gG X V mX11_named gShM M0 0 0 77 [(0, .ref (gAd V 0)), (1, .int x1), (2, .int x2), (3, .int x3), (4, .int e9)] []) : gG X V mX11_named gShM M0 0 0 32 [(0, .ref (gAd V 0)), (1, .int x1), (2, .int x2), (3, .int x3), (4, .int x4), (5, .int x5)] [] := by
  unfold fX11_named_l32 at h
  refine g_iload 5 rfl dX11_named_32 ?_
  refine g_iload_n 2 rfl rfl dX11_named_34 ?_
  rcases g_ite h with ⟨c6, h⟩ | ⟨c6, h⟩
  · refine g_icmp_ge_t c6 (tgt := 77) rfl dX11_named_35 ?_
    cases h
    refine g_sub [0, 1, 2, 3, 4] rfl ?_
    exact Kx _ rfl
  · refine g_icmp_ge_f c6 (tgt := 77) rfl dX11_named_35 ?_
    refine g_iload 4 rfl dX11_named_38 ?_
    rcases g_ite h with ⟨c7, h⟩ | ⟨c7, h⟩
    · refine g_if_eq_t c7 (tgt := 77) rfl dX11_named_40 ?_
      cases h
      refine g_sub [0, 1, 2, 3, 4] rfl ?_
      exact Kx _ rfl
    · refine g_if_eq_f c7 (tgt := 77) rfl dX11_named_40 ?_
      refine g_aload_n 0 rfl rfl dX11_named_43 ?_
      refine g_iload_n 3 rfl rfl dX11_named_44 ?_
      refine g_iconst (v := 3) rfl dX11_named_45 ?_
      refine g_iload 5 rfl dX11_named_46 ?_
      refine g_iadd dX11_named_48 ?_
      obtain ⟨v8, ev8, h⟩ := g_bnd h
      refine g_callV LX11_82 sM_0 rfl (kX11_of ev8) rfl rfl (Nat.le_of_ble_eq_true rfl) ⟨Nat.le_of_ble_eq_true rfl, Nat.le_of_ble_eq_true rfl⟩ ⟨Nat.le_of_ble_eq_true rfl, Nat.le_of_ble_eq_true rfl⟩ dX11_named_49 rfl ?_
      refine g_aload_n 0 rfl rfl dX11_named_52 ?_
      refine g_getR FX11_43 sM_0 rfl dX11_named_53 ?_
      refine g_iload_n 1 rfl rfl dX11_named_56 ?_
      refine g_iload 5 rfl dX11_named_57 ?_
      refine g_iadd dX11_named_59 ?_
      obtain ⟨v9, ev9, h⟩ := g_bnd h
      refine g_iald' ev9 sM_12 dX11_named_60 ?_
      have KJ : gG X V mX11_named gShM M0 0 0 69 [(0, .ref (gAd V 0)), (1, .int x1), (2, .int x2), (3, .int x3), (4, .int x4), (5, .int x5)] [.int (if v8 = v9 then (1 : Int32) else (0 : Int32))] := by
        obtain ⟨v11, ev11, h⟩ := g_bnd h
        refine g_nmI ev11 ?_
        refine g_istore (ls' := [(4, .int v11), (0, .ref (gAd V 0)), (1, .int x1), (2, .int x2), (3, .int x3), (5, .int x5)]) (Nat.le_of_ble_eq_true rfl) rfl dX11_named_69 ?_
        refine g_iinc (j := 5) (v := x5 + (1 : Int32)) (ls' := [(5, .int (x5 + (1 : Int32))), (4, .int v11), (0, .ref (gAd V 0)), (1, .int x1), (2, .int x2), (3, .int x3)]) rfl rfl (Nat.le_of_ble_eq_true rfl) rfl dX11_named_71 ?_
        refine g_goto (tgt := 32) rfl dX11_named_74 ?_
        cases h
        refine g_sub [2, 3, 4, 5, 1, 0] rfl ?_
        exact Kc _ rfl
      by_cases c10 : v8 = v9
      · rw [if_pos c10] at KJ
        refine g_icmp_ne_f c10 (tgt := 68) rfl dX11_named_61 ?_
        refine g_iconst (v := 1) rfl dX11_named_64 ?_
        refine g_goto (tgt := 69) rfl dX11_named_65 ?_
        exact KJ
      · rw [if_neg c10] at KJ
        refine g_icmp_ne_t c10 (tgt := 68) rfl dX11_named_61 ?_
        refine g_iconst (v := 0) rfl dX11_named_68 ?_
        exact KJ
def fX11_named_b77 (x1 : Int32) (x2 : Int32) (x3 : Int32) (x4 : Int32) (M0 : gMem) : Option (Int32 ⊕ (Unit ⊕ Int32)) :=
  if x4 = 0 then (some (.inl (x3 + (1 : Int32)))) else some (.inr (.inr x3))
set_option maxRecDepth 20000 in
theorem tX11_named_b77 {X : gX} {V : gEnv} {x1 : Int32} {x2 : Int32} {x3 : Int32} {x4 : Int32} {M0 : gMem}  {o : (Int32 ⊕ (Unit ⊕ Int32))} (h : fX11_named_b77 x1 x2 x3 x4 M0 = some o) (Kc : ∀ s9, o = .inl s9 → gG X V mX11_named gShM M0 0 0 2 [(0, .ref (gAd V 0)), (1, .int x1), (2, .int x2), (3, .int s9)] []) (Kx : ∀ e9, o = .inr (.inl e9) → gG X V mX11_named gShM M0 0 0 90 [] []) (Kr : ∀ r9, o = .inr (.inr r9) → gO X V mX11_named gShM (some .int) (some (.int r9)) M0) : gG X V mX11_named gShM M0 0 0 77 [(0, .ref (gAd V 0)), (1, .int x1), (2, .int x2), (3, .int x3), (4, .int x4)] [] := by
  unfold fX11_named_b77 at h
  refine g_iload 4 rfl dX11_named_77 ?_
  rcases g_ite h with ⟨c13, h⟩ | ⟨c13, h⟩
  · refine g_if_eq_t c13 (tgt := 84) rfl dX11_named_79 ?_
    refine g_iinc (j := 3) (v := x3 + (1 : Int32)) (ls' := [(3, .int (x3 + (1 : Int32))), (0, .ref (gAd V 0)), (1, .int x1), (2, .int x2), (4, .int x4)]) rfl rfl (Nat.le_of_ble_eq_true rfl) rfl dX11_named_84 ?_
    refine g_goto (tgt := 2) rfl dX11_named_87 ?_
    cases h
    refine g_sub [1, 2, 3, 0] rfl ?_
    exact Kc _ rfl
  · refine g_if_eq_f c13 (tgt := 84) rfl dX11_named_79 ?_
    refine g_iload_n 3 rfl rfl dX11_named_82 ?_
    cases h
    exact g_iret (Kr _ rfl) ⟨Nat.le_of_ble_eq_true rfl, Nat.le_of_ble_eq_true rfl⟩ rfl dX11_named_83
def fX11_named_l2 (x1 : Int32) (x2 : Int32) (M0 : gMem) (x3 : Int32) : Option (Int32 ⊕ (Unit ⊕ Int32)) :=
  (rI M0 1 374 (0 : Int32)).bind fun v1 => if v1 ≤ x3 then (some (.inr (.inl ()))) else (fX11_of x3 (2 : Int32) M0).bind fun v3 => (nm (if v3 = x2 then (1 : Int32) else (0 : Int32))).bind fun v5 => (gLoop (fun z9 => fX11_named_l32 x1 x2 x3 M0 z9.1 z9.2) gFu (v5, (0 : Int32))).bind fun w12 => fX11_named_b77 x1 x2 x3 w12 M0
set_option maxRecDepth 20000 in
theorem tX11_named_l2 {X : gX} {V : gEnv} {x1 : Int32} {x2 : Int32} {M0 : gMem} {x3 : Int32}  {o : (Int32 ⊕ (Unit ⊕ Int32))} (h : fX11_named_l2 x1 x2 M0 x3 = some o) (Kc : ∀ s9, o = .inl s9 → gG X V mX11_named gShM M0 0 0 2 [(0, .ref (gAd V 0)), (1, .int x1), (2, .int x2), (3, .int s9)] []) (Kx : ∀ e9, o = .inr (.inl e9) → gG X V mX11_named gShM M0 0 0 90 [] []) (Kr : ∀ r9, o = .inr (.inr r9) → gO X V mX11_named gShM (some .int) (some (.int r9)) M0) : gG X V mX11_named gShM M0 0 0 2 [(0, .ref (gAd V 0)), (1, .int x1), (2, .int x2), (3, .int x3)] [] := by
  unfold fX11_named_l2 at h
  refine g_iload_n 3 rfl rfl dX11_named_2 ?_
  refine g_aload_n 0 rfl rfl dX11_named_3 ?_
  refine g_getR FX11_9 sM_0 rfl dX11_named_4 ?_
  refine g_iconst (v := 0) rfl dX11_named_7 ?_
  obtain ⟨v1, ev1, h⟩ := g_bnd h
  refine g_iald' ev1 sM_1 dX11_named_8 ?_
  rcases g_ite h with ⟨c2, h⟩ | ⟨c2, h⟩
  · refine g_icmp_ge_t c2 (tgt := 90) rfl dX11_named_9 ?_
    cases h
    refine g_sub [] rfl ?_
    exact Kx _ rfl
  · refine g_icmp_ge_f c2 (tgt := 90) rfl dX11_named_9 ?_
    refine g_aload_n 0 rfl rfl dX11_named_12 ?_
    refine g_iload_n 3 rfl rfl dX11_named_13 ?_
    refine g_iconst (v := 2) rfl dX11_named_14 ?_
    obtain ⟨v3, ev3, h⟩ := g_bnd h
    refine g_callV LX11_82 sM_0 rfl (kX11_of ev3) rfl rfl (Nat.le_of_ble_eq_true rfl) ⟨Nat.le_of_ble_eq_true rfl, Nat.le_of_ble_eq_true rfl⟩ ⟨Nat.le_of_ble_eq_true rfl, Nat.le_of_ble_eq_true rfl⟩ dX11_named_15 rfl ?_
    refine g_iload_n 2 rfl rfl dX11_named_18 ?_
    have KJ : gG X V mX11_named gShM M0 0 0 27 [(0, .ref (gAd V 0)), (1, .int x1), (2, .int x2), (3, .int x3)] [.int (if v3 = x2 then (1 : Int32) else (0 : Int32))] := by
      obtain ⟨v5, ev5, h⟩ := g_bnd h
      refine g_nmI ev5 ?_
      refine g_istore (ls' := [(4, .int v5), (0, .ref (gAd V 0)), (1, .int x1), (2, .int x2), (3, .int x3)]) (Nat.le_of_ble_eq_true rfl) rfl dX11_named_27 ?_
      refine g_iconst (v := 0) rfl dX11_named_29 ?_
      refine g_istore (ls' := [(5, .int (0 : Int32)), (4, .int v5), (0, .ref (gAd V 0)), (1, .int x1), (2, .int x2), (3, .int x3)]) (Nat.le_of_ble_eq_true rfl) rfl dX11_named_30 ?_
      obtain ⟨w12, ew12, h⟩ := g_bnd h
      refine g_sub [2, 3, 4, 5, 1, 0] rfl ?_
      have KX : gG X V mX11_named gShM M0 0 0 77 [(0, .ref (gAd V 0)), (1, .int x1), (2, .int x2), (3, .int x3), (4, .int w12)] [] := by
        exact tX11_named_b77  h Kc Kx Kr
      exact gLoop_Q ew12 (fun z9 => gG X V mX11_named gShM M0 0 0 32 [(0, .ref (gAd V 0)), (1, .int x1), (2, .int x2), (3, .int x3), (4, .int z9.1), (5, .int z9.2)] []) (fun s9 o9 hb9 hc9 hx9 => tX11_named_l32  hb9 hc9 (fun e9 he9 => by cases hx9 _ he9; exact KX))
    by_cases c4 : v3 = x2
    · rw [if_pos c4] at KJ
      refine g_icmp_ne_f c4 (tgt := 26) rfl dX11_named_19 ?_
      refine g_iconst (v := 1) rfl dX11_named_22 ?_
      refine g_goto (tgt := 27) rfl dX11_named_23 ?_
      exact KJ
    · rw [if_neg c4] at KJ
      refine g_icmp_ne_t c4 (tgt := 26) rfl dX11_named_19 ?_
      refine g_iconst (v := 0) rfl dX11_named_26 ?_
      exact KJ
def fX11_named (x1 : Int32) (x2 : Int32) (M0 : gMem) : Option Int32 :=
  (gLoop (fun z9 => fX11_named_l2 x1 x2 M0 z9) gFu (0 : Int32)).bind fun w14 => gSE w14 (fun y15 => some (-1 : Int32)) (fun r16 => some r16)
set_option maxRecDepth 20000 in
theorem tX11_named {X : gX} {V : gEnv} {x1 : Int32} {x2 : Int32} {M0 : gMem}  {o : Int32} (h : fX11_named x1 x2 M0 = some o) (O : gO X V mX11_named gShM (some .int) (some (.int o)) M0) : gG X V mX11_named gShM M0 0 0 0 [(0, .ref (gAd V 0)), (1, .int x1), (2, .int x2)] [] := by
  unfold fX11_named at h
  refine g_iconst (v := 0) rfl dX11_named_0 ?_
  refine g_istore_n (ls' := [(3, .int (0 : Int32)), (0, .ref (gAd V 0)), (1, .int x1), (2, .int x2)]) rfl (Nat.le_of_ble_eq_true rfl) rfl dX11_named_1 ?_
  obtain ⟨w14, ew14, h⟩ := g_bnd h
  refine g_sub [1, 2, 3, 0] rfl ?_
  rcases w14 with y15 | r16
  · have h := g_sl h
    have KX : gG X V mX11_named gShM M0 0 0 90 [] [] := by
      refine g_iconst (v := -1) rfl dX11_named_90 ?_
      cases h
      exact g_iret O ⟨Nat.le_of_ble_eq_true rfl, Nat.le_of_ble_eq_true rfl⟩ rfl dX11_named_91
    exact gLoop_Q ew14 (fun z9 => gG X V mX11_named gShM M0 0 0 2 [(0, .ref (gAd V 0)), (1, .int x1), (2, .int x2), (3, .int z9)] []) (fun s9 o9 hb9 hc9 hx9 => tX11_named_l2  hb9 hc9 (fun e9 he9 => by cases hx9 _ he9; exact KX) (fun r9 he9 => by cases hx9 _ he9))
  · have h := g_sr h
    cases h
    exact gLoop_Q ew14 (fun z9 => gG X V mX11_named gShM M0 0 0 2 [(0, .ref (gAd V 0)), (1, .int x1), (2, .int x2), (3, .int z9)] []) (fun s9 o9 hb9 hc9 hx9 => tX11_named_l2  hb9 hc9 (fun e9 he9 => by cases hx9 _ he9) (fun r9 he9 => by cases hx9 _ he9; exact O))
theorem kX11_named {l : Launch} {V : gEnv} {M0 : gMem} {x1 : Int32} {x2 : Int32}  {o : Int32} (h : fX11_named x1 x2 M0 = some o) : gM l yX11_named cX11_named 6 (some .int) rX11_named V gShM [.ref (gAd V 0), .int x1, .int x2] M0 (some (.int o)) M0 :=
  gM.of (by decide) (Nat.le_of_ble_eq_true rfl) rfl (fun X _ O => tX11_named  h O)
