/-! METHODS, by program: pure functions and contracts -/
theorem dX11_placeOfHead_0 : decode cX11_placeOfHead 0 = .ok (.iconst 0, 1) := by decide +kernel
theorem dX11_placeOfHead_1 : decode cX11_placeOfHead 1 = .ok (.istore_n 2, 1) := by decide +kernel
theorem dX11_placeOfHead_2 : decode cX11_placeOfHead 2 = .ok (.aload_n 0, 1) := by decide +kernel
theorem dX11_placeOfHead_3 : decode cX11_placeOfHead 3 = .ok (.getfield 9, 3) := by decide +kernel
theorem dX11_placeOfHead_6 : decode cX11_placeOfHead 6 = .ok (.bipush 14, 2) := by decide +kernel
theorem dX11_placeOfHead_8 : decode cX11_placeOfHead 8 = .ok (.iload_n 2, 1) := by decide +kernel
theorem dX11_placeOfHead_9 : decode cX11_placeOfHead 9 = .ok (.iadd, 1) := by decide +kernel
theorem dX11_placeOfHead_10 : decode cX11_placeOfHead 10 = .ok (.iaload, 1) := by decide +kernel
theorem dX11_placeOfHead_11 : decode cX11_placeOfHead 11 = .ok (.iload_n 1, 1) := by decide +kernel
theorem dX11_placeOfHead_12 : decode cX11_placeOfHead 12 = .ok (.if_icmp .eq 9, 3) := by decide +kernel
theorem dX11_placeOfHead_15 : decode cX11_placeOfHead 15 = .ok (.iinc 2 1, 3) := by decide +kernel
theorem dX11_placeOfHead_18 : decode cX11_placeOfHead 18 = .ok (.goto (-16), 3) := by decide +kernel
theorem dX11_placeOfHead_21 : decode cX11_placeOfHead 21 = .ok (.iload_n 2, 1) := by decide +kernel
theorem dX11_placeOfHead_22 : decode cX11_placeOfHead 22 = .ok (.ireturn, 1) := by decide +kernel
abbrev rX11_placeOfHead : Room := { frames := 0, cells := 0, slots := 0, locals := 0 }
abbrev mX11_placeOfHead : gY := (cX11_placeOfHead, RX11, 3, rX11_placeOfHead)
def fX11_placeOfHead_l2 (x1 : Int32) (M0 : gMem) (x2 : Int32) : Option (Int32 ⊕ Int32) :=
  (rI M0 1 374 ((14 : Int32) + x2)).bind fun v1 => if v1 = x1 then (some (.inr x2)) else some (.inl (x2 + (1 : Int32)))
set_option maxRecDepth 20000 in
theorem tX11_placeOfHead_l2 {X : gX} {V : gEnv} {x1 : Int32} {M0 : gMem} {x2 : Int32}  {o : (Int32 ⊕ Int32)} (h : fX11_placeOfHead_l2 x1 M0 x2 = some o) (Kc : ∀ s9, o = .inl s9 → gG X V mX11_placeOfHead gShM M0 0 0 2 [(0, .ref (gAd V 0)), (1, .int x1), (2, .int s9)] []) (Kx : ∀ e9, o = .inr e9 → gG X V mX11_placeOfHead gShM M0 0 0 21 [(2, .int e9)] []) : gG X V mX11_placeOfHead gShM M0 0 0 2 [(0, .ref (gAd V 0)), (1, .int x1), (2, .int x2)] [] := by
  unfold fX11_placeOfHead_l2 at h
  refine g_aload_n 0 rfl rfl dX11_placeOfHead_2 ?_
  refine g_getR FX11_9 sM_0 rfl dX11_placeOfHead_3 ?_
  refine g_bipush (v := 14) rfl dX11_placeOfHead_6 ?_
  refine g_iload_n 2 rfl rfl dX11_placeOfHead_8 ?_
  refine g_iadd dX11_placeOfHead_9 ?_
  obtain ⟨v1, ev1, h⟩ := g_bnd h
  refine g_iald' ev1 sM_1 dX11_placeOfHead_10 ?_
  refine g_iload_n 1 rfl rfl dX11_placeOfHead_11 ?_
  rcases g_ite h with ⟨c2, h⟩ | ⟨c2, h⟩
  · refine g_icmp_eq_t c2 (tgt := 21) rfl dX11_placeOfHead_12 ?_
    cases h
    refine g_sub [2] rfl ?_
    exact Kx x2 rfl
  · refine g_icmp_eq_f c2 (tgt := 21) rfl dX11_placeOfHead_12 ?_
    refine g_iinc (j := 2) (v := x2 + (1 : Int32)) (ls' := [(2, .int (x2 + (1 : Int32))), (0, .ref (gAd V 0)), (1, .int x1)]) rfl rfl (Nat.le_of_ble_eq_true rfl) rfl dX11_placeOfHead_15 ?_
    refine g_goto (tgt := 2) rfl dX11_placeOfHead_18 ?_
    cases h
    refine g_sub [1, 2, 0] rfl ?_
    exact Kc (x2 + (1 : Int32)) rfl
def fX11_placeOfHead (x1 : Int32) (M0 : gMem) : Option Int32 :=
  (gLoop (fun z9 => fX11_placeOfHead_l2 x1 M0 z9) gFu (0 : Int32)).bind fun w3 => some w3
set_option maxRecDepth 20000 in
theorem tX11_placeOfHead {X : gX} {V : gEnv} {x1 : Int32} {M0 : gMem}  {o : Int32} (h : fX11_placeOfHead x1 M0 = some o) (O : gO X V mX11_placeOfHead gShM (some .int) (some (.int o)) M0) : gG X V mX11_placeOfHead gShM M0 0 0 0 [(0, .ref (gAd V 0)), (1, .int x1)] [] := by
  unfold fX11_placeOfHead at h
  refine g_iconst (v := 0) rfl dX11_placeOfHead_0 ?_
  refine g_istore_n (ls' := [(2, .int (0 : Int32)), (0, .ref (gAd V 0)), (1, .int x1)]) rfl (Nat.le_of_ble_eq_true rfl) rfl dX11_placeOfHead_1 ?_
  obtain ⟨w3, ew3, h⟩ := g_bnd h
  refine g_sub [1, 2, 0] rfl ?_
  have KX : gG X V mX11_placeOfHead gShM M0 0 0 21 [(2, .int w3)] [] := by
    refine g_iload_n 0 rfl rfl dX11_placeOfHead_21 ?_
    cases h
    exact g_iret O ⟨Nat.le_of_ble_eq_true rfl, Nat.le_of_ble_eq_true rfl⟩ rfl dX11_placeOfHead_22
  exact gLoop_Q ew3 (fun z9 => gG X V mX11_placeOfHead gShM M0 0 0 2 [(0, .ref (gAd V 0)), (1, .int x1), (2, .int z9)] []) (fun s9 o9 hb9 hc9 hx9 => tX11_placeOfHead_l2  hb9 hc9 (fun e9 he9 => by cases hx9 _ he9; exact KX))
theorem kX11_placeOfHead {l : Launch} {V : gEnv} {M0 : gMem} {x1 : Int32}  {o : Int32} (h : fX11_placeOfHead x1 M0 = some o) : gM l yX11_placeOfHead cX11_placeOfHead 3 (some .int) rX11_placeOfHead V gShM [.ref (gAd V 0), .int x1] M0 (some (.int o)) M0 :=
  gM.of (by decide) (Nat.le_of_ble_eq_true rfl) rfl (fun X _ O => tX11_placeOfHead  h O)
theorem dX11_placeOf_0 : decode cX11_placeOf 0 = .ok (.aload_n 0, 1) := by decide +kernel
theorem dX11_placeOf_1 : decode cX11_placeOf 1 = .ok (.aload_n 0, 1) := by decide +kernel
theorem dX11_placeOf_2 : decode cX11_placeOf 2 = .ok (.iload_n 1, 1) := by decide +kernel
theorem dX11_placeOf_3 : decode cX11_placeOf 3 = .ok (.iconst 1, 1) := by decide +kernel
theorem dX11_placeOf_4 : decode cX11_placeOf 4 = .ok (.invokevirtual 82, 3) := by decide +kernel
theorem dX11_placeOf_7 : decode cX11_placeOf 7 = .ok (.invokevirtual 86, 3) := by decide +kernel
theorem dX11_placeOf_10 : decode cX11_placeOf 10 = .ok (.ireturn, 1) := by decide +kernel
abbrev rX11_placeOf : Room := { frames := 1, cells := 0, slots := 0, locals := 22 }
abbrev mX11_placeOf : gY := (cX11_placeOf, RX11, 2, rX11_placeOf)
def fX11_placeOf (x1 : Int32) (M0 : gMem) : Option Int32 :=
  (fX11_of x1 (1 : Int32) M0).bind fun v1 => (fX11_placeOfHead v1 M0).bind fun v2 => some v2
set_option maxRecDepth 20000 in
theorem tX11_placeOf {X : gX} {V : gEnv} {x1 : Int32} {M0 : gMem}  {o : Int32} (h : fX11_placeOf x1 M0 = some o) (O : gO X V mX11_placeOf gShM (some .int) (some (.int o)) M0) : gG X V mX11_placeOf gShM M0 0 0 0 [(0, .ref (gAd V 0)), (1, .int x1)] [] := by
  unfold fX11_placeOf at h
  refine g_aload_n 0 rfl rfl dX11_placeOf_0 ?_
  refine g_aload_n 0 rfl rfl dX11_placeOf_1 ?_
  refine g_iload_n 1 rfl rfl dX11_placeOf_2 ?_
  refine g_iconst (v := 1) rfl dX11_placeOf_3 ?_
  obtain ⟨v1, ev1, h⟩ := g_bnd h
  refine g_callV LX11_82 sM_0 rfl (kX11_of ev1) rfl rfl (Nat.le_of_ble_eq_true rfl) ⟨Nat.le_of_ble_eq_true rfl, Nat.le_of_ble_eq_true rfl⟩ ⟨Nat.le_of_ble_eq_true rfl, Nat.le_of_ble_eq_true rfl⟩ dX11_placeOf_4 rfl ?_
  obtain ⟨v2, ev2, h⟩ := g_bnd h
  refine g_callV LX11_86 sM_0 rfl (kX11_placeOfHead ev2) rfl rfl (Nat.le_of_ble_eq_true rfl) ⟨Nat.le_of_ble_eq_true rfl, Nat.le_of_ble_eq_true rfl⟩ ⟨Nat.le_of_ble_eq_true rfl, Nat.le_of_ble_eq_true rfl⟩ dX11_placeOf_7 rfl ?_
  cases h
  exact g_iret O ⟨Nat.le_of_ble_eq_true rfl, Nat.le_of_ble_eq_true rfl⟩ rfl dX11_placeOf_10
theorem kX11_placeOf {l : Launch} {V : gEnv} {M0 : gMem} {x1 : Int32}  {o : Int32} (h : fX11_placeOf x1 M0 = some o) : gM l yX11_placeOf cX11_placeOf 2 (some .int) rX11_placeOf V gShM [.ref (gAd V 0), .int x1] M0 (some (.int o)) M0 :=
  gM.of (by decide) (Nat.le_of_ble_eq_true rfl) rfl (fun X _ O => tX11_placeOf  h O)
theorem dX11_members_0 : decode cX11_members 0 = .ok (.iconst 0, 1) := by decide +kernel
theorem dX11_members_1 : decode cX11_members 1 = .ok (.istore_n 2, 1) := by decide +kernel
theorem dX11_members_2 : decode cX11_members 2 = .ok (.iconst 0, 1) := by decide +kernel
theorem dX11_members_3 : decode cX11_members 3 = .ok (.istore_n 3, 1) := by decide +kernel
theorem dX11_members_4 : decode cX11_members 4 = .ok (.iload_n 3, 1) := by decide +kernel
theorem dX11_members_5 : decode cX11_members 5 = .ok (.aload_n 0, 1) := by decide +kernel
theorem dX11_members_6 : decode cX11_members 6 = .ok (.getfield 9, 3) := by decide +kernel
theorem dX11_members_9 : decode cX11_members 9 = .ok (.iconst 0, 1) := by decide +kernel
theorem dX11_members_10 : decode cX11_members 10 = .ok (.iaload, 1) := by decide +kernel
theorem dX11_members_11 : decode cX11_members 11 = .ok (.if_icmp .ge 29, 3) := by decide +kernel
theorem dX11_members_14 : decode cX11_members 14 = .ok (.iload_n 2, 1) := by decide +kernel
theorem dX11_members_15 : decode cX11_members 15 = .ok (.aload_n 0, 1) := by decide +kernel
theorem dX11_members_16 : decode cX11_members 16 = .ok (.iload_n 3, 1) := by decide +kernel
theorem dX11_members_17 : decode cX11_members 17 = .ok (.iconst 1, 1) := by decide +kernel
theorem dX11_members_18 : decode cX11_members 18 = .ok (.invokevirtual 82, 3) := by decide +kernel
theorem dX11_members_21 : decode cX11_members 21 = .ok (.iload_n 1, 1) := by decide +kernel
theorem dX11_members_22 : decode cX11_members 22 = .ok (.if_icmp .ne 9, 3) := by decide +kernel
theorem dX11_members_25 : decode cX11_members 25 = .ok (.iconst 1, 1) := by decide +kernel
theorem dX11_members_26 : decode cX11_members 26 = .ok (.iload_n 3, 1) := by decide +kernel
theorem dX11_members_27 : decode cX11_members 27 = .ok (.ishl, 1) := by decide +kernel
theorem dX11_members_28 : decode cX11_members 28 = .ok (.goto 4, 3) := by decide +kernel
theorem dX11_members_31 : decode cX11_members 31 = .ok (.iconst 0, 1) := by decide +kernel
theorem dX11_members_32 : decode cX11_members 32 = .ok (.ior, 1) := by decide +kernel
theorem dX11_members_33 : decode cX11_members 33 = .ok (.istore_n 2, 1) := by decide +kernel
theorem dX11_members_34 : decode cX11_members 34 = .ok (.iinc 3 1, 3) := by decide +kernel
theorem dX11_members_37 : decode cX11_members 37 = .ok (.goto (-33), 3) := by decide +kernel
theorem dX11_members_40 : decode cX11_members 40 = .ok (.iload_n 2, 1) := by decide +kernel
theorem dX11_members_41 : decode cX11_members 41 = .ok (.ireturn, 1) := by decide +kernel
abbrev rX11_members : Room := { frames := 1, cells := 0, slots := 0, locals := 22 }
abbrev mX11_members : gY := (cX11_members, RX11, 4, rX11_members)
def fX11_members_l4 (x1 : Int32) (M0 : gMem) (x2 : Int32) (x3 : Int32) : Option ((Int32 × Int32) ⊕ Int32) :=
  (rI M0 1 374 (0 : Int32)).bind fun v1 => if v1 ≤ x3 then (some (.inr x2)) else (fX11_of x3 (1 : Int32) M0).bind fun v3 => (nm (x2 ||| (if v3 = x1 then (1 : Int32) <<< (x3 &&& 31) else (0 : Int32)))).bind fun v5 => some (.inl (v5, x3 + (1 : Int32)))
set_option maxRecDepth 20000 in
theorem tX11_members_l4 {X : gX} {V : gEnv} {x1 : Int32} {M0 : gMem} {x2 : Int32} {x3 : Int32}  {o : ((Int32 × Int32) ⊕ Int32)} (h : fX11_members_l4 x1 M0 x2 x3 = some o) (Kc : ∀ s9, o = .inl s9 → gG X V mX11_members gShM M0 0 0 4 [(0, .ref (gAd V 0)), (1, .int x1), (2, .int s9.1), (3, .int s9.2)] []) (Kx : ∀ e9, o = .inr e9 → gG X V mX11_members gShM M0 0 0 40 [(2, .int e9)] []) : gG X V mX11_members gShM M0 0 0 4 [(0, .ref (gAd V 0)), (1, .int x1), (2, .int x2), (3, .int x3)] [] := by
  unfold fX11_members_l4 at h
  refine g_iload_n 3 rfl rfl dX11_members_4 ?_
  refine g_aload_n 0 rfl rfl dX11_members_5 ?_
  refine g_getR FX11_9 sM_0 rfl dX11_members_6 ?_
  refine g_iconst (v := 0) rfl dX11_members_9 ?_
  obtain ⟨v1, ev1, h⟩ := g_bnd h
  refine g_iald' ev1 sM_1 dX11_members_10 ?_
  rcases g_ite h with ⟨c2, h⟩ | ⟨c2, h⟩
  · refine g_icmp_ge_t c2 (tgt := 40) rfl dX11_members_11 ?_
    cases h
    refine g_sub [2] rfl ?_
    exact Kx x2 rfl
  · refine g_icmp_ge_f c2 (tgt := 40) rfl dX11_members_11 ?_
    refine g_iload_n 2 rfl rfl dX11_members_14 ?_
    refine g_aload_n 0 rfl rfl dX11_members_15 ?_
    refine g_iload_n 3 rfl rfl dX11_members_16 ?_
    refine g_iconst (v := 1) rfl dX11_members_17 ?_
    obtain ⟨v3, ev3, h⟩ := g_bnd h
    refine g_callV LX11_82 sM_0 rfl (kX11_of ev3) rfl rfl (Nat.le_of_ble_eq_true rfl) ⟨Nat.le_of_ble_eq_true rfl, Nat.le_of_ble_eq_true rfl⟩ ⟨Nat.le_of_ble_eq_true rfl, Nat.le_of_ble_eq_true rfl⟩ dX11_members_18 rfl ?_
    refine g_iload_n 1 rfl rfl dX11_members_21 ?_
    have KJ : gG X V mX11_members gShM M0 0 0 32 [(0, .ref (gAd V 0)), (1, .int x1), (2, .int x2), (3, .int x3)] [.int (if v3 = x1 then (1 : Int32) <<< (x3 &&& 31) else (0 : Int32)), .int x2] := by
      refine g_ior dX11_members_32 ?_
      obtain ⟨v5, ev5, h⟩ := g_bnd h
      refine g_nmI ev5 ?_
      refine g_istore_n (ls' := [(2, .int v5), (0, .ref (gAd V 0)), (1, .int x1), (3, .int x3)]) rfl (Nat.le_of_ble_eq_true rfl) rfl dX11_members_33 ?_
      refine g_iinc (j := 3) (v := x3 + (1 : Int32)) (ls' := [(3, .int (x3 + (1 : Int32))), (2, .int v5), (0, .ref (gAd V 0)), (1, .int x1)]) rfl rfl (Nat.le_of_ble_eq_true rfl) rfl dX11_members_34 ?_
      refine g_goto (tgt := 4) rfl dX11_members_37 ?_
      cases h
      refine g_sub [2, 3, 1, 0] rfl ?_
      exact Kc (v5, x3 + (1 : Int32)) rfl
    by_cases c4 : v3 = x1
    · rw [if_pos c4] at KJ
      refine g_icmp_ne_f c4 (tgt := 31) rfl dX11_members_22 ?_
      refine g_iconst (v := 1) rfl dX11_members_25 ?_
      refine g_iload_n 3 rfl rfl dX11_members_26 ?_
      refine g_ishl dX11_members_27 ?_
      refine g_goto (tgt := 32) rfl dX11_members_28 ?_
      exact KJ
    · rw [if_neg c4] at KJ
      refine g_icmp_ne_t c4 (tgt := 31) rfl dX11_members_22 ?_
      refine g_iconst (v := 0) rfl dX11_members_31 ?_
      exact KJ
def fX11_members (x1 : Int32) (M0 : gMem) : Option Int32 :=
  (gLoop (fun z9 => fX11_members_l4 x1 M0 z9.1 z9.2) gFu ((0 : Int32), (0 : Int32))).bind fun w6 => some w6
set_option maxRecDepth 20000 in
theorem tX11_members {X : gX} {V : gEnv} {x1 : Int32} {M0 : gMem}  {o : Int32} (h : fX11_members x1 M0 = some o) (O : gO X V mX11_members gShM (some .int) (some (.int o)) M0) : gG X V mX11_members gShM M0 0 0 0 [(0, .ref (gAd V 0)), (1, .int x1)] [] := by
  unfold fX11_members at h
  refine g_iconst (v := 0) rfl dX11_members_0 ?_
  refine g_istore_n (ls' := [(2, .int (0 : Int32)), (0, .ref (gAd V 0)), (1, .int x1)]) rfl (Nat.le_of_ble_eq_true rfl) rfl dX11_members_1 ?_
  refine g_iconst (v := 0) rfl dX11_members_2 ?_
  refine g_istore_n (ls' := [(3, .int (0 : Int32)), (2, .int (0 : Int32)), (0, .ref (gAd V 0)), (1, .int x1)]) rfl (Nat.le_of_ble_eq_true rfl) rfl dX11_members_3 ?_
  obtain ⟨w6, ew6, h⟩ := g_bnd h
  refine g_sub [2, 3, 1, 0] rfl ?_
  have KX : gG X V mX11_members gShM M0 0 0 40 [(2, .int w6)] [] := by
    refine g_iload_n 0 rfl rfl dX11_members_40 ?_
    cases h
    exact g_iret O ⟨Nat.le_of_ble_eq_true rfl, Nat.le_of_ble_eq_true rfl⟩ rfl dX11_members_41
  exact gLoop_Q ew6 (fun z9 => gG X V mX11_members gShM M0 0 0 4 [(0, .ref (gAd V 0)), (1, .int x1), (2, .int z9.1), (3, .int z9.2)] []) (fun s9 o9 hb9 hc9 hx9 => tX11_members_l4  hb9 hc9 (fun e9 he9 => by cases hx9 _ he9; exact KX))
theorem kX11_members {l : Launch} {V : gEnv} {M0 : gMem} {x1 : Int32}  {o : Int32} (h : fX11_members x1 M0 = some o) : gM l yX11_members cX11_members 4 (some .int) rX11_members V gShM [.ref (gAd V 0), .int x1] M0 (some (.int o)) M0 :=
  gM.of (by decide) (Nat.le_of_ble_eq_true rfl) rfl (fun X _ O => tX11_members  h O)
theorem dX11_membersAt_0 : decode cX11_membersAt 0 = .ok (.aload_n 0, 1) := by decide +kernel
theorem dX11_membersAt_1 : decode cX11_membersAt 1 = .ok (.aload_n 0, 1) := by decide +kernel
theorem dX11_membersAt_2 : decode cX11_membersAt 2 = .ok (.getfield 9, 3) := by decide +kernel
theorem dX11_membersAt_5 : decode cX11_membersAt 5 = .ok (.bipush 14, 2) := by decide +kernel
theorem dX11_membersAt_7 : decode cX11_membersAt 7 = .ok (.iload_n 1, 1) := by decide +kernel
theorem dX11_membersAt_8 : decode cX11_membersAt 8 = .ok (.iadd, 1) := by decide +kernel
theorem dX11_membersAt_9 : decode cX11_membersAt 9 = .ok (.iaload, 1) := by decide +kernel
theorem dX11_membersAt_10 : decode cX11_membersAt 10 = .ok (.invokevirtual 90, 3) := by decide +kernel
theorem dX11_membersAt_13 : decode cX11_membersAt 13 = .ok (.ireturn, 1) := by decide +kernel
abbrev rX11_membersAt : Room := { frames := 2, cells := 0, slots := 0, locals := 45 }
abbrev mX11_membersAt : gY := (cX11_membersAt, RX11, 2, rX11_membersAt)
def fX11_membersAt (x1 : Int32) (M0 : gMem) : Option Int32 :=
  (rI M0 1 374 ((14 : Int32) + x1)).bind fun v1 => (fX11_members v1 M0).bind fun v2 => some v2
set_option maxRecDepth 20000 in
theorem tX11_membersAt {X : gX} {V : gEnv} {x1 : Int32} {M0 : gMem}  {o : Int32} (h : fX11_membersAt x1 M0 = some o) (O : gO X V mX11_membersAt gShM (some .int) (some (.int o)) M0) : gG X V mX11_membersAt gShM M0 0 0 0 [(0, .ref (gAd V 0)), (1, .int x1)] [] := by
  unfold fX11_membersAt at h
  refine g_aload_n 0 rfl rfl dX11_membersAt_0 ?_
  refine g_aload_n 0 rfl rfl dX11_membersAt_1 ?_
  refine g_getR FX11_9 sM_0 rfl dX11_membersAt_2 ?_
  refine g_bipush (v := 14) rfl dX11_membersAt_5 ?_
  refine g_iload_n 1 rfl rfl dX11_membersAt_7 ?_
  refine g_iadd dX11_membersAt_8 ?_
  obtain ⟨v1, ev1, h⟩ := g_bnd h
  refine g_iald' ev1 sM_1 dX11_membersAt_9 ?_
  obtain ⟨v2, ev2, h⟩ := g_bnd h
  refine g_callV LX11_90 sM_0 rfl (kX11_members ev2) rfl rfl (Nat.le_of_ble_eq_true rfl) ⟨Nat.le_of_ble_eq_true rfl, Nat.le_of_ble_eq_true rfl⟩ ⟨Nat.le_of_ble_eq_true rfl, Nat.le_of_ble_eq_true rfl⟩ dX11_membersAt_10 rfl ?_
  cases h
  exact g_iret O ⟨Nat.le_of_ble_eq_true rfl, Nat.le_of_ble_eq_true rfl⟩ rfl dX11_membersAt_13
theorem kX11_membersAt {l : Launch} {V : gEnv} {M0 : gMem} {x1 : Int32}  {o : Int32} (h : fX11_membersAt x1 M0 = some o) : gM l yX11_membersAt cX11_membersAt 2 (some .int) rX11_membersAt V gShM [.ref (gAd V 0), .int x1] M0 (some (.int o)) M0 :=
  gM.of (by decide) (Nat.le_of_ble_eq_true rfl) rfl (fun X _ O => tX11_membersAt  h O)
theorem dX11_hoursOf_0 : decode cX11_hoursOf 0 = .ok (.iconst 0, 1) := by decide +kernel
theorem dX11_hoursOf_1 : decode cX11_hoursOf 1 = .ok (.istore_n 2, 1) := by decide +kernel
theorem dX11_hoursOf_2 : decode cX11_hoursOf 2 = .ok (.iconst 0, 1) := by decide +kernel
theorem dX11_hoursOf_3 : decode cX11_hoursOf 3 = .ok (.istore_n 3, 1) := by decide +kernel
theorem dX11_hoursOf_4 : decode cX11_hoursOf 4 = .ok (.iload_n 3, 1) := by decide +kernel
theorem dX11_hoursOf_5 : decode cX11_hoursOf 5 = .ok (.aload_n 0, 1) := by decide +kernel
theorem dX11_hoursOf_6 : decode cX11_hoursOf 6 = .ok (.getfield 9, 3) := by decide +kernel
theorem dX11_hoursOf_9 : decode cX11_hoursOf 9 = .ok (.iconst 0, 1) := by decide +kernel
theorem dX11_hoursOf_10 : decode cX11_hoursOf 10 = .ok (.iaload, 1) := by decide +kernel
theorem dX11_hoursOf_11 : decode cX11_hoursOf 11 = .ok (.if_icmp .ge 30, 3) := by decide +kernel
theorem dX11_hoursOf_14 : decode cX11_hoursOf 14 = .ok (.iload_n 2, 1) := by decide +kernel
theorem dX11_hoursOf_15 : decode cX11_hoursOf 15 = .ok (.iload_n 1, 1) := by decide +kernel
theorem dX11_hoursOf_16 : decode cX11_hoursOf 16 = .ok (.iload_n 3, 1) := by decide +kernel
theorem dX11_hoursOf_17 : decode cX11_hoursOf 17 = .ok (.invokestatic 93, 3) := by decide +kernel
theorem dX11_hoursOf_20 : decode cX11_hoursOf 20 = .ok (.ifCond .eq 12, 3) := by decide +kernel
theorem dX11_hoursOf_23 : decode cX11_hoursOf 23 = .ok (.aload_n 0, 1) := by decide +kernel
theorem dX11_hoursOf_24 : decode cX11_hoursOf 24 = .ok (.iload_n 3, 1) := by decide +kernel
theorem dX11_hoursOf_25 : decode cX11_hoursOf 25 = .ok (.iconst 0, 1) := by decide +kernel
theorem dX11_hoursOf_26 : decode cX11_hoursOf 26 = .ok (.invokevirtual 82, 3) := by decide +kernel
theorem dX11_hoursOf_29 : decode cX11_hoursOf 29 = .ok (.goto 4, 3) := by decide +kernel
theorem dX11_hoursOf_32 : decode cX11_hoursOf 32 = .ok (.iconst 0, 1) := by decide +kernel
theorem dX11_hoursOf_33 : decode cX11_hoursOf 33 = .ok (.iadd, 1) := by decide +kernel
theorem dX11_hoursOf_34 : decode cX11_hoursOf 34 = .ok (.istore_n 2, 1) := by decide +kernel
theorem dX11_hoursOf_35 : decode cX11_hoursOf 35 = .ok (.iinc 3 1, 3) := by decide +kernel
theorem dX11_hoursOf_38 : decode cX11_hoursOf 38 = .ok (.goto (-34), 3) := by decide +kernel
theorem dX11_hoursOf_41 : decode cX11_hoursOf 41 = .ok (.iload_n 2, 1) := by decide +kernel
theorem dX11_hoursOf_42 : decode cX11_hoursOf 42 = .ok (.ireturn, 1) := by decide +kernel
abbrev rX11_hoursOf : Room := { frames := 1, cells := 0, slots := 0, locals := 22 }
abbrev mX11_hoursOf : gY := (cX11_hoursOf, RX11, 4, rX11_hoursOf)
def fX11_hoursOf_b33 (x1 : Int32) (x3 : Int32) (s0 : Int32) (s1 : Int32) (M0 : gMem) : Option ((Int32 × Int32) ⊕ Int32) :=
  (nm (s0 + s1)).bind fun v5 => some (.inl (v5, x3 + (1 : Int32)))
set_option maxRecDepth 20000 in
theorem tX11_hoursOf_b33 {X : gX} {V : gEnv} {x1 : Int32} {x3 : Int32} {s0 : Int32} {s1 : Int32} {M0 : gMem}  {o : ((Int32 × Int32) ⊕ Int32)} (h : fX11_hoursOf_b33 x1 x3 s0 s1 M0 = some o) (Kc : ∀ s9, o = .inl s9 → gG X V mX11_hoursOf gShM M0 0 0 4 [(0, .ref (gAd V 0)), (1, .int x1), (2, .int s9.1), (3, .int s9.2)] []) (Kx : ∀ e9, o = .inr e9 → gG X V mX11_hoursOf gShM M0 0 0 41 [(2, .int e9)] []) : gG X V mX11_hoursOf gShM M0 0 0 33 [(0, .ref (gAd V 0)), (1, .int x1), (3, .int x3)] [.int s1, .int s0] := by
  unfold fX11_hoursOf_b33 at h
  refine g_iadd dX11_hoursOf_33 ?_
  obtain ⟨v5, ev5, h⟩ := g_bnd h
  refine g_nmI ev5 ?_
  refine g_istore_n (ls' := [(2, .int v5), (0, .ref (gAd V 0)), (1, .int x1), (3, .int x3)]) rfl (Nat.le_of_ble_eq_true rfl) rfl dX11_hoursOf_34 ?_
  refine g_iinc (j := 3) (v := x3 + (1 : Int32)) (ls' := [(3, .int (x3 + (1 : Int32))), (2, .int v5), (0, .ref (gAd V 0)), (1, .int x1)]) rfl rfl (Nat.le_of_ble_eq_true rfl) rfl dX11_hoursOf_35 ?_
  refine g_goto (tgt := 4) rfl dX11_hoursOf_38 ?_
  cases h
  refine g_sub [2, 3, 1, 0] rfl ?_
  exact Kc (v5, x3 + (1 : Int32)) rfl
def fX11_hoursOf_l4 (x1 : Int32) (M0 : gMem) (x2 : Int32) (x3 : Int32) : Option ((Int32 × Int32) ⊕ Int32) :=
  (rI M0 1 374 (0 : Int32)).bind fun v1 => if v1 ≤ x3 then (some (.inr x2)) else (fX11_has x1 x3).bind fun v3 => if v3 = 0 then (fX11_hoursOf_b33 x1 x3 x2 (0 : Int32) M0) else (fX11_of x3 (0 : Int32) M0).bind fun v6 => fX11_hoursOf_b33 x1 x3 x2 v6 M0
set_option maxRecDepth 20000 in
theorem tX11_hoursOf_l4 {X : gX} {V : gEnv} {x1 : Int32} {M0 : gMem} {x2 : Int32} {x3 : Int32}  {o : ((Int32 × Int32) ⊕ Int32)} (h : fX11_hoursOf_l4 x1 M0 x2 x3 = some o) (Kc : ∀ s9, o = .inl s9 → gG X V mX11_hoursOf gShM M0 0 0 4 [(0, .ref (gAd V 0)), (1, .int x1), (2, .int s9.1), (3, .int s9.2)] []) (Kx : ∀ e9, o = .inr e9 → gG X V mX11_hoursOf gShM M0 0 0 41 [(2, .int e9)] []) : gG X V mX11_hoursOf gShM M0 0 0 4 [(0, .ref (gAd V 0)), (1, .int x1), (2, .int x2), (3, .int x3)] [] := by
  unfold fX11_hoursOf_l4 at h
  refine g_iload_n 3 rfl rfl dX11_hoursOf_4 ?_
  refine g_aload_n 0 rfl rfl dX11_hoursOf_5 ?_
  refine g_getR FX11_9 sM_0 rfl dX11_hoursOf_6 ?_
  refine g_iconst (v := 0) rfl dX11_hoursOf_9 ?_
  obtain ⟨v1, ev1, h⟩ := g_bnd h
  refine g_iald' ev1 sM_1 dX11_hoursOf_10 ?_
  rcases g_ite h with ⟨c2, h⟩ | ⟨c2, h⟩
  · refine g_icmp_ge_t c2 (tgt := 41) rfl dX11_hoursOf_11 ?_
    cases h
    refine g_sub [2] rfl ?_
    exact Kx x2 rfl
  · refine g_icmp_ge_f c2 (tgt := 41) rfl dX11_hoursOf_11 ?_
    refine g_iload_n 2 rfl rfl dX11_hoursOf_14 ?_
    refine g_iload_n 1 rfl rfl dX11_hoursOf_15 ?_
    refine g_iload_n 3 rfl rfl dX11_hoursOf_16 ?_
    obtain ⟨v3, ev3, h⟩ := g_bnd h
    refine g_callS LX11_93 (kX11_has ev3) rfl rfl (Nat.le_of_ble_eq_true rfl) ⟨Nat.le_of_ble_eq_true rfl, Nat.le_of_ble_eq_true rfl⟩ ⟨Nat.le_of_ble_eq_true rfl, Nat.le_of_ble_eq_true rfl⟩ dX11_hoursOf_17 rfl ?_
    rcases g_ite h with ⟨c4, h⟩ | ⟨c4, h⟩
    · refine g_if_eq_t c4 (tgt := 32) rfl dX11_hoursOf_20 ?_
      refine g_iconst (v := 0) rfl dX11_hoursOf_32 ?_
      refine g_sub [0, 1, 3] rfl ?_
      exact tX11_hoursOf_b33  h Kc Kx
    · refine g_if_eq_f c4 (tgt := 32) rfl dX11_hoursOf_20 ?_
      refine g_aload_n 0 rfl rfl dX11_hoursOf_23 ?_
      refine g_iload_n 3 rfl rfl dX11_hoursOf_24 ?_
      refine g_iconst (v := 0) rfl dX11_hoursOf_25 ?_
      obtain ⟨v6, ev6, h⟩ := g_bnd h
      refine g_callV LX11_82 sM_0 rfl (kX11_of ev6) rfl rfl (Nat.le_of_ble_eq_true rfl) ⟨Nat.le_of_ble_eq_true rfl, Nat.le_of_ble_eq_true rfl⟩ ⟨Nat.le_of_ble_eq_true rfl, Nat.le_of_ble_eq_true rfl⟩ dX11_hoursOf_26 rfl ?_
      refine g_goto (tgt := 33) rfl dX11_hoursOf_29 ?_
      refine g_sub [0, 1, 3] rfl ?_
      exact tX11_hoursOf_b33  h Kc Kx
def fX11_hoursOf (x1 : Int32) (M0 : gMem) : Option Int32 :=
  (gLoop (fun z9 => fX11_hoursOf_l4 x1 M0 z9.1 z9.2) gFu ((0 : Int32), (0 : Int32))).bind fun w7 => some w7
set_option maxRecDepth 20000 in
theorem tX11_hoursOf {X : gX} {V : gEnv} {x1 : Int32} {M0 : gMem}  {o : Int32} (h : fX11_hoursOf x1 M0 = some o) (O : gO X V mX11_hoursOf gShM (some .int) (some (.int o)) M0) : gG X V mX11_hoursOf gShM M0 0 0 0 [(0, .ref (gAd V 0)), (1, .int x1)] [] := by
  unfold fX11_hoursOf at h
  refine g_iconst (v := 0) rfl dX11_hoursOf_0 ?_
  refine g_istore_n (ls' := [(2, .int (0 : Int32)), (0, .ref (gAd V 0)), (1, .int x1)]) rfl (Nat.le_of_ble_eq_true rfl) rfl dX11_hoursOf_1 ?_
  refine g_iconst (v := 0) rfl dX11_hoursOf_2 ?_
  refine g_istore_n (ls' := [(3, .int (0 : Int32)), (2, .int (0 : Int32)), (0, .ref (gAd V 0)), (1, .int x1)]) rfl (Nat.le_of_ble_eq_true rfl) rfl dX11_hoursOf_3 ?_
  obtain ⟨w7, ew7, h⟩ := g_bnd h
  refine g_sub [2, 3, 1, 0] rfl ?_
  have KX : gG X V mX11_hoursOf gShM M0 0 0 41 [(2, .int w7)] [] := by
    refine g_iload_n 0 rfl rfl dX11_hoursOf_41 ?_
    cases h
    exact g_iret O ⟨Nat.le_of_ble_eq_true rfl, Nat.le_of_ble_eq_true rfl⟩ rfl dX11_hoursOf_42
  exact gLoop_Q ew7 (fun z9 => gG X V mX11_hoursOf gShM M0 0 0 4 [(0, .ref (gAd V 0)), (1, .int x1), (2, .int z9.1), (3, .int z9.2)] []) (fun s9 o9 hb9 hc9 hx9 => tX11_hoursOf_l4  hb9 hc9 (fun e9 he9 => by cases hx9 _ he9; exact KX))
theorem kX11_hoursOf {l : Launch} {V : gEnv} {M0 : gMem} {x1 : Int32}  {o : Int32} (h : fX11_hoursOf x1 M0 = some o) : gM l yX11_hoursOf cX11_hoursOf 4 (some .int) rX11_hoursOf V gShM [.ref (gAd V 0), .int x1] M0 (some (.int o)) M0 :=
  gM.of (by decide) (Nat.le_of_ble_eq_true rfl) rfl (fun X _ O => tX11_hoursOf  h O)
theorem dX11_isInner_0 : decode cX11_isInner 0 = .ok (.aload_n 0, 1) := by decide +kernel
theorem dX11_isInner_1 : decode cX11_isInner 1 = .ok (.aload_n 0, 1) := by decide +kernel
theorem dX11_isInner_2 : decode cX11_isInner 2 = .ok (.getfield 9, 3) := by decide +kernel
theorem dX11_isInner_5 : decode cX11_isInner 5 = .ok (.bipush 38, 2) := by decide +kernel
theorem dX11_isInner_7 : decode cX11_isInner 7 = .ok (.iload_n 1, 1) := by decide +kernel
theorem dX11_isInner_8 : decode cX11_isInner 8 = .ok (.iadd, 1) := by decide +kernel
theorem dX11_isInner_9 : decode cX11_isInner 9 = .ok (.iaload, 1) := by decide +kernel
theorem dX11_isInner_10 : decode cX11_isInner 10 = .ok (.iconst 1, 1) := by decide +kernel
theorem dX11_isInner_11 : decode cX11_isInner 11 = .ok (.invokevirtual 82, 3) := by decide +kernel
theorem dX11_isInner_14 : decode cX11_isInner 14 = .ok (.aload_n 0, 1) := by decide +kernel
theorem dX11_isInner_15 : decode cX11_isInner 15 = .ok (.aload_n 0, 1) := by decide +kernel
theorem dX11_isInner_16 : decode cX11_isInner 16 = .ok (.getfield 9, 3) := by decide +kernel
theorem dX11_isInner_19 : decode cX11_isInner 19 = .ok (.bipush 98, 2) := by decide +kernel
theorem dX11_isInner_21 : decode cX11_isInner 21 = .ok (.iload_n 1, 1) := by decide +kernel
theorem dX11_isInner_22 : decode cX11_isInner 22 = .ok (.iadd, 1) := by decide +kernel
theorem dX11_isInner_23 : decode cX11_isInner 23 = .ok (.iaload, 1) := by decide +kernel
theorem dX11_isInner_24 : decode cX11_isInner 24 = .ok (.iconst 1, 1) := by decide +kernel
theorem dX11_isInner_25 : decode cX11_isInner 25 = .ok (.invokevirtual 82, 3) := by decide +kernel
theorem dX11_isInner_28 : decode cX11_isInner 28 = .ok (.if_icmp .ne 7, 3) := by decide +kernel
theorem dX11_isInner_31 : decode cX11_isInner 31 = .ok (.iconst 1, 1) := by decide +kernel
theorem dX11_isInner_32 : decode cX11_isInner 32 = .ok (.goto 4, 3) := by decide +kernel
theorem dX11_isInner_35 : decode cX11_isInner 35 = .ok (.iconst 0, 1) := by decide +kernel
theorem dX11_isInner_36 : decode cX11_isInner 36 = .ok (.ireturn, 1) := by decide +kernel
abbrev rX11_isInner : Room := { frames := 1, cells := 0, slots := 0, locals := 22 }
abbrev mX11_isInner : gY := (cX11_isInner, RX11, 2, rX11_isInner)
def fX11_isInner (x1 : Int32) (M0 : gMem) : Option Int32 :=
  (rI M0 1 374 ((38 : Int32) + x1)).bind fun v1 => (fX11_of v1 (1 : Int32) M0).bind fun v2 => (rI M0 1 374 ((98 : Int32) + x1)).bind fun v3 => (fX11_of v3 (1 : Int32) M0).bind fun v4 => some (if v2 = v4 then (1 : Int32) else (0 : Int32))
set_option maxRecDepth 20000 in
theorem tX11_isInner {X : gX} {V : gEnv} {x1 : Int32} {M0 : gMem}  {o : Int32} (h : fX11_isInner x1 M0 = some o) (O : gO X V mX11_isInner gShM (some .boolean) (some (.int o)) M0) : gG X V mX11_isInner gShM M0 0 0 0 [(0, .ref (gAd V 0)), (1, .int x1)] [] := by
  unfold fX11_isInner at h
  refine g_aload_n 0 rfl rfl dX11_isInner_0 ?_
  refine g_aload_n 0 rfl rfl dX11_isInner_1 ?_
  refine g_getR FX11_9 sM_0 rfl dX11_isInner_2 ?_
  refine g_bipush (v := 38) rfl dX11_isInner_5 ?_
  refine g_iload_n 1 rfl rfl dX11_isInner_7 ?_
  refine g_iadd dX11_isInner_8 ?_
  obtain ⟨v1, ev1, h⟩ := g_bnd h
  refine g_iald' ev1 sM_1 dX11_isInner_9 ?_
  refine g_iconst (v := 1) rfl dX11_isInner_10 ?_
  obtain ⟨v2, ev2, h⟩ := g_bnd h
  refine g_callV LX11_82 sM_0 rfl (kX11_of ev2) rfl rfl (Nat.le_of_ble_eq_true rfl) ⟨Nat.le_of_ble_eq_true rfl, Nat.le_of_ble_eq_true rfl⟩ ⟨Nat.le_of_ble_eq_true rfl, Nat.le_of_ble_eq_true rfl⟩ dX11_isInner_11 rfl ?_
  refine g_aload_n 0 rfl rfl dX11_isInner_14 ?_
  refine g_aload_n 0 rfl rfl dX11_isInner_15 ?_
  refine g_getR FX11_9 sM_0 rfl dX11_isInner_16 ?_
  refine g_bipush (v := 98) rfl dX11_isInner_19 ?_
  refine g_iload_n 1 rfl rfl dX11_isInner_21 ?_
  refine g_iadd dX11_isInner_22 ?_
  obtain ⟨v3, ev3, h⟩ := g_bnd h
  refine g_iald' ev3 sM_1 dX11_isInner_23 ?_
  refine g_iconst (v := 1) rfl dX11_isInner_24 ?_
  obtain ⟨v4, ev4, h⟩ := g_bnd h
  refine g_callV LX11_82 sM_0 rfl (kX11_of ev4) rfl rfl (Nat.le_of_ble_eq_true rfl) ⟨Nat.le_of_ble_eq_true rfl, Nat.le_of_ble_eq_true rfl⟩ ⟨Nat.le_of_ble_eq_true rfl, Nat.le_of_ble_eq_true rfl⟩ dX11_isInner_25 rfl ?_
  have KJ : gG X V mX11_isInner gShM M0 0 0 36 [(0, .ref (gAd V 0)), (1, .int x1)] [.int (if v2 = v4 then (1 : Int32) else (0 : Int32))] := by
    cases h
    exact g_iret O ⟨Nat.le_of_ble_eq_true rfl, Nat.le_of_ble_eq_true rfl⟩ (by split <;> rfl) dX11_isInner_36
  by_cases c5 : v2 = v4
  · rw [if_pos c5] at KJ
    refine g_icmp_ne_f c5 (tgt := 35) rfl dX11_isInner_28 ?_
    refine g_iconst (v := 1) rfl dX11_isInner_31 ?_
    refine g_goto (tgt := 36) rfl dX11_isInner_32 ?_
    exact KJ
  · rw [if_neg c5] at KJ
    refine g_icmp_ne_t c5 (tgt := 35) rfl dX11_isInner_28 ?_
    refine g_iconst (v := 0) rfl dX11_isInner_35 ?_
    exact KJ
theorem kX11_isInner {l : Launch} {V : gEnv} {M0 : gMem} {x1 : Int32}  {o : Int32} (h : fX11_isInner x1 M0 = some o) : gM l yX11_isInner cX11_isInner 2 (some .boolean) rX11_isInner V gShM [.ref (gAd V 0), .int x1] M0 (some (.int o)) M0 :=
  gM.of (by decide) (Nat.le_of_ble_eq_true rfl) rfl (fun X _ O => tX11_isInner  h O)
theorem dX11_inners_0 : decode cX11_inners 0 = .ok (.iconst 0, 1) := by decide +kernel
theorem dX11_inners_1 : decode cX11_inners 1 = .ok (.istore_n 1, 1) := by decide +kernel
theorem dX11_inners_2 : decode cX11_inners 2 = .ok (.iconst 0, 1) := by decide +kernel
theorem dX11_inners_3 : decode cX11_inners 3 = .ok (.istore_n 2, 1) := by decide +kernel
theorem dX11_inners_4 : decode cX11_inners 4 = .ok (.iload_n 2, 1) := by decide +kernel
theorem dX11_inners_5 : decode cX11_inners 5 = .ok (.aload_n 0, 1) := by decide +kernel
theorem dX11_inners_6 : decode cX11_inners 6 = .ok (.getfield 9, 3) := by decide +kernel
theorem dX11_inners_9 : decode cX11_inners 9 = .ok (.iconst 1, 1) := by decide +kernel
theorem dX11_inners_10 : decode cX11_inners 10 = .ok (.iaload, 1) := by decide +kernel
theorem dX11_inners_11 : decode cX11_inners 11 = .ok (.if_icmp .ge 25, 3) := by decide +kernel
theorem dX11_inners_14 : decode cX11_inners 14 = .ok (.iload_n 1, 1) := by decide +kernel
theorem dX11_inners_15 : decode cX11_inners 15 = .ok (.aload_n 0, 1) := by decide +kernel
theorem dX11_inners_16 : decode cX11_inners 16 = .ok (.iload_n 2, 1) := by decide +kernel
theorem dX11_inners_17 : decode cX11_inners 17 = .ok (.invokevirtual 97, 3) := by decide +kernel
theorem dX11_inners_20 : decode cX11_inners 20 = .ok (.ifCond .eq 7, 3) := by decide +kernel
theorem dX11_inners_23 : decode cX11_inners 23 = .ok (.iconst 1, 1) := by decide +kernel
theorem dX11_inners_24 : decode cX11_inners 24 = .ok (.goto 4, 3) := by decide +kernel
theorem dX11_inners_27 : decode cX11_inners 27 = .ok (.iconst 0, 1) := by decide +kernel
theorem dX11_inners_28 : decode cX11_inners 28 = .ok (.iadd, 1) := by decide +kernel
theorem dX11_inners_29 : decode cX11_inners 29 = .ok (.istore_n 1, 1) := by decide +kernel
theorem dX11_inners_30 : decode cX11_inners 30 = .ok (.iinc 2 1, 3) := by decide +kernel
theorem dX11_inners_33 : decode cX11_inners 33 = .ok (.goto (-29), 3) := by decide +kernel
theorem dX11_inners_36 : decode cX11_inners 36 = .ok (.iload_n 1, 1) := by decide +kernel
theorem dX11_inners_37 : decode cX11_inners 37 = .ok (.ireturn, 1) := by decide +kernel
abbrev rX11_inners : Room := { frames := 2, cells := 0, slots := 0, locals := 43 }
abbrev mX11_inners : gY := (cX11_inners, RX11, 3, rX11_inners)
def fX11_inners_l4 (M0 : gMem) (x1 : Int32) (x2 : Int32) : Option ((Int32 × Int32) ⊕ Int32) :=
  (rI M0 1 374 (1 : Int32)).bind fun v1 => if v1 ≤ x2 then (some (.inr x1)) else (fX11_isInner x2 M0).bind fun v3 => (nm (x1 + (if v3 = 0 then (0 : Int32) else (1 : Int32)))).bind fun v5 => some (.inl (v5, x2 + (1 : Int32)))
set_option maxRecDepth 20000 in
theorem tX11_inners_l4 {X : gX} {V : gEnv} {M0 : gMem} {x1 : Int32} {x2 : Int32}  {o : ((Int32 × Int32) ⊕ Int32)} (h : fX11_inners_l4 M0 x1 x2 = some o) (Kc : ∀ s9, o = .inl s9 → gG X V mX11_inners gShM M0 0 0 4 [(0, .ref (gAd V 0)), (1, .int s9.1), (2, .int s9.2)] []) (Kx : ∀ e9, o = .inr e9 → gG X V mX11_inners gShM M0 0 0 36 [(1, .int e9)] []) : gG X V mX11_inners gShM M0 0 0 4 [(0, .ref (gAd V 0)), (1, .int x1), (2, .int x2)] [] := by
  unfold fX11_inners_l4 at h
  refine g_iload_n 2 rfl rfl dX11_inners_4 ?_
  refine g_aload_n 0 rfl rfl dX11_inners_5 ?_
  refine g_getR FX11_9 sM_0 rfl dX11_inners_6 ?_
  refine g_iconst (v := 1) rfl dX11_inners_9 ?_
  obtain ⟨v1, ev1, h⟩ := g_bnd h
  refine g_iald' ev1 sM_1 dX11_inners_10 ?_
  rcases g_ite h with ⟨c2, h⟩ | ⟨c2, h⟩
  · refine g_icmp_ge_t c2 (tgt := 36) rfl dX11_inners_11 ?_
    cases h
    refine g_sub [1] rfl ?_
    exact Kx x1 rfl
  · refine g_icmp_ge_f c2 (tgt := 36) rfl dX11_inners_11 ?_
    refine g_iload_n 1 rfl rfl dX11_inners_14 ?_
    refine g_aload_n 0 rfl rfl dX11_inners_15 ?_
    refine g_iload_n 2 rfl rfl dX11_inners_16 ?_
    obtain ⟨v3, ev3, h⟩ := g_bnd h
    refine g_callV LX11_97 sM_0 rfl (kX11_isInner ev3) rfl rfl (Nat.le_of_ble_eq_true rfl) ⟨Nat.le_of_ble_eq_true rfl, Nat.le_of_ble_eq_true rfl⟩ ⟨Nat.le_of_ble_eq_true rfl, Nat.le_of_ble_eq_true rfl⟩ dX11_inners_17 rfl ?_
    have KJ : gG X V mX11_inners gShM M0 0 0 28 [(0, .ref (gAd V 0)), (1, .int x1), (2, .int x2)] [.int (if v3 = 0 then (0 : Int32) else (1 : Int32)), .int x1] := by
      refine g_iadd dX11_inners_28 ?_
      obtain ⟨v5, ev5, h⟩ := g_bnd h
      refine g_nmI ev5 ?_
      refine g_istore_n (ls' := [(1, .int v5), (0, .ref (gAd V 0)), (2, .int x2)]) rfl (Nat.le_of_ble_eq_true rfl) rfl dX11_inners_29 ?_
      refine g_iinc (j := 2) (v := x2 + (1 : Int32)) (ls' := [(2, .int (x2 + (1 : Int32))), (1, .int v5), (0, .ref (gAd V 0))]) rfl rfl (Nat.le_of_ble_eq_true rfl) rfl dX11_inners_30 ?_
      refine g_goto (tgt := 4) rfl dX11_inners_33 ?_
      cases h
      refine g_sub [2, 1, 0] rfl ?_
      exact Kc (v5, x2 + (1 : Int32)) rfl
    by_cases c4 : v3 = 0
    · rw [if_pos c4] at KJ
      refine g_if_eq_t c4 (tgt := 27) rfl dX11_inners_20 ?_
      refine g_iconst (v := 0) rfl dX11_inners_27 ?_
      exact KJ
    · rw [if_neg c4] at KJ
      refine g_if_eq_f c4 (tgt := 27) rfl dX11_inners_20 ?_
      refine g_iconst (v := 1) rfl dX11_inners_23 ?_
      refine g_goto (tgt := 28) rfl dX11_inners_24 ?_
      exact KJ
def fX11_inners (M0 : gMem) : Option Int32 :=
  (gLoop (fun z9 => fX11_inners_l4 M0 z9.1 z9.2) gFu ((0 : Int32), (0 : Int32))).bind fun w6 => some w6
set_option maxRecDepth 20000 in
theorem tX11_inners {X : gX} {V : gEnv} {M0 : gMem}  {o : Int32} (h : fX11_inners M0 = some o) (O : gO X V mX11_inners gShM (some .int) (some (.int o)) M0) : gG X V mX11_inners gShM M0 0 0 0 [(0, .ref (gAd V 0))] [] := by
  unfold fX11_inners at h
  refine g_iconst (v := 0) rfl dX11_inners_0 ?_
  refine g_istore_n (ls' := [(1, .int (0 : Int32)), (0, .ref (gAd V 0))]) rfl (Nat.le_of_ble_eq_true rfl) rfl dX11_inners_1 ?_
  refine g_iconst (v := 0) rfl dX11_inners_2 ?_
  refine g_istore_n (ls' := [(2, .int (0 : Int32)), (1, .int (0 : Int32)), (0, .ref (gAd V 0))]) rfl (Nat.le_of_ble_eq_true rfl) rfl dX11_inners_3 ?_
  obtain ⟨w6, ew6, h⟩ := g_bnd h
  refine g_sub [2, 1, 0] rfl ?_
  have KX : gG X V mX11_inners gShM M0 0 0 36 [(1, .int w6)] [] := by
    refine g_iload_n 0 rfl rfl dX11_inners_36 ?_
    cases h
    exact g_iret O ⟨Nat.le_of_ble_eq_true rfl, Nat.le_of_ble_eq_true rfl⟩ rfl dX11_inners_37
  exact gLoop_Q ew6 (fun z9 => gG X V mX11_inners gShM M0 0 0 4 [(0, .ref (gAd V 0)), (1, .int z9.1), (2, .int z9.2)] []) (fun s9 o9 hb9 hc9 hx9 => tX11_inners_l4  hb9 hc9 (fun e9 he9 => by cases hx9 _ he9; exact KX))
theorem kX11_inners {l : Launch} {V : gEnv} {M0 : gMem}   {o : Int32} (h : fX11_inners M0 = some o) : gM l yX11_inners cX11_inners 3 (some .int) rX11_inners V gShM [.ref (gAd V 0)] M0 (some (.int o)) M0 :=
  gM.of (by decide) (Nat.le_of_ble_eq_true rfl) rfl (fun X _ O => tX11_inners  h O)
theorem dX11_arrowFrom_0 : decode cX11_arrowFrom 0 = .ok (.iconst 0, 1) := by decide +kernel
theorem dX11_arrowFrom_1 : decode cX11_arrowFrom 1 = .ok (.istore_n 3, 1) := by decide +kernel
theorem dX11_arrowFrom_2 : decode cX11_arrowFrom 2 = .ok (.iload_n 3, 1) := by decide +kernel
theorem dX11_arrowFrom_3 : decode cX11_arrowFrom 3 = .ok (.aload_n 0, 1) := by decide +kernel
theorem dX11_arrowFrom_4 : decode cX11_arrowFrom 4 = .ok (.getfield 9, 3) := by decide +kernel
theorem dX11_arrowFrom_7 : decode cX11_arrowFrom 7 = .ok (.iconst 1, 1) := by decide +kernel
theorem dX11_arrowFrom_8 : decode cX11_arrowFrom 8 = .ok (.iaload, 1) := by decide +kernel
theorem dX11_arrowFrom_9 : decode cX11_arrowFrom 9 = .ok (.if_icmp .ge 37, 3) := by decide +kernel
theorem dX11_arrowFrom_12 : decode cX11_arrowFrom 12 = .ok (.aload_n 0, 1) := by decide +kernel
theorem dX11_arrowFrom_13 : decode cX11_arrowFrom 13 = .ok (.getfield 9, 3) := by decide +kernel
theorem dX11_arrowFrom_16 : decode cX11_arrowFrom 16 = .ok (.bipush 38, 2) := by decide +kernel
theorem dX11_arrowFrom_18 : decode cX11_arrowFrom 18 = .ok (.iload_n 3, 1) := by decide +kernel
theorem dX11_arrowFrom_19 : decode cX11_arrowFrom 19 = .ok (.iadd, 1) := by decide +kernel
theorem dX11_arrowFrom_20 : decode cX11_arrowFrom 20 = .ok (.iaload, 1) := by decide +kernel
theorem dX11_arrowFrom_21 : decode cX11_arrowFrom 21 = .ok (.iload_n 1, 1) := by decide +kernel
theorem dX11_arrowFrom_22 : decode cX11_arrowFrom 22 = .ok (.if_icmp .ne 18, 3) := by decide +kernel
theorem dX11_arrowFrom_25 : decode cX11_arrowFrom 25 = .ok (.aload_n 0, 1) := by decide +kernel
theorem dX11_arrowFrom_26 : decode cX11_arrowFrom 26 = .ok (.getfield 9, 3) := by decide +kernel
theorem dX11_arrowFrom_29 : decode cX11_arrowFrom 29 = .ok (.bipush 98, 2) := by decide +kernel
theorem dX11_arrowFrom_31 : decode cX11_arrowFrom 31 = .ok (.iload_n 3, 1) := by decide +kernel
theorem dX11_arrowFrom_32 : decode cX11_arrowFrom 32 = .ok (.iadd, 1) := by decide +kernel
theorem dX11_arrowFrom_33 : decode cX11_arrowFrom 33 = .ok (.iaload, 1) := by decide +kernel
theorem dX11_arrowFrom_34 : decode cX11_arrowFrom 34 = .ok (.iload_n 2, 1) := by decide +kernel
theorem dX11_arrowFrom_35 : decode cX11_arrowFrom 35 = .ok (.if_icmp .ne 5, 3) := by decide +kernel
theorem dX11_arrowFrom_38 : decode cX11_arrowFrom 38 = .ok (.iload_n 3, 1) := by decide +kernel
theorem dX11_arrowFrom_39 : decode cX11_arrowFrom 39 = .ok (.ireturn, 1) := by decide +kernel
theorem dX11_arrowFrom_40 : decode cX11_arrowFrom 40 = .ok (.iinc 3 1, 3) := by decide +kernel
theorem dX11_arrowFrom_43 : decode cX11_arrowFrom 43 = .ok (.goto (-41), 3) := by decide +kernel
theorem dX11_arrowFrom_46 : decode cX11_arrowFrom 46 = .ok (.iconst (-1), 1) := by decide +kernel
theorem dX11_arrowFrom_47 : decode cX11_arrowFrom 47 = .ok (.ireturn, 1) := by decide +kernel
abbrev rX11_arrowFrom : Room := { frames := 0, cells := 0, slots := 0, locals := 0 }
abbrev mX11_arrowFrom : gY := (cX11_arrowFrom, RX11, 4, rX11_arrowFrom)
def fX11_arrowFrom_b40 (x1 : Int32) (x2 : Int32) (x3 : Int32) (M0 : gMem) : Option (Int32 ⊕ (Unit ⊕ Int32)) :=
  some (.inl (x3 + (1 : Int32)))
set_option maxRecDepth 20000 in
theorem tX11_arrowFrom_b40 {X : gX} {V : gEnv} {x1 : Int32} {x2 : Int32} {x3 : Int32} {M0 : gMem}  {o : (Int32 ⊕ (Unit ⊕ Int32))} (h : fX11_arrowFrom_b40 x1 x2 x3 M0 = some o) (Kc : ∀ s9, o = .inl s9 → gG X V mX11_arrowFrom gShM M0 0 0 2 [(0, .ref (gAd V 0)), (1, .int x1), (2, .int x2), (3, .int s9)] []) (Kx : ∀ e9, o = .inr (.inl e9) → gG X V mX11_arrowFrom gShM M0 0 0 46 [] []) (Kr : ∀ r9, o = .inr (.inr r9) → gO X V mX11_arrowFrom gShM (some .int) (some (.int r9)) M0) : gG X V mX11_arrowFrom gShM M0 0 0 40 [(0, .ref (gAd V 0)), (1, .int x1), (2, .int x2), (3, .int x3)] [] := by
  unfold fX11_arrowFrom_b40 at h
  refine g_iinc (j := 3) (v := x3 + (1 : Int32)) (ls' := [(3, .int (x3 + (1 : Int32))), (0, .ref (gAd V 0)), (1, .int x1), (2, .int x2)]) rfl rfl (Nat.le_of_ble_eq_true rfl) rfl dX11_arrowFrom_40 ?_
  refine g_goto (tgt := 2) rfl dX11_arrowFrom_43 ?_
  cases h
  refine g_sub [1, 2, 3, 0] rfl ?_
  exact Kc (x3 + (1 : Int32)) rfl
def fX11_arrowFrom_l2 (x1 : Int32) (x2 : Int32) (M0 : gMem) (x3 : Int32) : Option (Int32 ⊕ (Unit ⊕ Int32)) :=
  (rI M0 1 374 (1 : Int32)).bind fun v1 => if v1 ≤ x3 then (some (.inr (.inl ()))) else (rI M0 1 374 ((38 : Int32) + x3)).bind fun v3 => if v3 = x1 then ((rI M0 1 374 ((98 : Int32) + x3)).bind fun v5 => if v5 = x2 then (some (.inr (.inr x3))) else fX11_arrowFrom_b40 x1 x2 x3 M0) else fX11_arrowFrom_b40 x1 x2 x3 M0
set_option maxRecDepth 20000 in
theorem tX11_arrowFrom_l2 {X : gX} {V : gEnv} {x1 : Int32} {x2 : Int32} {M0 : gMem} {x3 : Int32}  {o : (Int32 ⊕ (Unit ⊕ Int32))} (h : fX11_arrowFrom_l2 x1 x2 M0 x3 = some o) (Kc : ∀ s9, o = .inl s9 → gG X V mX11_arrowFrom gShM M0 0 0 2 [(0, .ref (gAd V 0)), (1, .int x1), (2, .int x2), (3, .int s9)] []) (Kx : ∀ e9, o = .inr (.inl e9) → gG X V mX11_arrowFrom gShM M0 0 0 46 [] []) (Kr : ∀ r9, o = .inr (.inr r9) → gO X V mX11_arrowFrom gShM (some .int) (some (.int r9)) M0) : gG X V mX11_arrowFrom gShM M0 0 0 2 [(0, .ref (gAd V 0)), (1, .int x1), (2, .int x2), (3, .int x3)] [] := by
  unfold fX11_arrowFrom_l2 at h
  refine g_iload_n 3 rfl rfl dX11_arrowFrom_2 ?_
  refine g_aload_n 0 rfl rfl dX11_arrowFrom_3 ?_
  refine g_getR FX11_9 sM_0 rfl dX11_arrowFrom_4 ?_
  refine g_iconst (v := 1) rfl dX11_arrowFrom_7 ?_
  obtain ⟨v1, ev1, h⟩ := g_bnd h
  refine g_iald' ev1 sM_1 dX11_arrowFrom_8 ?_
  rcases g_ite h with ⟨c2, h⟩ | ⟨c2, h⟩
  · refine g_icmp_ge_t c2 (tgt := 46) rfl dX11_arrowFrom_9 ?_
    cases h
    refine g_sub [] rfl ?_
    exact Kx () rfl
  · refine g_icmp_ge_f c2 (tgt := 46) rfl dX11_arrowFrom_9 ?_
    refine g_aload_n 0 rfl rfl dX11_arrowFrom_12 ?_
    refine g_getR FX11_9 sM_0 rfl dX11_arrowFrom_13 ?_
    refine g_bipush (v := 38) rfl dX11_arrowFrom_16 ?_
    refine g_iload_n 3 rfl rfl dX11_arrowFrom_18 ?_
    refine g_iadd dX11_arrowFrom_19 ?_
    obtain ⟨v3, ev3, h⟩ := g_bnd h
    refine g_iald' ev3 sM_1 dX11_arrowFrom_20 ?_
    refine g_iload_n 1 rfl rfl dX11_arrowFrom_21 ?_
    rcases g_ite h with ⟨c4, h⟩ | ⟨c4, h⟩
    · refine g_icmp_ne_f c4 (tgt := 40) rfl dX11_arrowFrom_22 ?_
      refine g_aload_n 0 rfl rfl dX11_arrowFrom_25 ?_
      refine g_getR FX11_9 sM_0 rfl dX11_arrowFrom_26 ?_
      refine g_bipush (v := 98) rfl dX11_arrowFrom_29 ?_
      refine g_iload_n 3 rfl rfl dX11_arrowFrom_31 ?_
      refine g_iadd dX11_arrowFrom_32 ?_
      obtain ⟨v5, ev5, h⟩ := g_bnd h
      refine g_iald' ev5 sM_1 dX11_arrowFrom_33 ?_
      refine g_iload_n 2 rfl rfl dX11_arrowFrom_34 ?_
      rcases g_ite h with ⟨c6, h⟩ | ⟨c6, h⟩
      · refine g_icmp_ne_f c6 (tgt := 40) rfl dX11_arrowFrom_35 ?_
        refine g_iload_n 3 rfl rfl dX11_arrowFrom_38 ?_
        cases h
        exact g_iret (Kr x3 rfl) ⟨Nat.le_of_ble_eq_true rfl, Nat.le_of_ble_eq_true rfl⟩ rfl dX11_arrowFrom_39
      · refine g_icmp_ne_t c6 (tgt := 40) rfl dX11_arrowFrom_35 ?_
        exact tX11_arrowFrom_b40  h Kc Kx Kr
    · refine g_icmp_ne_t c4 (tgt := 40) rfl dX11_arrowFrom_22 ?_
      exact tX11_arrowFrom_b40  h Kc Kx Kr
def fX11_arrowFrom (x1 : Int32) (x2 : Int32) (M0 : gMem) : Option Int32 :=
  (gLoop (fun z9 => fX11_arrowFrom_l2 x1 x2 M0 z9) gFu (0 : Int32)).bind fun w7 => gSE w7 (fun y8 => some (-1 : Int32)) (fun r9 => some r9)
set_option maxRecDepth 20000 in
theorem tX11_arrowFrom {X : gX} {V : gEnv} {x1 : Int32} {x2 : Int32} {M0 : gMem}  {o : Int32} (h : fX11_arrowFrom x1 x2 M0 = some o) (O : gO X V mX11_arrowFrom gShM (some .int) (some (.int o)) M0) : gG X V mX11_arrowFrom gShM M0 0 0 0 [(0, .ref (gAd V 0)), (1, .int x1), (2, .int x2)] [] := by
  unfold fX11_arrowFrom at h
  refine g_iconst (v := 0) rfl dX11_arrowFrom_0 ?_
  refine g_istore_n (ls' := [(3, .int (0 : Int32)), (0, .ref (gAd V 0)), (1, .int x1), (2, .int x2)]) rfl (Nat.le_of_ble_eq_true rfl) rfl dX11_arrowFrom_1 ?_
  obtain ⟨w7, ew7, h⟩ := g_bnd h
  refine g_sub [1, 2, 3, 0] rfl ?_
  rcases w7 with y8 | r9
  · have h := g_sl h
    have KX : gG X V mX11_arrowFrom gShM M0 0 0 46 [] [] := by
      refine g_iconst (v := -1) rfl dX11_arrowFrom_46 ?_
      cases h
      exact g_iret O ⟨Nat.le_of_ble_eq_true rfl, Nat.le_of_ble_eq_true rfl⟩ rfl dX11_arrowFrom_47
    exact gLoop_Q ew7 (fun z9 => gG X V mX11_arrowFrom gShM M0 0 0 2 [(0, .ref (gAd V 0)), (1, .int x1), (2, .int x2), (3, .int z9)] []) (fun s9 o9 hb9 hc9 hx9 => tX11_arrowFrom_l2  hb9 hc9 (fun e9 he9 => by cases hx9 _ he9; exact KX) (fun r9 he9 => by cases hx9 _ he9))
  · have h := g_sr h
    cases h
    exact gLoop_Q ew7 (fun z9 => gG X V mX11_arrowFrom gShM M0 0 0 2 [(0, .ref (gAd V 0)), (1, .int x1), (2, .int x2), (3, .int z9)] []) (fun s9 o9 hb9 hc9 hx9 => tX11_arrowFrom_l2  hb9 hc9 (fun e9 he9 => by cases hx9 _ he9) (fun r9 he9 => by cases hx9 _ he9; exact O))
theorem kX11_arrowFrom {l : Launch} {V : gEnv} {M0 : gMem} {x1 : Int32} {x2 : Int32}  {o : Int32} (h : fX11_arrowFrom x1 x2 M0 = some o) : gM l yX11_arrowFrom cX11_arrowFrom 4 (some .int) rX11_arrowFrom V gShM [.ref (gAd V 0), .int x1, .int x2] M0 (some (.int o)) M0 :=
  gM.of (by decide) (Nat.le_of_ble_eq_true rfl) rfl (fun X _ O => tX11_arrowFrom  h O)
theorem dX11_leads_0 : decode cX11_leads 0 = .ok (.iconst 0, 1) := by decide +kernel
theorem dX11_leads_1 : decode cX11_leads 1 = .ok (.istore_n 3, 1) := by decide +kernel
theorem dX11_leads_2 : decode cX11_leads 2 = .ok (.iload_n 3, 1) := by decide +kernel
theorem dX11_leads_3 : decode cX11_leads 3 = .ok (.aload_n 0, 1) := by decide +kernel
theorem dX11_leads_4 : decode cX11_leads 4 = .ok (.getfield 9, 3) := by decide +kernel
theorem dX11_leads_7 : decode cX11_leads 7 = .ok (.iconst 1, 1) := by decide +kernel
theorem dX11_leads_8 : decode cX11_leads 8 = .ok (.iaload, 1) := by decide +kernel
theorem dX11_leads_9 : decode cX11_leads 9 = .ok (.if_icmp .ge 43, 3) := by decide +kernel
theorem dX11_leads_12 : decode cX11_leads 12 = .ok (.iload_n 1, 1) := by decide +kernel
theorem dX11_leads_13 : decode cX11_leads 13 = .ok (.aload_n 0, 1) := by decide +kernel
theorem dX11_leads_14 : decode cX11_leads 14 = .ok (.getfield 9, 3) := by decide +kernel
theorem dX11_leads_17 : decode cX11_leads 17 = .ok (.bipush 38, 2) := by decide +kernel
theorem dX11_leads_19 : decode cX11_leads 19 = .ok (.iload_n 3, 1) := by decide +kernel
theorem dX11_leads_20 : decode cX11_leads 20 = .ok (.iadd, 1) := by decide +kernel
theorem dX11_leads_21 : decode cX11_leads 21 = .ok (.iaload, 1) := by decide +kernel
theorem dX11_leads_22 : decode cX11_leads 22 = .ok (.invokestatic 93, 3) := by decide +kernel
theorem dX11_leads_25 : decode cX11_leads 25 = .ok (.ifCond .eq 21, 3) := by decide +kernel
theorem dX11_leads_28 : decode cX11_leads 28 = .ok (.iload_n 2, 1) := by decide +kernel
theorem dX11_leads_29 : decode cX11_leads 29 = .ok (.aload_n 0, 1) := by decide +kernel
theorem dX11_leads_30 : decode cX11_leads 30 = .ok (.getfield 9, 3) := by decide +kernel
theorem dX11_leads_33 : decode cX11_leads 33 = .ok (.bipush 98, 2) := by decide +kernel
theorem dX11_leads_35 : decode cX11_leads 35 = .ok (.iload_n 3, 1) := by decide +kernel
theorem dX11_leads_36 : decode cX11_leads 36 = .ok (.iadd, 1) := by decide +kernel
theorem dX11_leads_37 : decode cX11_leads 37 = .ok (.iaload, 1) := by decide +kernel
theorem dX11_leads_38 : decode cX11_leads 38 = .ok (.invokestatic 93, 3) := by decide +kernel
theorem dX11_leads_41 : decode cX11_leads 41 = .ok (.ifCond .eq 5, 3) := by decide +kernel
theorem dX11_leads_44 : decode cX11_leads 44 = .ok (.iconst 1, 1) := by decide +kernel
theorem dX11_leads_45 : decode cX11_leads 45 = .ok (.ireturn, 1) := by decide +kernel
theorem dX11_leads_46 : decode cX11_leads 46 = .ok (.iinc 3 1, 3) := by decide +kernel
theorem dX11_leads_49 : decode cX11_leads 49 = .ok (.goto (-47), 3) := by decide +kernel
theorem dX11_leads_52 : decode cX11_leads 52 = .ok (.iconst 0, 1) := by decide +kernel
theorem dX11_leads_53 : decode cX11_leads 53 = .ok (.ireturn, 1) := by decide +kernel
abbrev rX11_leads : Room := { frames := 1, cells := 0, slots := 0, locals := 21 }
abbrev mX11_leads : gY := (cX11_leads, RX11, 4, rX11_leads)
def fX11_leads_b46 (x1 : Int32) (x2 : Int32) (x3 : Int32) (M0 : gMem) : Option (Int32 ⊕ (Unit ⊕ Int32)) :=
  some (.inl (x3 + (1 : Int32)))
set_option maxRecDepth 20000 in
theorem tX11_leads_b46 {X : gX} {V : gEnv} {x1 : Int32} {x2 : Int32} {x3 : Int32} {M0 : gMem}  {o : (Int32 ⊕ (Unit ⊕ Int32))} (h : fX11_leads_b46 x1 x2 x3 M0 = some o) (Kc : ∀ s9, o = .inl s9 → gG X V mX11_leads gShM M0 0 0 2 [(0, .ref (gAd V 0)), (1, .int x1), (2, .int x2), (3, .int s9)] []) (Kx : ∀ e9, o = .inr (.inl e9) → gG X V mX11_leads gShM M0 0 0 52 [] []) (Kr : ∀ r9, o = .inr (.inr r9) → gO X V mX11_leads gShM (some .boolean) (some (.int r9)) M0) : gG X V mX11_leads gShM M0 0 0 46 [(0, .ref (gAd V 0)), (1, .int x1), (2, .int x2), (3, .int x3)] [] := by
  unfold fX11_leads_b46 at h
  refine g_iinc (j := 3) (v := x3 + (1 : Int32)) (ls' := [(3, .int (x3 + (1 : Int32))), (0, .ref (gAd V 0)), (1, .int x1), (2, .int x2)]) rfl rfl (Nat.le_of_ble_eq_true rfl) rfl dX11_leads_46 ?_
  refine g_goto (tgt := 2) rfl dX11_leads_49 ?_
  cases h
  refine g_sub [1, 2, 3, 0] rfl ?_
  exact Kc (x3 + (1 : Int32)) rfl
def fX11_leads_l2 (x1 : Int32) (x2 : Int32) (M0 : gMem) (x3 : Int32) : Option (Int32 ⊕ (Unit ⊕ Int32)) :=
  (rI M0 1 374 (1 : Int32)).bind fun v1 => if v1 ≤ x3 then (some (.inr (.inl ()))) else (rI M0 1 374 ((38 : Int32) + x3)).bind fun v3 => (fX11_has x1 v3).bind fun v4 => if v4 = 0 then (fX11_leads_b46 x1 x2 x3 M0) else (rI M0 1 374 ((98 : Int32) + x3)).bind fun v6 => (fX11_has x2 v6).bind fun v7 => if v7 = 0 then (fX11_leads_b46 x1 x2 x3 M0) else some (.inr (.inr (1 : Int32)))
set_option maxRecDepth 20000 in
theorem tX11_leads_l2 {X : gX} {V : gEnv} {x1 : Int32} {x2 : Int32} {M0 : gMem} {x3 : Int32}  {o : (Int32 ⊕ (Unit ⊕ Int32))} (h : fX11_leads_l2 x1 x2 M0 x3 = some o) (Kc : ∀ s9, o = .inl s9 → gG X V mX11_leads gShM M0 0 0 2 [(0, .ref (gAd V 0)), (1, .int x1), (2, .int x2), (3, .int s9)] []) (Kx : ∀ e9, o = .inr (.inl e9) → gG X V mX11_leads gShM M0 0 0 52 [] []) (Kr : ∀ r9, o = .inr (.inr r9) → gO X V mX11_leads gShM (some .boolean) (some (.int r9)) M0) : gG X V mX11_leads gShM M0 0 0 2 [(0, .ref (gAd V 0)), (1, .int x1), (2, .int x2), (3, .int x3)] [] := by
  unfold fX11_leads_l2 at h
  refine g_iload_n 3 rfl rfl dX11_leads_2 ?_
  refine g_aload_n 0 rfl rfl dX11_leads_3 ?_
  refine g_getR FX11_9 sM_0 rfl dX11_leads_4 ?_
  refine g_iconst (v := 1) rfl dX11_leads_7 ?_
  obtain ⟨v1, ev1, h⟩ := g_bnd h
  refine g_iald' ev1 sM_1 dX11_leads_8 ?_
  rcases g_ite h with ⟨c2, h⟩ | ⟨c2, h⟩
  · refine g_icmp_ge_t c2 (tgt := 52) rfl dX11_leads_9 ?_
    cases h
    refine g_sub [] rfl ?_
    exact Kx () rfl
  · refine g_icmp_ge_f c2 (tgt := 52) rfl dX11_leads_9 ?_
    refine g_iload_n 1 rfl rfl dX11_leads_12 ?_
    refine g_aload_n 0 rfl rfl dX11_leads_13 ?_
    refine g_getR FX11_9 sM_0 rfl dX11_leads_14 ?_
    refine g_bipush (v := 38) rfl dX11_leads_17 ?_
    refine g_iload_n 3 rfl rfl dX11_leads_19 ?_
    refine g_iadd dX11_leads_20 ?_
    obtain ⟨v3, ev3, h⟩ := g_bnd h
    refine g_iald' ev3 sM_1 dX11_leads_21 ?_
    obtain ⟨v4, ev4, h⟩ := g_bnd h
    refine g_callS LX11_93 (kX11_has ev4) rfl rfl (Nat.le_of_ble_eq_true rfl) ⟨Nat.le_of_ble_eq_true rfl, Nat.le_of_ble_eq_true rfl⟩ ⟨Nat.le_of_ble_eq_true rfl, Nat.le_of_ble_eq_true rfl⟩ dX11_leads_22 rfl ?_
    rcases g_ite h with ⟨c5, h⟩ | ⟨c5, h⟩
    · refine g_if_eq_t c5 (tgt := 46) rfl dX11_leads_25 ?_
      exact tX11_leads_b46  h Kc Kx Kr
    · refine g_if_eq_f c5 (tgt := 46) rfl dX11_leads_25 ?_
      refine g_iload_n 2 rfl rfl dX11_leads_28 ?_
      refine g_aload_n 0 rfl rfl dX11_leads_29 ?_
      refine g_getR FX11_9 sM_0 rfl dX11_leads_30 ?_
      refine g_bipush (v := 98) rfl dX11_leads_33 ?_
      refine g_iload_n 3 rfl rfl dX11_leads_35 ?_
      refine g_iadd dX11_leads_36 ?_
      obtain ⟨v6, ev6, h⟩ := g_bnd h
      refine g_iald' ev6 sM_1 dX11_leads_37 ?_
      obtain ⟨v7, ev7, h⟩ := g_bnd h
      refine g_callS LX11_93 (kX11_has ev7) rfl rfl (Nat.le_of_ble_eq_true rfl) ⟨Nat.le_of_ble_eq_true rfl, Nat.le_of_ble_eq_true rfl⟩ ⟨Nat.le_of_ble_eq_true rfl, Nat.le_of_ble_eq_true rfl⟩ dX11_leads_38 rfl ?_
      rcases g_ite h with ⟨c8, h⟩ | ⟨c8, h⟩
      · refine g_if_eq_t c8 (tgt := 46) rfl dX11_leads_41 ?_
        exact tX11_leads_b46  h Kc Kx Kr
      · refine g_if_eq_f c8 (tgt := 46) rfl dX11_leads_41 ?_
        refine g_iconst (v := 1) rfl dX11_leads_44 ?_
        cases h
        exact g_iret (Kr (1 : Int32) rfl) ⟨Nat.le_of_ble_eq_true rfl, Nat.le_of_ble_eq_true rfl⟩ rfl dX11_leads_45
def fX11_leads (x1 : Int32) (x2 : Int32) (M0 : gMem) : Option Int32 :=
  (gLoop (fun z9 => fX11_leads_l2 x1 x2 M0 z9) gFu (0 : Int32)).bind fun w9 => gSE w9 (fun y10 => some (0 : Int32)) (fun r11 => some r11)
set_option maxRecDepth 20000 in
theorem tX11_leads {X : gX} {V : gEnv} {x1 : Int32} {x2 : Int32} {M0 : gMem}  {o : Int32} (h : fX11_leads x1 x2 M0 = some o) (O : gO X V mX11_leads gShM (some .boolean) (some (.int o)) M0) : gG X V mX11_leads gShM M0 0 0 0 [(0, .ref (gAd V 0)), (1, .int x1), (2, .int x2)] [] := by
  unfold fX11_leads at h
  refine g_iconst (v := 0) rfl dX11_leads_0 ?_
  refine g_istore_n (ls' := [(3, .int (0 : Int32)), (0, .ref (gAd V 0)), (1, .int x1), (2, .int x2)]) rfl (Nat.le_of_ble_eq_true rfl) rfl dX11_leads_1 ?_
  obtain ⟨w9, ew9, h⟩ := g_bnd h
  refine g_sub [1, 2, 3, 0] rfl ?_
  rcases w9 with y10 | r11
  · have h := g_sl h
    have KX : gG X V mX11_leads gShM M0 0 0 52 [] [] := by
      refine g_iconst (v := 0) rfl dX11_leads_52 ?_
      cases h
      exact g_iret O ⟨Nat.le_of_ble_eq_true rfl, Nat.le_of_ble_eq_true rfl⟩ rfl dX11_leads_53
    exact gLoop_Q ew9 (fun z9 => gG X V mX11_leads gShM M0 0 0 2 [(0, .ref (gAd V 0)), (1, .int x1), (2, .int x2), (3, .int z9)] []) (fun s9 o9 hb9 hc9 hx9 => tX11_leads_l2  hb9 hc9 (fun e9 he9 => by cases hx9 _ he9; exact KX) (fun r9 he9 => by cases hx9 _ he9))
  · have h := g_sr h
    cases h
    exact gLoop_Q ew9 (fun z9 => gG X V mX11_leads gShM M0 0 0 2 [(0, .ref (gAd V 0)), (1, .int x1), (2, .int x2), (3, .int z9)] []) (fun s9 o9 hb9 hc9 hx9 => tX11_leads_l2  hb9 hc9 (fun e9 he9 => by cases hx9 _ he9) (fun r9 he9 => by cases hx9 _ he9; exact O))
theorem kX11_leads {l : Launch} {V : gEnv} {M0 : gMem} {x1 : Int32} {x2 : Int32}  {o : Int32} (h : fX11_leads x1 x2 M0 = some o) : gM l yX11_leads cX11_leads 4 (some .boolean) rX11_leads V gShM [.ref (gAd V 0), .int x1, .int x2] M0 (some (.int o)) M0 :=
  gM.of (by decide) (Nat.le_of_ble_eq_true rfl) rfl (fun X _ O => tX11_leads  h O)
