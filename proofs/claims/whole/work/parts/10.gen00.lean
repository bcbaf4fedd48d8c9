/-! METHODS, by program: pure functions and contracts -/
theorem dX11_thrown_0 : decode cX11_thrown 0 = .ok (.aload_n 0, 1) := by decide +kernel
theorem dX11_thrown_1 : decode cX11_thrown 1 = .ok (.getfield 72, 3) := by decide +kernel
theorem dX11_thrown_4 : decode cX11_thrown 4 = .ok (.ireturn, 1) := by decide +kernel
abbrev rX11_thrown : Room := { frames := 0, cells := 0, slots := 0, locals := 0 }
abbrev mX11_thrown : gY := (cX11_thrown, RX11, 1, rX11_thrown)
def fX11_thrown (M0 : gMem) : Option Int32 :=
  some (M0.1 0 0)
set_option maxRecDepth 20000 in
theorem tX11_thrown {X : gX} {V : gEnv} {M0 : gMem}  {o : Int32} (h : fX11_thrown M0 = some o) (O : gO X V mX11_thrown gShM (some .int) (some (.int o)) M0) : gG X V mX11_thrown gShM M0 0 0 0 [(0, .ref (gAd V 0))] [] := by
  unfold fX11_thrown at h
  refine g_aload_n 0 rfl rfl dX11_thrown_0 ?_
  refine g_getI FX11_72 sM_0 rfl dX11_thrown_1 ?_
  cases h
  exact g_iret O ⟨Nat.le_of_ble_eq_true rfl, Nat.le_of_ble_eq_true rfl⟩ rfl dX11_thrown_4
theorem kX11_thrown {l : Launch} {V : gEnv} {M0 : gMem}   {o : Int32} (h : fX11_thrown M0 = some o) : gM l yX11_thrown cX11_thrown 1 (some .int) rX11_thrown V gShM [.ref (gAd V 0)] M0 (some (.int o)) M0 :=
  gM.of (by decide) (Nat.le_of_ble_eq_true rfl) rfl (fun X _ O => tX11_thrown  h O)
theorem dX11_in_0 : decode cX11_in 0 = .ok (.iload_n 0, 1) := by decide +kernel
theorem dX11_in_1 : decode cX11_in 1 = .ok (.iload_n 1, 1) := by decide +kernel
theorem dX11_in_2 : decode cX11_in 2 = .ok (.if_icmp .lt 12, 3) := by decide +kernel
theorem dX11_in_5 : decode cX11_in 5 = .ok (.iload_n 0, 1) := by decide +kernel
theorem dX11_in_6 : decode cX11_in 6 = .ok (.iload_n 2, 1) := by decide +kernel
theorem dX11_in_7 : decode cX11_in 7 = .ok (.if_icmp .gt 7, 3) := by decide +kernel
theorem dX11_in_10 : decode cX11_in 10 = .ok (.iconst 1, 1) := by decide +kernel
theorem dX11_in_11 : decode cX11_in 11 = .ok (.goto 4, 3) := by decide +kernel
theorem dX11_in_14 : decode cX11_in 14 = .ok (.iconst 0, 1) := by decide +kernel
theorem dX11_in_15 : decode cX11_in 15 = .ok (.ireturn, 1) := by decide +kernel
abbrev rX11_in : Room := { frames := 0, cells := 0, slots := 0, locals := 0 }
abbrev mX11_in : gY := (cX11_in, RX11, 3, rX11_in)
def fX11_in (x0 : Int32) (x1 : Int32) (x2 : Int32) : Option Int32 :=
  if x0 < x1 then (some (0 : Int32)) else if x2 < x0 then (some (0 : Int32)) else some (1 : Int32)
set_option maxRecDepth 20000 in
theorem tX11_in {X : gX} {V : gEnv} {M0 : gMem} {x0 : Int32} {x1 : Int32} {x2 : Int32}  {o : Int32} (h : fX11_in x0 x1 x2 = some o) (O : gO X V mX11_in gShM (some .boolean) (some (.int o)) M0) : gG X V mX11_in gShM M0 0 0 0 [(0, .int x0), (1, .int x1), (2, .int x2)] [] := by
  unfold fX11_in at h
  refine g_iload_n 0 rfl rfl dX11_in_0 ?_
  refine g_iload_n 1 rfl rfl dX11_in_1 ?_
  rcases g_ite h with ⟨c1, h⟩ | ⟨c1, h⟩
  · refine g_icmp_lt_t c1 (tgt := 14) rfl dX11_in_2 ?_
    refine g_iconst (v := 0) rfl dX11_in_14 ?_
    cases h
    exact g_iret O ⟨Nat.le_of_ble_eq_true rfl, Nat.le_of_ble_eq_true rfl⟩ rfl dX11_in_15
  · refine g_icmp_lt_f c1 (tgt := 14) rfl dX11_in_2 ?_
    refine g_iload_n 0 rfl rfl dX11_in_5 ?_
    refine g_iload_n 2 rfl rfl dX11_in_6 ?_
    rcases g_ite h with ⟨c2, h⟩ | ⟨c2, h⟩
    · refine g_icmp_gt_t c2 (tgt := 14) rfl dX11_in_7 ?_
      refine g_iconst (v := 0) rfl dX11_in_14 ?_
      cases h
      exact g_iret O ⟨Nat.le_of_ble_eq_true rfl, Nat.le_of_ble_eq_true rfl⟩ rfl dX11_in_15
    · refine g_icmp_gt_f c2 (tgt := 14) rfl dX11_in_7 ?_
      refine g_iconst (v := 1) rfl dX11_in_10 ?_
      refine g_goto (tgt := 15) rfl dX11_in_11 ?_
      cases h
      exact g_iret O ⟨Nat.le_of_ble_eq_true rfl, Nat.le_of_ble_eq_true rfl⟩ rfl dX11_in_15
theorem kX11_in {l : Launch} {V : gEnv} {M0 : gMem} {x0 : Int32} {x1 : Int32} {x2 : Int32}  {o : Int32} (h : fX11_in x0 x1 x2 = some o) : gM l yX11_in cX11_in 3 (some .boolean) rX11_in V gShM [.int x0, .int x1, .int x2] M0 (some (.int o)) M0 :=
  gM.of (by decide) (Nat.le_of_ble_eq_true rfl) rfl (fun X _ O => tX11_in  h O)
theorem dX11_wrong_0 : decode cX11_wrong 0 = .ok (.aload_n 0, 1) := by decide +kernel
theorem dX11_wrong_1 : decode cX11_wrong 1 = .ok (.iload_n 1, 1) := by decide +kernel
theorem dX11_wrong_2 : decode cX11_wrong 2 = .ok (.ifCond .eq 7, 3) := by decide +kernel
theorem dX11_wrong_5 : decode cX11_wrong 5 = .ok (.iconst 1, 1) := by decide +kernel
theorem dX11_wrong_6 : decode cX11_wrong 6 = .ok (.goto 4, 3) := by decide +kernel
theorem dX11_wrong_9 : decode cX11_wrong 9 = .ok (.iconst 0, 1) := by decide +kernel
theorem dX11_wrong_10 : decode cX11_wrong 10 = .ok (.putfield 72, 3) := by decide +kernel
theorem dX11_wrong_13 : decode cX11_wrong 13 = .ok (.iload_n 1, 1) := by decide +kernel
theorem dX11_wrong_14 : decode cX11_wrong 14 = .ok (.ireturn, 1) := by decide +kernel
abbrev rX11_wrong : Room := { frames := 0, cells := 0, slots := 0, locals := 0 }
abbrev mX11_wrong : gY := (cX11_wrong, RX11, 2, rX11_wrong)
def fX11_wrong (x1 : Int32) (M0 : gMem) : Option (Int32 × gMem) :=
  (wF M0 0 0 (if x1 = 0 then (0 : Int32) else (1 : Int32))).bind fun M2 => (zv x1).bind fun v3 => some (v3, M2)
set_option maxRecDepth 20000 in
theorem tX11_wrong {X : gX} {V : gEnv} {x1 : Int32} {M0 : gMem}  {o : (Int32 × gMem)} (h : fX11_wrong x1 M0 = some o) (O : gO X V mX11_wrong gShM (some .boolean) (some (.int o.1)) o.2) : gG X V mX11_wrong gShM M0 0 0 0 [(0, .ref (gAd V 0)), (1, .int x1)] [] := by
  unfold fX11_wrong at h
  refine g_aload_n 0 rfl rfl dX11_wrong_0 ?_
  refine g_iload_n 1 rfl rfl dX11_wrong_1 ?_
  have KJ : gG X V mX11_wrong gShM M0 0 0 10 [(0, .ref (gAd V 0)), (1, .int x1)] [.int (if x1 = 0 then (0 : Int32) else (1 : Int32)), .ref (gAd V 0)] := by
    obtain ⟨M2, eM2, h⟩ := g_bnd h
    refine g_putI' eM2 FX11_72 jX11 sM_0 rfl rfl rfl dX11_wrong_10 ?_
    refine g_iload_n 1 rfl rfl dX11_wrong_13 ?_
    obtain ⟨v3, ev3, h⟩ := g_bnd h
    refine g_zv ev3 ?_
    cases h
    exact g_iret O ⟨Nat.le_of_ble_eq_true rfl, Nat.le_of_ble_eq_true rfl⟩ (g_nz (zv_ok ev3)) dX11_wrong_14
  by_cases c1 : x1 = 0
  · rw [if_pos c1] at KJ
    refine g_if_eq_t c1 (tgt := 9) rfl dX11_wrong_2 ?_
    refine g_iconst (v := 0) rfl dX11_wrong_9 ?_
    exact KJ
  · rw [if_neg c1] at KJ
    refine g_if_eq_f c1 (tgt := 9) rfl dX11_wrong_2 ?_
    refine g_iconst (v := 1) rfl dX11_wrong_5 ?_
    refine g_goto (tgt := 10) rfl dX11_wrong_6 ?_
    exact KJ
theorem kX11_wrong {l : Launch} {V : gEnv} {M0 : gMem} {x1 : Int32}  {o : (Int32 × gMem)} (h : fX11_wrong x1 M0 = some o) : gM l yX11_wrong cX11_wrong 2 (some .boolean) rX11_wrong V gShM [.ref (gAd V 0), .int x1] M0 (some (.int o.1)) o.2 :=
  gM.of (by decide) (Nat.le_of_ble_eq_true rfl) rfl (fun X _ O => tX11_wrong  h O)
theorem dX11_throwsIf_0 : decode cX11_throwsIf 0 = .ok (.iload_n 1, 1) := by decide +kernel
theorem dX11_throwsIf_1 : decode cX11_throwsIf 1 = .ok (.ifCond .eq 8, 3) := by decide +kernel
theorem dX11_throwsIf_4 : decode cX11_throwsIf 4 = .ok (.aload_n 0, 1) := by decide +kernel
theorem dX11_throwsIf_5 : decode cX11_throwsIf 5 = .ok (.iload_n 2, 1) := by decide +kernel
theorem dX11_throwsIf_6 : decode cX11_throwsIf 6 = .ok (.putfield 72, 3) := by decide +kernel
theorem dX11_throwsIf_9 : decode cX11_throwsIf 9 = .ok (.iload_n 1, 1) := by decide +kernel
theorem dX11_throwsIf_10 : decode cX11_throwsIf 10 = .ok (.ireturn, 1) := by decide +kernel
abbrev rX11_throwsIf : Room := { frames := 0, cells := 0, slots := 0, locals := 0 }
abbrev mX11_throwsIf : gY := (cX11_throwsIf, RX11, 3, rX11_throwsIf)
def fX11_throwsIf (x1 : Int32) (x2 : Int32) (M0 : gMem) : Option (Int32 × gMem) :=
  if x1 = 0 then ((zv x1).bind fun v2 => some (v2, M0)) else (wF M0 0 0 x2).bind fun M3 => (zv x1).bind fun v4 => some (v4, M3)
set_option maxRecDepth 20000 in
theorem tX11_throwsIf {X : gX} {V : gEnv} {x1 : Int32} {x2 : Int32} {M0 : gMem}  {o : (Int32 × gMem)} (h : fX11_throwsIf x1 x2 M0 = some o) (O : gO X V mX11_throwsIf gShM (some .boolean) (some (.int o.1)) o.2) : gG X V mX11_throwsIf gShM M0 0 0 0 [(0, .ref (gAd V 0)), (1, .int x1), (2, .int x2)] [] := by
  unfold fX11_throwsIf at h
  refine g_iload_n 1 rfl rfl dX11_throwsIf_0 ?_
  rcases g_ite h with ⟨c1, h⟩ | ⟨c1, h⟩
  · refine g_if_eq_t c1 (tgt := 9) rfl dX11_throwsIf_1 ?_
    refine g_iload_n 1 rfl rfl dX11_throwsIf_9 ?_
    obtain ⟨v2, ev2, h⟩ := g_bnd h
    refine g_zv ev2 ?_
    cases h
    exact g_iret O ⟨Nat.le_of_ble_eq_true rfl, Nat.le_of_ble_eq_true rfl⟩ (g_nz (zv_ok ev2)) dX11_throwsIf_10
  · refine g_if_eq_f c1 (tgt := 9) rfl dX11_throwsIf_1 ?_
    refine g_aload_n 0 rfl rfl dX11_throwsIf_4 ?_
    refine g_iload_n 2 rfl rfl dX11_throwsIf_5 ?_
    obtain ⟨M3, eM3, h⟩ := g_bnd h
    refine g_putI' eM3 FX11_72 jX11 sM_0 rfl rfl rfl dX11_throwsIf_6 ?_
    refine g_iload_n 1 rfl rfl dX11_throwsIf_9 ?_
    obtain ⟨v4, ev4, h⟩ := g_bnd h
    refine g_zv ev4 ?_
    cases h
    exact g_iret O ⟨Nat.le_of_ble_eq_true rfl, Nat.le_of_ble_eq_true rfl⟩ (g_nz (zv_ok ev4)) dX11_throwsIf_10
theorem kX11_throwsIf {l : Launch} {V : gEnv} {M0 : gMem} {x1 : Int32} {x2 : Int32}  {o : (Int32 × gMem)} (h : fX11_throwsIf x1 x2 M0 = some o) : gM l yX11_throwsIf cX11_throwsIf 3 (some .boolean) rX11_throwsIf V gShM [.ref (gAd V 0), .int x1, .int x2] M0 (some (.int o.1)) o.2 :=
  gM.of (by decide) (Nat.le_of_ble_eq_true rfl) rfl (fun X _ O => tX11_throwsIf  h O)
theorem dX11_has_0 : decode cX11_has 0 = .ok (.iload_n 0, 1) := by decide +kernel
theorem dX11_has_1 : decode cX11_has 1 = .ok (.iload_n 1, 1) := by decide +kernel
theorem dX11_has_2 : decode cX11_has 2 = .ok (.ishr, 1) := by decide +kernel
theorem dX11_has_3 : decode cX11_has 3 = .ok (.iconst 1, 1) := by decide +kernel
theorem dX11_has_4 : decode cX11_has 4 = .ok (.iand, 1) := by decide +kernel
theorem dX11_has_5 : decode cX11_has 5 = .ok (.iconst 1, 1) := by decide +kernel
theorem dX11_has_6 : decode cX11_has 6 = .ok (.if_icmp .ne 7, 3) := by decide +kernel
theorem dX11_has_9 : decode cX11_has 9 = .ok (.iconst 1, 1) := by decide +kernel
theorem dX11_has_10 : decode cX11_has 10 = .ok (.goto 4, 3) := by decide +kernel
theorem dX11_has_13 : decode cX11_has 13 = .ok (.iconst 0, 1) := by decide +kernel
theorem dX11_has_14 : decode cX11_has 14 = .ok (.ireturn, 1) := by decide +kernel
abbrev rX11_has : Room := { frames := 0, cells := 0, slots := 0, locals := 0 }
abbrev mX11_has : gY := (cX11_has, RX11, 2, rX11_has)
def fX11_has (x0 : Int32) (x1 : Int32) : Option Int32 :=
  some (if ((x0 >>> (x1 &&& 31)) &&& (1 : Int32)) = (1 : Int32) then (1 : Int32) else (0 : Int32))
set_option maxRecDepth 20000 in
theorem tX11_has {X : gX} {V : gEnv} {M0 : gMem} {x0 : Int32} {x1 : Int32}  {o : Int32} (h : fX11_has x0 x1 = some o) (O : gO X V mX11_has gShM (some .boolean) (some (.int o)) M0) : gG X V mX11_has gShM M0 0 0 0 [(0, .int x0), (1, .int x1)] [] := by
  unfold fX11_has at h
  refine g_iload_n 0 rfl rfl dX11_has_0 ?_
  refine g_iload_n 1 rfl rfl dX11_has_1 ?_
  refine g_ishr dX11_has_2 ?_
  refine g_iconst (v := 1) rfl dX11_has_3 ?_
  refine g_iand dX11_has_4 ?_
  refine g_iconst (v := 1) rfl dX11_has_5 ?_
  have KJ : gG X V mX11_has gShM M0 0 0 14 [(0, .int x0), (1, .int x1)] [.int (if ((x0 >>> (x1 &&& 31)) &&& (1 : Int32)) = (1 : Int32) then (1 : Int32) else (0 : Int32))] := by
    cases h
    exact g_iret O ⟨Nat.le_of_ble_eq_true rfl, Nat.le_of_ble_eq_true rfl⟩ (by split <;> rfl) dX11_has_14
  by_cases c1 : ((x0 >>> (x1 &&& 31)) &&& (1 : Int32)) = (1 : Int32)
  · rw [if_pos c1] at KJ
    refine g_icmp_ne_f c1 (tgt := 13) rfl dX11_has_6 ?_
    refine g_iconst (v := 1) rfl dX11_has_9 ?_
    refine g_goto (tgt := 14) rfl dX11_has_10 ?_
    exact KJ
  · rw [if_neg c1] at KJ
    refine g_icmp_ne_t c1 (tgt := 13) rfl dX11_has_6 ?_
    refine g_iconst (v := 0) rfl dX11_has_13 ?_
    exact KJ
theorem kX11_has {l : Launch} {V : gEnv} {M0 : gMem} {x0 : Int32} {x1 : Int32}  {o : Int32} (h : fX11_has x0 x1 = some o) : gM l yX11_has cX11_has 2 (some .boolean) rX11_has V gShM [.int x0, .int x1] M0 (some (.int o)) M0 :=
  gM.of (by decide) (Nat.le_of_ble_eq_true rfl) rfl (fun X _ O => tX11_has  h O)
theorem dX11_many_0 : decode cX11_many 0 = .ok (.iconst 0, 1) := by decide +kernel
theorem dX11_many_1 : decode cX11_many 1 = .ok (.istore_n 1, 1) := by decide +kernel
theorem dX11_many_2 : decode cX11_many 2 = .ok (.iload_n 0, 1) := by decide +kernel
theorem dX11_many_3 : decode cX11_many 3 = .ok (.istore_n 2, 1) := by decide +kernel
theorem dX11_many_4 : decode cX11_many 4 = .ok (.iload_n 2, 1) := by decide +kernel
theorem dX11_many_5 : decode cX11_many 5 = .ok (.ifCond .eq 15, 3) := by decide +kernel
theorem dX11_many_8 : decode cX11_many 8 = .ok (.iinc 1 1, 3) := by decide +kernel
theorem dX11_many_11 : decode cX11_many 11 = .ok (.iload_n 2, 1) := by decide +kernel
theorem dX11_many_12 : decode cX11_many 12 = .ok (.iload_n 2, 1) := by decide +kernel
theorem dX11_many_13 : decode cX11_many 13 = .ok (.iconst 1, 1) := by decide +kernel
theorem dX11_many_14 : decode cX11_many 14 = .ok (.isub, 1) := by decide +kernel
theorem dX11_many_15 : decode cX11_many 15 = .ok (.iand, 1) := by decide +kernel
theorem dX11_many_16 : decode cX11_many 16 = .ok (.istore_n 2, 1) := by decide +kernel
theorem dX11_many_17 : decode cX11_many 17 = .ok (.goto (-13), 3) := by decide +kernel
theorem dX11_many_20 : decode cX11_many 20 = .ok (.iload_n 1, 1) := by decide +kernel
theorem dX11_many_21 : decode cX11_many 21 = .ok (.ireturn, 1) := by decide +kernel
abbrev rX11_many : Room := { frames := 0, cells := 0, slots := 0, locals := 0 }
abbrev mX11_many : gY := (cX11_many, RX11, 3, rX11_many)
def fX11_many_l4 (x1 : Int32) (x2 : Int32) : Option ((Int32 × Int32) ⊕ Int32) :=
  if x2 = 0 then (some (.inr x1)) else (nm (x2 &&& (x2 - (1 : Int32)))).bind fun v2 => some (.inl (x1 + (1 : Int32), v2))
set_option maxRecDepth 20000 in
theorem tX11_many_l4 {X : gX} {V : gEnv} {M0 : gMem} {x1 : Int32} {x2 : Int32}  {o : ((Int32 × Int32) ⊕ Int32)} (h : fX11_many_l4 x1 x2 = some o) (Kc : ∀ s9, o = .inl s9 → gG X V mX11_many gShM M0 0 0 4 [(1, .int s9.1), (2, .int s9.2)] []) (Kx : ∀ e9, o = .inr e9 → gG X V mX11_many gShM M0 0 0 20 [(1, .int e9)] []) : gG X V mX11_many gShM M0 0 0 4 [(1, .int x1), (2, .int x2)] [] := by
  unfold fX11_many_l4 at h
  refine g_iload_n 1 rfl rfl dX11_many_4 ?_
  rcases g_ite h with ⟨c1, h⟩ | ⟨c1, h⟩
  · refine g_if_eq_t c1 (tgt := 20) rfl dX11_many_5 ?_
    cases h
    refine g_sub [0] rfl ?_
    exact Kx x1 rfl
  · refine g_if_eq_f c1 (tgt := 20) rfl dX11_many_5 ?_
    refine g_iinc (j := 0) (v := x1 + (1 : Int32)) (ls' := [(1, .int (x1 + (1 : Int32))), (2, .int x2)]) rfl rfl (Nat.le_of_ble_eq_true rfl) rfl dX11_many_8 ?_
    refine g_iload_n 1 rfl rfl dX11_many_11 ?_
    refine g_iload_n 1 rfl rfl dX11_many_12 ?_
    refine g_iconst (v := 1) rfl dX11_many_13 ?_
    refine g_isub dX11_many_14 ?_
    refine g_iand dX11_many_15 ?_
    obtain ⟨v2, ev2, h⟩ := g_bnd h
    refine g_nmI ev2 ?_
    refine g_istore_n (ls' := [(2, .int v2), (1, .int (x1 + (1 : Int32)))]) rfl (Nat.le_of_ble_eq_true rfl) rfl dX11_many_16 ?_
    refine g_goto (tgt := 4) rfl dX11_many_17 ?_
    cases h
    refine g_sub [1, 0] rfl ?_
    exact Kc (x1 + (1 : Int32), v2) rfl
def fX11_many (x0 : Int32) : Option Int32 :=
  (gLoop (fun z9 => fX11_many_l4 z9.1 z9.2) gFu ((0 : Int32), x0)).bind fun w3 => some w3
set_option maxRecDepth 20000 in
theorem tX11_many {X : gX} {V : gEnv} {M0 : gMem} {x0 : Int32}  {o : Int32} (h : fX11_many x0 = some o) (O : gO X V mX11_many gShM (some .int) (some (.int o)) M0) : gG X V mX11_many gShM M0 0 0 0 [(0, .int x0)] [] := by
  unfold fX11_many at h
  refine g_iconst (v := 0) rfl dX11_many_0 ?_
  refine g_istore_n (ls' := [(1, .int (0 : Int32)), (0, .int x0)]) rfl (Nat.le_of_ble_eq_true rfl) rfl dX11_many_1 ?_
  refine g_iload_n 1 rfl rfl dX11_many_2 ?_
  refine g_istore_n (ls' := [(2, .int x0), (1, .int (0 : Int32)), (0, .int x0)]) rfl (Nat.le_of_ble_eq_true rfl) rfl dX11_many_3 ?_
  obtain ⟨w3, ew3, h⟩ := g_bnd h
  refine g_sub [1, 0] rfl ?_
  have KX : gG X V mX11_many gShM M0 0 0 20 [(1, .int w3)] [] := by
    refine g_iload_n 0 rfl rfl dX11_many_20 ?_
    cases h
    exact g_iret O ⟨Nat.le_of_ble_eq_true rfl, Nat.le_of_ble_eq_true rfl⟩ rfl dX11_many_21
  exact gLoop_Q ew3 (fun z9 => gG X V mX11_many gShM M0 0 0 4 [(1, .int z9.1), (2, .int z9.2)] []) (fun s9 o9 hb9 hc9 hx9 => tX11_many_l4  hb9 hc9 (fun e9 he9 => by cases hx9 _ he9; exact KX))
theorem kX11_many {l : Launch} {V : gEnv} {M0 : gMem} {x0 : Int32}  {o : Int32} (h : fX11_many x0 = some o) : gM l yX11_many cX11_many 3 (some .int) rX11_many V gShM [.int x0] M0 (some (.int o)) M0 :=
  gM.of (by decide) (Nat.le_of_ble_eq_true rfl) rfl (fun X _ O => tX11_many  h O)
theorem dX11_goesAside_0 : decode cX11_goesAside 0 = .ok (.iconst 0, 1) := by decide +kernel
theorem dX11_goesAside_1 : decode cX11_goesAside 1 = .ok (.istore_n 1, 1) := by decide +kernel
theorem dX11_goesAside_2 : decode cX11_goesAside 2 = .ok (.iload_n 1, 1) := by decide +kernel
theorem dX11_goesAside_3 : decode cX11_goesAside 3 = .ok (.sipush 374, 3) := by decide +kernel
theorem dX11_goesAside_6 : decode cX11_goesAside 6 = .ok (.if_icmp .ge 21, 3) := by decide +kernel
theorem dX11_goesAside_9 : decode cX11_goesAside 9 = .ok (.aload_n 0, 1) := by decide +kernel
theorem dX11_goesAside_10 : decode cX11_goesAside 10 = .ok (.getfield 13, 3) := by decide +kernel
theorem dX11_goesAside_13 : decode cX11_goesAside 13 = .ok (.iload_n 1, 1) := by decide +kernel
theorem dX11_goesAside_14 : decode cX11_goesAside 14 = .ok (.aload_n 0, 1) := by decide +kernel
theorem dX11_goesAside_15 : decode cX11_goesAside 15 = .ok (.getfield 9, 3) := by decide +kernel
theorem dX11_goesAside_18 : decode cX11_goesAside 18 = .ok (.iload_n 1, 1) := by decide +kernel
theorem dX11_goesAside_19 : decode cX11_goesAside 19 = .ok (.iaload, 1) := by decide +kernel
theorem dX11_goesAside_20 : decode cX11_goesAside 20 = .ok (.iastore, 1) := by decide +kernel
theorem dX11_goesAside_21 : decode cX11_goesAside 21 = .ok (.iinc 1 1, 3) := by decide +kernel
theorem dX11_goesAside_24 : decode cX11_goesAside 24 = .ok (.goto (-22), 3) := by decide +kernel
theorem dX11_goesAside_27 : decode cX11_goesAside 27 = .ok (.return_, 1) := by decide +kernel
abbrev rX11_goesAside : Room := { frames := 0, cells := 0, slots := 0, locals := 0 }
abbrev mX11_goesAside : gY := (cX11_goesAside, RX11, 2, rX11_goesAside)
def fX11_goesAside_l2 (x1 : Int32) (M0 : gMem) : Option ((Int32 × gMem) ⊕ gMem) :=
  if (374 : Int32) ≤ x1 then (some (.inr M0)) else (rI M0 1 374 x1).bind fun v2 => (wI M0 2 374 x1 v2).bind fun M3 => some (.inl (x1 + (1 : Int32), M3))
set_option maxRecDepth 20000 in
theorem tX11_goesAside_l2 {X : gX} {V : gEnv} {x1 : Int32} {M0 : gMem}  {o : ((Int32 × gMem) ⊕ gMem)} (h : fX11_goesAside_l2 x1 M0 = some o) (Kc : ∀ s9, o = .inl s9 → gG X V mX11_goesAside gShM s9.2 0 0 2 [(0, .ref (gAd V 0)), (1, .int s9.1)] []) (Kx : ∀ e9, o = .inr e9 → gG X V mX11_goesAside gShM e9 0 0 27 [] []) : gG X V mX11_goesAside gShM M0 0 0 2 [(0, .ref (gAd V 0)), (1, .int x1)] [] := by
  unfold fX11_goesAside_l2 at h
  refine g_iload_n 1 rfl rfl dX11_goesAside_2 ?_
  refine g_sipush (v := 374) rfl dX11_goesAside_3 ?_
  rcases g_ite h with ⟨c1, h⟩ | ⟨c1, h⟩
  · refine g_icmp_ge_t c1 (tgt := 27) rfl dX11_goesAside_6 ?_
    cases h
    refine g_sub [] rfl ?_
    exact Kx M0 rfl
  · refine g_icmp_ge_f c1 (tgt := 27) rfl dX11_goesAside_6 ?_
    refine g_aload_n 0 rfl rfl dX11_goesAside_9 ?_
    refine g_getR FX11_13 sM_0 rfl dX11_goesAside_10 ?_
    refine g_iload_n 1 rfl rfl dX11_goesAside_13 ?_
    refine g_aload_n 0 rfl rfl dX11_goesAside_14 ?_
    refine g_getR FX11_9 sM_0 rfl dX11_goesAside_15 ?_
    refine g_iload_n 1 rfl rfl dX11_goesAside_18 ?_
    obtain ⟨v2, ev2, h⟩ := g_bnd h
    refine g_iald' ev2 sM_1 dX11_goesAside_19 ?_
    obtain ⟨M3, eM3, h⟩ := g_bnd h
    refine g_iast' eM3 sM_2 dX11_goesAside_20 ?_
    refine g_iinc (j := 1) (v := x1 + (1 : Int32)) (ls' := [(1, .int (x1 + (1 : Int32))), (0, .ref (gAd V 0))]) rfl rfl (Nat.le_of_ble_eq_true rfl) rfl dX11_goesAside_21 ?_
    refine g_goto (tgt := 2) rfl dX11_goesAside_24 ?_
    cases h
    refine g_sub [1, 0] rfl ?_
    exact Kc (x1 + (1 : Int32), M3) rfl
def fX11_goesAside (M0 : gMem) : Option gMem :=
  (gLoop (fun z9 => fX11_goesAside_l2 z9.1 z9.2) gFu ((0 : Int32), M0)).bind fun w4 => some w4
set_option maxRecDepth 20000 in
theorem tX11_goesAside {X : gX} {V : gEnv} {M0 : gMem}  {o : gMem} (h : fX11_goesAside M0 = some o) (O : gO X V mX11_goesAside gShM none none o) : gG X V mX11_goesAside gShM M0 0 0 0 [(0, .ref (gAd V 0))] [] := by
  unfold fX11_goesAside at h
  refine g_iconst (v := 0) rfl dX11_goesAside_0 ?_
  refine g_istore_n (ls' := [(1, .int (0 : Int32)), (0, .ref (gAd V 0))]) rfl (Nat.le_of_ble_eq_true rfl) rfl dX11_goesAside_1 ?_
  obtain ⟨w4, ew4, h⟩ := g_bnd h
  refine g_sub [1, 0] rfl ?_
  have KX : gG X V mX11_goesAside gShM w4 0 0 27 [] [] := by
    cases h
    exact g_vret O ⟨Nat.le_of_ble_eq_true rfl, Nat.le_of_ble_eq_true rfl⟩ dX11_goesAside_27
  exact gLoop_Q ew4 (fun z9 => gG X V mX11_goesAside gShM z9.2 0 0 2 [(0, .ref (gAd V 0)), (1, .int z9.1)] []) (fun s9 o9 hb9 hc9 hx9 => tX11_goesAside_l2  hb9 hc9 (fun e9 he9 => by cases hx9 _ he9; exact KX))
theorem kX11_goesAside {l : Launch} {V : gEnv} {M0 : gMem}   {o : gMem} (h : fX11_goesAside M0 = some o) : gM l yX11_goesAside cX11_goesAside 2 none rX11_goesAside V gShM [.ref (gAd V 0)] M0 none o :=
  gM.of (by decide) (Nat.le_of_ble_eq_true rfl) rfl (fun X _ O => tX11_goesAside  h O)
theorem dX11_comesBack_0 : decode cX11_comesBack 0 = .ok (.iconst 0, 1) := by decide +kernel
theorem dX11_comesBack_1 : decode cX11_comesBack 1 = .ok (.istore_n 2, 1) := by decide +kernel
theorem dX11_comesBack_2 : decode cX11_comesBack 2 = .ok (.iload_n 2, 1) := by decide +kernel
theorem dX11_comesBack_3 : decode cX11_comesBack 3 = .ok (.sipush 374, 3) := by decide +kernel
theorem dX11_comesBack_6 : decode cX11_comesBack 6 = .ok (.if_icmp .ge 21, 3) := by decide +kernel
theorem dX11_comesBack_9 : decode cX11_comesBack 9 = .ok (.aload_n 0, 1) := by decide +kernel
theorem dX11_comesBack_10 : decode cX11_comesBack 10 = .ok (.getfield 9, 3) := by decide +kernel
theorem dX11_comesBack_13 : decode cX11_comesBack 13 = .ok (.iload_n 2, 1) := by decide +kernel
theorem dX11_comesBack_14 : decode cX11_comesBack 14 = .ok (.aload_n 0, 1) := by decide +kernel
theorem dX11_comesBack_15 : decode cX11_comesBack 15 = .ok (.getfield 13, 3) := by decide +kernel
theorem dX11_comesBack_18 : decode cX11_comesBack 18 = .ok (.iload_n 2, 1) := by decide +kernel
theorem dX11_comesBack_19 : decode cX11_comesBack 19 = .ok (.iaload, 1) := by decide +kernel
theorem dX11_comesBack_20 : decode cX11_comesBack 20 = .ok (.iastore, 1) := by decide +kernel
theorem dX11_comesBack_21 : decode cX11_comesBack 21 = .ok (.iinc 2 1, 3) := by decide +kernel
theorem dX11_comesBack_24 : decode cX11_comesBack 24 = .ok (.goto (-22), 3) := by decide +kernel
theorem dX11_comesBack_27 : decode cX11_comesBack 27 = .ok (.iload_n 1, 1) := by decide +kernel
theorem dX11_comesBack_28 : decode cX11_comesBack 28 = .ok (.ireturn, 1) := by decide +kernel
abbrev rX11_comesBack : Room := { frames := 0, cells := 0, slots := 0, locals := 0 }
abbrev mX11_comesBack : gY := (cX11_comesBack, RX11, 3, rX11_comesBack)
def fX11_comesBack_l2 (x1 : Int32) (x2 : Int32) (M0 : gMem) : Option ((Int32 × gMem) ⊕ gMem) :=
  if (374 : Int32) ≤ x2 then (some (.inr M0)) else (rI M0 2 374 x2).bind fun v2 => (wI M0 1 374 x2 v2).bind fun M3 => some (.inl (x2 + (1 : Int32), M3))
set_option maxRecDepth 20000 in
theorem tX11_comesBack_l2 {X : gX} {V : gEnv} {x1 : Int32} {x2 : Int32} {M0 : gMem}  {o : ((Int32 × gMem) ⊕ gMem)} (h : fX11_comesBack_l2 x1 x2 M0 = some o) (Kc : ∀ s9, o = .inl s9 → gG X V mX11_comesBack gShM s9.2 0 0 2 [(0, .ref (gAd V 0)), (1, .int x1), (2, .int s9.1)] []) (Kx : ∀ e9, o = .inr e9 → gG X V mX11_comesBack gShM e9 0 0 27 [(1, .int x1)] []) : gG X V mX11_comesBack gShM M0 0 0 2 [(0, .ref (gAd V 0)), (1, .int x1), (2, .int x2)] [] := by
  unfold fX11_comesBack_l2 at h
  refine g_iload_n 2 rfl rfl dX11_comesBack_2 ?_
  refine g_sipush (v := 374) rfl dX11_comesBack_3 ?_
  rcases g_ite h with ⟨c1, h⟩ | ⟨c1, h⟩
  · refine g_icmp_ge_t c1 (tgt := 27) rfl dX11_comesBack_6 ?_
    cases h
    refine g_sub [1] rfl ?_
    exact Kx M0 rfl
  · refine g_icmp_ge_f c1 (tgt := 27) rfl dX11_comesBack_6 ?_
    refine g_aload_n 0 rfl rfl dX11_comesBack_9 ?_
    refine g_getR FX11_9 sM_0 rfl dX11_comesBack_10 ?_
    refine g_iload_n 2 rfl rfl dX11_comesBack_13 ?_
    refine g_aload_n 0 rfl rfl dX11_comesBack_14 ?_
    refine g_getR FX11_13 sM_0 rfl dX11_comesBack_15 ?_
    refine g_iload_n 2 rfl rfl dX11_comesBack_18 ?_
    obtain ⟨v2, ev2, h⟩ := g_bnd h
    refine g_iald' ev2 sM_2 dX11_comesBack_19 ?_
    obtain ⟨M3, eM3, h⟩ := g_bnd h
    refine g_iast' eM3 sM_1 dX11_comesBack_20 ?_
    refine g_iinc (j := 2) (v := x2 + (1 : Int32)) (ls' := [(2, .int (x2 + (1 : Int32))), (0, .ref (gAd V 0)), (1, .int x1)]) rfl rfl (Nat.le_of_ble_eq_true rfl) rfl dX11_comesBack_21 ?_
    refine g_goto (tgt := 2) rfl dX11_comesBack_24 ?_
    cases h
    refine g_sub [1, 2, 0] rfl ?_
    exact Kc (x2 + (1 : Int32), M3) rfl
def fX11_comesBack (x1 : Int32) (M0 : gMem) : Option (Int32 × gMem) :=
  (gLoop (fun z9 => fX11_comesBack_l2 x1 z9.1 z9.2) gFu ((0 : Int32), M0)).bind fun w4 => some (x1, w4)
set_option maxRecDepth 20000 in
theorem tX11_comesBack {X : gX} {V : gEnv} {x1 : Int32} {M0 : gMem}  {o : (Int32 × gMem)} (h : fX11_comesBack x1 M0 = some o) (O : gO X V mX11_comesBack gShM (some .int) (some (.int o.1)) o.2) : gG X V mX11_comesBack gShM M0 0 0 0 [(0, .ref (gAd V 0)), (1, .int x1)] [] := by
  unfold fX11_comesBack at h
  refine g_iconst (v := 0) rfl dX11_comesBack_0 ?_
  refine g_istore_n (ls' := [(2, .int (0 : Int32)), (0, .ref (gAd V 0)), (1, .int x1)]) rfl (Nat.le_of_ble_eq_true rfl) rfl dX11_comesBack_1 ?_
  obtain ⟨w4, ew4, h⟩ := g_bnd h
  refine g_sub [1, 2, 0] rfl ?_
  have KX : gG X V mX11_comesBack gShM w4 0 0 27 [(1, .int x1)] [] := by
    refine g_iload_n 0 rfl rfl dX11_comesBack_27 ?_
    cases h
    exact g_iret O ⟨Nat.le_of_ble_eq_true rfl, Nat.le_of_ble_eq_true rfl⟩ rfl dX11_comesBack_28
  exact gLoop_Q ew4 (fun z9 => gG X V mX11_comesBack gShM z9.2 0 0 2 [(0, .ref (gAd V 0)), (1, .int x1), (2, .int z9.1)] []) (fun s9 o9 hb9 hc9 hx9 => tX11_comesBack_l2  hb9 hc9 (fun e9 he9 => by cases hx9 _ he9; exact KX))
theorem kX11_comesBack {l : Launch} {V : gEnv} {M0 : gMem} {x1 : Int32}  {o : (Int32 × gMem)} (h : fX11_comesBack x1 M0 = some o) : gM l yX11_comesBack cX11_comesBack 3 (some .int) rX11_comesBack V gShM [.ref (gAd V 0), .int x1] M0 (some (.int o.1)) o.2 :=
  gM.of (by decide) (Nat.le_of_ble_eq_true rfl) rfl (fun X _ O => tX11_comesBack  h O)
theorem dX11_keeps_0 : decode cX11_keeps 0 = .ok (.aload_n 0, 1) := by decide +kernel
theorem dX11_keeps_1 : decode cX11_keeps 1 = .ok (.getfield 75, 3) := by decide +kernel
theorem dX11_keeps_4 : decode cX11_keeps 4 = .ok (.bipush 8, 2) := by decide +kernel
theorem dX11_keeps_6 : decode cX11_keeps 6 = .ok (.if_icmp .ne 44, 3) := by decide +kernel
theorem dX11_keeps_9 : decode cX11_keeps 9 = .ok (.iconst 0, 1) := by decide +kernel
theorem dX11_keeps_10 : decode cX11_keeps 10 = .ok (.istore_n 1, 1) := by decide +kernel
theorem dX11_keeps_11 : decode cX11_keeps 11 = .ok (.iload_n 1, 1) := by decide +kernel
theorem dX11_keeps_12 : decode cX11_keeps 12 = .ok (.sipush 2618, 3) := by decide +kernel
theorem dX11_keeps_15 : decode cX11_keeps 15 = .ok (.if_icmp .ge 25, 3) := by decide +kernel
theorem dX11_keeps_18 : decode cX11_keeps 18 = .ok (.aload_n 0, 1) := by decide +kernel
theorem dX11_keeps_19 : decode cX11_keeps 19 = .ok (.getfield 22, 3) := by decide +kernel
theorem dX11_keeps_22 : decode cX11_keeps 22 = .ok (.iload_n 1, 1) := by decide +kernel
theorem dX11_keeps_23 : decode cX11_keeps 23 = .ok (.aload_n 0, 1) := by decide +kernel
theorem dX11_keeps_24 : decode cX11_keeps 24 = .ok (.getfield 22, 3) := by decide +kernel
theorem dX11_keeps_27 : decode cX11_keeps 27 = .ok (.iload_n 1, 1) := by decide +kernel
theorem dX11_keeps_28 : decode cX11_keeps 28 = .ok (.sipush 374, 3) := by decide +kernel
theorem dX11_keeps_31 : decode cX11_keeps 31 = .ok (.iadd, 1) := by decide +kernel
theorem dX11_keeps_32 : decode cX11_keeps 32 = .ok (.iaload, 1) := by decide +kernel
theorem dX11_keeps_33 : decode cX11_keeps 33 = .ok (.iastore, 1) := by decide +kernel
theorem dX11_keeps_34 : decode cX11_keeps 34 = .ok (.iinc 1 1, 3) := by decide +kernel
theorem dX11_keeps_37 : decode cX11_keeps 37 = .ok (.goto (-26), 3) := by decide +kernel
theorem dX11_keeps_40 : decode cX11_keeps 40 = .ok (.aload_n 0, 1) := by decide +kernel
theorem dX11_keeps_41 : decode cX11_keeps 41 = .ok (.dup, 1) := by decide +kernel
theorem dX11_keeps_42 : decode cX11_keeps 42 = .ok (.getfield 75, 3) := by decide +kernel
theorem dX11_keeps_45 : decode cX11_keeps 45 = .ok (.iconst 1, 1) := by decide +kernel
theorem dX11_keeps_46 : decode cX11_keeps 46 = .ok (.isub, 1) := by decide +kernel
theorem dX11_keeps_47 : decode cX11_keeps 47 = .ok (.putfield 75, 3) := by decide +kernel
theorem dX11_keeps_50 : decode cX11_keeps 50 = .ok (.iconst 0, 1) := by decide +kernel
theorem dX11_keeps_51 : decode cX11_keeps 51 = .ok (.istore_n 1, 1) := by decide +kernel
theorem dX11_keeps_52 : decode cX11_keeps 52 = .ok (.iload_n 1, 1) := by decide +kernel
theorem dX11_keeps_53 : decode cX11_keeps 53 = .ok (.sipush 374, 3) := by decide +kernel
theorem dX11_keeps_56 : decode cX11_keeps 56 = .ok (.if_icmp .ge 30, 3) := by decide +kernel
theorem dX11_keeps_59 : decode cX11_keeps 59 = .ok (.aload_n 0, 1) := by decide +kernel
theorem dX11_keeps_60 : decode cX11_keeps 60 = .ok (.getfield 22, 3) := by decide +kernel
theorem dX11_keeps_63 : decode cX11_keeps 63 = .ok (.aload_n 0, 1) := by decide +kernel
theorem dX11_keeps_64 : decode cX11_keeps 64 = .ok (.getfield 75, 3) := by decide +kernel
theorem dX11_keeps_67 : decode cX11_keeps 67 = .ok (.sipush 374, 3) := by decide +kernel
theorem dX11_keeps_70 : decode cX11_keeps 70 = .ok (.imul, 1) := by decide +kernel
theorem dX11_keeps_71 : decode cX11_keeps 71 = .ok (.iload_n 1, 1) := by decide +kernel
theorem dX11_keeps_72 : decode cX11_keeps 72 = .ok (.iadd, 1) := by decide +kernel
theorem dX11_keeps_73 : decode cX11_keeps 73 = .ok (.aload_n 0, 1) := by decide +kernel
theorem dX11_keeps_74 : decode cX11_keeps 74 = .ok (.getfield 13, 3) := by decide +kernel
theorem dX11_keeps_77 : decode cX11_keeps 77 = .ok (.iload_n 1, 1) := by decide +kernel
theorem dX11_keeps_78 : decode cX11_keeps 78 = .ok (.iaload, 1) := by decide +kernel
theorem dX11_keeps_79 : decode cX11_keeps 79 = .ok (.iastore, 1) := by decide +kernel
theorem dX11_keeps_80 : decode cX11_keeps 80 = .ok (.iinc 1 1, 3) := by decide +kernel
theorem dX11_keeps_83 : decode cX11_keeps 83 = .ok (.goto (-31), 3) := by decide +kernel
theorem dX11_keeps_86 : decode cX11_keeps 86 = .ok (.aload_n 0, 1) := by decide +kernel
theorem dX11_keeps_87 : decode cX11_keeps 87 = .ok (.dup, 1) := by decide +kernel
theorem dX11_keeps_88 : decode cX11_keeps 88 = .ok (.getfield 75, 3) := by decide +kernel
theorem dX11_keeps_91 : decode cX11_keeps 91 = .ok (.iconst 1, 1) := by decide +kernel
theorem dX11_keeps_92 : decode cX11_keeps 92 = .ok (.iadd, 1) := by decide +kernel
theorem dX11_keeps_93 : decode cX11_keeps 93 = .ok (.putfield 75, 3) := by decide +kernel
theorem dX11_keeps_96 : decode cX11_keeps 96 = .ok (.return_, 1) := by decide +kernel
abbrev rX11_keeps : Room := { frames := 0, cells := 0, slots := 0, locals := 0 }
abbrev mX11_keeps : gY := (cX11_keeps, RX11, 2, rX11_keeps)
def fX11_keeps_l11 (x1 : Int32) (M0 : gMem) : Option ((Int32 × gMem) ⊕ gMem) :=
  if (2618 : Int32) ≤ x1 then (some (.inr M0)) else (rI M0 5 2992 (x1 + (374 : Int32))).bind fun v3 => (wI M0 5 2992 x1 v3).bind fun M4 => some (.inl (x1 + (1 : Int32), M4))
set_option maxRecDepth 20000 in
theorem tX11_keeps_l11 {X : gX} {V : gEnv} {x1 : Int32} {M0 : gMem}  {o : ((Int32 × gMem) ⊕ gMem)} (h : fX11_keeps_l11 x1 M0 = some o) (Kc : ∀ s9, o = .inl s9 → gG X V mX11_keeps gShM s9.2 0 0 11 [(0, .ref (gAd V 0)), (1, .int s9.1)] []) (Kx : ∀ e9, o = .inr e9 → gG X V mX11_keeps gShM e9 0 0 40 [(0, .ref (gAd V 0))] []) : gG X V mX11_keeps gShM M0 0 0 11 [(0, .ref (gAd V 0)), (1, .int x1)] [] := by
  unfold fX11_keeps_l11 at h
  refine g_iload_n 1 rfl rfl dX11_keeps_11 ?_
  refine g_sipush (v := 2618) rfl dX11_keeps_12 ?_
  rcases g_ite h with ⟨c2, h⟩ | ⟨c2, h⟩
  · refine g_icmp_ge_t c2 (tgt := 40) rfl dX11_keeps_15 ?_
    cases h
    refine g_sub [0] rfl ?_
    exact Kx M0 rfl
  · refine g_icmp_ge_f c2 (tgt := 40) rfl dX11_keeps_15 ?_
    refine g_aload_n 0 rfl rfl dX11_keeps_18 ?_
    refine g_getR FX11_22 sM_0 rfl dX11_keeps_19 ?_
    refine g_iload_n 1 rfl rfl dX11_keeps_22 ?_
    refine g_aload_n 0 rfl rfl dX11_keeps_23 ?_
    refine g_getR FX11_22 sM_0 rfl dX11_keeps_24 ?_
    refine g_iload_n 1 rfl rfl dX11_keeps_27 ?_
    refine g_sipush (v := 374) rfl dX11_keeps_28 ?_
    refine g_iadd dX11_keeps_31 ?_
    obtain ⟨v3, ev3, h⟩ := g_bnd h
    refine g_iald' ev3 sM_5 dX11_keeps_32 ?_
    obtain ⟨M4, eM4, h⟩ := g_bnd h
    refine g_iast' eM4 sM_5 dX11_keeps_33 ?_
    refine g_iinc (j := 1) (v := x1 + (1 : Int32)) (ls' := [(1, .int (x1 + (1 : Int32))), (0, .ref (gAd V 0))]) rfl rfl (Nat.le_of_ble_eq_true rfl) rfl dX11_keeps_34 ?_
    refine g_goto (tgt := 11) rfl dX11_keeps_37 ?_
    cases h
    refine g_sub [1, 0] rfl ?_
    exact Kc (x1 + (1 : Int32), M4) rfl
def fX11_keeps_l52 (x1 : Int32) (M0 : gMem) : Option ((Int32 × gMem) ⊕ gMem) :=
  if (374 : Int32) ≤ x1 then (some (.inr M0)) else (rI M0 2 374 x1).bind fun v8 => (wI M0 5 2992 (((M0.1 0 6) * (374 : Int32)) + x1) v8).bind fun M9 => some (.inl (x1 + (1 : Int32), M9))
set_option maxRecDepth 20000 in
theorem tX11_keeps_l52 {X : gX} {V : gEnv} {x1 : Int32} {M0 : gMem}  {o : ((Int32 × gMem) ⊕ gMem)} (h : fX11_keeps_l52 x1 M0 = some o) (Kc : ∀ s9, o = .inl s9 → gG X V mX11_keeps gShM s9.2 0 0 52 [(0, .ref (gAd V 0)), (1, .int s9.1)] []) (Kx : ∀ e9, o = .inr e9 → gG X V mX11_keeps gShM e9 0 0 86 [(0, .ref (gAd V 0))] []) : gG X V mX11_keeps gShM M0 0 0 52 [(0, .ref (gAd V 0)), (1, .int x1)] [] := by
  unfold fX11_keeps_l52 at h
  refine g_iload_n 1 rfl rfl dX11_keeps_52 ?_
  refine g_sipush (v := 374) rfl dX11_keeps_53 ?_
  rcases g_ite h with ⟨c7, h⟩ | ⟨c7, h⟩
  · refine g_icmp_ge_t c7 (tgt := 86) rfl dX11_keeps_56 ?_
    cases h
    refine g_sub [0] rfl ?_
    exact Kx M0 rfl
  · refine g_icmp_ge_f c7 (tgt := 86) rfl dX11_keeps_56 ?_
    refine g_aload_n 0 rfl rfl dX11_keeps_59 ?_
    refine g_getR FX11_22 sM_0 rfl dX11_keeps_60 ?_
    refine g_aload_n 0 rfl rfl dX11_keeps_63 ?_
    refine g_getI FX11_75 sM_0 rfl dX11_keeps_64 ?_
    refine g_sipush (v := 374) rfl dX11_keeps_67 ?_
    refine g_imul dX11_keeps_70 ?_
    refine g_iload_n 1 rfl rfl dX11_keeps_71 ?_
    refine g_iadd dX11_keeps_72 ?_
    refine g_aload_n 0 rfl rfl dX11_keeps_73 ?_
    refine g_getR FX11_13 sM_0 rfl dX11_keeps_74 ?_
    refine g_iload_n 1 rfl rfl dX11_keeps_77 ?_
    obtain ⟨v8, ev8, h⟩ := g_bnd h
    refine g_iald' ev8 sM_2 dX11_keeps_78 ?_
    obtain ⟨M9, eM9, h⟩ := g_bnd h
    refine g_iast' eM9 sM_5 dX11_keeps_79 ?_
    refine g_iinc (j := 1) (v := x1 + (1 : Int32)) (ls' := [(1, .int (x1 + (1 : Int32))), (0, .ref (gAd V 0))]) rfl rfl (Nat.le_of_ble_eq_true rfl) rfl dX11_keeps_80 ?_
    refine g_goto (tgt := 52) rfl dX11_keeps_83 ?_
    cases h
    refine g_sub [1, 0] rfl ?_
    exact Kc (x1 + (1 : Int32), M9) rfl
def fX11_keeps_b50 (M0 : gMem) : Option gMem :=
  (gLoop (fun z9 => fX11_keeps_l52 z9.1 z9.2) gFu ((0 : Int32), M0)).bind fun w10 => (wF w10 0 6 ((w10.1 0 6) + (1 : Int32))).bind fun M11 => some M11
set_option maxRecDepth 20000 in
theorem tX11_keeps_b50 {X : gX} {V : gEnv} {M0 : gMem}  {o : gMem} (h : fX11_keeps_b50 M0 = some o) (O : gO X V mX11_keeps gShM none none o) : gG X V mX11_keeps gShM M0 0 0 50 [(0, .ref (gAd V 0))] [] := by
  unfold fX11_keeps_b50 at h
  refine g_iconst (v := 0) rfl dX11_keeps_50 ?_
  refine g_istore_n (ls' := [(1, .int (0 : Int32)), (0, .ref (gAd V 0))]) rfl (Nat.le_of_ble_eq_true rfl) rfl dX11_keeps_51 ?_
  obtain ⟨w10, ew10, h⟩ := g_bnd h
  refine g_sub [1, 0] rfl ?_
  have KX : gG X V mX11_keeps gShM w10 0 0 86 [(0, .ref (gAd V 0))] [] := by
    refine g_aload_n 0 rfl rfl dX11_keeps_86 ?_
    refine g_dup rfl dX11_keeps_87 ?_
    refine g_getI FX11_75 sM_0 rfl dX11_keeps_88 ?_
    refine g_iconst (v := 1) rfl dX11_keeps_91 ?_
    refine g_iadd dX11_keeps_92 ?_
    obtain ⟨M11, eM11, h⟩ := g_bnd h
    refine g_putI' eM11 FX11_75 jX11 sM_0 rfl rfl rfl dX11_keeps_93 ?_
    cases h
    exact g_vret O ⟨Nat.le_of_ble_eq_true rfl, Nat.le_of_ble_eq_true rfl⟩ dX11_keeps_96
  exact gLoop_Q ew10 (fun z9 => gG X V mX11_keeps gShM z9.2 0 0 52 [(0, .ref (gAd V 0)), (1, .int z9.1)] []) (fun s9 o9 hb9 hc9 hx9 => tX11_keeps_l52  hb9 hc9 (fun e9 he9 => by cases hx9 _ he9; exact KX))
def fX11_keeps (M0 : gMem) : Option gMem :=
  if (M0.1 0 6) = (8 : Int32) then ((gLoop (fun z9 => fX11_keeps_l11 z9.1 z9.2) gFu ((0 : Int32), M0)).bind fun w5 => (wF w5 0 6 ((w5.1 0 6) - (1 : Int32))).bind fun M6 => fX11_keeps_b50 M6) else fX11_keeps_b50 M0
set_option maxRecDepth 20000 in
theorem tX11_keeps {X : gX} {V : gEnv} {M0 : gMem}  {o : gMem} (h : fX11_keeps M0 = some o) (O : gO X V mX11_keeps gShM none none o) : gG X V mX11_keeps gShM M0 0 0 0 [(0, .ref (gAd V 0))] [] := by
  unfold fX11_keeps at h
  refine g_aload_n 0 rfl rfl dX11_keeps_0 ?_
  refine g_getI FX11_75 sM_0 rfl dX11_keeps_1 ?_
  refine g_bipush (v := 8) rfl dX11_keeps_4 ?_
  rcases g_ite h with ⟨c1, h⟩ | ⟨c1, h⟩
  · refine g_icmp_ne_f c1 (tgt := 50) rfl dX11_keeps_6 ?_
    refine g_iconst (v := 0) rfl dX11_keeps_9 ?_
    refine g_istore_n (ls' := [(1, .int (0 : Int32)), (0, .ref (gAd V 0))]) rfl (Nat.le_of_ble_eq_true rfl) rfl dX11_keeps_10 ?_
    obtain ⟨w5, ew5, h⟩ := g_bnd h
    refine g_sub [1, 0] rfl ?_
    have KX : gG X V mX11_keeps gShM w5 0 0 40 [(0, .ref (gAd V 0))] [] := by
      refine g_aload_n 0 rfl rfl dX11_keeps_40 ?_
      refine g_dup rfl dX11_keeps_41 ?_
      refine g_getI FX11_75 sM_0 rfl dX11_keeps_42 ?_
      refine g_iconst (v := 1) rfl dX11_keeps_45 ?_
      refine g_isub dX11_keeps_46 ?_
      obtain ⟨M6, eM6, h⟩ := g_bnd h
      refine g_putI' eM6 FX11_75 jX11 sM_0 rfl rfl rfl dX11_keeps_47 ?_
      exact tX11_keeps_b50  h O
    exact gLoop_Q ew5 (fun z9 => gG X V mX11_keeps gShM z9.2 0 0 11 [(0, .ref (gAd V 0)), (1, .int z9.1)] []) (fun s9 o9 hb9 hc9 hx9 => tX11_keeps_l11  hb9 hc9 (fun e9 he9 => by cases hx9 _ he9; exact KX))
  · refine g_icmp_ne_t c1 (tgt := 50) rfl dX11_keeps_6 ?_
    exact tX11_keeps_b50  h O
theorem kX11_keeps {l : Launch} {V : gEnv} {M0 : gMem}   {o : gMem} (h : fX11_keeps M0 = some o) : gM l yX11_keeps cX11_keeps 2 none rX11_keeps V gShM [.ref (gAd V 0)] M0 none o :=
  gM.of (by decide) (Nat.le_of_ble_eq_true rfl) rfl (fun X _ O => tX11_keeps  h O)
theorem dX11_of_0 : decode cX11_of 0 = .ok (.aload_n 0, 1) := by decide +kernel
theorem dX11_of_1 : decode cX11_of 1 = .ok (.getfield 9, 3) := by decide +kernel
theorem dX11_of_4 : decode cX11_of 4 = .ok (.sipush 158, 3) := by decide +kernel
theorem dX11_of_7 : decode cX11_of 7 = .ok (.bipush 9, 2) := by decide +kernel
theorem dX11_of_9 : decode cX11_of 9 = .ok (.iload_n 1, 1) := by decide +kernel
theorem dX11_of_10 : decode cX11_of 10 = .ok (.imul, 1) := by decide +kernel
theorem dX11_of_11 : decode cX11_of 11 = .ok (.iadd, 1) := by decide +kernel
theorem dX11_of_12 : decode cX11_of 12 = .ok (.iload_n 2, 1) := by decide +kernel
theorem dX11_of_13 : decode cX11_of 13 = .ok (.iadd, 1) := by decide +kernel
theorem dX11_of_14 : decode cX11_of 14 = .ok (.iaload, 1) := by decide +kernel
theorem dX11_of_15 : decode cX11_of 15 = .ok (.ireturn, 1) := by decide +kernel
abbrev rX11_of : Room := { frames := 0, cells := 0, slots := 0, locals := 0 }
abbrev mX11_of : gY := (cX11_of, RX11, 3, rX11_of)
def fX11_of (x1 : Int32) (x2 : Int32) (M0 : gMem) : Option Int32 :=
  (rI M0 1 374 (((158 : Int32) + ((9 : Int32) * x1)) + x2)).bind fun v1 => some v1
set_option maxRecDepth 20000 in
theorem tX11_of {X : gX} {V : gEnv} {x1 : Int32} {x2 : Int32} {M0 : gMem}  {o : Int32} (h : fX11_of x1 x2 M0 = some o) (O : gO X V mX11_of gShM (some .int) (some (.int o)) M0) : gG X V mX11_of gShM M0 0 0 0 [(0, .ref (gAd V 0)), (1, .int x1), (2, .int x2)] [] := by
  unfold fX11_of at h
  refine g_aload_n 0 rfl rfl dX11_of_0 ?_
  refine g_getR FX11_9 sM_0 rfl dX11_of_1 ?_
  refine g_sipush (v := 158) rfl dX11_of_4 ?_
  refine g_bipush (v := 9) rfl dX11_of_7 ?_
  refine g_iload_n 1 rfl rfl dX11_of_9 ?_
  refine g_imul dX11_of_10 ?_
  refine g_iadd dX11_of_11 ?_
  refine g_iload_n 2 rfl rfl dX11_of_12 ?_
  refine g_iadd dX11_of_13 ?_
  obtain ⟨v1, ev1, h⟩ := g_bnd h
  refine g_iald' ev1 sM_1 dX11_of_14 ?_
  cases h
  exact g_iret O ⟨Nat.le_of_ble_eq_true rfl, Nat.le_of_ble_eq_true rfl⟩ rfl dX11_of_15
theorem kX11_of {l : Launch} {V : gEnv} {M0 : gMem} {x1 : Int32} {x2 : Int32}  {o : Int32} (h : fX11_of x1 x2 M0 = some o) : gM l yX11_of cX11_of 3 (some .int) rX11_of V gShM [.ref (gAd V 0), .int x1, .int x2] M0 (some (.int o)) M0 :=
  gM.of (by decide) (Nat.le_of_ble_eq_true rfl) rfl (fun X _ O => tX11_of  h O)
theorem dX11_puts_0 : decode cX11_puts 0 = .ok (.aload_n 0, 1) := by decide +kernel
theorem dX11_puts_1 : decode cX11_puts 1 = .ok (.getfield 9, 3) := by decide +kernel
theorem dX11_puts_4 : decode cX11_puts 4 = .ok (.sipush 158, 3) := by decide +kernel
theorem dX11_puts_7 : decode cX11_puts 7 = .ok (.bipush 9, 2) := by decide +kernel
theorem dX11_puts_9 : decode cX11_puts 9 = .ok (.iload_n 1, 1) := by decide +kernel
theorem dX11_puts_10 : decode cX11_puts 10 = .ok (.imul, 1) := by decide +kernel
theorem dX11_puts_11 : decode cX11_puts 11 = .ok (.iadd, 1) := by decide +kernel
theorem dX11_puts_12 : decode cX11_puts 12 = .ok (.iload_n 2, 1) := by decide +kernel
theorem dX11_puts_13 : decode cX11_puts 13 = .ok (.iadd, 1) := by decide +kernel
theorem dX11_puts_14 : decode cX11_puts 14 = .ok (.iload_n 3, 1) := by decide +kernel
theorem dX11_puts_15 : decode cX11_puts 15 = .ok (.iastore, 1) := by decide +kernel
theorem dX11_puts_16 : decode cX11_puts 16 = .ok (.return_, 1) := by decide +kernel
abbrev rX11_puts : Room := { frames := 0, cells := 0, slots := 0, locals := 0 }
abbrev mX11_puts : gY := (cX11_puts, RX11, 4, rX11_puts)
def fX11_puts (x1 : Int32) (x2 : Int32) (x3 : Int32) (M0 : gMem) : Option gMem :=
  (wI M0 1 374 (((158 : Int32) + ((9 : Int32) * x1)) + x2) x3).bind fun M1 => some M1
set_option maxRecDepth 20000 in
theorem tX11_puts {X : gX} {V : gEnv} {x1 : Int32} {x2 : Int32} {x3 : Int32} {M0 : gMem}  {o : gMem} (h : fX11_puts x1 x2 x3 M0 = some o) (O : gO X V mX11_puts gShM none none o) : gG X V mX11_puts gShM M0 0 0 0 [(0, .ref (gAd V 0)), (1, .int x1), (2, .int x2), (3, .int x3)] [] := by
  unfold fX11_puts at h
  refine g_aload_n 0 rfl rfl dX11_puts_0 ?_
  refine g_getR FX11_9 sM_0 rfl dX11_puts_1 ?_
  refine g_sipush (v := 158) rfl dX11_puts_4 ?_
  refine g_bipush (v := 9) rfl dX11_puts_7 ?_
  refine g_iload_n 1 rfl rfl dX11_puts_9 ?_
  refine g_imul dX11_puts_10 ?_
  refine g_iadd dX11_puts_11 ?_
  refine g_iload_n 2 rfl rfl dX11_puts_12 ?_
  refine g_iadd dX11_puts_13 ?_
  refine g_iload_n 3 rfl rfl dX11_puts_14 ?_
  obtain ⟨M1, eM1, h⟩ := g_bnd h
  refine g_iast' eM1 sM_1 dX11_puts_15 ?_
  cases h
  exact g_vret O ⟨Nat.le_of_ble_eq_true rfl, Nat.le_of_ble_eq_true rfl⟩ dX11_puts_16
theorem kX11_puts {l : Launch} {V : gEnv} {M0 : gMem} {x1 : Int32} {x2 : Int32} {x3 : Int32}  {o : gMem} (h : fX11_puts x1 x2 x3 M0 = some o) : gM l yX11_puts cX11_puts 4 none rX11_puts V gShM [.ref (gAd V 0), .int x1, .int x2, .int x3] M0 none o :=
  gM.of (by decide) (Nat.le_of_ble_eq_true rfl) rfl (fun X _ O => tX11_puts  h O)
theorem dX11_counts_0 : decode cX11_counts 0 = .ok (.aload_n 0, 1) := by decide +kernel
theorem dX11_counts_1 : decode cX11_counts 1 = .ok (.getfield 9, 3) := by decide +kernel
theorem dX11_counts_4 : decode cX11_counts 4 = .ok (.iconst 5, 1) := by decide +kernel
theorem dX11_counts_5 : decode cX11_counts 5 = .ok (.iload_n 1, 1) := by decide +kernel
theorem dX11_counts_6 : decode cX11_counts 6 = .ok (.iadd, 1) := by decide +kernel
theorem dX11_counts_7 : decode cX11_counts 7 = .ok (.dup2, 1) := by decide +kernel
theorem dX11_counts_8 : decode cX11_counts 8 = .ok (.iaload, 1) := by decide +kernel
theorem dX11_counts_9 : decode cX11_counts 9 = .ok (.iload_n 2, 1) := by decide +kernel
theorem dX11_counts_10 : decode cX11_counts 10 = .ok (.iadd, 1) := by decide +kernel
theorem dX11_counts_11 : decode cX11_counts 11 = .ok (.iastore, 1) := by decide +kernel
theorem dX11_counts_12 : decode cX11_counts 12 = .ok (.return_, 1) := by decide +kernel
abbrev rX11_counts : Room := { frames := 0, cells := 0, slots := 0, locals := 0 }
abbrev mX11_counts : gY := (cX11_counts, RX11, 3, rX11_counts)
def fX11_counts (x1 : Int32) (x2 : Int32) (M0 : gMem) : Option gMem :=
  (rI M0 1 374 ((5 : Int32) + x1)).bind fun v1 => (wI M0 1 374 ((5 : Int32) + x1) (v1 + x2)).bind fun M2 => some M2
set_option maxRecDepth 20000 in
theorem tX11_counts {X : gX} {V : gEnv} {x1 : Int32} {x2 : Int32} {M0 : gMem}  {o : gMem} (h : fX11_counts x1 x2 M0 = some o) (O : gO X V mX11_counts gShM none none o) : gG X V mX11_counts gShM M0 0 0 0 [(0, .ref (gAd V 0)), (1, .int x1), (2, .int x2)] [] := by
  unfold fX11_counts at h
  refine g_aload_n 0 rfl rfl dX11_counts_0 ?_
  refine g_getR FX11_9 sM_0 rfl dX11_counts_1 ?_
  refine g_iconst (v := 5) rfl dX11_counts_4 ?_
  refine g_iload_n 1 rfl rfl dX11_counts_5 ?_
  refine g_iadd dX11_counts_6 ?_
  refine g_dup2 rfl rfl dX11_counts_7 ?_
  obtain ⟨v1, ev1, h⟩ := g_bnd h
  refine g_iald' ev1 sM_1 dX11_counts_8 ?_
  refine g_iload_n 2 rfl rfl dX11_counts_9 ?_
  refine g_iadd dX11_counts_10 ?_
  obtain ⟨M2, eM2, h⟩ := g_bnd h
  refine g_iast' eM2 sM_1 dX11_counts_11 ?_
  cases h
  exact g_vret O ⟨Nat.le_of_ble_eq_true rfl, Nat.le_of_ble_eq_true rfl⟩ dX11_counts_12
theorem kX11_counts {l : Launch} {V : gEnv} {M0 : gMem} {x1 : Int32} {x2 : Int32}  {o : gMem} (h : fX11_counts x1 x2 M0 = some o) : gM l yX11_counts cX11_counts 3 none rX11_counts V gShM [.ref (gAd V 0), .int x1, .int x2] M0 none o :=
  gM.of (by decide) (Nat.le_of_ble_eq_true rfl) rfl (fun X _ O => tX11_counts  h O)
theorem dX11_joins_0 : decode cX11_joins 0 = .ok (.aload_n 0, 1) := by decide +kernel
theorem dX11_joins_1 : decode cX11_joins 1 = .ok (.getfield 9, 3) := by decide +kernel
theorem dX11_joins_4 : decode cX11_joins 4 = .ok (.iconst 0, 1) := by decide +kernel
theorem dX11_joins_5 : decode cX11_joins 5 = .ok (.iaload, 1) := by decide +kernel
theorem dX11_joins_6 : decode cX11_joins 6 = .ok (.istore 4, 2) := by decide +kernel
theorem dX11_joins_8 : decode cX11_joins 8 = .ok (.aload_n 0, 1) := by decide +kernel
theorem dX11_joins_9 : decode cX11_joins 9 = .ok (.iload 4, 2) := by decide +kernel
theorem dX11_joins_11 : decode cX11_joins 11 = .ok (.iconst 0, 1) := by decide +kernel
theorem dX11_joins_12 : decode cX11_joins 12 = .ok (.iload_n 3, 1) := by decide +kernel
theorem dX11_joins_13 : decode cX11_joins 13 = .ok (.invokevirtual 78, 3) := by decide +kernel
theorem dX11_joins_16 : decode cX11_joins 16 = .ok (.aload_n 0, 1) := by decide +kernel
theorem dX11_joins_17 : decode cX11_joins 17 = .ok (.iload 4, 2) := by decide +kernel
theorem dX11_joins_19 : decode cX11_joins 19 = .ok (.iconst 1, 1) := by decide +kernel
theorem dX11_joins_20 : decode cX11_joins 20 = .ok (.iload 4, 2) := by decide +kernel
theorem dX11_joins_22 : decode cX11_joins 22 = .ok (.invokevirtual 78, 3) := by decide +kernel
theorem dX11_joins_25 : decode cX11_joins 25 = .ok (.aload_n 0, 1) := by decide +kernel
theorem dX11_joins_26 : decode cX11_joins 26 = .ok (.iload 4, 2) := by decide +kernel
theorem dX11_joins_28 : decode cX11_joins 28 = .ok (.iconst 2, 1) := by decide +kernel
theorem dX11_joins_29 : decode cX11_joins 29 = .ok (.iload_n 2, 1) := by decide +kernel
theorem dX11_joins_30 : decode cX11_joins 30 = .ok (.invokevirtual 78, 3) := by decide +kernel
theorem dX11_joins_33 : decode cX11_joins 33 = .ok (.iconst 0, 1) := by decide +kernel
theorem dX11_joins_34 : decode cX11_joins 34 = .ok (.istore 5, 2) := by decide +kernel
theorem dX11_joins_36 : decode cX11_joins 36 = .ok (.iload 5, 2) := by decide +kernel
theorem dX11_joins_38 : decode cX11_joins 38 = .ok (.bipush 6, 2) := by decide +kernel
theorem dX11_joins_40 : decode cX11_joins 40 = .ok (.if_icmp .ge 38, 3) := by decide +kernel
theorem dX11_joins_43 : decode cX11_joins 43 = .ok (.aload_n 0, 1) := by decide +kernel
theorem dX11_joins_44 : decode cX11_joins 44 = .ok (.iload 4, 2) := by decide +kernel
theorem dX11_joins_46 : decode cX11_joins 46 = .ok (.iconst 3, 1) := by decide +kernel
theorem dX11_joins_47 : decode cX11_joins 47 = .ok (.iload 5, 2) := by decide +kernel
theorem dX11_joins_49 : decode cX11_joins 49 = .ok (.iadd, 1) := by decide +kernel
theorem dX11_joins_50 : decode cX11_joins 50 = .ok (.iload 5, 2) := by decide +kernel
theorem dX11_joins_52 : decode cX11_joins 52 = .ok (.iload_n 2, 1) := by decide +kernel
theorem dX11_joins_53 : decode cX11_joins 53 = .ok (.if_icmp .ge 15, 3) := by decide +kernel
theorem dX11_joins_56 : decode cX11_joins 56 = .ok (.aload_n 0, 1) := by decide +kernel
theorem dX11_joins_57 : decode cX11_joins 57 = .ok (.getfield 43, 3) := by decide +kernel
theorem dX11_joins_60 : decode cX11_joins 60 = .ok (.iload_n 1, 1) := by decide +kernel
theorem dX11_joins_61 : decode cX11_joins 61 = .ok (.iload 5, 2) := by decide +kernel
theorem dX11_joins_63 : decode cX11_joins 63 = .ok (.iadd, 1) := by decide +kernel
theorem dX11_joins_64 : decode cX11_joins 64 = .ok (.iaload, 1) := by decide +kernel
theorem dX11_joins_65 : decode cX11_joins 65 = .ok (.goto 4, 3) := by decide +kernel
theorem dX11_joins_68 : decode cX11_joins 68 = .ok (.iconst 0, 1) := by decide +kernel
theorem dX11_joins_69 : decode cX11_joins 69 = .ok (.invokevirtual 78, 3) := by decide +kernel
theorem dX11_joins_72 : decode cX11_joins 72 = .ok (.iinc 5 1, 3) := by decide +kernel
theorem dX11_joins_75 : decode cX11_joins 75 = .ok (.goto (-39), 3) := by decide +kernel
theorem dX11_joins_78 : decode cX11_joins 78 = .ok (.aload_n 0, 1) := by decide +kernel
theorem dX11_joins_79 : decode cX11_joins 79 = .ok (.getfield 9, 3) := by decide +kernel
theorem dX11_joins_82 : decode cX11_joins 82 = .ok (.bipush 14, 2) := by decide +kernel
theorem dX11_joins_84 : decode cX11_joins 84 = .ok (.aload_n 0, 1) := by decide +kernel
theorem dX11_joins_85 : decode cX11_joins 85 = .ok (.getfield 9, 3) := by decide +kernel
theorem dX11_joins_88 : decode cX11_joins 88 = .ok (.iconst 2, 1) := by decide +kernel
theorem dX11_joins_89 : decode cX11_joins 89 = .ok (.iaload, 1) := by decide +kernel
theorem dX11_joins_90 : decode cX11_joins 90 = .ok (.iadd, 1) := by decide +kernel
theorem dX11_joins_91 : decode cX11_joins 91 = .ok (.iload 4, 2) := by decide +kernel
theorem dX11_joins_93 : decode cX11_joins 93 = .ok (.iastore, 1) := by decide +kernel
theorem dX11_joins_94 : decode cX11_joins 94 = .ok (.aload_n 0, 1) := by decide +kernel
theorem dX11_joins_95 : decode cX11_joins 95 = .ok (.getfield 9, 3) := by decide +kernel
theorem dX11_joins_98 : decode cX11_joins 98 = .ok (.iconst 2, 1) := by decide +kernel
theorem dX11_joins_99 : decode cX11_joins 99 = .ok (.dup2, 1) := by decide +kernel
theorem dX11_joins_100 : decode cX11_joins 100 = .ok (.iaload, 1) := by decide +kernel
theorem dX11_joins_101 : decode cX11_joins 101 = .ok (.iconst 1, 1) := by decide +kernel
theorem dX11_joins_102 : decode cX11_joins 102 = .ok (.iadd, 1) := by decide +kernel
theorem dX11_joins_103 : decode cX11_joins 103 = .ok (.iastore, 1) := by decide +kernel
theorem dX11_joins_104 : decode cX11_joins 104 = .ok (.aload_n 0, 1) := by decide +kernel
theorem dX11_joins_105 : decode cX11_joins 105 = .ok (.getfield 9, 3) := by decide +kernel
theorem dX11_joins_108 : decode cX11_joins 108 = .ok (.iconst 0, 1) := by decide +kernel
theorem dX11_joins_109 : decode cX11_joins 109 = .ok (.dup2, 1) := by decide +kernel
theorem dX11_joins_110 : decode cX11_joins 110 = .ok (.iaload, 1) := by decide +kernel
theorem dX11_joins_111 : decode cX11_joins 111 = .ok (.iconst 1, 1) := by decide +kernel
theorem dX11_joins_112 : decode cX11_joins 112 = .ok (.iadd, 1) := by decide +kernel
theorem dX11_joins_113 : decode cX11_joins 113 = .ok (.iastore, 1) := by decide +kernel
theorem dX11_joins_114 : decode cX11_joins 114 = .ok (.iload 4, 2) := by decide +kernel
theorem dX11_joins_116 : decode cX11_joins 116 = .ok (.ireturn, 1) := by decide +kernel
abbrev rX11_joins : Room := { frames := 1, cells := 0, slots := 0, locals := 23 }
abbrev mX11_joins : gY := (cX11_joins, RX11, 6, rX11_joins)
def fX11_joins_b69 (x1 : Int32) (x2 : Int32) (x4 : Int32) (x5 : Int32) (s1 : Int32) (s2 : Int32) (s3 : Int32) (M0 : gMem) : Option ((Int32 × gMem) ⊕ gMem) :=
  (fX11_puts s1 s2 s3 M0).bind fun v7 => some (.inl (x5 + (1 : Int32), v7))
set_option maxRecDepth 20000 in
theorem tX11_joins_b69 {X : gX} {V : gEnv} {x1 : Int32} {x2 : Int32} {x4 : Int32} {x5 : Int32} {s1 : Int32} {s2 : Int32} {s3 : Int32} {M0 : gMem}  {o : ((Int32 × gMem) ⊕ gMem)} (h : fX11_joins_b69 x1 x2 x4 x5 s1 s2 s3 M0 = some o) (Kc : ∀ s9, o = .inl s9 → gG X V mX11_joins gShM s9.2 0 0 36 [(0, .ref (gAd V 0)), (1, .int x1), (2, .int x2), (4, .int x4), (5, .int s9.1)] []) (Kx : ∀ e9, o = .inr e9 → gG X V mX11_joins gShM e9 0 0 78 [(0, .ref (gAd V 0)), (4, .int x4)] []) : gG X V mX11_joins gShM M0 0 0 69 [(0, .ref (gAd V 0)), (1, .int x1), (2, .int x2), (4, .int x4), (5, .int x5)] [.int s3, .int s2, .int s1, .ref (gAd V 0)] := by
  unfold fX11_joins_b69 at h
  obtain ⟨v7, ev7, h⟩ := g_bnd h
  refine g_callV LX11_78 sM_0 rfl (kX11_puts ev7) rfl rfl (Nat.le_of_ble_eq_true rfl) ⟨Nat.le_of_ble_eq_true rfl, Nat.le_of_ble_eq_true rfl⟩ ⟨Nat.le_of_ble_eq_true rfl, Nat.le_of_ble_eq_true rfl⟩ dX11_joins_69 rfl ?_
  refine g_iinc (j := 4) (v := x5 + (1 : Int32)) (ls' := [(5, .int (x5 + (1 : Int32))), (0, .ref (gAd V 0)), (1, .int x1), (2, .int x2), (4, .int x4)]) rfl rfl (Nat.le_of_ble_eq_true rfl) rfl dX11_joins_72 ?_
  refine g_goto (tgt := 36) rfl dX11_joins_75 ?_
  cases h
  refine g_sub [1, 2, 3, 4, 0] rfl ?_
  exact Kc (x5 + (1 : Int32), v7) rfl
def fX11_joins_l36 (x1 : Int32) (x2 : Int32) (x4 : Int32) (x5 : Int32) (M0 : gMem) : Option ((Int32 × gMem) ⊕ gMem) :=
  if (6 : Int32) ≤ x5 then (some (.inr M0)) else if x2 ≤ x5 then (fX11_joins_b69 x1 x2 x4 x5 x4 ((3 : Int32) + x5) (0 : Int32) M0) else (rI M0 12 900 (x1 + x5)).bind fun v8 => fX11_joins_b69 x1 x2 x4 x5 x4 ((3 : Int32) + x5) v8 M0
set_option maxRecDepth 20000 in
theorem tX11_joins_l36 {X : gX} {V : gEnv} {x1 : Int32} {x2 : Int32} {x4 : Int32} {x5 : Int32} {M0 : gMem}  {o : ((Int32 × gMem) ⊕ gMem)} (h : fX11_joins_l36 x1 x2 x4 x5 M0 = some o) (Kc : ∀ s9, o = .inl s9 → gG X V mX11_joins gShM s9.2 0 0 36 [(0, .ref (gAd V 0)), (1, .int x1), (2, .int x2), (4, .int x4), (5, .int s9.1)] []) (Kx : ∀ e9, o = .inr e9 → gG X V mX11_joins gShM e9 0 0 78 [(0, .ref (gAd V 0)), (4, .int x4)] []) : gG X V mX11_joins gShM M0 0 0 36 [(0, .ref (gAd V 0)), (1, .int x1), (2, .int x2), (4, .int x4), (5, .int x5)] [] := by
  unfold fX11_joins_l36 at h
  refine g_iload 4 rfl dX11_joins_36 ?_
  refine g_bipush (v := 6) rfl dX11_joins_38 ?_
  rcases g_ite h with ⟨c5, h⟩ | ⟨c5, h⟩
  · refine g_icmp_ge_t c5 (tgt := 78) rfl dX11_joins_40 ?_
    cases h
    refine g_sub [0, 3] rfl ?_
    exact Kx M0 rfl
  · refine g_icmp_ge_f c5 (tgt := 78) rfl dX11_joins_40 ?_
    refine g_aload_n 0 rfl rfl dX11_joins_43 ?_
    refine g_iload 3 rfl dX11_joins_44 ?_
    refine g_iconst (v := 3) rfl dX11_joins_46 ?_
    refine g_iload 4 rfl dX11_joins_47 ?_
    refine g_iadd dX11_joins_49 ?_
    refine g_iload 4 rfl dX11_joins_50 ?_
    refine g_iload_n 2 rfl rfl dX11_joins_52 ?_
    rcases g_ite h with ⟨c6, h⟩ | ⟨c6, h⟩
    · refine g_icmp_ge_t c6 (tgt := 68) rfl dX11_joins_53 ?_
      refine g_iconst (v := 0) rfl dX11_joins_68 ?_
      exact tX11_joins_b69  h Kc Kx
    · refine g_icmp_ge_f c6 (tgt := 68) rfl dX11_joins_53 ?_
      refine g_aload_n 0 rfl rfl dX11_joins_56 ?_
      refine g_getR FX11_43 sM_0 rfl dX11_joins_57 ?_
      refine g_iload_n 1 rfl rfl dX11_joins_60 ?_
      refine g_iload 4 rfl dX11_joins_61 ?_
      refine g_iadd dX11_joins_63 ?_
      obtain ⟨v8, ev8, h⟩ := g_bnd h
      refine g_iald' ev8 sM_12 dX11_joins_64 ?_
      refine g_goto (tgt := 69) rfl dX11_joins_65 ?_
      exact tX11_joins_b69  h Kc Kx
def fX11_joins (x1 : Int32) (x2 : Int32) (x3 : Int32) (M0 : gMem) : Option (Int32 × gMem) :=
  (rI M0 1 374 (0 : Int32)).bind fun v1 => (fX11_puts v1 (0 : Int32) x3 M0).bind fun v2 => (fX11_puts v1 (1 : Int32) v1 v2).bind fun v3 => (fX11_puts v1 (2 : Int32) x2 v3).bind fun v4 => (gLoop (fun z9 => fX11_joins_l36 x1 x2 v1 z9.1 z9.2) gFu ((0 : Int32), v4)).bind fun w9 => (rI w9 1 374 (2 : Int32)).bind fun v10 => (wI w9 1 374 ((14 : Int32) + v10) v1).bind fun M11 => (rI M11 1 374 (2 : Int32)).bind fun v12 => (wI M11 1 374 (2 : Int32) (v12 + (1 : Int32))).bind fun M13 => (rI M13 1 374 (0 : Int32)).bind fun v14 => (wI M13 1 374 (0 : Int32) (v14 + (1 : Int32))).bind fun M15 => some (v1, M15)
set_option maxRecDepth 20000 in
theorem tX11_joins {X : gX} {V : gEnv} {x1 : Int32} {x2 : Int32} {x3 : Int32} {M0 : gMem}  {o : (Int32 × gMem)} (h : fX11_joins x1 x2 x3 M0 = some o) (O : gO X V mX11_joins gShM (some .int) (some (.int o.1)) o.2) : gG X V mX11_joins gShM M0 0 0 0 [(0, .ref (gAd V 0)), (1, .int x1), (2, .int x2), (3, .int x3)] [] := by
  unfold fX11_joins at h
  refine g_aload_n 0 rfl rfl dX11_joins_0 ?_
  refine g_getR FX11_9 sM_0 rfl dX11_joins_1 ?_
  refine g_iconst (v := 0) rfl dX11_joins_4 ?_
  obtain ⟨v1, ev1, h⟩ := g_bnd h
  refine g_iald' ev1 sM_1 dX11_joins_5 ?_
  refine g_istore (ls' := [(4, .int v1), (0, .ref (gAd V 0)), (1, .int x1), (2, .int x2), (3, .int x3)]) (Nat.le_of_ble_eq_true rfl) rfl dX11_joins_6 ?_
  refine g_aload_n 1 rfl rfl dX11_joins_8 ?_
  refine g_iload 0 rfl dX11_joins_9 ?_
  refine g_iconst (v := 0) rfl dX11_joins_11 ?_
  refine g_iload_n 4 rfl rfl dX11_joins_12 ?_
  obtain ⟨v2, ev2, h⟩ := g_bnd h
  refine g_callV LX11_78 sM_0 rfl (kX11_puts ev2) rfl rfl (Nat.le_of_ble_eq_true rfl) ⟨Nat.le_of_ble_eq_true rfl, Nat.le_of_ble_eq_true rfl⟩ ⟨Nat.le_of_ble_eq_true rfl, Nat.le_of_ble_eq_true rfl⟩ dX11_joins_13 rfl ?_
  refine g_aload_n 1 rfl rfl dX11_joins_16 ?_
  refine g_iload 0 rfl dX11_joins_17 ?_
  refine g_iconst (v := 1) rfl dX11_joins_19 ?_
  refine g_iload 0 rfl dX11_joins_20 ?_
  obtain ⟨v3, ev3, h⟩ := g_bnd h
  refine g_callV LX11_78 sM_0 rfl (kX11_puts ev3) rfl rfl (Nat.le_of_ble_eq_true rfl) ⟨Nat.le_of_ble_eq_true rfl, Nat.le_of_ble_eq_true rfl⟩ ⟨Nat.le_of_ble_eq_true rfl, Nat.le_of_ble_eq_true rfl⟩ dX11_joins_22 rfl ?_
  refine g_aload_n 1 rfl rfl dX11_joins_25 ?_
  refine g_iload 0 rfl dX11_joins_26 ?_
  refine g_iconst (v := 2) rfl dX11_joins_28 ?_
  refine g_iload_n 3 rfl rfl dX11_joins_29 ?_
  obtain ⟨v4, ev4, h⟩ := g_bnd h
  refine g_callV LX11_78 sM_0 rfl (kX11_puts ev4) rfl rfl (Nat.le_of_ble_eq_true rfl) ⟨Nat.le_of_ble_eq_true rfl, Nat.le_of_ble_eq_true rfl⟩ ⟨Nat.le_of_ble_eq_true rfl, Nat.le_of_ble_eq_true rfl⟩ dX11_joins_30 rfl ?_
  refine g_iconst (v := 0) rfl dX11_joins_33 ?_
  refine g_istore (ls' := [(5, .int (0 : Int32)), (4, .int v1), (0, .ref (gAd V 0)), (1, .int x1), (2, .int x2), (3, .int x3)]) (Nat.le_of_ble_eq_true rfl) rfl dX11_joins_34 ?_
  obtain ⟨w9, ew9, h⟩ := g_bnd h
  refine g_sub [2, 3, 4, 1, 0] rfl ?_
  have KX : gG X V mX11_joins gShM w9 0 0 78 [(0, .ref (gAd V 0)), (4, .int v1)] [] := by
    refine g_aload_n 0 rfl rfl dX11_joins_78 ?_
    refine g_getR FX11_9 sM_0 rfl dX11_joins_79 ?_
    refine g_bipush (v := 14) rfl dX11_joins_82 ?_
    refine g_aload_n 0 rfl rfl dX11_joins_84 ?_
    refine g_getR FX11_9 sM_0 rfl dX11_joins_85 ?_
    refine g_iconst (v := 2) rfl dX11_joins_88 ?_
    obtain ⟨v10, ev10, h⟩ := g_bnd h
    refine g_iald' ev10 sM_1 dX11_joins_89 ?_
    refine g_iadd dX11_joins_90 ?_
    refine g_iload 1 rfl dX11_joins_91 ?_
    obtain ⟨M11, eM11, h⟩ := g_bnd h
    refine g_iast' eM11 sM_1 dX11_joins_93 ?_
    refine g_aload_n 0 rfl rfl dX11_joins_94 ?_
    refine g_getR FX11_9 sM_0 rfl dX11_joins_95 ?_
    refine g_iconst (v := 2) rfl dX11_joins_98 ?_
    refine g_dup2 rfl rfl dX11_joins_99 ?_
    obtain ⟨v12, ev12, h⟩ := g_bnd h
    refine g_iald' ev12 sM_1 dX11_joins_100 ?_
    refine g_iconst (v := 1) rfl dX11_joins_101 ?_
    refine g_iadd dX11_joins_102 ?_
    obtain ⟨M13, eM13, h⟩ := g_bnd h
    refine g_iast' eM13 sM_1 dX11_joins_103 ?_
    refine g_aload_n 0 rfl rfl dX11_joins_104 ?_
    refine g_getR FX11_9 sM_0 rfl dX11_joins_105 ?_
    refine g_iconst (v := 0) rfl dX11_joins_108 ?_
    refine g_dup2 rfl rfl dX11_joins_109 ?_
    obtain ⟨v14, ev14, h⟩ := g_bnd h
    refine g_iald' ev14 sM_1 dX11_joins_110 ?_
    refine g_iconst (v := 1) rfl dX11_joins_111 ?_
    refine g_iadd dX11_joins_112 ?_
    obtain ⟨M15, eM15, h⟩ := g_bnd h
    refine g_iast' eM15 sM_1 dX11_joins_113 ?_
    refine g_iload 1 rfl dX11_joins_114 ?_
    cases h
    exact g_iret O ⟨Nat.le_of_ble_eq_true rfl, Nat.le_of_ble_eq_true rfl⟩ rfl dX11_joins_116
  exact gLoop_Q ew9 (fun z9 => gG X V mX11_joins gShM z9.2 0 0 36 [(0, .ref (gAd V 0)), (1, .int x1), (2, .int x2), (4, .int v1), (5, .int z9.1)] []) (fun s9 o9 hb9 hc9 hx9 => tX11_joins_l36  hb9 hc9 (fun e9 he9 => by cases hx9 _ he9; exact KX))
theorem kX11_joins {l : Launch} {V : gEnv} {M0 : gMem} {x1 : Int32} {x2 : Int32} {x3 : Int32}  {o : (Int32 × gMem)} (h : fX11_joins x1 x2 x3 M0 = some o) : gM l yX11_joins cX11_joins 6 (some .int) rX11_joins V gShM [.ref (gAd V 0), .int x1, .int x2, .int x3] M0 (some (.int o.1)) o.2 :=
  gM.of (by decide) (Nat.le_of_ble_eq_true rfl) rfl (fun X _ O => tX11_joins  h O)
theorem dX11_named_0 : decode cX11_named 0 = .ok (.iconst 0, 1) := by decide +kernel
theorem dX11_named_1 : decode cX11_named 1 = .ok (.istore_n 3, 1) := by decide +kernel
theorem dX11_named_2 : decode cX11_named 2 = .ok (.iload_n 3, 1) := by decide +kernel
theorem dX11_named_3 : decode cX11_named 3 = .ok (.aload_n 0, 1) := by decide +kernel
theorem dX11_named_4 : decode cX11_named 4 = .ok (.getfield 9, 3) := by decide +kernel
theorem dX11_named_7 : decode cX11_named 7 = .ok (.iconst 0, 1) := by decide +kernel
theorem dX11_named_8 : decode cX11_named 8 = .ok (.iaload, 1) := by decide +kernel
theorem dX11_named_9 : decode cX11_named 9 = .ok (.if_icmp .ge 81, 3) := by decide +kernel
theorem dX11_named_12 : decode cX11_named 12 = .ok (.aload_n 0, 1) := by decide +kernel
theorem dX11_named_13 : decode cX11_named 13 = .ok (.iload_n 3, 1) := by decide +kernel
theorem dX11_named_14 : decode cX11_named 14 = .ok (.iconst 2, 1) := by decide +kernel
theorem dX11_named_15 : decode cX11_named 15 = .ok (.invokevirtual 82, 3) := by decide +kernel
theorem dX11_named_18 : decode cX11_named 18 = .ok (.iload_n 2, 1) := by decide +kernel
theorem dX11_named_19 : decode cX11_named 19 = .ok (.if_icmp .ne 7, 3) := by decide +kernel
theorem dX11_named_22 : decode cX11_named 22 = .ok (.iconst 1, 1) := by decide +kernel
theorem dX11_named_23 : decode cX11_named 23 = .ok (.goto 4, 3) := by decide +kernel
theorem dX11_named_26 : decode cX11_named 26 = .ok (.iconst 0, 1) := by decide +kernel
theorem dX11_named_27 : decode cX11_named 27 = .ok (.istore 4, 2) := by decide +kernel
theorem dX11_named_29 : decode cX11_named 29 = .ok (.iconst 0, 1) := by decide +kernel
theorem dX11_named_30 : decode cX11_named 30 = .ok (.istore 5, 2) := by decide +kernel
theorem dX11_named_32 : decode cX11_named 32 = .ok (.iload 5, 2) := by decide +kernel
theorem dX11_named_34 : decode cX11_named 34 = .ok (.iload_n 2, 1) := by decide +kernel
theorem dX11_named_35 : decode cX11_named 35 = .ok (.if_icmp .ge 42, 3) := by decide +kernel
theorem dX11_named_38 : decode cX11_named 38 = .ok (.iload 4, 2) := by decide +kernel
theorem dX11_named_40 : decode cX11_named 40 = .ok (.ifCond .eq 37, 3) := by decide +kernel
theorem dX11_named_43 : decode cX11_named 43 = .ok (.aload_n 0, 1) := by decide +kernel
theorem dX11_named_44 : decode cX11_named 44 = .ok (.iload_n 3, 1) := by decide +kernel
theorem dX11_named_45 : decode cX11_named 45 = .ok (.iconst 3, 1) := by decide +kernel
theorem dX11_named_46 : decode cX11_named 46 = .ok (.iload 5, 2) := by decide +kernel
theorem dX11_named_48 : decode cX11_named 48 = .ok (.iadd, 1) := by decide +kernel
theorem dX11_named_49 : decode cX11_named 49 = .ok (.invokevirtual 82, 3) := by decide +kernel
theorem dX11_named_52 : decode cX11_named 52 = .ok (.aload_n 0, 1) := by decide +kernel
theorem dX11_named_53 : decode cX11_named 53 = .ok (.getfield 43, 3) := by decide +kernel
theorem dX11_named_56 : decode cX11_named 56 = .ok (.iload_n 1, 1) := by decide +kernel
theorem dX11_named_57 : decode cX11_named 57 = .ok (.iload 5, 2) := by decide +kernel
theorem dX11_named_59 : decode cX11_named 59 = .ok (.iadd, 1) := by decide +kernel
theorem dX11_named_60 : decode cX11_named 60 = .ok (.iaload, 1) := by decide +kernel
theorem dX11_named_61 : decode cX11_named 61 = .ok (.if_icmp .ne 7, 3) := by decide +kernel
theorem dX11_named_64 : decode cX11_named 64 = .ok (.iconst 1, 1) := by decide +kernel
theorem dX11_named_65 : decode cX11_named 65 = .ok (.goto 4, 3) := by decide +kernel
theorem dX11_named_68 : decode cX11_named 68 = .ok (.iconst 0, 1) := by decide +kernel
theorem dX11_named_69 : decode cX11_named 69 = .ok (.istore 4, 2) := by decide +kernel
theorem dX11_named_71 : decode cX11_named 71 = .ok (.iinc 5 1, 3) := by decide +kernel
theorem dX11_named_74 : decode cX11_named 74 = .ok (.goto (-42), 3) := by decide +kernel
theorem dX11_named_77 : decode cX11_named 77 = .ok (.iload 4, 2) := by decide +kernel
theorem dX11_named_79 : decode cX11_named 79 = .ok (.ifCond .eq 5, 3) := by decide +kernel
theorem dX11_named_82 : decode cX11_named 82 = .ok (.iload_n 3, 1) := by decide +kernel
theorem dX11_named_83 : decode cX11_named 83 = .ok (.ireturn, 1) := by decide +kernel
theorem dX11_named_84 : decode cX11_named 84 = .ok (.iinc 3 1, 3) := by decide +kernel
theorem dX11_named_87 : decode cX11_named 87 = .ok (.goto (-85), 3) := by decide +kernel
theorem dX11_named_90 : decode cX11_named 90 = .ok (.iconst (-1), 1) := by decide +kernel
theorem dX11_named_91 : decode cX11_named 91 = .ok (.ireturn, 1) := by decide +kernel
abbrev rX11_named : Room := { frames := 1, cells := 0, slots := 0, locals := 22 }
abbrev mX11_named : gY := (cX11_named, RX11, 6, rX11_named)
def fX11_named_l32 (x1 : Int32) (x2 : Int32) (x3 : Int32) (M0 : gMem) (x4 : Int32) (x5 : Int32) : Option ((Int32 × Int32) ⊕ Int32) :=
  if x2 ≤ x5 then (some (.inr x4)) else if x4 = 0 then (some (.inr x4)) else (fX11_of x3 ((3 : Int32) + x5) M0).bind fun v8 => (rI M0 12 900 (x1 + x5)).bind fun v9 => (nm (if v8 = v9 then (1 : Int32) else (0 : Int32))).bind fun v11 => some (.inl (v11, x5 + (1 : Int32)))
set_option maxRecDepth 20000 in
theorem tX11_named_l32 {X : gX} {V : gEnv} {x1 : Int32} {x2 : Int32} {x3 : Int32} {M0 : gMem} {x4 : Int32} {x5 : Int32}  {o : ((Int32 × Int32) ⊕ Int32)} (h : fX11_named_l32 x1 x2 x3 M0 x4 x5 = some o) (Kc : ∀ s9, o = .inl s9 → gG X V mX11_named gShM M0 0 0 32 [(0, .ref (gAd V 0)), (1, .int x1), (2, .int x2), (3, .int x3), (4, .int s9.1), (5, .int s9.2)] []) (Kx : ∀ e9, o = .inr e9 → gG X V mX11_named gShM M0 0 0 77 [(0, .ref (gAd V 0)), (1, .int x1), (2, .int x2), (3, .int x3), (4, .int e9)] []) : gG X V mX11_named gShM M0 0 0 32 [(0, .ref (gAd V 0)), (1, .int x1), (2, .int x2), (3, .int x3), (4, .int x4), (5, .int x5)] [] := by
  unfold fX11_named_l32 at h
  refine g_iload 5 rfl dX11_named_32 ?_
  refine g_iload_n 2 rfl rfl dX11_named_34 ?_
  rcases g_ite h with ⟨c6, h⟩ | ⟨c6, h⟩
  · refine g_icmp_ge_t c6 (tgt := 77) rfl dX11_named_35 ?_
    cases h
    refine g_sub [0, 1, 2, 3, 4] rfl ?_
    exact Kx x4 rfl
  · refine g_icmp_ge_f c6 (tgt := 77) rfl dX11_named_35 ?_
    refine g_iload 4 rfl dX11_named_38 ?_
    rcases g_ite h with ⟨c7, h⟩ | ⟨c7, h⟩
    · refine g_if_eq_t c7 (tgt := 77) rfl dX11_named_40 ?_
      cases h
      refine g_sub [0, 1, 2, 3, 4] rfl ?_
      exact Kx x4 rfl
    · refine g_if_eq_f c7 (tgt := 77) rfl dX11_named_40 ?_
      refine g_aload_n 0 rfl rfl dX11_named_43 ?_
      refine g_iload_n 3 rfl rfl dX11_named_44 ?_
      refine g_iconst (v := 3) rfl dX11_named_45 ?_
      refine g_iload 5 rfl dX11_named_46 ?_
      refine g_iadd dX11_named_48 ?_
      obtain ⟨v8, ev8, h⟩ := g_bnd h
      refine g_callV LX11_82 sM_0 rfl (kX11_of ev8) rfl rfl (Nat.le_of_ble_eq_true rfl) ⟨Nat.le_of_ble_eq_true rfl, Nat.le_of_ble_eq_true rfl⟩ ⟨Nat.le_of_ble_eq_true rfl, Nat.le_of_ble_eq_true rfl⟩ dX11_named_49 rfl ?_
      refine g_aload_n 0 rfl rfl dX11_named_52 ?_
      refine g_getR FX11_43 sM_0 rfl dX11_named_53 ?_
      refine g_iload_n 1 rfl rfl dX11_named_56 ?_
      refine g_iload 5 rfl dX11_named_57 ?_
      refine g_iadd dX11_named_59 ?_
      obtain ⟨v9, ev9, h⟩ := g_bnd h
      refine g_iald' ev9 sM_12 dX11_named_60 ?_
      have KJ : gG X V mX11_named gShM M0 0 0 69 [(0, .ref (gAd V 0)), (1, .int x1), (2, .int x2), (3, .int x3), (4, .int x4), (5, .int x5)] [.int (if v8 = v9 then (1 : Int32) else (0 : Int32))] := by
        obtain ⟨v11, ev11, h⟩ := g_bnd h
        refine g_nmI ev11 ?_
        refine g_istore (ls' := [(4, .int v11), (0, .ref (gAd V 0)), (1, .int x1), (2, .int x2), (3, .int x3), (5, .int x5)]) (Nat.le_of_ble_eq_true rfl) rfl dX11_named_69 ?_
        refine g_iinc (j := 5) (v := x5 + (1 : Int32)) (ls' := [(5, .int (x5 + (1 : Int32))), (4, .int v11), (0, .ref (gAd V 0)), (1, .int x1), (2, .int x2), (3, .int x3)]) rfl rfl (Nat.le_of_ble_eq_true rfl) rfl dX11_named_71 ?_
        refine g_goto (tgt := 32) rfl dX11_named_74 ?_
        cases h
        refine g_sub [2, 3, 4, 5, 1, 0] rfl ?_
        exact Kc (v11, x5 + (1 : Int32)) rfl
      by_cases c10 : v8 = v9
      · rw [if_pos c10] at KJ
        refine g_icmp_ne_f c10 (tgt := 68) rfl dX11_named_61 ?_
        refine g_iconst (v := 1) rfl dX11_named_64 ?_
        refine g_goto (tgt := 69) rfl dX11_named_65 ?_
        exact KJ
      · rw [if_neg c10] at KJ
        refine g_icmp_ne_t c10 (tgt := 68) rfl dX11_named_61 ?_
        refine g_iconst (v := 0) rfl dX11_named_68 ?_
        exact KJ
def fX11_named_b77 (x1 : Int32) (x2 : Int32) (x3 : Int32) (x4 : Int32) (M0 : gMem) : Option (Int32 ⊕ (Unit ⊕ Int32)) :=
  if x4 = 0 then (some (.inl (x3 + (1 : Int32)))) else some (.inr (.inr x3))
set_option maxRecDepth 20000 in
theorem tX11_named_b77 {X : gX} {V : gEnv} {x1 : Int32} {x2 : Int32} {x3 : Int32} {x4 : Int32} {M0 : gMem}  {o : (Int32 ⊕ (Unit ⊕ Int32))} (h : fX11_named_b77 x1 x2 x3 x4 M0 = some o) (Kc : ∀ s9, o = .inl s9 → gG X V mX11_named gShM M0 0 0 2 [(0, .ref (gAd V 0)), (1, .int x1), (2, .int x2), (3, .int s9)] []) (Kx : ∀ e9, o = .inr (.inl e9) → gG X V mX11_named gShM M0 0 0 90 [] []) (Kr : ∀ r9, o = .inr (.inr r9) → gO X V mX11_named gShM (some .int) (some (.int r9)) M0) : gG X V mX11_named gShM M0 0 0 77 [(0, .ref (gAd V 0)), (1, .int x1), (2, .int x2), (3, .int x3), (4, .int x4)] [] := by
  unfold fX11_named_b77 at h
  refine g_iload 4 rfl dX11_named_77 ?_
  rcases g_ite h with ⟨c13, h⟩ | ⟨c13, h⟩
  · refine g_if_eq_t c13 (tgt := 84) rfl dX11_named_79 ?_
    refine g_iinc (j := 3) (v := x3 + (1 : Int32)) (ls' := [(3, .int (x3 + (1 : Int32))), (0, .ref (gAd V 0)), (1, .int x1), (2, .int x2), (4, .int x4)]) rfl rfl (Nat.le_of_ble_eq_true rfl) rfl dX11_named_84 ?_
    refine g_goto (tgt := 2) rfl dX11_named_87 ?_
    cases h
    refine g_sub [1, 2, 3, 0] rfl ?_
    exact Kc (x3 + (1 : Int32)) rfl
  · refine g_if_eq_f c13 (tgt := 84) rfl dX11_named_79 ?_
    refine g_iload_n 3 rfl rfl dX11_named_82 ?_
    cases h
    exact g_iret (Kr x3 rfl) ⟨Nat.le_of_ble_eq_true rfl, Nat.le_of_ble_eq_true rfl⟩ rfl dX11_named_83
def fX11_named_l2 (x1 : Int32) (x2 : Int32) (M0 : gMem) (x3 : Int32) : Option (Int32 ⊕ (Unit ⊕ Int32)) :=
  (rI M0 1 374 (0 : Int32)).bind fun v1 => if v1 ≤ x3 then (some (.inr (.inl ()))) else (fX11_of x3 (2 : Int32) M0).bind fun v3 => (nm (if v3 = x2 then (1 : Int32) else (0 : Int32))).bind fun v5 => (gLoop (fun z9 => fX11_named_l32 x1 x2 x3 M0 z9.1 z9.2) gFu (v5, (0 : Int32))).bind fun w12 => fX11_named_b77 x1 x2 x3 w12 M0
set_option maxRecDepth 20000 in
theorem tX11_named_l2 {X : gX} {V : gEnv} {x1 : Int32} {x2 : Int32} {M0 : gMem} {x3 : Int32}  {o : (Int32 ⊕ (Unit ⊕ Int32))} (h : fX11_named_l2 x1 x2 M0 x3 = some o) (Kc : ∀ s9, o = .inl s9 → gG X V mX11_named gShM M0 0 0 2 [(0, .ref (gAd V 0)), (1, .int x1), (2, .int x2), (3, .int s9)] []) (Kx : ∀ e9, o = .inr (.inl e9) → gG X V mX11_named gShM M0 0 0 90 [] []) (Kr : ∀ r9, o = .inr (.inr r9) → gO X V mX11_named gShM (some .int) (some (.int r9)) M0) : gG X V mX11_named gShM M0 0 0 2 [(0, .ref (gAd V 0)), (1, .int x1), (2, .int x2), (3, .int x3)] [] := by
  unfold fX11_named_l2 at h
  refine g_iload_n 3 rfl rfl dX11_named_2 ?_
  refine g_aload_n 0 rfl rfl dX11_named_3 ?_
  refine g_getR FX11_9 sM_0 rfl dX11_named_4 ?_
  refine g_iconst (v := 0) rfl dX11_named_7 ?_
  obtain ⟨v1, ev1, h⟩ := g_bnd h
  refine g_iald' ev1 sM_1 dX11_named_8 ?_
  rcases g_ite h with ⟨c2, h⟩ | ⟨c2, h⟩
  · refine g_icmp_ge_t c2 (tgt := 90) rfl dX11_named_9 ?_
    cases h
    refine g_sub [] rfl ?_
    exact Kx () rfl
  · refine g_icmp_ge_f c2 (tgt := 90) rfl dX11_named_9 ?_
    refine g_aload_n 0 rfl rfl dX11_named_12 ?_
    refine g_iload_n 3 rfl rfl dX11_named_13 ?_
    refine g_iconst (v := 2) rfl dX11_named_14 ?_
    obtain ⟨v3, ev3, h⟩ := g_bnd h
    refine g_callV LX11_82 sM_0 rfl (kX11_of ev3) rfl rfl (Nat.le_of_ble_eq_true rfl) ⟨Nat.le_of_ble_eq_true rfl, Nat.le_of_ble_eq_true rfl⟩ ⟨Nat.le_of_ble_eq_true rfl, Nat.le_of_ble_eq_true rfl⟩ dX11_named_15 rfl ?_
    refine g_iload_n 2 rfl rfl dX11_named_18 ?_
    have KJ : gG X V mX11_named gShM M0 0 0 27 [(0, .ref (gAd V 0)), (1, .int x1), (2, .int x2), (3, .int x3)] [.int (if v3 = x2 then (1 : Int32) else (0 : Int32))] := by
      obtain ⟨v5, ev5, h⟩ := g_bnd h
      refine g_nmI ev5 ?_
      refine g_istore (ls' := [(4, .int v5), (0, .ref (gAd V 0)), (1, .int x1), (2, .int x2), (3, .int x3)]) (Nat.le_of_ble_eq_true rfl) rfl dX11_named_27 ?_
      refine g_iconst (v := 0) rfl dX11_named_29 ?_
      refine g_istore (ls' := [(5, .int (0 : Int32)), (4, .int v5), (0, .ref (gAd V 0)), (1, .int x1), (2, .int x2), (3, .int x3)]) (Nat.le_of_ble_eq_true rfl) rfl dX11_named_30 ?_
      obtain ⟨w12, ew12, h⟩ := g_bnd h
      refine g_sub [2, 3, 4, 5, 1, 0] rfl ?_
      have KX : gG X V mX11_named gShM M0 0 0 77 [(0, .ref (gAd V 0)), (1, .int x1), (2, .int x2), (3, .int x3), (4, .int w12)] [] := by
        exact tX11_named_b77  h Kc Kx Kr
      exact gLoop_Q ew12 (fun z9 => gG X V mX11_named gShM M0 0 0 32 [(0, .ref (gAd V 0)), (1, .int x1), (2, .int x2), (3, .int x3), (4, .int z9.1), (5, .int z9.2)] []) (fun s9 o9 hb9 hc9 hx9 => tX11_named_l32  hb9 hc9 (fun e9 he9 => by cases hx9 _ he9; exact KX))
    by_cases c4 : v3 = x2
    · rw [if_pos c4] at KJ
      refine g_icmp_ne_f c4 (tgt := 26) rfl dX11_named_19 ?_
      refine g_iconst (v := 1) rfl dX11_named_22 ?_
      refine g_goto (tgt := 27) rfl dX11_named_23 ?_
      exact KJ
    · rw [if_neg c4] at KJ
      refine g_icmp_ne_t c4 (tgt := 26) rfl dX11_named_19 ?_
      refine g_iconst (v := 0) rfl dX11_named_26 ?_
      exact KJ
def fX11_named (x1 : Int32) (x2 : Int32) (M0 : gMem) : Option Int32 :=
  (gLoop (fun z9 => fX11_named_l2 x1 x2 M0 z9) gFu (0 : Int32)).bind fun w14 => gSE w14 (fun y15 => some (-1 : Int32)) (fun r16 => some r16)
set_option maxRecDepth 20000 in
theorem tX11_named {X : gX} {V : gEnv} {x1 : Int32} {x2 : Int32} {M0 : gMem}  {o : Int32} (h : fX11_named x1 x2 M0 = some o) (O : gO X V mX11_named gShM (some .int) (some (.int o)) M0) : gG X V mX11_named gShM M0 0 0 0 [(0, .ref (gAd V 0)), (1, .int x1), (2, .int x2)] [] := by
  unfold fX11_named at h
  refine g_iconst (v := 0) rfl dX11_named_0 ?_
  refine g_istore_n (ls' := [(3, .int (0 : Int32)), (0, .ref (gAd V 0)), (1, .int x1), (2, .int x2)]) rfl (Nat.le_of_ble_eq_true rfl) rfl dX11_named_1 ?_
  obtain ⟨w14, ew14, h⟩ := g_bnd h
  refine g_sub [1, 2, 3, 0] rfl ?_
  rcases w14 with y15 | r16
  · have h := g_sl h
    have KX : gG X V mX11_named gShM M0 0 0 90 [] [] := by
      refine g_iconst (v := -1) rfl dX11_named_90 ?_
      cases h
      exact g_iret O ⟨Nat.le_of_ble_eq_true rfl, Nat.le_of_ble_eq_true rfl⟩ rfl dX11_named_91
    exact gLoop_Q ew14 (fun z9 => gG X V mX11_named gShM M0 0 0 2 [(0, .ref (gAd V 0)), (1, .int x1), (2, .int x2), (3, .int z9)] []) (fun s9 o9 hb9 hc9 hx9 => tX11_named_l2  hb9 hc9 (fun e9 he9 => by cases hx9 _ he9; exact KX) (fun r9 he9 => by cases hx9 _ he9))
  · have h := g_sr h
    cases h
    exact gLoop_Q ew14 (fun z9 => gG X V mX11_named gShM M0 0 0 2 [(0, .ref (gAd V 0)), (1, .int x1), (2, .int x2), (3, .int z9)] []) (fun s9 o9 hb9 hc9 hx9 => tX11_named_l2  hb9 hc9 (fun e9 he9 => by cases hx9 _ he9) (fun r9 he9 => by cases hx9 _ he9; exact O))
theorem kX11_named {l : Launch} {V : gEnv} {M0 : gMem} {x1 : Int32} {x2 : Int32}  {o : Int32} (h : fX11_named x1 x2 M0 = some o) : gM l yX11_named cX11_named 6 (some .int) rX11_named V gShM [.ref (gAd V 0), .int x1, .int x2] M0 (some (.int o)) M0 :=
  gM.of (by decide) (Nat.le_of_ble_eq_true rfl) rfl (fun X _ O => tX11_named  h O)
