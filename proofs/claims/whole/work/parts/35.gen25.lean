/-! METHODS, by program: pure functions and contracts -/
theorem dX2_largestGroup_0 : decode cX2_largestGroup 0 = .ok (.iconst 0, 1) := by decide +kernel
theorem dX2_largestGroup_1 : decode cX2_largestGroup 1 = .ok (.istore_n 1, 1) := by decide +kernel
theorem dX2_largestGroup_2 : decode cX2_largestGroup 2 = .ok (.iconst 0, 1) := by decide +kernel
theorem dX2_largestGroup_3 : decode cX2_largestGroup 3 = .ok (.istore_n 2, 1) := by decide +kernel
theorem dX2_largestGroup_4 : decode cX2_largestGroup 4 = .ok (.iload_n 2, 1) := by decide +kernel
theorem dX2_largestGroup_5 : decode cX2_largestGroup 5 = .ok (.aload_n 0, 1) := by decide +kernel
theorem dX2_largestGroup_6 : decode cX2_largestGroup 6 = .ok (.getfield 47, 3) := by decide +kernel
theorem dX2_largestGroup_9 : decode cX2_largestGroup 9 = .ok (.if_icmp .ge 23, 3) := by decide +kernel
theorem dX2_largestGroup_12 : decode cX2_largestGroup 12 = .ok (.iload_n 1, 1) := by decide +kernel
theorem dX2_largestGroup_13 : decode cX2_largestGroup 13 = .ok (.aload_n 0, 1) := by decide +kernel
theorem dX2_largestGroup_14 : decode cX2_largestGroup 14 = .ok (.getfield 31, 3) := by decide +kernel
theorem dX2_largestGroup_17 : decode cX2_largestGroup 17 = .ok (.iload_n 2, 1) := by decide +kernel
theorem dX2_largestGroup_18 : decode cX2_largestGroup 18 = .ok (.iaload, 1) := by decide +kernel
theorem dX2_largestGroup_19 : decode cX2_largestGroup 19 = .ok (.invokestatic 83, 3) := by decide +kernel
theorem dX2_largestGroup_22 : decode cX2_largestGroup 22 = .ok (.invokestatic 89, 3) := by decide +kernel
theorem dX2_largestGroup_25 : decode cX2_largestGroup 25 = .ok (.istore_n 1, 1) := by decide +kernel
theorem dX2_largestGroup_26 : decode cX2_largestGroup 26 = .ok (.iinc 2 1, 3) := by decide +kernel
theorem dX2_largestGroup_29 : decode cX2_largestGroup 29 = .ok (.goto (-25), 3) := by decide +kernel
theorem dX2_largestGroup_32 : decode cX2_largestGroup 32 = .ok (.iload_n 1, 1) := by decide +kernel
theorem dX2_largestGroup_33 : decode cX2_largestGroup 33 = .ok (.ireturn, 1) := by decide +kernel
abbrev rX2_largestGroup : Room := { frames := 1, cells := 0, slots := 0, locals := 30 }
abbrev mX2_largestGroup : gY := (cX2_largestGroup, RX2, 3, rX2_largestGroup)
def fX2_largestGroup_l4 (t0 : Nat) (M0 : gMem) (x1 : Int32) (x2 : Int32) : Option ((Int32 × Int32) ⊕ Int32) :=
  if (M0.1 t0 11) ≤ x2 then (some (.inr x1)) else (rI M0 (t0 + 7) 24 x2).bind fun v2 => (fJ6_bitCount_0f7a4 v2).bind fun v3 => (nm (if x1 < v3 then v3 else x1)).bind fun v4 => some (.inl (v4, x2 + (1 : Int32)))
set_option maxRecDepth 20000 in
theorem tX2_largestGroup_l4 {X : gX} {V : gEnv} {t0 : Nat} {M0 : gMem} {x1 : Int32} {x2 : Int32} (ht0 : gNet gShC t0) {o : ((Int32 × Int32) ⊕ Int32)} (h : fX2_largestGroup_l4 t0 M0 x1 x2 = some o) (Kc : ∀ s9, o = .inl s9 → gG X V mX2_largestGroup gShC M0 0 0 4 [(0, .ref (gAd V t0)), (1, .int s9.1), (2, .int s9.2)] []) (Kx : ∀ e9, o = .inr e9 → gG X V mX2_largestGroup gShC M0 0 0 32 [(1, .int e9)] []) : gG X V mX2_largestGroup gShC M0 0 0 4 [(0, .ref (gAd V t0)), (1, .int x1), (2, .int x2)] [] := by
  unfold fX2_largestGroup_l4 at h
  refine g_iload_n 2 rfl rfl dX2_largestGroup_4 ?_
  refine g_aload_n 0 rfl rfl dX2_largestGroup_5 ?_
  refine g_getI FX2_47 ht0.1 rfl dX2_largestGroup_6 ?_
  rcases g_ite h with ⟨c1, h⟩ | ⟨c1, h⟩
  · refine g_icmp_ge_t c1 (tgt := 32) rfl dX2_largestGroup_9 ?_
    cases h
    refine g_sub [1] rfl ?_
    exact Kx x1 rfl
  · refine g_icmp_ge_f c1 (tgt := 32) rfl dX2_largestGroup_9 ?_
    refine g_iload_n 1 rfl rfl dX2_largestGroup_12 ?_
    refine g_aload_n 0 rfl rfl dX2_largestGroup_13 ?_
    refine g_getR FX2_31 ht0.1 rfl dX2_largestGroup_14 ?_
    refine g_iload_n 2 rfl rfl dX2_largestGroup_17 ?_
    obtain ⟨v2, ev2, h⟩ := g_bnd h
    refine g_iald' ev2 ht0.2.2.2.2.2.2.2.1 dX2_largestGroup_18 ?_
    obtain ⟨v3, ev3, h⟩ := g_bnd h
    refine g_callS LX2_83 (kJ6_bitCount_0f7a4 ev3) rfl rfl (Nat.le_of_ble_eq_true rfl) ⟨Nat.le_of_ble_eq_true rfl, Nat.le_of_ble_eq_true rfl⟩ ⟨Nat.le_of_ble_eq_true rfl, Nat.le_of_ble_eq_true rfl⟩ dX2_largestGroup_19 rfl ?_
    refine g_max ZmaxX2_89 Zmax_s Zm_i Zmax_c ⟨Nat.le_of_ble_eq_true rfl, Nat.le_of_ble_eq_true rfl⟩ ⟨Nat.le_of_ble_eq_true rfl, Nat.le_of_ble_eq_true rfl⟩ dX2_largestGroup_22 ?_
    obtain ⟨v4, ev4, h⟩ := g_bnd h
    refine g_nmI ev4 ?_
    refine g_istore_n (ls' := [(1, .int v4), (0, .ref (gAd V t0)), (2, .int x2)]) rfl (Nat.le_of_ble_eq_true rfl) rfl dX2_largestGroup_25 ?_
    refine g_iinc (j := 2) (v := x2 + (1 : Int32)) (ls' := [(2, .int (x2 + (1 : Int32))), (1, .int v4), (0, .ref (gAd V t0))]) rfl rfl (Nat.le_of_ble_eq_true rfl) rfl dX2_largestGroup_26 ?_
    refine g_goto (tgt := 4) rfl dX2_largestGroup_29 ?_
    cases h
    refine g_sub [2, 1, 0] rfl ?_
    exact Kc (v4, x2 + (1 : Int32)) rfl
def fX2_largestGroup (t0 : Nat) (M0 : gMem) : Option Int32 :=
  (gLoop (fun z9 => fX2_largestGroup_l4 t0 M0 z9.1 z9.2) gFu ((0 : Int32), (0 : Int32))).bind fun w5 => some w5
set_option maxRecDepth 20000 in
theorem tX2_largestGroup {X : gX} {V : gEnv} {t0 : Nat} {M0 : gMem} (ht0 : gNet gShC t0) {o : Int32} (h : fX2_largestGroup t0 M0 = some o) (O : gO X V mX2_largestGroup gShC (some .int) (some (.int o)) M0) : gG X V mX2_largestGroup gShC M0 0 0 0 [(0, .ref (gAd V t0))] [] := by
  unfold fX2_largestGroup at h
  refine g_iconst (v := 0) rfl dX2_largestGroup_0 ?_
  refine g_istore_n (ls' := [(1, .int (0 : Int32)), (0, .ref (gAd V t0))]) rfl (Nat.le_of_ble_eq_true rfl) rfl dX2_largestGroup_1 ?_
  refine g_iconst (v := 0) rfl dX2_largestGroup_2 ?_
  refine g_istore_n (ls' := [(2, .int (0 : Int32)), (1, .int (0 : Int32)), (0, .ref (gAd V t0))]) rfl (Nat.le_of_ble_eq_true rfl) rfl dX2_largestGroup_3 ?_
  obtain ⟨w5, ew5, h⟩ := g_bnd h
  refine g_sub [2, 1, 0] rfl ?_
  have KX : gG X V mX2_largestGroup gShC M0 0 0 32 [(1, .int w5)] [] := by
    refine g_iload_n 0 rfl rfl dX2_largestGroup_32 ?_
    cases h
    exact g_iret O ⟨Nat.le_of_ble_eq_true rfl, Nat.le_of_ble_eq_true rfl⟩ rfl dX2_largestGroup_33
  exact gLoop_Q ew5 (fun z9 => gG X V mX2_largestGroup gShC M0 0 0 4 [(0, .ref (gAd V t0)), (1, .int z9.1), (2, .int z9.2)] []) (fun s9 o9 hb9 hc9 hx9 => tX2_largestGroup_l4 ht0 hb9 hc9 (fun e9 he9 => by cases hx9 _ he9; exact KX))
theorem kX2_largestGroup {l : Launch} {V : gEnv} {M0 : gMem} {t0 : Nat} (ht0 : gNet gShC t0) {o : Int32} (h : fX2_largestGroup t0 M0 = some o) : gM l yX2_largestGroup cX2_largestGroup 3 (some .int) rX2_largestGroup V gShC [.ref (gAd V t0)] M0 (some (.int o)) M0 :=
  gM.of (by decide) (Nat.le_of_ble_eq_true rfl) rfl (fun X _ O => tX2_largestGroup ht0 h O)
theorem dX2_trueGroups_0 : decode cX2_trueGroups 0 = .ok (.iconst 0, 1) := by decide +kernel
theorem dX2_trueGroups_1 : decode cX2_trueGroups 1 = .ok (.istore_n 1, 1) := by decide +kernel
theorem dX2_trueGroups_2 : decode cX2_trueGroups 2 = .ok (.iconst 0, 1) := by decide +kernel
theorem dX2_trueGroups_3 : decode cX2_trueGroups 3 = .ok (.istore_n 2, 1) := by decide +kernel
theorem dX2_trueGroups_4 : decode cX2_trueGroups 4 = .ok (.iload_n 2, 1) := by decide +kernel
theorem dX2_trueGroups_5 : decode cX2_trueGroups 5 = .ok (.aload_n 0, 1) := by decide +kernel
theorem dX2_trueGroups_6 : decode cX2_trueGroups 6 = .ok (.getfield 47, 3) := by decide +kernel
theorem dX2_trueGroups_9 : decode cX2_trueGroups 9 = .ok (.if_icmp .ge 25, 3) := by decide +kernel
theorem dX2_trueGroups_12 : decode cX2_trueGroups 12 = .ok (.aload_n 0, 1) := by decide +kernel
theorem dX2_trueGroups_13 : decode cX2_trueGroups 13 = .ok (.getfield 31, 3) := by decide +kernel
theorem dX2_trueGroups_16 : decode cX2_trueGroups 16 = .ok (.iload_n 2, 1) := by decide +kernel
theorem dX2_trueGroups_17 : decode cX2_trueGroups 17 = .ok (.iaload, 1) := by decide +kernel
theorem dX2_trueGroups_18 : decode cX2_trueGroups 18 = .ok (.invokestatic 83, 3) := by decide +kernel
theorem dX2_trueGroups_21 : decode cX2_trueGroups 21 = .ok (.iconst 1, 1) := by decide +kernel
theorem dX2_trueGroups_22 : decode cX2_trueGroups 22 = .ok (.if_icmp .le 6, 3) := by decide +kernel
theorem dX2_trueGroups_25 : decode cX2_trueGroups 25 = .ok (.iinc 1 1, 3) := by decide +kernel
theorem dX2_trueGroups_28 : decode cX2_trueGroups 28 = .ok (.iinc 2 1, 3) := by decide +kernel
theorem dX2_trueGroups_31 : decode cX2_trueGroups 31 = .ok (.goto (-27), 3) := by decide +kernel
theorem dX2_trueGroups_34 : decode cX2_trueGroups 34 = .ok (.iload_n 1, 1) := by decide +kernel
theorem dX2_trueGroups_35 : decode cX2_trueGroups 35 = .ok (.ireturn, 1) := by decide +kernel
abbrev rX2_trueGroups : Room := { frames := 1, cells := 0, slots := 0, locals := 20 }
abbrev mX2_trueGroups : gY := (cX2_trueGroups, RX2, 3, rX2_trueGroups)
def fX2_trueGroups_b28 (t0 : Nat) (x1 : Int32) (x2 : Int32) (M0 : gMem) : Option ((Int32 × Int32) ⊕ Int32) :=
  some (.inl (x1, x2 + (1 : Int32)))
set_option maxRecDepth 20000 in
theorem tX2_trueGroups_b28 {X : gX} {V : gEnv} {t0 : Nat} {x1 : Int32} {x2 : Int32} {M0 : gMem} (ht0 : gNet gShC t0) {o : ((Int32 × Int32) ⊕ Int32)} (h : fX2_trueGroups_b28 t0 x1 x2 M0 = some o) (Kc : ∀ s9, o = .inl s9 → gG X V mX2_trueGroups gShC M0 0 0 4 [(0, .ref (gAd V t0)), (1, .int s9.1), (2, .int s9.2)] []) (Kx : ∀ e9, o = .inr e9 → gG X V mX2_trueGroups gShC M0 0 0 34 [(1, .int e9)] []) : gG X V mX2_trueGroups gShC M0 0 0 28 [(0, .ref (gAd V t0)), (1, .int x1), (2, .int x2)] [] := by
  unfold fX2_trueGroups_b28 at h
  refine g_iinc (j := 2) (v := x2 + (1 : Int32)) (ls' := [(2, .int (x2 + (1 : Int32))), (0, .ref (gAd V t0)), (1, .int x1)]) rfl rfl (Nat.le_of_ble_eq_true rfl) rfl dX2_trueGroups_28 ?_
  refine g_goto (tgt := 4) rfl dX2_trueGroups_31 ?_
  cases h
  refine g_sub [1, 2, 0] rfl ?_
  exact Kc (x1, x2 + (1 : Int32)) rfl
def fX2_trueGroups_l4 (t0 : Nat) (M0 : gMem) (x1 : Int32) (x2 : Int32) : Option ((Int32 × Int32) ⊕ Int32) :=
  if (M0.1 t0 11) ≤ x2 then (some (.inr x1)) else (rI M0 (t0 + 7) 24 x2).bind fun v2 => (fJ6_bitCount_0f7a4 v2).bind fun v3 => if v3 ≤ (1 : Int32) then (fX2_trueGroups_b28 t0 x1 x2 M0) else fX2_trueGroups_b28 t0 (x1 + (1 : Int32)) x2 M0
set_option maxRecDepth 20000 in
theorem tX2_trueGroups_l4 {X : gX} {V : gEnv} {t0 : Nat} {M0 : gMem} {x1 : Int32} {x2 : Int32} (ht0 : gNet gShC t0) {o : ((Int32 × Int32) ⊕ Int32)} (h : fX2_trueGroups_l4 t0 M0 x1 x2 = some o) (Kc : ∀ s9, o = .inl s9 → gG X V mX2_trueGroups gShC M0 0 0 4 [(0, .ref (gAd V t0)), (1, .int s9.1), (2, .int s9.2)] []) (Kx : ∀ e9, o = .inr e9 → gG X V mX2_trueGroups gShC M0 0 0 34 [(1, .int e9)] []) : gG X V mX2_trueGroups gShC M0 0 0 4 [(0, .ref (gAd V t0)), (1, .int x1), (2, .int x2)] [] := by
  unfold fX2_trueGroups_l4 at h
  refine g_iload_n 2 rfl rfl dX2_trueGroups_4 ?_
  refine g_aload_n 0 rfl rfl dX2_trueGroups_5 ?_
  refine g_getI FX2_47 ht0.1 rfl dX2_trueGroups_6 ?_
  rcases g_ite h with ⟨c1, h⟩ | ⟨c1, h⟩
  · refine g_icmp_ge_t c1 (tgt := 34) rfl dX2_trueGroups_9 ?_
    cases h
    refine g_sub [1] rfl ?_
    exact Kx x1 rfl
  · refine g_icmp_ge_f c1 (tgt := 34) rfl dX2_trueGroups_9 ?_
    refine g_aload_n 0 rfl rfl dX2_trueGroups_12 ?_
    refine g_getR FX2_31 ht0.1 rfl dX2_trueGroups_13 ?_
    refine g_iload_n 2 rfl rfl dX2_trueGroups_16 ?_
    obtain ⟨v2, ev2, h⟩ := g_bnd h
    refine g_iald' ev2 ht0.2.2.2.2.2.2.2.1 dX2_trueGroups_17 ?_
    obtain ⟨v3, ev3, h⟩ := g_bnd h
    refine g_callS LX2_83 (kJ6_bitCount_0f7a4 ev3) rfl rfl (Nat.le_of_ble_eq_true rfl) ⟨Nat.le_of_ble_eq_true rfl, Nat.le_of_ble_eq_true rfl⟩ ⟨Nat.le_of_ble_eq_true rfl, Nat.le_of_ble_eq_true rfl⟩ dX2_trueGroups_18 rfl ?_
    refine g_iconst (v := 1) rfl dX2_trueGroups_21 ?_
    rcases g_ite h with ⟨c4, h⟩ | ⟨c4, h⟩
    · refine g_icmp_le_t c4 (tgt := 28) rfl dX2_trueGroups_22 ?_
      exact tX2_trueGroups_b28 ht0 h Kc Kx
    · refine g_icmp_le_f c4 (tgt := 28) rfl dX2_trueGroups_22 ?_
      refine g_iinc (j := 1) (v := x1 + (1 : Int32)) (ls' := [(1, .int (x1 + (1 : Int32))), (0, .ref (gAd V t0)), (2, .int x2)]) rfl rfl (Nat.le_of_ble_eq_true rfl) rfl dX2_trueGroups_25 ?_
      refine g_sub [1, 0, 2] rfl ?_
      exact tX2_trueGroups_b28 ht0 h Kc Kx
def fX2_trueGroups (t0 : Nat) (M0 : gMem) : Option Int32 :=
  (gLoop (fun z9 => fX2_trueGroups_l4 t0 M0 z9.1 z9.2) gFu ((0 : Int32), (0 : Int32))).bind fun w5 => some w5
set_option maxRecDepth 20000 in
theorem tX2_trueGroups {X : gX} {V : gEnv} {t0 : Nat} {M0 : gMem} (ht0 : gNet gShC t0) {o : Int32} (h : fX2_trueGroups t0 M0 = some o) (O : gO X V mX2_trueGroups gShC (some .int) (some (.int o)) M0) : gG X V mX2_trueGroups gShC M0 0 0 0 [(0, .ref (gAd V t0))] [] := by
  unfold fX2_trueGroups at h
  refine g_iconst (v := 0) rfl dX2_trueGroups_0 ?_
  refine g_istore_n (ls' := [(1, .int (0 : Int32)), (0, .ref (gAd V t0))]) rfl (Nat.le_of_ble_eq_true rfl) rfl dX2_trueGroups_1 ?_
  refine g_iconst (v := 0) rfl dX2_trueGroups_2 ?_
  refine g_istore_n (ls' := [(2, .int (0 : Int32)), (1, .int (0 : Int32)), (0, .ref (gAd V t0))]) rfl (Nat.le_of_ble_eq_true rfl) rfl dX2_trueGroups_3 ?_
  obtain ⟨w5, ew5, h⟩ := g_bnd h
  refine g_sub [2, 1, 0] rfl ?_
  have KX : gG X V mX2_trueGroups gShC M0 0 0 34 [(1, .int w5)] [] := by
    refine g_iload_n 0 rfl rfl dX2_trueGroups_34 ?_
    cases h
    exact g_iret O ⟨Nat.le_of_ble_eq_true rfl, Nat.le_of_ble_eq_true rfl⟩ rfl dX2_trueGroups_35
  exact gLoop_Q ew5 (fun z9 => gG X V mX2_trueGroups gShC M0 0 0 4 [(0, .ref (gAd V t0)), (1, .int z9.1), (2, .int z9.2)] []) (fun s9 o9 hb9 hc9 hx9 => tX2_trueGroups_l4 ht0 hb9 hc9 (fun e9 he9 => by cases hx9 _ he9; exact KX))
theorem kX2_trueGroups {l : Launch} {V : gEnv} {M0 : gMem} {t0 : Nat} (ht0 : gNet gShC t0) {o : Int32} (h : fX2_trueGroups t0 M0 = some o) : gM l yX2_trueGroups cX2_trueGroups 3 (some .int) rX2_trueGroups V gShC [.ref (gAd V t0)] M0 (some (.int o)) M0 :=
  gM.of (by decide) (Nat.le_of_ble_eq_true rfl) rfl (fun X _ O => tX2_trueGroups ht0 h O)
theorem dX2_leadsOn_0 : decode cX2_leadsOn 0 = .ok (.iconst 0, 1) := by decide +kernel
theorem dX2_leadsOn_1 : decode cX2_leadsOn 1 = .ok (.istore_n 2, 1) := by decide +kernel
theorem dX2_leadsOn_2 : decode cX2_leadsOn 2 = .ok (.iload_n 2, 1) := by decide +kernel
theorem dX2_leadsOn_3 : decode cX2_leadsOn 3 = .ok (.aload_n 0, 1) := by decide +kernel
theorem dX2_leadsOn_4 : decode cX2_leadsOn 4 = .ok (.getfield 44, 3) := by decide +kernel
theorem dX2_leadsOn_7 : decode cX2_leadsOn 7 = .ok (.if_icmp .ge 43, 3) := by decide +kernel
theorem dX2_leadsOn_10 : decode cX2_leadsOn 10 = .ok (.aload_n 0, 1) := by decide +kernel
theorem dX2_leadsOn_11 : decode cX2_leadsOn 11 = .ok (.getfield 34, 3) := by decide +kernel
theorem dX2_leadsOn_14 : decode cX2_leadsOn 14 = .ok (.aload_n 0, 1) := by decide +kernel
theorem dX2_leadsOn_15 : decode cX2_leadsOn 15 = .ok (.getfield 19, 3) := by decide +kernel
theorem dX2_leadsOn_18 : decode cX2_leadsOn 18 = .ok (.iload_n 2, 1) := by decide +kernel
theorem dX2_leadsOn_19 : decode cX2_leadsOn 19 = .ok (.iaload, 1) := by decide +kernel
theorem dX2_leadsOn_20 : decode cX2_leadsOn 20 = .ok (.iaload, 1) := by decide +kernel
theorem dX2_leadsOn_21 : decode cX2_leadsOn 21 = .ok (.iload_n 1, 1) := by decide +kernel
theorem dX2_leadsOn_22 : decode cX2_leadsOn 22 = .ok (.if_icmp .ne 22, 3) := by decide +kernel
theorem dX2_leadsOn_25 : decode cX2_leadsOn 25 = .ok (.aload_n 0, 1) := by decide +kernel
theorem dX2_leadsOn_26 : decode cX2_leadsOn 26 = .ok (.getfield 34, 3) := by decide +kernel
theorem dX2_leadsOn_29 : decode cX2_leadsOn 29 = .ok (.aload_n 0, 1) := by decide +kernel
theorem dX2_leadsOn_30 : decode cX2_leadsOn 30 = .ok (.getfield 22, 3) := by decide +kernel
theorem dX2_leadsOn_33 : decode cX2_leadsOn 33 = .ok (.iload_n 2, 1) := by decide +kernel
theorem dX2_leadsOn_34 : decode cX2_leadsOn 34 = .ok (.iaload, 1) := by decide +kernel
theorem dX2_leadsOn_35 : decode cX2_leadsOn 35 = .ok (.iaload, 1) := by decide +kernel
theorem dX2_leadsOn_36 : decode cX2_leadsOn 36 = .ok (.iload_n 1, 1) := by decide +kernel
theorem dX2_leadsOn_37 : decode cX2_leadsOn 37 = .ok (.iconst 1, 1) := by decide +kernel
theorem dX2_leadsOn_38 : decode cX2_leadsOn 38 = .ok (.iadd, 1) := by decide +kernel
theorem dX2_leadsOn_39 : decode cX2_leadsOn 39 = .ok (.if_icmp .ne 5, 3) := by decide +kernel
theorem dX2_leadsOn_42 : decode cX2_leadsOn 42 = .ok (.iconst 1, 1) := by decide +kernel
theorem dX2_leadsOn_43 : decode cX2_leadsOn 43 = .ok (.ireturn, 1) := by decide +kernel
theorem dX2_leadsOn_44 : decode cX2_leadsOn 44 = .ok (.iinc 2 1, 3) := by decide +kernel
theorem dX2_leadsOn_47 : decode cX2_leadsOn 47 = .ok (.goto (-45), 3) := by decide +kernel
theorem dX2_leadsOn_50 : decode cX2_leadsOn 50 = .ok (.iconst 0, 1) := by decide +kernel
theorem dX2_leadsOn_51 : decode cX2_leadsOn 51 = .ok (.ireturn, 1) := by decide +kernel
abbrev rX2_leadsOn : Room := { frames := 0, cells := 0, slots := 0, locals := 0 }
abbrev mX2_leadsOn : gY := (cX2_leadsOn, RX2, 3, rX2_leadsOn)
def fX2_leadsOn_b44 (t0 : Nat) (x1 : Int32) (x2 : Int32) (M0 : gMem) : Option (Int32 ⊕ (Unit ⊕ Int32)) :=
  some (.inl (x2 + (1 : Int32)))
set_option maxRecDepth 20000 in
theorem tX2_leadsOn_b44 {X : gX} {V : gEnv} {t0 : Nat} {x1 : Int32} {x2 : Int32} {M0 : gMem} (ht0 : gNet gShC t0) {o : (Int32 ⊕ (Unit ⊕ Int32))} (h : fX2_leadsOn_b44 t0 x1 x2 M0 = some o) (Kc : ∀ s9, o = .inl s9 → gG X V mX2_leadsOn gShC M0 0 0 2 [(0, .ref (gAd V t0)), (1, .int x1), (2, .int s9)] []) (Kx : ∀ e9, o = .inr (.inl e9) → gG X V mX2_leadsOn gShC M0 0 0 50 [] []) (Kr : ∀ r9, o = .inr (.inr r9) → gO X V mX2_leadsOn gShC (some .boolean) (some (.int r9)) M0) : gG X V mX2_leadsOn gShC M0 0 0 44 [(0, .ref (gAd V t0)), (1, .int x1), (2, .int x2)] [] := by
  unfold fX2_leadsOn_b44 at h
  refine g_iinc (j := 2) (v := x2 + (1 : Int32)) (ls' := [(2, .int (x2 + (1 : Int32))), (0, .ref (gAd V t0)), (1, .int x1)]) rfl rfl (Nat.le_of_ble_eq_true rfl) rfl dX2_leadsOn_44 ?_
  refine g_goto (tgt := 2) rfl dX2_leadsOn_47 ?_
  cases h
  refine g_sub [1, 2, 0] rfl ?_
  exact Kc (x2 + (1 : Int32)) rfl
def fX2_leadsOn_l2 (t0 : Nat) (x1 : Int32) (M0 : gMem) (x2 : Int32) : Option (Int32 ⊕ (Unit ⊕ Int32)) :=
  if (M0.1 t0 10) ≤ x2 then (some (.inr (.inl ()))) else (rI M0 (t0 + 3) 60 x2).bind fun v2 => (rI M0 (t0 + 8) 24 v2).bind fun v3 => if v3 = x1 then ((rI M0 (t0 + 4) 60 x2).bind fun v5 => (rI M0 (t0 + 8) 24 v5).bind fun v6 => if v6 = (x1 + (1 : Int32)) then (some (.inr (.inr (1 : Int32)))) else fX2_leadsOn_b44 t0 x1 x2 M0) else fX2_leadsOn_b44 t0 x1 x2 M0
set_option maxRecDepth 20000 in
theorem tX2_leadsOn_l2 {X : gX} {V : gEnv} {t0 : Nat} {x1 : Int32} {M0 : gMem} {x2 : Int32} (ht0 : gNet gShC t0) {o : (Int32 ⊕ (Unit ⊕ Int32))} (h : fX2_leadsOn_l2 t0 x1 M0 x2 = some o) (Kc : ∀ s9, o = .inl s9 → gG X V mX2_leadsOn gShC M0 0 0 2 [(0, .ref (gAd V t0)), (1, .int x1), (2, .int s9)] []) (Kx : ∀ e9, o = .inr (.inl e9) → gG X V mX2_leadsOn gShC M0 0 0 50 [] []) (Kr : ∀ r9, o = .inr (.inr r9) → gO X V mX2_leadsOn gShC (some .boolean) (some (.int r9)) M0) : gG X V mX2_leadsOn gShC M0 0 0 2 [(0, .ref (gAd V t0)), (1, .int x1), (2, .int x2)] [] := by
  unfold fX2_leadsOn_l2 at h
  refine g_iload_n 2 rfl rfl dX2_leadsOn_2 ?_
  refine g_aload_n 0 rfl rfl dX2_leadsOn_3 ?_
  refine g_getI FX2_44 ht0.1 rfl dX2_leadsOn_4 ?_
  rcases g_ite h with ⟨c1, h⟩ | ⟨c1, h⟩
  · refine g_icmp_ge_t c1 (tgt := 50) rfl dX2_leadsOn_7 ?_
    cases h
    refine g_sub [] rfl ?_
    exact Kx () rfl
  · refine g_icmp_ge_f c1 (tgt := 50) rfl dX2_leadsOn_7 ?_
    refine g_aload_n 0 rfl rfl dX2_leadsOn_10 ?_
    refine g_getR FX2_34 ht0.1 rfl dX2_leadsOn_11 ?_
    refine g_aload_n 0 rfl rfl dX2_leadsOn_14 ?_
    refine g_getR FX2_19 ht0.1 rfl dX2_leadsOn_15 ?_
    refine g_iload_n 2 rfl rfl dX2_leadsOn_18 ?_
    obtain ⟨v2, ev2, h⟩ := g_bnd h
    refine g_iald' ev2 ht0.2.2.2.1 dX2_leadsOn_19 ?_
    obtain ⟨v3, ev3, h⟩ := g_bnd h
    refine g_iald' ev3 ht0.2.2.2.2.2.2.2.2.1 dX2_leadsOn_20 ?_
    refine g_iload_n 1 rfl rfl dX2_leadsOn_21 ?_
    rcases g_ite h with ⟨c4, h⟩ | ⟨c4, h⟩
    · refine g_icmp_ne_f c4 (tgt := 44) rfl dX2_leadsOn_22 ?_
      refine g_aload_n 0 rfl rfl dX2_leadsOn_25 ?_
      refine g_getR FX2_34 ht0.1 rfl dX2_leadsOn_26 ?_
      refine g_aload_n 0 rfl rfl dX2_leadsOn_29 ?_
      refine g_getR FX2_22 ht0.1 rfl dX2_leadsOn_30 ?_
      refine g_iload_n 2 rfl rfl dX2_leadsOn_33 ?_
      obtain ⟨v5, ev5, h⟩ := g_bnd h
      refine g_iald' ev5 ht0.2.2.2.2.1 dX2_leadsOn_34 ?_
      obtain ⟨v6, ev6, h⟩ := g_bnd h
      refine g_iald' ev6 ht0.2.2.2.2.2.2.2.2.1 dX2_leadsOn_35 ?_
      refine g_iload_n 1 rfl rfl dX2_leadsOn_36 ?_
      refine g_iconst (v := 1) rfl dX2_leadsOn_37 ?_
      refine g_iadd dX2_leadsOn_38 ?_
      rcases g_ite h with ⟨c7, h⟩ | ⟨c7, h⟩
      · refine g_icmp_ne_f c7 (tgt := 44) rfl dX2_leadsOn_39 ?_
        refine g_iconst (v := 1) rfl dX2_leadsOn_42 ?_
        cases h
        exact g_iret (Kr (1 : Int32) rfl) ⟨Nat.le_of_ble_eq_true rfl, Nat.le_of_ble_eq_true rfl⟩ rfl dX2_leadsOn_43
      · refine g_icmp_ne_t c7 (tgt := 44) rfl dX2_leadsOn_39 ?_
        exact tX2_leadsOn_b44 ht0 h Kc Kx Kr
    · refine g_icmp_ne_t c4 (tgt := 44) rfl dX2_leadsOn_22 ?_
      exact tX2_leadsOn_b44 ht0 h Kc Kx Kr
def fX2_leadsOn (t0 : Nat) (x1 : Int32) (M0 : gMem) : Option Int32 :=
  (gLoop (fun z9 => fX2_leadsOn_l2 t0 x1 M0 z9) gFu (0 : Int32)).bind fun w8 => gSE w8 (fun y9 => some (0 : Int32)) (fun r10 => some r10)
set_option maxRecDepth 20000 in
theorem tX2_leadsOn {X : gX} {V : gEnv} {t0 : Nat} {x1 : Int32} {M0 : gMem} (ht0 : gNet gShC t0) {o : Int32} (h : fX2_leadsOn t0 x1 M0 = some o) (O : gO X V mX2_leadsOn gShC (some .boolean) (some (.int o)) M0) : gG X V mX2_leadsOn gShC M0 0 0 0 [(0, .ref (gAd V t0)), (1, .int x1)] [] := by
  unfold fX2_leadsOn at h
  refine g_iconst (v := 0) rfl dX2_leadsOn_0 ?_
  refine g_istore_n (ls' := [(2, .int (0 : Int32)), (0, .ref (gAd V t0)), (1, .int x1)]) rfl (Nat.le_of_ble_eq_true rfl) rfl dX2_leadsOn_1 ?_
  obtain ⟨w8, ew8, h⟩ := g_bnd h
  refine g_sub [1, 2, 0] rfl ?_
  rcases w8 with y9 | r10
  · have h := g_sl h
    have KX : gG X V mX2_leadsOn gShC M0 0 0 50 [] [] := by
      refine g_iconst (v := 0) rfl dX2_leadsOn_50 ?_
      cases h
      exact g_iret O ⟨Nat.le_of_ble_eq_true rfl, Nat.le_of_ble_eq_true rfl⟩ rfl dX2_leadsOn_51
    exact gLoop_Q ew8 (fun z9 => gG X V mX2_leadsOn gShC M0 0 0 2 [(0, .ref (gAd V t0)), (1, .int x1), (2, .int z9)] []) (fun s9 o9 hb9 hc9 hx9 => tX2_leadsOn_l2 ht0 hb9 hc9 (fun e9 he9 => by cases hx9 _ he9; exact KX) (fun r9 he9 => by cases hx9 _ he9))
  · have h := g_sr h
    cases h
    exact gLoop_Q ew8 (fun z9 => gG X V mX2_leadsOn gShC M0 0 0 2 [(0, .ref (gAd V t0)), (1, .int x1), (2, .int z9)] []) (fun s9 o9 hb9 hc9 hx9 => tX2_leadsOn_l2 ht0 hb9 hc9 (fun e9 he9 => by cases hx9 _ he9) (fun r9 he9 => by cases hx9 _ he9; exact O))
theorem kX2_leadsOn {l : Launch} {V : gEnv} {M0 : gMem} {t0 : Nat} {x1 : Int32} (ht0 : gNet gShC t0) {o : Int32} (h : fX2_leadsOn t0 x1 M0 = some o) : gM l yX2_leadsOn cX2_leadsOn 3 (some .boolean) rX2_leadsOn V gShC [.ref (gAd V t0), .int x1] M0 (some (.int o)) M0 :=
  gM.of (by decide) (Nat.le_of_ble_eq_true rfl) rfl (fun X _ O => tX2_leadsOn ht0 h O)
theorem dX2_swapAt_0 : decode cX2_swapAt 0 = .ok (.aload_n 0, 1) := by decide +kernel
theorem dX2_swapAt_1 : decode cX2_swapAt 1 = .ok (.getfield 31, 3) := by decide +kernel
theorem dX2_swapAt_4 : decode cX2_swapAt 4 = .ok (.iload_n 1, 1) := by decide +kernel
theorem dX2_swapAt_5 : decode cX2_swapAt 5 = .ok (.iaload, 1) := by decide +kernel
theorem dX2_swapAt_6 : decode cX2_swapAt 6 = .ok (.istore_n 2, 1) := by decide +kernel
theorem dX2_swapAt_7 : decode cX2_swapAt 7 = .ok (.aload_n 0, 1) := by decide +kernel
theorem dX2_swapAt_8 : decode cX2_swapAt 8 = .ok (.getfield 31, 3) := by decide +kernel
theorem dX2_swapAt_11 : decode cX2_swapAt 11 = .ok (.iload_n 1, 1) := by decide +kernel
theorem dX2_swapAt_12 : decode cX2_swapAt 12 = .ok (.aload_n 0, 1) := by decide +kernel
theorem dX2_swapAt_13 : decode cX2_swapAt 13 = .ok (.getfield 31, 3) := by decide +kernel
theorem dX2_swapAt_16 : decode cX2_swapAt 16 = .ok (.iload_n 1, 1) := by decide +kernel
theorem dX2_swapAt_17 : decode cX2_swapAt 17 = .ok (.iconst 1, 1) := by decide +kernel
theorem dX2_swapAt_18 : decode cX2_swapAt 18 = .ok (.iadd, 1) := by decide +kernel
theorem dX2_swapAt_19 : decode cX2_swapAt 19 = .ok (.iaload, 1) := by decide +kernel
theorem dX2_swapAt_20 : decode cX2_swapAt 20 = .ok (.iastore, 1) := by decide +kernel
theorem dX2_swapAt_21 : decode cX2_swapAt 21 = .ok (.aload_n 0, 1) := by decide +kernel
theorem dX2_swapAt_22 : decode cX2_swapAt 22 = .ok (.getfield 31, 3) := by decide +kernel
theorem dX2_swapAt_25 : decode cX2_swapAt 25 = .ok (.iload_n 1, 1) := by decide +kernel
theorem dX2_swapAt_26 : decode cX2_swapAt 26 = .ok (.iconst 1, 1) := by decide +kernel
theorem dX2_swapAt_27 : decode cX2_swapAt 27 = .ok (.iadd, 1) := by decide +kernel
theorem dX2_swapAt_28 : decode cX2_swapAt 28 = .ok (.iload_n 2, 1) := by decide +kernel
theorem dX2_swapAt_29 : decode cX2_swapAt 29 = .ok (.iastore, 1) := by decide +kernel
theorem dX2_swapAt_30 : decode cX2_swapAt 30 = .ok (.aload_n 0, 1) := by decide +kernel
theorem dX2_swapAt_31 : decode cX2_swapAt 31 = .ok (.invokevirtual 95, 3) := by decide +kernel
theorem dX2_swapAt_34 : decode cX2_swapAt 34 = .ok (.aload_n 0, 1) := by decide +kernel
theorem dX2_swapAt_35 : decode cX2_swapAt 35 = .ok (.getfield 37, 3) := by decide +kernel
theorem dX2_swapAt_38 : decode cX2_swapAt 38 = .ok (.bipush 8, 2) := by decide +kernel
theorem dX2_swapAt_40 : decode cX2_swapAt 40 = .ok (.dup2, 1) := by decide +kernel
theorem dX2_swapAt_41 : decode cX2_swapAt 41 = .ok (.laload, 1) := by decide +kernel
theorem dX2_swapAt_42 : decode cX2_swapAt 42 = .ok (.lconst 1, 1) := by decide +kernel
theorem dX2_swapAt_43 : decode cX2_swapAt 43 = .ok (.ladd, 1) := by decide +kernel
theorem dX2_swapAt_44 : decode cX2_swapAt 44 = .ok (.lastore, 1) := by decide +kernel
theorem dX2_swapAt_45 : decode cX2_swapAt 45 = .ok (.return_, 1) := by decide +kernel
abbrev rX2_swapAt : Room := { frames := 2, cells := 0, slots := 0, locals := 43 }
abbrev mX2_swapAt : gY := (cX2_swapAt, RX2, 3, rX2_swapAt)
def fX2_swapAt (t0 : Nat) (x1 : Int32) (M0 : gMem) : Option gMem :=
  (rI M0 (t0 + 7) 24 x1).bind fun v1 => (rI M0 (t0 + 7) 24 (x1 + (1 : Int32))).bind fun v2 => (wI M0 (t0 + 7) 24 x1 v2).bind fun M3 => (wI M3 (t0 + 7) 24 (x1 + (1 : Int32)) v1).bind fun M4 => (fX2_setPlaces t0 M4).bind fun v5 => (rL v5 (t0 + 9) 9 (8 : Int32)).bind fun v6 => (wL v5 (t0 + 9) 9 (8 : Int32) (v6 + (1 : Int64))).bind fun M7 => some M7
set_option maxRecDepth 20000 in
theorem tX2_swapAt {X : gX} {V : gEnv} {t0 : Nat} {x1 : Int32} {M0 : gMem} (ht0 : gNet gShC t0) {o : gMem} (h : fX2_swapAt t0 x1 M0 = some o) (O : gO X V mX2_swapAt gShC none none o) : gG X V mX2_swapAt gShC M0 0 0 0 [(0, .ref (gAd V t0)), (1, .int x1)] [] := by
  unfold fX2_swapAt at h
  refine g_aload_n 0 rfl rfl dX2_swapAt_0 ?_
  refine g_getR FX2_31 ht0.1 rfl dX2_swapAt_1 ?_
  refine g_iload_n 1 rfl rfl dX2_swapAt_4 ?_
  obtain ⟨v1, ev1, h⟩ := g_bnd h
  refine g_iald' ev1 ht0.2.2.2.2.2.2.2.1 dX2_swapAt_5 ?_
  refine g_istore_n (ls' := [(2, .int v1), (0, .ref (gAd V t0)), (1, .int x1)]) rfl (Nat.le_of_ble_eq_true rfl) rfl dX2_swapAt_6 ?_
  refine g_aload_n 1 rfl rfl dX2_swapAt_7 ?_
  refine g_getR FX2_31 ht0.1 rfl dX2_swapAt_8 ?_
  refine g_iload_n 2 rfl rfl dX2_swapAt_11 ?_
  refine g_aload_n 1 rfl rfl dX2_swapAt_12 ?_
  refine g_getR FX2_31 ht0.1 rfl dX2_swapAt_13 ?_
  refine g_iload_n 2 rfl rfl dX2_swapAt_16 ?_
  refine g_iconst (v := 1) rfl dX2_swapAt_17 ?_
  refine g_iadd dX2_swapAt_18 ?_
  obtain ⟨v2, ev2, h⟩ := g_bnd h
  refine g_iald' ev2 ht0.2.2.2.2.2.2.2.1 dX2_swapAt_19 ?_
  obtain ⟨M3, eM3, h⟩ := g_bnd h
  refine g_iast' eM3 ht0.2.2.2.2.2.2.2.1 dX2_swapAt_20 ?_
  refine g_aload_n 1 rfl rfl dX2_swapAt_21 ?_
  refine g_getR FX2_31 ht0.1 rfl dX2_swapAt_22 ?_
  refine g_iload_n 2 rfl rfl dX2_swapAt_25 ?_
  refine g_iconst (v := 1) rfl dX2_swapAt_26 ?_
  refine g_iadd dX2_swapAt_27 ?_
  refine g_iload_n 0 rfl rfl dX2_swapAt_28 ?_
  obtain ⟨M4, eM4, h⟩ := g_bnd h
  refine g_iast' eM4 ht0.2.2.2.2.2.2.2.1 dX2_swapAt_29 ?_
  refine g_aload_n 1 rfl rfl dX2_swapAt_30 ?_
  obtain ⟨v5, ev5, h⟩ := g_bnd h
  refine g_callV LX2_95 ht0.1 rfl (kX2_setPlaces ht0 ev5) rfl rfl (Nat.le_of_ble_eq_true rfl) ⟨Nat.le_of_ble_eq_true rfl, Nat.le_of_ble_eq_true rfl⟩ ⟨Nat.le_of_ble_eq_true rfl, Nat.le_of_ble_eq_true rfl⟩ dX2_swapAt_31 rfl ?_
  refine g_aload_n 1 rfl rfl dX2_swapAt_34 ?_
  refine g_getR FX2_37 ht0.1 rfl dX2_swapAt_35 ?_
  refine g_bipush (v := 8) rfl dX2_swapAt_38 ?_
  refine g_dup2 rfl rfl dX2_swapAt_40 ?_
  obtain ⟨v6, ev6, h⟩ := g_bnd h
  refine g_lald' ev6 ht0.2.2.2.2.2.2.2.2.2 dX2_swapAt_41 ?_
  refine g_lconst (v := 1) rfl dX2_swapAt_42 ?_
  refine g_ladd dX2_swapAt_43 ?_
  obtain ⟨M7, eM7, h⟩ := g_bnd h
  refine g_last' eM7 ht0.2.2.2.2.2.2.2.2.2 dX2_swapAt_44 ?_
  cases h
  exact g_vret O ⟨Nat.le_of_ble_eq_true rfl, Nat.le_of_ble_eq_true rfl⟩ dX2_swapAt_45
theorem kX2_swapAt {l : Launch} {V : gEnv} {M0 : gMem} {t0 : Nat} {x1 : Int32} (ht0 : gNet gShC t0) {o : gMem} (h : fX2_swapAt t0 x1 M0 = some o) : gM l yX2_swapAt cX2_swapAt 3 none rX2_swapAt V gShC [.ref (gAd V t0), .int x1] M0 none o :=
  gM.of (by decide) (Nat.le_of_ble_eq_true rfl) rfl (fun X _ O => tX2_swapAt ht0 h O)
theorem dX2_wrongArrows_0 : decode cX2_wrongArrows 0 = .ok (.iconst 0, 1) := by decide +kernel
theorem dX2_wrongArrows_1 : decode cX2_wrongArrows 1 = .ok (.istore_n 1, 1) := by decide +kernel
theorem dX2_wrongArrows_2 : decode cX2_wrongArrows 2 = .ok (.iconst 0, 1) := by decide +kernel
theorem dX2_wrongArrows_3 : decode cX2_wrongArrows 3 = .ok (.istore_n 2, 1) := by decide +kernel
theorem dX2_wrongArrows_4 : decode cX2_wrongArrows 4 = .ok (.iload_n 2, 1) := by decide +kernel
theorem dX2_wrongArrows_5 : decode cX2_wrongArrows 5 = .ok (.aload_n 0, 1) := by decide +kernel
theorem dX2_wrongArrows_6 : decode cX2_wrongArrows 6 = .ok (.getfield 44, 3) := by decide +kernel
theorem dX2_wrongArrows_9 : decode cX2_wrongArrows 9 = .ok (.if_icmp .ge 37, 3) := by decide +kernel
theorem dX2_wrongArrows_12 : decode cX2_wrongArrows 12 = .ok (.aload_n 0, 1) := by decide +kernel
theorem dX2_wrongArrows_13 : decode cX2_wrongArrows 13 = .ok (.getfield 34, 3) := by decide +kernel
theorem dX2_wrongArrows_16 : decode cX2_wrongArrows 16 = .ok (.aload_n 0, 1) := by decide +kernel
theorem dX2_wrongArrows_17 : decode cX2_wrongArrows 17 = .ok (.getfield 19, 3) := by decide +kernel
theorem dX2_wrongArrows_20 : decode cX2_wrongArrows 20 = .ok (.iload_n 2, 1) := by decide +kernel
theorem dX2_wrongArrows_21 : decode cX2_wrongArrows 21 = .ok (.iaload, 1) := by decide +kernel
theorem dX2_wrongArrows_22 : decode cX2_wrongArrows 22 = .ok (.iaload, 1) := by decide +kernel
theorem dX2_wrongArrows_23 : decode cX2_wrongArrows 23 = .ok (.aload_n 0, 1) := by decide +kernel
theorem dX2_wrongArrows_24 : decode cX2_wrongArrows 24 = .ok (.getfield 34, 3) := by decide +kernel
theorem dX2_wrongArrows_27 : decode cX2_wrongArrows 27 = .ok (.aload_n 0, 1) := by decide +kernel
theorem dX2_wrongArrows_28 : decode cX2_wrongArrows 28 = .ok (.getfield 22, 3) := by decide +kernel
theorem dX2_wrongArrows_31 : decode cX2_wrongArrows 31 = .ok (.iload_n 2, 1) := by decide +kernel
theorem dX2_wrongArrows_32 : decode cX2_wrongArrows 32 = .ok (.iaload, 1) := by decide +kernel
theorem dX2_wrongArrows_33 : decode cX2_wrongArrows 33 = .ok (.iaload, 1) := by decide +kernel
theorem dX2_wrongArrows_34 : decode cX2_wrongArrows 34 = .ok (.if_icmp .le 6, 3) := by decide +kernel
theorem dX2_wrongArrows_37 : decode cX2_wrongArrows 37 = .ok (.iinc 1 1, 3) := by decide +kernel
theorem dX2_wrongArrows_40 : decode cX2_wrongArrows 40 = .ok (.iinc 2 1, 3) := by decide +kernel
theorem dX2_wrongArrows_43 : decode cX2_wrongArrows 43 = .ok (.goto (-39), 3) := by decide +kernel
theorem dX2_wrongArrows_46 : decode cX2_wrongArrows 46 = .ok (.iload_n 1, 1) := by decide +kernel
theorem dX2_wrongArrows_47 : decode cX2_wrongArrows 47 = .ok (.ireturn, 1) := by decide +kernel
abbrev rX2_wrongArrows : Room := { frames := 0, cells := 0, slots := 0, locals := 0 }
abbrev mX2_wrongArrows : gY := (cX2_wrongArrows, RX2, 3, rX2_wrongArrows)
def fX2_wrongArrows_b40 (t0 : Nat) (x1 : Int32) (x2 : Int32) (M0 : gMem) : Option ((Int32 × Int32) ⊕ Int32) :=
  some (.inl (x1, x2 + (1 : Int32)))
set_option maxRecDepth 20000 in
theorem tX2_wrongArrows_b40 {X : gX} {V : gEnv} {t0 : Nat} {x1 : Int32} {x2 : Int32} {M0 : gMem} (ht0 : gNet gShC t0) {o : ((Int32 × Int32) ⊕ Int32)} (h : fX2_wrongArrows_b40 t0 x1 x2 M0 = some o) (Kc : ∀ s9, o = .inl s9 → gG X V mX2_wrongArrows gShC M0 0 0 4 [(0, .ref (gAd V t0)), (1, .int s9.1), (2, .int s9.2)] []) (Kx : ∀ e9, o = .inr e9 → gG X V mX2_wrongArrows gShC M0 0 0 46 [(1, .int e9)] []) : gG X V mX2_wrongArrows gShC M0 0 0 40 [(0, .ref (gAd V t0)), (1, .int x1), (2, .int x2)] [] := by
  unfold fX2_wrongArrows_b40 at h
  refine g_iinc (j := 2) (v := x2 + (1 : Int32)) (ls' := [(2, .int (x2 + (1 : Int32))), (0, .ref (gAd V t0)), (1, .int x1)]) rfl rfl (Nat.le_of_ble_eq_true rfl) rfl dX2_wrongArrows_40 ?_
  refine g_goto (tgt := 4) rfl dX2_wrongArrows_43 ?_
  cases h
  refine g_sub [1, 2, 0] rfl ?_
  exact Kc (x1, x2 + (1 : Int32)) rfl
def fX2_wrongArrows_l4 (t0 : Nat) (M0 : gMem) (x1 : Int32) (x2 : Int32) : Option ((Int32 × Int32) ⊕ Int32) :=
  if (M0.1 t0 10) ≤ x2 then (some (.inr x1)) else (rI M0 (t0 + 3) 60 x2).bind fun v2 => (rI M0 (t0 + 8) 24 v2).bind fun v3 => (rI M0 (t0 + 4) 60 x2).bind fun v4 => (rI M0 (t0 + 8) 24 v4).bind fun v5 => if v3 ≤ v5 then (fX2_wrongArrows_b40 t0 x1 x2 M0) else fX2_wrongArrows_b40 t0 (x1 + (1 : Int32)) x2 M0
set_option maxRecDepth 20000 in
theorem tX2_wrongArrows_l4 {X : gX} {V : gEnv} {t0 : Nat} {M0 : gMem} {x1 : Int32} {x2 : Int32} (ht0 : gNet gShC t0) {o : ((Int32 × Int32) ⊕ Int32)} (h : fX2_wrongArrows_l4 t0 M0 x1 x2 = some o) (Kc : ∀ s9, o = .inl s9 → gG X V mX2_wrongArrows gShC M0 0 0 4 [(0, .ref (gAd V t0)), (1, .int s9.1), (2, .int s9.2)] []) (Kx : ∀ e9, o = .inr e9 → gG X V mX2_wrongArrows gShC M0 0 0 46 [(1, .int e9)] []) : gG X V mX2_wrongArrows gShC M0 0 0 4 [(0, .ref (gAd V t0)), (1, .int x1), (2, .int x2)] [] := by
  unfold fX2_wrongArrows_l4 at h
  refine g_iload_n 2 rfl rfl dX2_wrongArrows_4 ?_
  refine g_aload_n 0 rfl rfl dX2_wrongArrows_5 ?_
  refine g_getI FX2_44 ht0.1 rfl dX2_wrongArrows_6 ?_
  rcases g_ite h with ⟨c1, h⟩ | ⟨c1, h⟩
  · refine g_icmp_ge_t c1 (tgt := 46) rfl dX2_wrongArrows_9 ?_
    cases h
    refine g_sub [1] rfl ?_
    exact Kx x1 rfl
  · refine g_icmp_ge_f c1 (tgt := 46) rfl dX2_wrongArrows_9 ?_
    refine g_aload_n 0 rfl rfl dX2_wrongArrows_12 ?_
    refine g_getR FX2_34 ht0.1 rfl dX2_wrongArrows_13 ?_
    refine g_aload_n 0 rfl rfl dX2_wrongArrows_16 ?_
    refine g_getR FX2_19 ht0.1 rfl dX2_wrongArrows_17 ?_
    refine g_iload_n 2 rfl rfl dX2_wrongArrows_20 ?_
    obtain ⟨v2, ev2, h⟩ := g_bnd h
    refine g_iald' ev2 ht0.2.2.2.1 dX2_wrongArrows_21 ?_
    obtain ⟨v3, ev3, h⟩ := g_bnd h
    refine g_iald' ev3 ht0.2.2.2.2.2.2.2.2.1 dX2_wrongArrows_22 ?_
    refine g_aload_n 0 rfl rfl dX2_wrongArrows_23 ?_
    refine g_getR FX2_34 ht0.1 rfl dX2_wrongArrows_24 ?_
    refine g_aload_n 0 rfl rfl dX2_wrongArrows_27 ?_
    refine g_getR FX2_22 ht0.1 rfl dX2_wrongArrows_28 ?_
    refine g_iload_n 2 rfl rfl dX2_wrongArrows_31 ?_
    obtain ⟨v4, ev4, h⟩ := g_bnd h
    refine g_iald' ev4 ht0.2.2.2.2.1 dX2_wrongArrows_32 ?_
    obtain ⟨v5, ev5, h⟩ := g_bnd h
    refine g_iald' ev5 ht0.2.2.2.2.2.2.2.2.1 dX2_wrongArrows_33 ?_
    rcases g_ite h with ⟨c6, h⟩ | ⟨c6, h⟩
    · refine g_icmp_le_t c6 (tgt := 40) rfl dX2_wrongArrows_34 ?_
      exact tX2_wrongArrows_b40 ht0 h Kc Kx
    · refine g_icmp_le_f c6 (tgt := 40) rfl dX2_wrongArrows_34 ?_
      refine g_iinc (j := 1) (v := x1 + (1 : Int32)) (ls' := [(1, .int (x1 + (1 : Int32))), (0, .ref (gAd V t0)), (2, .int x2)]) rfl rfl (Nat.le_of_ble_eq_true rfl) rfl dX2_wrongArrows_37 ?_
      refine g_sub [1, 0, 2] rfl ?_
      exact tX2_wrongArrows_b40 ht0 h Kc Kx
def fX2_wrongArrows (t0 : Nat) (M0 : gMem) : Option Int32 :=
  (gLoop (fun z9 => fX2_wrongArrows_l4 t0 M0 z9.1 z9.2) gFu ((0 : Int32), (0 : Int32))).bind fun w7 => some w7
set_option maxRecDepth 20000 in
theorem tX2_wrongArrows {X : gX} {V : gEnv} {t0 : Nat} {M0 : gMem} (ht0 : gNet gShC t0) {o : Int32} (h : fX2_wrongArrows t0 M0 = some o) (O : gO X V mX2_wrongArrows gShC (some .int) (some (.int o)) M0) : gG X V mX2_wrongArrows gShC M0 0 0 0 [(0, .ref (gAd V t0))] [] := by
  unfold fX2_wrongArrows at h
  refine g_iconst (v := 0) rfl dX2_wrongArrows_0 ?_
  refine g_istore_n (ls' := [(1, .int (0 : Int32)), (0, .ref (gAd V t0))]) rfl (Nat.le_of_ble_eq_true rfl) rfl dX2_wrongArrows_1 ?_
  refine g_iconst (v := 0) rfl dX2_wrongArrows_2 ?_
  refine g_istore_n (ls' := [(2, .int (0 : Int32)), (1, .int (0 : Int32)), (0, .ref (gAd V t0))]) rfl (Nat.le_of_ble_eq_true rfl) rfl dX2_wrongArrows_3 ?_
  obtain ⟨w7, ew7, h⟩ := g_bnd h
  refine g_sub [2, 1, 0] rfl ?_
  have KX : gG X V mX2_wrongArrows gShC M0 0 0 46 [(1, .int w7)] [] := by
    refine g_iload_n 0 rfl rfl dX2_wrongArrows_46 ?_
    cases h
    exact g_iret O ⟨Nat.le_of_ble_eq_true rfl, Nat.le_of_ble_eq_true rfl⟩ rfl dX2_wrongArrows_47
  exact gLoop_Q ew7 (fun z9 => gG X V mX2_wrongArrows gShC M0 0 0 4 [(0, .ref (gAd V t0)), (1, .int z9.1), (2, .int z9.2)] []) (fun s9 o9 hb9 hc9 hx9 => tX2_wrongArrows_l4 ht0 hb9 hc9 (fun e9 he9 => by cases hx9 _ he9; exact KX))
theorem kX2_wrongArrows {l : Launch} {V : gEnv} {M0 : gMem} {t0 : Nat} (ht0 : gNet gShC t0) {o : Int32} (h : fX2_wrongArrows t0 M0 = some o) : gM l yX2_wrongArrows cX2_wrongArrows 3 (some .int) rX2_wrongArrows V gShC [.ref (gAd V t0)] M0 (some (.int o)) M0 :=
  gM.of (by decide) (Nat.le_of_ble_eq_true rfl) rfl (fun X _ O => tX2_wrongArrows ht0 h O)
theorem dX2_wrongPairs_0 : decode cX2_wrongPairs 0 = .ok (.iconst 0, 1) := by decide +kernel
theorem dX2_wrongPairs_1 : decode cX2_wrongPairs 1 = .ok (.istore_n 1, 1) := by decide +kernel
theorem dX2_wrongPairs_2 : decode cX2_wrongPairs 2 = .ok (.iconst 0, 1) := by decide +kernel
theorem dX2_wrongPairs_3 : decode cX2_wrongPairs 3 = .ok (.istore_n 2, 1) := by decide +kernel
theorem dX2_wrongPairs_4 : decode cX2_wrongPairs 4 = .ok (.iload_n 2, 1) := by decide +kernel
theorem dX2_wrongPairs_5 : decode cX2_wrongPairs 5 = .ok (.aload_n 0, 1) := by decide +kernel
theorem dX2_wrongPairs_6 : decode cX2_wrongPairs 6 = .ok (.getfield 40, 3) := by decide +kernel
theorem dX2_wrongPairs_9 : decode cX2_wrongPairs 9 = .ok (.if_icmp .ge 83, 3) := by decide +kernel
theorem dX2_wrongPairs_12 : decode cX2_wrongPairs 12 = .ok (.iconst 0, 1) := by decide +kernel
theorem dX2_wrongPairs_13 : decode cX2_wrongPairs 13 = .ok (.istore_n 3, 1) := by decide +kernel
theorem dX2_wrongPairs_14 : decode cX2_wrongPairs 14 = .ok (.iload_n 3, 1) := by decide +kernel
theorem dX2_wrongPairs_15 : decode cX2_wrongPairs 15 = .ok (.iload_n 2, 1) := by decide +kernel
theorem dX2_wrongPairs_16 : decode cX2_wrongPairs 16 = .ok (.if_icmp .ge 70, 3) := by decide +kernel
theorem dX2_wrongPairs_19 : decode cX2_wrongPairs 19 = .ok (.aload_n 0, 1) := by decide +kernel
theorem dX2_wrongPairs_20 : decode cX2_wrongPairs 20 = .ok (.getfield 28, 3) := by decide +kernel
theorem dX2_wrongPairs_23 : decode cX2_wrongPairs 23 = .ok (.iload_n 2, 1) := by decide +kernel
theorem dX2_wrongPairs_24 : decode cX2_wrongPairs 24 = .ok (.iaload, 1) := by decide +kernel
theorem dX2_wrongPairs_25 : decode cX2_wrongPairs 25 = .ok (.iload_n 3, 1) := by decide +kernel
theorem dX2_wrongPairs_26 : decode cX2_wrongPairs 26 = .ok (.invokestatic 71, 3) := by decide +kernel
theorem dX2_wrongPairs_29 : decode cX2_wrongPairs 29 = .ok (.ifCond .eq 20, 3) := by decide +kernel
theorem dX2_wrongPairs_32 : decode cX2_wrongPairs 32 = .ok (.aload_n 0, 1) := by decide +kernel
theorem dX2_wrongPairs_33 : decode cX2_wrongPairs 33 = .ok (.getfield 28, 3) := by decide +kernel
theorem dX2_wrongPairs_36 : decode cX2_wrongPairs 36 = .ok (.iload_n 3, 1) := by decide +kernel
theorem dX2_wrongPairs_37 : decode cX2_wrongPairs 37 = .ok (.iaload, 1) := by decide +kernel
theorem dX2_wrongPairs_38 : decode cX2_wrongPairs 38 = .ok (.iload_n 2, 1) := by decide +kernel
theorem dX2_wrongPairs_39 : decode cX2_wrongPairs 39 = .ok (.invokestatic 71, 3) := by decide +kernel
theorem dX2_wrongPairs_42 : decode cX2_wrongPairs 42 = .ok (.ifCond .eq 7, 3) := by decide +kernel
theorem dX2_wrongPairs_45 : decode cX2_wrongPairs 45 = .ok (.iconst 1, 1) := by decide +kernel
theorem dX2_wrongPairs_46 : decode cX2_wrongPairs 46 = .ok (.goto 4, 3) := by decide +kernel
theorem dX2_wrongPairs_49 : decode cX2_wrongPairs 49 = .ok (.iconst 0, 1) := by decide +kernel
theorem dX2_wrongPairs_50 : decode cX2_wrongPairs 50 = .ok (.istore 4, 2) := by decide +kernel
theorem dX2_wrongPairs_52 : decode cX2_wrongPairs 52 = .ok (.iload 4, 2) := by decide +kernel
theorem dX2_wrongPairs_54 : decode cX2_wrongPairs 54 = .ok (.aload_n 0, 1) := by decide +kernel
theorem dX2_wrongPairs_55 : decode cX2_wrongPairs 55 = .ok (.getfield 34, 3) := by decide +kernel
theorem dX2_wrongPairs_58 : decode cX2_wrongPairs 58 = .ok (.iload_n 2, 1) := by decide +kernel
theorem dX2_wrongPairs_59 : decode cX2_wrongPairs 59 = .ok (.iaload, 1) := by decide +kernel
theorem dX2_wrongPairs_60 : decode cX2_wrongPairs 60 = .ok (.aload_n 0, 1) := by decide +kernel
theorem dX2_wrongPairs_61 : decode cX2_wrongPairs 61 = .ok (.getfield 34, 3) := by decide +kernel
theorem dX2_wrongPairs_64 : decode cX2_wrongPairs 64 = .ok (.iload_n 3, 1) := by decide +kernel
theorem dX2_wrongPairs_65 : decode cX2_wrongPairs 65 = .ok (.iaload, 1) := by decide +kernel
theorem dX2_wrongPairs_66 : decode cX2_wrongPairs 66 = .ok (.if_icmp .ne 7, 3) := by decide +kernel
theorem dX2_wrongPairs_69 : decode cX2_wrongPairs 69 = .ok (.iconst 1, 1) := by decide +kernel
theorem dX2_wrongPairs_70 : decode cX2_wrongPairs 70 = .ok (.goto 4, 3) := by decide +kernel
theorem dX2_wrongPairs_73 : decode cX2_wrongPairs 73 = .ok (.iconst 0, 1) := by decide +kernel
theorem dX2_wrongPairs_74 : decode cX2_wrongPairs 74 = .ok (.if_icmp .eq 6, 3) := by decide +kernel
theorem dX2_wrongPairs_77 : decode cX2_wrongPairs 77 = .ok (.iinc 1 1, 3) := by decide +kernel
theorem dX2_wrongPairs_80 : decode cX2_wrongPairs 80 = .ok (.iinc 3 1, 3) := by decide +kernel
theorem dX2_wrongPairs_83 : decode cX2_wrongPairs 83 = .ok (.goto (-69), 3) := by decide +kernel
theorem dX2_wrongPairs_86 : decode cX2_wrongPairs 86 = .ok (.iinc 2 1, 3) := by decide +kernel
theorem dX2_wrongPairs_89 : decode cX2_wrongPairs 89 = .ok (.goto (-85), 3) := by decide +kernel
theorem dX2_wrongPairs_92 : decode cX2_wrongPairs 92 = .ok (.iload_n 1, 1) := by decide +kernel
theorem dX2_wrongPairs_93 : decode cX2_wrongPairs 93 = .ok (.ireturn, 1) := by decide +kernel
abbrev rX2_wrongPairs : Room := { frames := 1, cells := 0, slots := 0, locals := 21 }
abbrev mX2_wrongPairs : gY := (cX2_wrongPairs, RX2, 5, rX2_wrongPairs)
def fX2_wrongPairs_b80 (t0 : Nat) (x1 : Int32) (x2 : Int32) (x3 : Int32) (M0 : gMem) : Option ((Int32 × Int32) ⊕ Int32) :=
  some (.inl (x1, x3 + (1 : Int32)))
set_option maxRecDepth 20000 in
theorem tX2_wrongPairs_b80 {X : gX} {V : gEnv} {t0 : Nat} {x1 : Int32} {x2 : Int32} {x3 : Int32} {M0 : gMem} (ht0 : gNet gShC t0) {o : ((Int32 × Int32) ⊕ Int32)} (h : fX2_wrongPairs_b80 t0 x1 x2 x3 M0 = some o) (Kc : ∀ s9, o = .inl s9 → gG X V mX2_wrongPairs gShC M0 0 0 14 [(0, .ref (gAd V t0)), (1, .int s9.1), (2, .int x2), (3, .int s9.2)] []) (Kx : ∀ e9, o = .inr e9 → gG X V mX2_wrongPairs gShC M0 0 0 86 [(0, .ref (gAd V t0)), (1, .int e9), (2, .int x2)] []) : gG X V mX2_wrongPairs gShC M0 0 0 80 [(0, .ref (gAd V t0)), (1, .int x1), (2, .int x2), (3, .int x3)] [] := by
  unfold fX2_wrongPairs_b80 at h
  refine g_iinc (j := 3) (v := x3 + (1 : Int32)) (ls' := [(3, .int (x3 + (1 : Int32))), (0, .ref (gAd V t0)), (1, .int x1), (2, .int x2)]) rfl rfl (Nat.le_of_ble_eq_true rfl) rfl dX2_wrongPairs_80 ?_
  refine g_goto (tgt := 14) rfl dX2_wrongPairs_83 ?_
  cases h
  refine g_sub [1, 2, 3, 0] rfl ?_
  exact Kc (x1, x3 + (1 : Int32)) rfl
def fX2_wrongPairs_b50 (t0 : Nat) (x1 : Int32) (x2 : Int32) (x3 : Int32) (s0 : Int32) (M0 : gMem) : Option ((Int32 × Int32) ⊕ Int32) :=
  (rI M0 (t0 + 8) 24 x2).bind fun v6 => (rI M0 (t0 + 8) 24 x3).bind fun v7 => if s0 = (if v6 = v7 then (1 : Int32) else (0 : Int32)) then (fX2_wrongPairs_b80 t0 x1 x2 x3 M0) else fX2_wrongPairs_b80 t0 (x1 + (1 : Int32)) x2 x3 M0
set_option maxRecDepth 20000 in
theorem tX2_wrongPairs_b50 {X : gX} {V : gEnv} {t0 : Nat} {x1 : Int32} {x2 : Int32} {x3 : Int32} {s0 : Int32} {M0 : gMem} (ht0 : gNet gShC t0) {o : ((Int32 × Int32) ⊕ Int32)} (h : fX2_wrongPairs_b50 t0 x1 x2 x3 s0 M0 = some o) (Kc : ∀ s9, o = .inl s9 → gG X V mX2_wrongPairs gShC M0 0 0 14 [(0, .ref (gAd V t0)), (1, .int s9.1), (2, .int x2), (3, .int s9.2)] []) (Kx : ∀ e9, o = .inr e9 → gG X V mX2_wrongPairs gShC M0 0 0 86 [(0, .ref (gAd V t0)), (1, .int e9), (2, .int x2)] []) : gG X V mX2_wrongPairs gShC M0 0 0 50 [(0, .ref (gAd V t0)), (1, .int x1), (2, .int x2), (3, .int x3)] [.int s0] := by
  unfold fX2_wrongPairs_b50 at h
  refine g_istore (ls' := [(4, .int s0), (0, .ref (gAd V t0)), (1, .int x1), (2, .int x2), (3, .int x3)]) (Nat.le_of_ble_eq_true rfl) rfl dX2_wrongPairs_50 ?_
  refine g_iload 0 rfl dX2_wrongPairs_52 ?_
  refine g_aload_n 1 rfl rfl dX2_wrongPairs_54 ?_
  refine g_getR FX2_34 ht0.1 rfl dX2_wrongPairs_55 ?_
  refine g_iload_n 3 rfl rfl dX2_wrongPairs_58 ?_
  obtain ⟨v6, ev6, h⟩ := g_bnd h
  refine g_iald' ev6 ht0.2.2.2.2.2.2.2.2.1 dX2_wrongPairs_59 ?_
  refine g_aload_n 1 rfl rfl dX2_wrongPairs_60 ?_
  refine g_getR FX2_34 ht0.1 rfl dX2_wrongPairs_61 ?_
  refine g_iload_n 4 rfl rfl dX2_wrongPairs_64 ?_
  obtain ⟨v7, ev7, h⟩ := g_bnd h
  refine g_iald' ev7 ht0.2.2.2.2.2.2.2.2.1 dX2_wrongPairs_65 ?_
  have KJ : gG X V mX2_wrongPairs gShC M0 0 0 74 [(4, .int s0), (0, .ref (gAd V t0)), (1, .int x1), (2, .int x2), (3, .int x3)] [.int (if v6 = v7 then (1 : Int32) else (0 : Int32)), .int s0] := by
    rcases g_ite h with ⟨c9, h⟩ | ⟨c9, h⟩
    · refine g_icmp_eq_t c9 (tgt := 80) rfl dX2_wrongPairs_74 ?_
      refine g_sub [1, 2, 3, 4] rfl ?_
      exact tX2_wrongPairs_b80 ht0 h Kc Kx
    · refine g_icmp_eq_f c9 (tgt := 80) rfl dX2_wrongPairs_74 ?_
      refine g_iinc (j := 2) (v := x1 + (1 : Int32)) (ls' := [(1, .int (x1 + (1 : Int32))), (4, .int s0), (0, .ref (gAd V t0)), (2, .int x2), (3, .int x3)]) rfl rfl (Nat.le_of_ble_eq_true rfl) rfl dX2_wrongPairs_77 ?_
      refine g_sub [2, 0, 3, 4] rfl ?_
      exact tX2_wrongPairs_b80 ht0 h Kc Kx
  by_cases c8 : v6 = v7
  · rw [if_pos c8] at KJ
    refine g_icmp_ne_f c8 (tgt := 73) rfl dX2_wrongPairs_66 ?_
    refine g_iconst (v := 1) rfl dX2_wrongPairs_69 ?_
    refine g_goto (tgt := 74) rfl dX2_wrongPairs_70 ?_
    exact KJ
  · rw [if_neg c8] at KJ
    refine g_icmp_ne_t c8 (tgt := 73) rfl dX2_wrongPairs_66 ?_
    refine g_iconst (v := 0) rfl dX2_wrongPairs_73 ?_
    exact KJ
def fX2_wrongPairs_b49 (t0 : Nat) (x1 : Int32) (x2 : Int32) (x3 : Int32) (M0 : gMem) : Option ((Int32 × Int32) ⊕ Int32) :=
  fX2_wrongPairs_b50 t0 x1 x2 x3 (0 : Int32) M0
set_option maxRecDepth 20000 in
theorem tX2_wrongPairs_b49 {X : gX} {V : gEnv} {t0 : Nat} {x1 : Int32} {x2 : Int32} {x3 : Int32} {M0 : gMem} (ht0 : gNet gShC t0) {o : ((Int32 × Int32) ⊕ Int32)} (h : fX2_wrongPairs_b49 t0 x1 x2 x3 M0 = some o) (Kc : ∀ s9, o = .inl s9 → gG X V mX2_wrongPairs gShC M0 0 0 14 [(0, .ref (gAd V t0)), (1, .int s9.1), (2, .int x2), (3, .int s9.2)] []) (Kx : ∀ e9, o = .inr e9 → gG X V mX2_wrongPairs gShC M0 0 0 86 [(0, .ref (gAd V t0)), (1, .int e9), (2, .int x2)] []) : gG X V mX2_wrongPairs gShC M0 0 0 49 [(0, .ref (gAd V t0)), (1, .int x1), (2, .int x2), (3, .int x3)] [] := by
  unfold fX2_wrongPairs_b49 at h
  refine g_iconst (v := 0) rfl dX2_wrongPairs_49 ?_
  exact tX2_wrongPairs_b50 ht0 h Kc Kx
def fX2_wrongPairs_l14 (t0 : Nat) (x2 : Int32) (M0 : gMem) (x1 : Int32) (x3 : Int32) : Option ((Int32 × Int32) ⊕ Int32) :=
  if x2 ≤ x3 then (some (.inr x1)) else (rI M0 (t0 + 6) 24 x2).bind fun v3 => (fX10_has v3 x3).bind fun v4 => if v4 = 0 then (fX2_wrongPairs_b49 t0 x1 x2 x3 M0) else (rI M0 (t0 + 6) 24 x3).bind fun v10 => (fX10_has v10 x2).bind fun v11 => if v11 = 0 then (fX2_wrongPairs_b49 t0 x1 x2 x3 M0) else fX2_wrongPairs_b50 t0 x1 x2 x3 (1 : Int32) M0
set_option maxRecDepth 20000 in
theorem tX2_wrongPairs_l14 {X : gX} {V : gEnv} {t0 : Nat} {x2 : Int32} {M0 : gMem} {x1 : Int32} {x3 : Int32} (ht0 : gNet gShC t0) {o : ((Int32 × Int32) ⊕ Int32)} (h : fX2_wrongPairs_l14 t0 x2 M0 x1 x3 = some o) (Kc : ∀ s9, o = .inl s9 → gG X V mX2_wrongPairs gShC M0 0 0 14 [(0, .ref (gAd V t0)), (1, .int s9.1), (2, .int x2), (3, .int s9.2)] []) (Kx : ∀ e9, o = .inr e9 → gG X V mX2_wrongPairs gShC M0 0 0 86 [(0, .ref (gAd V t0)), (1, .int e9), (2, .int x2)] []) : gG X V mX2_wrongPairs gShC M0 0 0 14 [(0, .ref (gAd V t0)), (1, .int x1), (2, .int x2), (3, .int x3)] [] := by
  unfold fX2_wrongPairs_l14 at h
  refine g_iload_n 3 rfl rfl dX2_wrongPairs_14 ?_
  refine g_iload_n 2 rfl rfl dX2_wrongPairs_15 ?_
  rcases g_ite h with ⟨c2, h⟩ | ⟨c2, h⟩
  · refine g_icmp_ge_t c2 (tgt := 86) rfl dX2_wrongPairs_16 ?_
    cases h
    refine g_sub [0, 1, 2] rfl ?_
    exact Kx x1 rfl
  · refine g_icmp_ge_f c2 (tgt := 86) rfl dX2_wrongPairs_16 ?_
    refine g_aload_n 0 rfl rfl dX2_wrongPairs_19 ?_
    refine g_getR FX2_28 ht0.1 rfl dX2_wrongPairs_20 ?_
    refine g_iload_n 2 rfl rfl dX2_wrongPairs_23 ?_
    obtain ⟨v3, ev3, h⟩ := g_bnd h
    refine g_iald' ev3 ht0.2.2.2.2.2.2.1 dX2_wrongPairs_24 ?_
    refine g_iload_n 3 rfl rfl dX2_wrongPairs_25 ?_
    obtain ⟨v4, ev4, h⟩ := g_bnd h
    refine g_callN LX2_71 (kX10_has ev4) rfl rfl (Nat.le_of_ble_eq_true rfl) ⟨Nat.le_of_ble_eq_true rfl, Nat.le_of_ble_eq_true rfl⟩ ⟨Nat.le_of_ble_eq_true rfl, Nat.le_of_ble_eq_true rfl⟩ dX2_wrongPairs_26 rfl ?_
    rcases g_ite h with ⟨c5, h⟩ | ⟨c5, h⟩
    · refine g_if_eq_t c5 (tgt := 49) rfl dX2_wrongPairs_29 ?_
      exact tX2_wrongPairs_b49 ht0 h Kc Kx
    · refine g_if_eq_f c5 (tgt := 49) rfl dX2_wrongPairs_29 ?_
      refine g_aload_n 0 rfl rfl dX2_wrongPairs_32 ?_
      refine g_getR FX2_28 ht0.1 rfl dX2_wrongPairs_33 ?_
      refine g_iload_n 3 rfl rfl dX2_wrongPairs_36 ?_
      obtain ⟨v10, ev10, h⟩ := g_bnd h
      refine g_iald' ev10 ht0.2.2.2.2.2.2.1 dX2_wrongPairs_37 ?_
      refine g_iload_n 2 rfl rfl dX2_wrongPairs_38 ?_
      obtain ⟨v11, ev11, h⟩ := g_bnd h
      refine g_callN LX2_71 (kX10_has ev11) rfl rfl (Nat.le_of_ble_eq_true rfl) ⟨Nat.le_of_ble_eq_true rfl, Nat.le_of_ble_eq_true rfl⟩ ⟨Nat.le_of_ble_eq_true rfl, Nat.le_of_ble_eq_true rfl⟩ dX2_wrongPairs_39 rfl ?_
      rcases g_ite h with ⟨c12, h⟩ | ⟨c12, h⟩
      · refine g_if_eq_t c12 (tgt := 49) rfl dX2_wrongPairs_42 ?_
        exact tX2_wrongPairs_b49 ht0 h Kc Kx
      · refine g_if_eq_f c12 (tgt := 49) rfl dX2_wrongPairs_42 ?_
        refine g_iconst (v := 1) rfl dX2_wrongPairs_45 ?_
        refine g_goto (tgt := 50) rfl dX2_wrongPairs_46 ?_
        exact tX2_wrongPairs_b50 ht0 h Kc Kx
def fX2_wrongPairs_l4 (t0 : Nat) (M0 : gMem) (x1 : Int32) (x2 : Int32) : Option ((Int32 × Int32) ⊕ Int32) :=
  if (M0.1 t0 9) ≤ x2 then (some (.inr x1)) else (gLoop (fun z9 => fX2_wrongPairs_l14 t0 x2 M0 z9.1 z9.2) gFu (x1, (0 : Int32))).bind fun w13 => some (.inl (w13, x2 + (1 : Int32)))
set_option maxRecDepth 20000 in
theorem tX2_wrongPairs_l4 {X : gX} {V : gEnv} {t0 : Nat} {M0 : gMem} {x1 : Int32} {x2 : Int32} (ht0 : gNet gShC t0) {o : ((Int32 × Int32) ⊕ Int32)} (h : fX2_wrongPairs_l4 t0 M0 x1 x2 = some o) (Kc : ∀ s9, o = .inl s9 → gG X V mX2_wrongPairs gShC M0 0 0 4 [(0, .ref (gAd V t0)), (1, .int s9.1), (2, .int s9.2)] []) (Kx : ∀ e9, o = .inr e9 → gG X V mX2_wrongPairs gShC M0 0 0 92 [(1, .int e9)] []) : gG X V mX2_wrongPairs gShC M0 0 0 4 [(0, .ref (gAd V t0)), (1, .int x1), (2, .int x2)] [] := by
  unfold fX2_wrongPairs_l4 at h
  refine g_iload_n 2 rfl rfl dX2_wrongPairs_4 ?_
  refine g_aload_n 0 rfl rfl dX2_wrongPairs_5 ?_
  refine g_getI FX2_40 ht0.1 rfl dX2_wrongPairs_6 ?_
  rcases g_ite h with ⟨c1, h⟩ | ⟨c1, h⟩
  · refine g_icmp_ge_t c1 (tgt := 92) rfl dX2_wrongPairs_9 ?_
    cases h
    refine g_sub [1] rfl ?_
    exact Kx x1 rfl
  · refine g_icmp_ge_f c1 (tgt := 92) rfl dX2_wrongPairs_9 ?_
    refine g_iconst (v := 0) rfl dX2_wrongPairs_12 ?_
    refine g_istore_n (ls' := [(3, .int (0 : Int32)), (0, .ref (gAd V t0)), (1, .int x1), (2, .int x2)]) rfl (Nat.le_of_ble_eq_true rfl) rfl dX2_wrongPairs_13 ?_
    obtain ⟨w13, ew13, h⟩ := g_bnd h
    refine g_sub [1, 2, 3, 0] rfl ?_
    have KX : gG X V mX2_wrongPairs gShC M0 0 0 86 [(0, .ref (gAd V t0)), (1, .int w13), (2, .int x2)] [] := by
      refine g_iinc (j := 2) (v := x2 + (1 : Int32)) (ls' := [(2, .int (x2 + (1 : Int32))), (0, .ref (gAd V t0)), (1, .int w13)]) rfl rfl (Nat.le_of_ble_eq_true rfl) rfl dX2_wrongPairs_86 ?_
      refine g_goto (tgt := 4) rfl dX2_wrongPairs_89 ?_
      cases h
      refine g_sub [1, 2, 0] rfl ?_
      exact Kc (w13, x2 + (1 : Int32)) rfl
    exact gLoop_Q ew13 (fun z9 => gG X V mX2_wrongPairs gShC M0 0 0 14 [(0, .ref (gAd V t0)), (1, .int z9.1), (2, .int x2), (3, .int z9.2)] []) (fun s9 o9 hb9 hc9 hx9 => tX2_wrongPairs_l14 ht0 hb9 hc9 (fun e9 he9 => by cases hx9 _ he9; exact KX))
def fX2_wrongPairs (t0 : Nat) (M0 : gMem) : Option Int32 :=
  (gLoop (fun z9 => fX2_wrongPairs_l4 t0 M0 z9.1 z9.2) gFu ((0 : Int32), (0 : Int32))).bind fun w14 => some w14
set_option maxRecDepth 20000 in
theorem tX2_wrongPairs {X : gX} {V : gEnv} {t0 : Nat} {M0 : gMem} (ht0 : gNet gShC t0) {o : Int32} (h : fX2_wrongPairs t0 M0 = some o) (O : gO X V mX2_wrongPairs gShC (some .int) (some (.int o)) M0) : gG X V mX2_wrongPairs gShC M0 0 0 0 [(0, .ref (gAd V t0))] [] := by
  unfold fX2_wrongPairs at h
  refine g_iconst (v := 0) rfl dX2_wrongPairs_0 ?_
  refine g_istore_n (ls' := [(1, .int (0 : Int32)), (0, .ref (gAd V t0))]) rfl (Nat.le_of_ble_eq_true rfl) rfl dX2_wrongPairs_1 ?_
  refine g_iconst (v := 0) rfl dX2_wrongPairs_2 ?_
  refine g_istore_n (ls' := [(2, .int (0 : Int32)), (1, .int (0 : Int32)), (0, .ref (gAd V t0))]) rfl (Nat.le_of_ble_eq_true rfl) rfl dX2_wrongPairs_3 ?_
  obtain ⟨w14, ew14, h⟩ := g_bnd h
  refine g_sub [2, 1, 0] rfl ?_
  have KX : gG X V mX2_wrongPairs gShC M0 0 0 92 [(1, .int w14)] [] := by
    refine g_iload_n 0 rfl rfl dX2_wrongPairs_92 ?_
    cases h
    exact g_iret O ⟨Nat.le_of_ble_eq_true rfl, Nat.le_of_ble_eq_true rfl⟩ rfl dX2_wrongPairs_93
  exact gLoop_Q ew14 (fun z9 => gG X V mX2_wrongPairs gShC M0 0 0 4 [(0, .ref (gAd V t0)), (1, .int z9.1), (2, .int z9.2)] []) (fun s9 o9 hb9 hc9 hx9 => tX2_wrongPairs_l4 ht0 hb9 hc9 (fun e9 he9 => by cases hx9 _ he9; exact KX))
theorem kX2_wrongPairs {l : Launch} {V : gEnv} {M0 : gMem} {t0 : Nat} (ht0 : gNet gShC t0) {o : Int32} (h : fX2_wrongPairs t0 M0 = some o) : gM l yX2_wrongPairs cX2_wrongPairs 5 (some .int) rX2_wrongPairs V gShC [.ref (gAd V t0)] M0 (some (.int o)) M0 :=
  gM.of (by decide) (Nat.le_of_ble_eq_true rfl) rfl (fun X _ O => tX2_wrongPairs ht0 h O)
theorem dX3_kindOf_0 : decode cX3_kindOf 0 = .ok (.aload_n 0, 1) := by decide +kernel
theorem dX3_kindOf_1 : decode cX3_kindOf 1 = .ok (.ldc 66, 2) := by decide +kernel
theorem dX3_kindOf_3 : decode cX3_kindOf 3 = .ok (.invokevirtual 68, 3) := by decide +kernel
theorem dX3_kindOf_6 : decode cX3_kindOf 6 = .ok (.ifCond .eq 5, 3) := by decide +kernel
theorem dX3_kindOf_9 : decode cX3_kindOf 9 = .ok (.iconst 1, 1) := by decide +kernel
theorem dX3_kindOf_10 : decode cX3_kindOf 10 = .ok (.ireturn, 1) := by decide +kernel
theorem dX3_kindOf_11 : decode cX3_kindOf 11 = .ok (.aload_n 0, 1) := by decide +kernel
theorem dX3_kindOf_12 : decode cX3_kindOf 12 = .ok (.ldc 72, 2) := by decide +kernel
theorem dX3_kindOf_14 : decode cX3_kindOf 14 = .ok (.invokevirtual 68, 3) := by decide +kernel
theorem dX3_kindOf_17 : decode cX3_kindOf 17 = .ok (.ifCond .eq 5, 3) := by decide +kernel
theorem dX3_kindOf_20 : decode cX3_kindOf 20 = .ok (.iconst 2, 1) := by decide +kernel
theorem dX3_kindOf_21 : decode cX3_kindOf 21 = .ok (.ireturn, 1) := by decide +kernel
theorem dX3_kindOf_22 : decode cX3_kindOf 22 = .ok (.aload_n 0, 1) := by decide +kernel
theorem dX3_kindOf_23 : decode cX3_kindOf 23 = .ok (.ldc 74, 2) := by decide +kernel
theorem dX3_kindOf_25 : decode cX3_kindOf 25 = .ok (.invokevirtual 68, 3) := by decide +kernel
theorem dX3_kindOf_28 : decode cX3_kindOf 28 = .ok (.ifCond .eq 5, 3) := by decide +kernel
theorem dX3_kindOf_31 : decode cX3_kindOf 31 = .ok (.iconst 3, 1) := by decide +kernel
theorem dX3_kindOf_32 : decode cX3_kindOf 32 = .ok (.ireturn, 1) := by decide +kernel
theorem dX3_kindOf_33 : decode cX3_kindOf 33 = .ok (.aload_n 0, 1) := by decide +kernel
theorem dX3_kindOf_34 : decode cX3_kindOf 34 = .ok (.ldc 76, 2) := by decide +kernel
theorem dX3_kindOf_36 : decode cX3_kindOf 36 = .ok (.invokevirtual 68, 3) := by decide +kernel
theorem dX3_kindOf_39 : decode cX3_kindOf 39 = .ok (.ifCond .eq 5, 3) := by decide +kernel
theorem dX3_kindOf_42 : decode cX3_kindOf 42 = .ok (.iconst 4, 1) := by decide +kernel
theorem dX3_kindOf_43 : decode cX3_kindOf 43 = .ok (.ireturn, 1) := by decide +kernel
theorem dX3_kindOf_44 : decode cX3_kindOf 44 = .ok (.aload_n 0, 1) := by decide +kernel
theorem dX3_kindOf_45 : decode cX3_kindOf 45 = .ok (.ldc 78, 2) := by decide +kernel
theorem dX3_kindOf_47 : decode cX3_kindOf 47 = .ok (.invokevirtual 68, 3) := by decide +kernel
theorem dX3_kindOf_50 : decode cX3_kindOf 50 = .ok (.ifCond .eq 5, 3) := by decide +kernel
theorem dX3_kindOf_53 : decode cX3_kindOf 53 = .ok (.iconst 5, 1) := by decide +kernel
theorem dX3_kindOf_54 : decode cX3_kindOf 54 = .ok (.ireturn, 1) := by decide +kernel
theorem dX3_kindOf_55 : decode cX3_kindOf 55 = .ok (.aload_n 0, 1) := by decide +kernel
theorem dX3_kindOf_56 : decode cX3_kindOf 56 = .ok (.ldc 80, 2) := by decide +kernel
theorem dX3_kindOf_58 : decode cX3_kindOf 58 = .ok (.invokevirtual 68, 3) := by decide +kernel
theorem dX3_kindOf_61 : decode cX3_kindOf 61 = .ok (.ifCond .eq 6, 3) := by decide +kernel
theorem dX3_kindOf_64 : decode cX3_kindOf 64 = .ok (.bipush 6, 2) := by decide +kernel
theorem dX3_kindOf_66 : decode cX3_kindOf 66 = .ok (.ireturn, 1) := by decide +kernel
theorem dX3_kindOf_67 : decode cX3_kindOf 67 = .ok (.aload_n 0, 1) := by decide +kernel
theorem dX3_kindOf_68 : decode cX3_kindOf 68 = .ok (.ldc 82, 2) := by decide +kernel
theorem dX3_kindOf_70 : decode cX3_kindOf 70 = .ok (.invokevirtual 68, 3) := by decide +kernel
theorem dX3_kindOf_73 : decode cX3_kindOf 73 = .ok (.ifCond .eq 8, 3) := by decide +kernel
theorem dX3_kindOf_76 : decode cX3_kindOf 76 = .ok (.bipush 7, 2) := by decide +kernel
theorem dX3_kindOf_78 : decode cX3_kindOf 78 = .ok (.goto 4, 3) := by decide +kernel
theorem dX3_kindOf_81 : decode cX3_kindOf 81 = .ok (.iconst 0, 1) := by decide +kernel
theorem dX3_kindOf_82 : decode cX3_kindOf 82 = .ok (.ireturn, 1) := by decide +kernel
abbrev rX3_kindOf : Room := { frames := 5, cells := 0, slots := 0, locals := 142 }
abbrev mX3_kindOf : gY := (cX3_kindOf, RX3, 1, rX3_kindOf)
def fX3_kindOf (M0 : gMem) : Option Int32 :=
  (fX5_wordIs 1 M0).bind fun v1 => if v1 = 0 then ((fX5_wordIs 4 M0).bind fun v3 => if v3 = 0 then ((fX5_wordIs 5 M0).bind fun v5 => if v5 = 0 then ((fX5_wordIs 6 M0).bind fun v7 => if v7 = 0 then ((fX5_wordIs 2 M0).bind fun v9 => if v9 = 0 then ((fX5_wordIs 3 M0).bind fun v11 => if v11 = 0 then ((fX5_wordIs 7 M0).bind fun v13 => some (if v13 = 0 then (0 : Int32) else (7 : Int32))) else some (6 : Int32)) else some (5 : Int32)) else some (4 : Int32)) else some (3 : Int32)) else some (2 : Int32)) else some (1 : Int32)
set_option maxRecDepth 20000 in
theorem tX3_kindOf {X : gX} {V : gEnv} {M0 : gMem}  {o : Int32} (h : fX3_kindOf M0 = some o) (O : gO X V mX3_kindOf gShC (some .int) (some (.int o)) M0) : gG X V mX3_kindOf gShC M0 0 0 0 [(0, .ref (gAd V 32))] [] := by
  unfold fX3_kindOf at h
  refine g_aload_n 0 rfl rfl dX3_kindOf_0 ?_
  refine g_ldcS SX3_66 dX3_kindOf_1 ?_
  obtain ⟨v1, ev1, h⟩ := g_bnd h
  refine g_callV LX3_68 sC_32 rfl (kX5_wordIs (by decide) ev1) rfl rfl (Nat.le_of_ble_eq_true rfl) ⟨Nat.le_of_ble_eq_true rfl, Nat.le_of_ble_eq_true rfl⟩ ⟨Nat.le_of_ble_eq_true rfl, Nat.le_of_ble_eq_true rfl⟩ dX3_kindOf_3 rfl ?_
  rcases g_ite h with ⟨c2, h⟩ | ⟨c2, h⟩
  · refine g_if_eq_t c2 (tgt := 11) rfl dX3_kindOf_6 ?_
    refine g_aload_n 0 rfl rfl dX3_kindOf_11 ?_
    refine g_ldcS SX3_72 dX3_kindOf_12 ?_
    obtain ⟨v3, ev3, h⟩ := g_bnd h
    refine g_callV LX3_68 sC_32 rfl (kX5_wordIs (by decide) ev3) rfl rfl (Nat.le_of_ble_eq_true rfl) ⟨Nat.le_of_ble_eq_true rfl, Nat.le_of_ble_eq_true rfl⟩ ⟨Nat.le_of_ble_eq_true rfl, Nat.le_of_ble_eq_true rfl⟩ dX3_kindOf_14 rfl ?_
    rcases g_ite h with ⟨c4, h⟩ | ⟨c4, h⟩
    · refine g_if_eq_t c4 (tgt := 22) rfl dX3_kindOf_17 ?_
      refine g_aload_n 0 rfl rfl dX3_kindOf_22 ?_
      refine g_ldcS SX3_74 dX3_kindOf_23 ?_
      obtain ⟨v5, ev5, h⟩ := g_bnd h
      refine g_callV LX3_68 sC_32 rfl (kX5_wordIs (by decide) ev5) rfl rfl (Nat.le_of_ble_eq_true rfl) ⟨Nat.le_of_ble_eq_true rfl, Nat.le_of_ble_eq_true rfl⟩ ⟨Nat.le_of_ble_eq_true rfl, Nat.le_of_ble_eq_true rfl⟩ dX3_kindOf_25 rfl ?_
      rcases g_ite h with ⟨c6, h⟩ | ⟨c6, h⟩
      · refine g_if_eq_t c6 (tgt := 33) rfl dX3_kindOf_28 ?_
        refine g_aload_n 0 rfl rfl dX3_kindOf_33 ?_
        refine g_ldcS SX3_76 dX3_kindOf_34 ?_
        obtain ⟨v7, ev7, h⟩ := g_bnd h
        refine g_callV LX3_68 sC_32 rfl (kX5_wordIs (by decide) ev7) rfl rfl (Nat.le_of_ble_eq_true rfl) ⟨Nat.le_of_ble_eq_true rfl, Nat.le_of_ble_eq_true rfl⟩ ⟨Nat.le_of_ble_eq_true rfl, Nat.le_of_ble_eq_true rfl⟩ dX3_kindOf_36 rfl ?_
        rcases g_ite h with ⟨c8, h⟩ | ⟨c8, h⟩
        · refine g_if_eq_t c8 (tgt := 44) rfl dX3_kindOf_39 ?_
          refine g_aload_n 0 rfl rfl dX3_kindOf_44 ?_
          refine g_ldcS SX3_78 dX3_kindOf_45 ?_
          obtain ⟨v9, ev9, h⟩ := g_bnd h
          refine g_callV LX3_68 sC_32 rfl (kX5_wordIs (by decide) ev9) rfl rfl (Nat.le_of_ble_eq_true rfl) ⟨Nat.le_of_ble_eq_true rfl, Nat.le_of_ble_eq_true rfl⟩ ⟨Nat.le_of_ble_eq_true rfl, Nat.le_of_ble_eq_true rfl⟩ dX3_kindOf_47 rfl ?_
          rcases g_ite h with ⟨c10, h⟩ | ⟨c10, h⟩
          · refine g_if_eq_t c10 (tgt := 55) rfl dX3_kindOf_50 ?_
            refine g_aload_n 0 rfl rfl dX3_kindOf_55 ?_
            refine g_ldcS SX3_80 dX3_kindOf_56 ?_
            obtain ⟨v11, ev11, h⟩ := g_bnd h
            refine g_callV LX3_68 sC_32 rfl (kX5_wordIs (by decide) ev11) rfl rfl (Nat.le_of_ble_eq_true rfl) ⟨Nat.le_of_ble_eq_true rfl, Nat.le_of_ble_eq_true rfl⟩ ⟨Nat.le_of_ble_eq_true rfl, Nat.le_of_ble_eq_true rfl⟩ dX3_kindOf_58 rfl ?_
            rcases g_ite h with ⟨c12, h⟩ | ⟨c12, h⟩
            · refine g_if_eq_t c12 (tgt := 67) rfl dX3_kindOf_61 ?_
              refine g_aload_n 0 rfl rfl dX3_kindOf_67 ?_
              refine g_ldcS SX3_82 dX3_kindOf_68 ?_
              obtain ⟨v13, ev13, h⟩ := g_bnd h
              refine g_callV LX3_68 sC_32 rfl (kX5_wordIs (by decide) ev13) rfl rfl (Nat.le_of_ble_eq_true rfl) ⟨Nat.le_of_ble_eq_true rfl, Nat.le_of_ble_eq_true rfl⟩ ⟨Nat.le_of_ble_eq_true rfl, Nat.le_of_ble_eq_true rfl⟩ dX3_kindOf_70 rfl ?_
              have KJ : gG X V mX3_kindOf gShC M0 0 0 82 [(0, .ref (gAd V 32))] [.int (if v13 = 0 then (0 : Int32) else (7 : Int32))] := by
                cases h
                exact g_iret O ⟨Nat.le_of_ble_eq_true rfl, Nat.le_of_ble_eq_true rfl⟩ rfl dX3_kindOf_82
              by_cases c14 : v13 = 0
              · rw [if_pos c14] at KJ
                refine g_if_eq_t c14 (tgt := 81) rfl dX3_kindOf_73 ?_
                refine g_iconst (v := 0) rfl dX3_kindOf_81 ?_
                exact KJ
              · rw [if_neg c14] at KJ
                refine g_if_eq_f c14 (tgt := 81) rfl dX3_kindOf_73 ?_
                refine g_bipush (v := 7) rfl dX3_kindOf_76 ?_
                refine g_goto (tgt := 82) rfl dX3_kindOf_78 ?_
                exact KJ
            · refine g_if_eq_f c12 (tgt := 67) rfl dX3_kindOf_61 ?_
              refine g_bipush (v := 6) rfl dX3_kindOf_64 ?_
              cases h
              exact g_iret O ⟨Nat.le_of_ble_eq_true rfl, Nat.le_of_ble_eq_true rfl⟩ rfl dX3_kindOf_66
          · refine g_if_eq_f c10 (tgt := 55) rfl dX3_kindOf_50 ?_
            refine g_iconst (v := 5) rfl dX3_kindOf_53 ?_
            cases h
            exact g_iret O ⟨Nat.le_of_ble_eq_true rfl, Nat.le_of_ble_eq_true rfl⟩ rfl dX3_kindOf_54
        · refine g_if_eq_f c8 (tgt := 44) rfl dX3_kindOf_39 ?_
          refine g_iconst (v := 4) rfl dX3_kindOf_42 ?_
          cases h
          exact g_iret O ⟨Nat.le_of_ble_eq_true rfl, Nat.le_of_ble_eq_true rfl⟩ rfl dX3_kindOf_43
      · refine g_if_eq_f c6 (tgt := 33) rfl dX3_kindOf_28 ?_
        refine g_iconst (v := 3) rfl dX3_kindOf_31 ?_
        cases h
        exact g_iret O ⟨Nat.le_of_ble_eq_true rfl, Nat.le_of_ble_eq_true rfl⟩ rfl dX3_kindOf_32
    · refine g_if_eq_f c4 (tgt := 22) rfl dX3_kindOf_17 ?_
      refine g_iconst (v := 2) rfl dX3_kindOf_20 ?_
      cases h
      exact g_iret O ⟨Nat.le_of_ble_eq_true rfl, Nat.le_of_ble_eq_true rfl⟩ rfl dX3_kindOf_21
  · refine g_if_eq_f c2 (tgt := 11) rfl dX3_kindOf_6 ?_
    refine g_iconst (v := 1) rfl dX3_kindOf_9 ?_
    cases h
    exact g_iret O ⟨Nat.le_of_ble_eq_true rfl, Nat.le_of_ble_eq_true rfl⟩ rfl dX3_kindOf_10
theorem kX3_kindOf {l : Launch} {V : gEnv} {M0 : gMem}   {o : Int32} (h : fX3_kindOf M0 = some o) : gM l yX3_kindOf cX3_kindOf 1 (some .int) rX3_kindOf V gShC [.ref (gAd V 32)] M0 (some (.int o)) M0 :=
  gM.of (by decide) (Nat.le_of_ble_eq_true rfl) rfl (fun X _ O => tX3_kindOf  h O)
theorem dX3_readFirst_0 : decode cX3_readFirst 0 = .ok (.aload_n 0, 1) := by decide +kernel
theorem dX3_readFirst_1 : decode cX3_readFirst 1 = .ok (.getfield 15, 3) := by decide +kernel
theorem dX3_readFirst_4 : decode cX3_readFirst 4 = .ok (.aload_n 0, 1) := by decide +kernel
theorem dX3_readFirst_5 : decode cX3_readFirst 5 = .ok (.getfield 21, 3) := by decide +kernel
theorem dX3_readFirst_8 : decode cX3_readFirst 8 = .ok (.aload_n 1, 1) := by decide +kernel
theorem dX3_readFirst_9 : decode cX3_readFirst 9 = .ok (.iconst 0, 1) := by decide +kernel
theorem dX3_readFirst_10 : decode cX3_readFirst 10 = .ok (.iload_n 2, 1) := by decide +kernel
theorem dX3_readFirst_11 : decode cX3_readFirst 11 = .ok (.invokevirtual 84, 3) := by decide +kernel
theorem dX3_readFirst_14 : decode cX3_readFirst 14 = .ok (.iastore, 1) := by decide +kernel
theorem dX3_readFirst_15 : decode cX3_readFirst 15 = .ok (.aload_n 0, 1) := by decide +kernel
theorem dX3_readFirst_16 : decode cX3_readFirst 16 = .ok (.getfield 15, 3) := by decide +kernel
theorem dX3_readFirst_19 : decode cX3_readFirst 19 = .ok (.aload_n 0, 1) := by decide +kernel
theorem dX3_readFirst_20 : decode cX3_readFirst 20 = .ok (.getfield 21, 3) := by decide +kernel
theorem dX3_readFirst_23 : decode cX3_readFirst 23 = .ok (.iaload, 1) := by decide +kernel
theorem dX3_readFirst_24 : decode cX3_readFirst 24 = .ok (.iconst (-1), 1) := by decide +kernel
theorem dX3_readFirst_25 : decode cX3_readFirst 25 = .ok (.if_icmp .eq 7, 3) := by decide +kernel
theorem dX3_readFirst_28 : decode cX3_readFirst 28 = .ok (.iconst 1, 1) := by decide +kernel
theorem dX3_readFirst_29 : decode cX3_readFirst 29 = .ok (.goto 4, 3) := by decide +kernel
theorem dX3_readFirst_32 : decode cX3_readFirst 32 = .ok (.iconst 0, 1) := by decide +kernel
theorem dX3_readFirst_33 : decode cX3_readFirst 33 = .ok (.ireturn, 1) := by decide +kernel
abbrev rX3_readFirst : Room := { frames := 2, cells := 0, slots := 0, locals := 45 }
abbrev mX3_readFirst : gY := (cX3_readFirst, RX3, 3, rX3_readFirst)
def fX3_readFirst (x2 : Int32) (M0 : gMem) : Option (Int32 × gMem) :=
  (fX5_readNumber (0 : Int32) x2 M0).bind fun v1 => (wI v1.2 39 30 (M0.1 37 3) v1.1).bind fun M2 => (rI M2 39 30 (M2.1 37 3)).bind fun v3 => some (if v3 = (-1 : Int32) then (0 : Int32) else (1 : Int32), M2)
set_option maxRecDepth 20000 in
theorem tX3_readFirst {X : gX} {V : gEnv} {x2 : Int32} {M0 : gMem}  {o : (Int32 × gMem)} (h : fX3_readFirst x2 M0 = some o) (O : gO X V mX3_readFirst gShC (some .boolean) (some (.int o.1)) o.2) : gG X V mX3_readFirst gShC M0 0 0 0 [(0, .ref (gAd V 37)), (1, .ref (gAd V 32)), (2, .int x2)] [] := by
  unfold fX3_readFirst at h
  refine g_aload_n 0 rfl rfl dX3_readFirst_0 ?_
  refine g_getR FX3_15 sC_37 rfl dX3_readFirst_1 ?_
  refine g_aload_n 0 rfl rfl dX3_readFirst_4 ?_
  refine g_getI FX3_21 sC_37 rfl dX3_readFirst_5 ?_
  refine g_aload_n 1 rfl rfl dX3_readFirst_8 ?_
  refine g_iconst (v := 0) rfl dX3_readFirst_9 ?_
  refine g_iload_n 2 rfl rfl dX3_readFirst_10 ?_
  obtain ⟨v1, ev1, h⟩ := g_bnd h
  refine g_callV LX3_84 sC_32 rfl (kX5_readNumber ev1) rfl rfl (Nat.le_of_ble_eq_true rfl) ⟨Nat.le_of_ble_eq_true rfl, Nat.le_of_ble_eq_true rfl⟩ ⟨Nat.le_of_ble_eq_true rfl, Nat.le_of_ble_eq_true rfl⟩ dX3_readFirst_11 rfl ?_
  obtain ⟨M2, eM2, h⟩ := g_bnd h
  refine g_iast' eM2 sC_39 dX3_readFirst_14 ?_
  refine g_aload_n 0 rfl rfl dX3_readFirst_15 ?_
  refine g_getR FX3_15 sC_37 rfl dX3_readFirst_16 ?_
  refine g_aload_n 0 rfl rfl dX3_readFirst_19 ?_
  refine g_getI FX3_21 sC_37 rfl dX3_readFirst_20 ?_
  obtain ⟨v3, ev3, h⟩ := g_bnd h
  refine g_iald' ev3 sC_39 dX3_readFirst_23 ?_
  refine g_iconst (v := -1) rfl dX3_readFirst_24 ?_
  have KJ : gG X V mX3_readFirst gShC M2 0 0 33 [(0, .ref (gAd V 37)), (1, .ref (gAd V 32)), (2, .int x2)] [.int (if v3 = (-1 : Int32) then (0 : Int32) else (1 : Int32))] := by
    cases h
    exact g_iret O ⟨Nat.le_of_ble_eq_true rfl, Nat.le_of_ble_eq_true rfl⟩ (by split <;> rfl) dX3_readFirst_33
  by_cases c4 : v3 = (-1 : Int32)
  · rw [if_pos c4] at KJ
    refine g_icmp_eq_t c4 (tgt := 32) rfl dX3_readFirst_25 ?_
    refine g_iconst (v := 0) rfl dX3_readFirst_32 ?_
    exact KJ
  · rw [if_neg c4] at KJ
    refine g_icmp_eq_f c4 (tgt := 32) rfl dX3_readFirst_25 ?_
    refine g_iconst (v := 1) rfl dX3_readFirst_28 ?_
    refine g_goto (tgt := 33) rfl dX3_readFirst_29 ?_
    exact KJ
theorem kX3_readFirst {l : Launch} {V : gEnv} {M0 : gMem} {x2 : Int32}  {o : (Int32 × gMem)} (h : fX3_readFirst x2 M0 = some o) : gM l yX3_readFirst cX3_readFirst 3 (some .boolean) rX3_readFirst V gShC [.ref (gAd V 37), .ref (gAd V 32), .int x2] M0 (some (.int o.1)) o.2 :=
  gM.of (by decide) (Nat.le_of_ble_eq_true rfl) rfl (fun X _ O => tX3_readFirst  h O)
