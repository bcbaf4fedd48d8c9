/-! METHODS, by program: pure functions and contracts -/
theorem dX11_says_0 : decode cX11_says 0 = .ok (.aload_n 0, 1) := by decide +kernel
theorem dX11_says_1 : decode cX11_says 1 = .ok (.getfield 240, 3) := by decide +kernel
theorem dX11_says_4 : decode cX11_says 4 = .ok (.ifCond .ne 27, 3) := by decide +kernel
theorem dX11_says_7 : decode cX11_says 7 = .ok (.aload_n 0, 1) := by decide +kernel
theorem dX11_says_8 : decode cX11_says 8 = .ok (.getfield 231, 3) := by decide +kernel
theorem dX11_says_11 : decode cX11_says 11 = .ok (.iconst 1, 1) := by decide +kernel
theorem dX11_says_12 : decode cX11_says 12 = .ok (.if_icmp .ne 19, 3) := by decide +kernel
theorem dX11_says_15 : decode cX11_says 15 = .ok (.aload_n 0, 1) := by decide +kernel
theorem dX11_says_16 : decode cX11_says 16 = .ok (.getfield 222, 3) := by decide +kernel
theorem dX11_says_19 : decode cX11_says 19 = .ok (.aload_n 0, 1) := by decide +kernel
theorem dX11_says_20 : decode cX11_says 20 = .ok (.getfield 225, 3) := by decide +kernel
theorem dX11_says_23 : decode cX11_says 23 = .ok (.isub, 1) := by decide +kernel
theorem dX11_says_24 : decode cX11_says 24 = .ok (.aload_n 1, 1) := by decide +kernel
theorem dX11_says_25 : decode cX11_says 25 = .ok (.invokevirtual 246, 3) := by decide +kernel
theorem dX11_says_28 : decode cX11_says 28 = .ok (.if_icmp .eq 5, 3) := by decide +kernel
theorem dX11_says_31 : decode cX11_says 31 = .ok (.iconst 0, 1) := by decide +kernel
theorem dX11_says_32 : decode cX11_says 32 = .ok (.ireturn, 1) := by decide +kernel
theorem dX11_says_33 : decode cX11_says 33 = .ok (.iconst 0, 1) := by decide +kernel
theorem dX11_says_34 : decode cX11_says 34 = .ok (.istore_n 2, 1) := by decide +kernel
theorem dX11_says_35 : decode cX11_says 35 = .ok (.iload_n 2, 1) := by decide +kernel
theorem dX11_says_36 : decode cX11_says 36 = .ok (.aload_n 1, 1) := by decide +kernel
theorem dX11_says_37 : decode cX11_says 37 = .ok (.invokevirtual 246, 3) := by decide +kernel
theorem dX11_says_40 : decode cX11_says 40 = .ok (.if_icmp .ge 30, 3) := by decide +kernel
theorem dX11_says_43 : decode cX11_says 43 = .ok (.aload_n 0, 1) := by decide +kernel
theorem dX11_says_44 : decode cX11_says 44 = .ok (.getfield 43, 3) := by decide +kernel
theorem dX11_says_47 : decode cX11_says 47 = .ok (.aload_n 0, 1) := by decide +kernel
theorem dX11_says_48 : decode cX11_says 48 = .ok (.getfield 225, 3) := by decide +kernel
theorem dX11_says_51 : decode cX11_says 51 = .ok (.iload_n 2, 1) := by decide +kernel
theorem dX11_says_52 : decode cX11_says 52 = .ok (.iadd, 1) := by decide +kernel
theorem dX11_says_53 : decode cX11_says 53 = .ok (.iaload, 1) := by decide +kernel
theorem dX11_says_54 : decode cX11_says 54 = .ok (.aload_n 1, 1) := by decide +kernel
theorem dX11_says_55 : decode cX11_says 55 = .ok (.iload_n 2, 1) := by decide +kernel
theorem dX11_says_56 : decode cX11_says 56 = .ok (.invokevirtual 250, 3) := by decide +kernel
theorem dX11_says_59 : decode cX11_says 59 = .ok (.if_icmp .eq 5, 3) := by decide +kernel
theorem dX11_says_62 : decode cX11_says 62 = .ok (.iconst 0, 1) := by decide +kernel
theorem dX11_says_63 : decode cX11_says 63 = .ok (.ireturn, 1) := by decide +kernel
theorem dX11_says_64 : decode cX11_says 64 = .ok (.iinc 2 1, 3) := by decide +kernel
theorem dX11_says_67 : decode cX11_says 67 = .ok (.goto (-32), 3) := by decide +kernel
theorem dX11_says_70 : decode cX11_says 70 = .ok (.iconst 1, 1) := by decide +kernel
theorem dX11_says_71 : decode cX11_says 71 = .ok (.ireturn, 1) := by decide +kernel
abbrev rX11_says : Room := { frames := 4, cells := 0, slots := 0, locals := 120 }
abbrev mX11_says : gY := (cX11_says, RX11, 3, rX11_says)
def fX11_says_l35 (t1 : Nat) (M0 : gMem) (x2 : Int32) : Option (Int32 ⊕ (Unit ⊕ Int32)) :=
  if (sLen t1) ≤ x2 then (some (.inr (.inl ()))) else (rI M0 12 900 ((M0.1 0 23) + x2)).bind fun v5 => (sChr t1 x2).bind fun v6 => if v5 = v6 then (some (.inl (x2 + (1 : Int32)))) else some (.inr (.inr (0 : Int32)))
set_option maxRecDepth 20000 in
theorem tX11_says_l35 {X : gX} {V : gEnv} {t1 : Nat} {M0 : gMem} {x2 : Int32} (ht1 : t1 < 8) {o : (Int32 ⊕ (Unit ⊕ Int32))} (h : fX11_says_l35 t1 M0 x2 = some o) (Kc : ∀ s9, o = .inl s9 → gG X V mX11_says gShM M0 0 0 35 [(0, .ref (gAd V 0)), (1, .ref (gAdK V t1)), (2, .int s9)] []) (Kx : ∀ e9, o = .inr (.inl e9) → gG X V mX11_says gShM M0 0 0 70 [] []) (Kr : ∀ r9, o = .inr (.inr r9) → gO X V mX11_says gShM (some .boolean) (some (.int r9)) M0) : gG X V mX11_says gShM M0 0 0 35 [(0, .ref (gAd V 0)), (1, .ref (gAdK V t1)), (2, .int x2)] [] := by
  unfold fX11_says_l35 at h
  refine g_iload_n 2 rfl rfl dX11_says_35 ?_
  refine g_aload_n 1 rfl rfl dX11_says_36 ?_
  refine g_callT ht1 rfl LX11_246 (kJ0_length ht1) rfl rfl (Nat.le_of_ble_eq_true rfl) ⟨Nat.le_of_ble_eq_true rfl, Nat.le_of_ble_eq_true rfl⟩ ⟨Nat.le_of_ble_eq_true rfl, Nat.le_of_ble_eq_true rfl⟩ dX11_says_37 rfl ?_
  rcases g_ite h with ⟨c4, h⟩ | ⟨c4, h⟩
  · refine g_icmp_ge_t c4 (tgt := 70) rfl dX11_says_40 ?_
    cases h
    refine g_sub [] rfl ?_
    exact Kx () rfl
  · refine g_icmp_ge_f c4 (tgt := 70) rfl dX11_says_40 ?_
    refine g_aload_n 0 rfl rfl dX11_says_43 ?_
    refine g_getR FX11_43 sM_0 rfl dX11_says_44 ?_
    refine g_aload_n 0 rfl rfl dX11_says_47 ?_
    refine g_getI FX11_225 sM_0 rfl dX11_says_48 ?_
    refine g_iload_n 2 rfl rfl dX11_says_51 ?_
    refine g_iadd dX11_says_52 ?_
    obtain ⟨v5, ev5, h⟩ := g_bnd h
    refine g_iald' ev5 sM_12 dX11_says_53 ?_
    refine g_aload_n 1 rfl rfl dX11_says_54 ?_
    refine g_iload_n 2 rfl rfl dX11_says_55 ?_
    obtain ⟨v6, ev6, h⟩ := g_bnd h
    refine g_callT ht1 rfl LX11_250 (kJ0_charAt ht1 ev6) rfl rfl (Nat.le_of_ble_eq_true rfl) ⟨Nat.le_of_ble_eq_true rfl, Nat.le_of_ble_eq_true rfl⟩ ⟨Nat.le_of_ble_eq_true rfl, Nat.le_of_ble_eq_true rfl⟩ dX11_says_56 rfl ?_
    rcases g_ite h with ⟨c7, h⟩ | ⟨c7, h⟩
    · refine g_icmp_eq_t c7 (tgt := 64) rfl dX11_says_59 ?_
      refine g_iinc (j := 2) (v := x2 + (1 : Int32)) (ls' := [(2, .int (x2 + (1 : Int32))), (0, .ref (gAd V 0)), (1, .ref (gAdK V t1))]) rfl rfl (Nat.le_of_ble_eq_true rfl) rfl dX11_says_64 ?_
      refine g_goto (tgt := 35) rfl dX11_says_67 ?_
      cases h
      refine g_sub [1, 2, 0] rfl ?_
      exact Kc (x2 + (1 : Int32)) rfl
    · refine g_icmp_eq_f c7 (tgt := 64) rfl dX11_says_59 ?_
      refine g_iconst (v := 0) rfl dX11_says_62 ?_
      cases h
      exact g_iret (Kr (0 : Int32) rfl) ⟨Nat.le_of_ble_eq_true rfl, Nat.le_of_ble_eq_true rfl⟩ rfl dX11_says_63
def fX11_says (t1 : Nat) (M0 : gMem) : Option Int32 :=
  if (M0.1 0 26) = 0 then (if (M0.1 0 25) = (1 : Int32) then (if ((M0.1 0 22) - (M0.1 0 23)) = (sLen t1) then ((gLoop (fun z9 => fX11_says_l35 t1 M0 z9) gFu (0 : Int32)).bind fun w8 => gSE w8 (fun y9 => some (1 : Int32)) (fun r10 => some r10)) else some (0 : Int32)) else some (0 : Int32)) else some (0 : Int32)
set_option maxRecDepth 20000 in
theorem tX11_says {X : gX} {V : gEnv} {t1 : Nat} {M0 : gMem} (ht1 : t1 < 8) {o : Int32} (h : fX11_says t1 M0 = some o) (O : gO X V mX11_says gShM (some .boolean) (some (.int o)) M0) : gG X V mX11_says gShM M0 0 0 0 [(0, .ref (gAd V 0)), (1, .ref (gAdK V t1))] [] := by
  unfold fX11_says at h
  refine g_aload_n 0 rfl rfl dX11_says_0 ?_
  refine g_getI FX11_240 sM_0 rfl dX11_says_1 ?_
  rcases g_ite h with ⟨c1, h⟩ | ⟨c1, h⟩
  · refine g_if_ne_f c1 (tgt := 31) rfl dX11_says_4 ?_
    refine g_aload_n 0 rfl rfl dX11_says_7 ?_
    refine g_getI FX11_231 sM_0 rfl dX11_says_8 ?_
    refine g_iconst (v := 1) rfl dX11_says_11 ?_
    rcases g_ite h with ⟨c2, h⟩ | ⟨c2, h⟩
    · refine g_icmp_ne_f c2 (tgt := 31) rfl dX11_says_12 ?_
      refine g_aload_n 0 rfl rfl dX11_says_15 ?_
      refine g_getI FX11_222 sM_0 rfl dX11_says_16 ?_
      refine g_aload_n 0 rfl rfl dX11_says_19 ?_
      refine g_getI FX11_225 sM_0 rfl dX11_says_20 ?_
      refine g_isub dX11_says_23 ?_
      refine g_aload_n 1 rfl rfl dX11_says_24 ?_
      refine g_callT ht1 rfl LX11_246 (kJ0_length ht1) rfl rfl (Nat.le_of_ble_eq_true rfl) ⟨Nat.le_of_ble_eq_true rfl, Nat.le_of_ble_eq_true rfl⟩ ⟨Nat.le_of_ble_eq_true rfl, Nat.le_of_ble_eq_true rfl⟩ dX11_says_25 rfl ?_
      rcases g_ite h with ⟨c3, h⟩ | ⟨c3, h⟩
      · refine g_icmp_eq_t c3 (tgt := 33) rfl dX11_says_28 ?_
        refine g_iconst (v := 0) rfl dX11_says_33 ?_
        refine g_istore_n (ls' := [(2, .int (0 : Int32)), (0, .ref (gAd V 0)), (1, .ref (gAdK V t1))]) rfl (Nat.le_of_ble_eq_true rfl) rfl dX11_says_34 ?_
        obtain ⟨w8, ew8, h⟩ := g_bnd h
        refine g_sub [1, 2, 0] rfl ?_
        rcases w8 with y9 | r10
        · have h := g_sl h
          have KX : gG X V mX11_says gShM M0 0 0 70 [] [] := by
            refine g_iconst (v := 1) rfl dX11_says_70 ?_
            cases h
            exact g_iret O ⟨Nat.le_of_ble_eq_true rfl, Nat.le_of_ble_eq_true rfl⟩ rfl dX11_says_71
          exact gLoop_Q ew8 (fun z9 => gG X V mX11_says gShM M0 0 0 35 [(0, .ref (gAd V 0)), (1, .ref (gAdK V t1)), (2, .int z9)] []) (fun s9 o9 hb9 hc9 hx9 => tX11_says_l35 ht1 hb9 hc9 (fun e9 he9 => by cases hx9 _ he9; exact KX) (fun r9 he9 => by cases hx9 _ he9))
        · have h := g_sr h
          cases h
          exact gLoop_Q ew8 (fun z9 => gG X V mX11_says gShM M0 0 0 35 [(0, .ref (gAd V 0)), (1, .ref (gAdK V t1)), (2, .int z9)] []) (fun s9 o9 hb9 hc9 hx9 => tX11_says_l35 ht1 hb9 hc9 (fun e9 he9 => by cases hx9 _ he9) (fun r9 he9 => by cases hx9 _ he9; exact O))
      · refine g_icmp_eq_f c3 (tgt := 33) rfl dX11_says_28 ?_
        refine g_iconst (v := 0) rfl dX11_says_31 ?_
        cases h
        exact g_iret O ⟨Nat.le_of_ble_eq_true rfl, Nat.le_of_ble_eq_true rfl⟩ rfl dX11_says_32
    · refine g_icmp_ne_t c2 (tgt := 31) rfl dX11_says_12 ?_
      refine g_iconst (v := 0) rfl dX11_says_31 ?_
      cases h
      exact g_iret O ⟨Nat.le_of_ble_eq_true rfl, Nat.le_of_ble_eq_true rfl⟩ rfl dX11_says_32
  · refine g_if_ne_t c1 (tgt := 31) rfl dX11_says_4 ?_
    refine g_iconst (v := 0) rfl dX11_says_31 ?_
    cases h
    exact g_iret O ⟨Nat.le_of_ble_eq_true rfl, Nat.le_of_ble_eq_true rfl⟩ rfl dX11_says_32
theorem kX11_says {l : Launch} {V : gEnv} {M0 : gMem} {t1 : Nat} (ht1 : t1 < 8) {o : Int32} (h : fX11_says t1 M0 = some o) : gM l yX11_says cX11_says 3 (some .boolean) rX11_says V gShM [.ref (gAd V 0), .ref (gAdK V t1)] M0 (some (.int o)) M0 :=
  gM.of (by decide) (Nat.le_of_ble_eq_true rfl) rfl (fun X _ O => tX11_says ht1 h O)
theorem dX11_takes_0 : decode cX11_takes 0 = .ok (.aload_n 0, 1) := by decide +kernel
theorem dX11_takes_1 : decode cX11_takes 1 = .ok (.getfield 240, 3) := by decide +kernel
theorem dX11_takes_4 : decode cX11_takes 4 = .ok (.ifCond .eq 5, 3) := by decide +kernel
theorem dX11_takes_7 : decode cX11_takes 7 = .ok (.iconst 0, 1) := by decide +kernel
theorem dX11_takes_8 : decode cX11_takes 8 = .ok (.ireturn, 1) := by decide +kernel
theorem dX11_takes_9 : decode cX11_takes 9 = .ok (.aload_n 0, 1) := by decide +kernel
theorem dX11_takes_10 : decode cX11_takes 10 = .ok (.getfield 231, 3) := by decide +kernel
theorem dX11_takes_13 : decode cX11_takes 13 = .ok (.iconst 2, 1) := by decide +kernel
theorem dX11_takes_14 : decode cX11_takes 14 = .ok (.if_icmp .ne 16, 3) := by decide +kernel
theorem dX11_takes_17 : decode cX11_takes 17 = .ok (.aload_n 0, 1) := by decide +kernel
theorem dX11_takes_18 : decode cX11_takes 18 = .ok (.getfield 222, 3) := by decide +kernel
theorem dX11_takes_21 : decode cX11_takes 21 = .ok (.aload_n 0, 1) := by decide +kernel
theorem dX11_takes_22 : decode cX11_takes 22 = .ok (.getfield 225, 3) := by decide +kernel
theorem dX11_takes_25 : decode cX11_takes 25 = .ok (.isub, 1) := by decide +kernel
theorem dX11_takes_26 : decode cX11_takes 26 = .ok (.iconst 3, 1) := by decide +kernel
theorem dX11_takes_27 : decode cX11_takes 27 = .ok (.if_icmp .le 9, 3) := by decide +kernel
theorem dX11_takes_30 : decode cX11_takes 30 = .ok (.aload_n 0, 1) := by decide +kernel
theorem dX11_takes_31 : decode cX11_takes 31 = .ok (.iconst 1, 1) := by decide +kernel
theorem dX11_takes_32 : decode cX11_takes 32 = .ok (.invokevirtual 254, 3) := by decide +kernel
theorem dX11_takes_35 : decode cX11_takes 35 = .ok (.ireturn, 1) := by decide +kernel
theorem dX11_takes_36 : decode cX11_takes 36 = .ok (.aload_n 0, 1) := by decide +kernel
theorem dX11_takes_37 : decode cX11_takes 37 = .ok (.getfield 228, 3) := by decide +kernel
theorem dX11_takes_40 : decode cX11_takes 40 = .ok (.iload_n 1, 1) := by decide +kernel
theorem dX11_takes_41 : decode cX11_takes 41 = .ok (.iload_n 2, 1) := by decide +kernel
theorem dX11_takes_42 : decode cX11_takes 42 = .ok (.invokestatic 172, 3) := by decide +kernel
theorem dX11_takes_45 : decode cX11_takes 45 = .ok (.ifCond .ne 9, 3) := by decide +kernel
theorem dX11_takes_48 : decode cX11_takes 48 = .ok (.aload_n 0, 1) := by decide +kernel
theorem dX11_takes_49 : decode cX11_takes 49 = .ok (.iconst 2, 1) := by decide +kernel
theorem dX11_takes_50 : decode cX11_takes 50 = .ok (.invokevirtual 254, 3) := by decide +kernel
theorem dX11_takes_53 : decode cX11_takes 53 = .ok (.ireturn, 1) := by decide +kernel
theorem dX11_takes_54 : decode cX11_takes 54 = .ok (.aload_n 0, 1) := by decide +kernel
theorem dX11_takes_55 : decode cX11_takes 55 = .ok (.aload_n 0, 1) := by decide +kernel
theorem dX11_takes_56 : decode cX11_takes 56 = .ok (.getfield 228, 3) := by decide +kernel
theorem dX11_takes_59 : decode cX11_takes 59 = .ok (.putfield 257, 3) := by decide +kernel
theorem dX11_takes_62 : decode cX11_takes 62 = .ok (.aload_n 0, 1) := by decide +kernel
theorem dX11_takes_63 : decode cX11_takes 63 = .ok (.invokevirtual 260, 3) := by decide +kernel
theorem dX11_takes_66 : decode cX11_takes 66 = .ok (.iconst 1, 1) := by decide +kernel
theorem dX11_takes_67 : decode cX11_takes 67 = .ok (.ireturn, 1) := by decide +kernel
abbrev rX11_takes : Room := { frames := 3, cells := 0, slots := 0, locals := 63 }
abbrev mX11_takes : gY := (cX11_takes, RX11, 3, rX11_takes)
def fX11_takes_b30 (M0 : gMem) : Option (Int32 × gMem) :=
  (fX11_fails (1 : Int32) M0).bind fun v10 => (zv v10.1).bind fun v11 => some (v11, v10.2)
set_option maxRecDepth 20000 in
theorem tX11_takes_b30 {X : gX} {V : gEnv} {M0 : gMem}  {o : (Int32 × gMem)} (h : fX11_takes_b30 M0 = some o) (O : gO X V mX11_takes gShM (some .boolean) (some (.int o.1)) o.2) : gG X V mX11_takes gShM M0 0 0 30 [(0, .ref (gAd V 0))] [] := by
  unfold fX11_takes_b30 at h
  refine g_aload_n 0 rfl rfl dX11_takes_30 ?_
  refine g_iconst (v := 1) rfl dX11_takes_31 ?_
  obtain ⟨v10, ev10, h⟩ := g_bnd h
  refine g_callV LX11_254 sM_0 rfl (kX11_fails ev10) rfl rfl (Nat.le_of_ble_eq_true rfl) ⟨Nat.le_of_ble_eq_true rfl, Nat.le_of_ble_eq_true rfl⟩ ⟨Nat.le_of_ble_eq_true rfl, Nat.le_of_ble_eq_true rfl⟩ dX11_takes_32 rfl ?_
  obtain ⟨v11, ev11, h⟩ := g_bnd h
  refine g_zv ev11 ?_
  cases h
  exact g_iret O ⟨Nat.le_of_ble_eq_true rfl, Nat.le_of_ble_eq_true rfl⟩ (g_nz (zv_ok ev11)) dX11_takes_35
def fX11_takes (x1 : Int32) (x2 : Int32) (M0 : gMem) : Option (Int32 × gMem) :=
  if (M0.1 0 26) = 0 then (if (M0.1 0 25) = (2 : Int32) then (if ((M0.1 0 22) - (M0.1 0 23)) ≤ (3 : Int32) then ((fX11_in (M0.1 0 24) x1 x2).bind fun v4 => if v4 = 0 then ((fX11_fails (2 : Int32) M0).bind fun v6 => (zv v6.1).bind fun v7 => some (v7, v6.2)) else (wF M0 0 30 (M0.1 0 24)).bind fun M8 => (fX11_goesOn M8).bind fun v9 => some ((1 : Int32), v9)) else fX11_takes_b30 M0) else fX11_takes_b30 M0) else some ((0 : Int32), M0)
set_option maxRecDepth 20000 in
theorem tX11_takes {X : gX} {V : gEnv} {x1 : Int32} {x2 : Int32} {M0 : gMem}  {o : (Int32 × gMem)} (h : fX11_takes x1 x2 M0 = some o) (O : gO X V mX11_takes gShM (some .boolean) (some (.int o.1)) o.2) : gG X V mX11_takes gShM M0 0 0 0 [(0, .ref (gAd V 0)), (1, .int x1), (2, .int x2)] [] := by
  unfold fX11_takes at h
  refine g_aload_n 0 rfl rfl dX11_takes_0 ?_
  refine g_getI FX11_240 sM_0 rfl dX11_takes_1 ?_
  rcases g_ite h with ⟨c1, h⟩ | ⟨c1, h⟩
  · refine g_if_eq_t c1 (tgt := 9) rfl dX11_takes_4 ?_
    refine g_aload_n 0 rfl rfl dX11_takes_9 ?_
    refine g_getI FX11_231 sM_0 rfl dX11_takes_10 ?_
    refine g_iconst (v := 2) rfl dX11_takes_13 ?_
    rcases g_ite h with ⟨c2, h⟩ | ⟨c2, h⟩
    · refine g_icmp_ne_f c2 (tgt := 30) rfl dX11_takes_14 ?_
      refine g_aload_n 0 rfl rfl dX11_takes_17 ?_
      refine g_getI FX11_222 sM_0 rfl dX11_takes_18 ?_
      refine g_aload_n 0 rfl rfl dX11_takes_21 ?_
      refine g_getI FX11_225 sM_0 rfl dX11_takes_22 ?_
      refine g_isub dX11_takes_25 ?_
      refine g_iconst (v := 3) rfl dX11_takes_26 ?_
      rcases g_ite h with ⟨c3, h⟩ | ⟨c3, h⟩
      · refine g_icmp_le_t c3 (tgt := 36) rfl dX11_takes_27 ?_
        refine g_aload_n 0 rfl rfl dX11_takes_36 ?_
        refine g_getI FX11_228 sM_0 rfl dX11_takes_37 ?_
        refine g_iload_n 1 rfl rfl dX11_takes_40 ?_
        refine g_iload_n 2 rfl rfl dX11_takes_41 ?_
        obtain ⟨v4, ev4, h⟩ := g_bnd h
        refine g_callS LX11_172 (kX11_in ev4) rfl rfl (Nat.le_of_ble_eq_true rfl) ⟨Nat.le_of_ble_eq_true rfl, Nat.le_of_ble_eq_true rfl⟩ ⟨Nat.le_of_ble_eq_true rfl, Nat.le_of_ble_eq_true rfl⟩ dX11_takes_42 rfl ?_
        rcases g_ite h with ⟨c5, h⟩ | ⟨c5, h⟩
        · refine g_if_ne_f c5 (tgt := 54) rfl dX11_takes_45 ?_
          refine g_aload_n 0 rfl rfl dX11_takes_48 ?_
          refine g_iconst (v := 2) rfl dX11_takes_49 ?_
          obtain ⟨v6, ev6, h⟩ := g_bnd h
          refine g_callV LX11_254 sM_0 rfl (kX11_fails ev6) rfl rfl (Nat.le_of_ble_eq_true rfl) ⟨Nat.le_of_ble_eq_true rfl, Nat.le_of_ble_eq_true rfl⟩ ⟨Nat.le_of_ble_eq_true rfl, Nat.le_of_ble_eq_true rfl⟩ dX11_takes_50 rfl ?_
          obtain ⟨v7, ev7, h⟩ := g_bnd h
          refine g_zv ev7 ?_
          cases h
          exact g_iret O ⟨Nat.le_of_ble_eq_true rfl, Nat.le_of_ble_eq_true rfl⟩ (g_nz (zv_ok ev7)) dX11_takes_53
        · refine g_if_ne_t c5 (tgt := 54) rfl dX11_takes_45 ?_
          refine g_aload_n 0 rfl rfl dX11_takes_54 ?_
          refine g_aload_n 0 rfl rfl dX11_takes_55 ?_
          refine g_getI FX11_228 sM_0 rfl dX11_takes_56 ?_
          obtain ⟨M8, eM8, h⟩ := g_bnd h
          refine g_putI' eM8 FX11_257 jX11 sM_0 rfl rfl rfl dX11_takes_59 ?_
          refine g_aload_n 0 rfl rfl dX11_takes_62 ?_
          obtain ⟨v9, ev9, h⟩ := g_bnd h
          refine g_callV LX11_260 sM_0 rfl (kX11_goesOn ev9) rfl rfl (Nat.le_of_ble_eq_true rfl) ⟨Nat.le_of_ble_eq_true rfl, Nat.le_of_ble_eq_true rfl⟩ ⟨Nat.le_of_ble_eq_true rfl, Nat.le_of_ble_eq_true rfl⟩ dX11_takes_63 rfl ?_
          refine g_iconst (v := 1) rfl dX11_takes_66 ?_
          cases h
          exact g_iret O ⟨Nat.le_of_ble_eq_true rfl, Nat.le_of_ble_eq_true rfl⟩ rfl dX11_takes_67
      · refine g_icmp_le_f c3 (tgt := 36) rfl dX11_takes_27 ?_
        refine g_sub [0] rfl ?_
        exact tX11_takes_b30  h O
    · refine g_icmp_ne_t c2 (tgt := 30) rfl dX11_takes_14 ?_
      refine g_sub [0] rfl ?_
      exact tX11_takes_b30  h O
  · refine g_if_eq_f c1 (tgt := 9) rfl dX11_takes_4 ?_
    refine g_iconst (v := 0) rfl dX11_takes_7 ?_
    cases h
    exact g_iret O ⟨Nat.le_of_ble_eq_true rfl, Nat.le_of_ble_eq_true rfl⟩ rfl dX11_takes_8
theorem kX11_takes {l : Launch} {V : gEnv} {M0 : gMem} {x1 : Int32} {x2 : Int32}  {o : (Int32 × gMem)} (h : fX11_takes x1 x2 M0 = some o) : gM l yX11_takes cX11_takes 3 (some .boolean) rX11_takes V gShM [.ref (gAd V 0), .int x1, .int x2] M0 (some (.int o.1)) o.2 :=
  gM.of (by decide) (Nat.le_of_ble_eq_true rfl) rfl (fun X _ O => tX11_takes  h O)
theorem dX11_isNameHere_0 : decode cX11_isNameHere 0 = .ok (.aload_n 0, 1) := by decide +kernel
theorem dX11_isNameHere_1 : decode cX11_isNameHere 1 = .ok (.getfield 231, 3) := by decide +kernel
theorem dX11_isNameHere_4 : decode cX11_isNameHere 4 = .ok (.iconst 1, 1) := by decide +kernel
theorem dX11_isNameHere_5 : decode cX11_isNameHere 5 = .ok (.if_icmp .ne 21, 3) := by decide +kernel
theorem dX11_isNameHere_8 : decode cX11_isNameHere 8 = .ok (.aload_n 0, 1) := by decide +kernel
theorem dX11_isNameHere_9 : decode cX11_isNameHere 9 = .ok (.getfield 222, 3) := by decide +kernel
theorem dX11_isNameHere_12 : decode cX11_isNameHere 12 = .ok (.aload_n 0, 1) := by decide +kernel
theorem dX11_isNameHere_13 : decode cX11_isNameHere 13 = .ok (.getfield 225, 3) := by decide +kernel
theorem dX11_isNameHere_16 : decode cX11_isNameHere 16 = .ok (.isub, 1) := by decide +kernel
theorem dX11_isNameHere_17 : decode cX11_isNameHere 17 = .ok (.bipush 6, 2) := by decide +kernel
theorem dX11_isNameHere_19 : decode cX11_isNameHere 19 = .ok (.if_icmp .gt 7, 3) := by decide +kernel
theorem dX11_isNameHere_22 : decode cX11_isNameHere 22 = .ok (.iconst 1, 1) := by decide +kernel
theorem dX11_isNameHere_23 : decode cX11_isNameHere 23 = .ok (.goto 4, 3) := by decide +kernel
theorem dX11_isNameHere_26 : decode cX11_isNameHere 26 = .ok (.iconst 0, 1) := by decide +kernel
theorem dX11_isNameHere_27 : decode cX11_isNameHere 27 = .ok (.ireturn, 1) := by decide +kernel
abbrev rX11_isNameHere : Room := { frames := 0, cells := 0, slots := 0, locals := 0 }
abbrev mX11_isNameHere : gY := (cX11_isNameHere, RX11, 1, rX11_isNameHere)
def fX11_isNameHere (M0 : gMem) : Option Int32 :=
  if (M0.1 0 25) = (1 : Int32) then (if (6 : Int32) < ((M0.1 0 22) - (M0.1 0 23)) then (some (0 : Int32)) else some (1 : Int32)) else some (0 : Int32)
set_option maxRecDepth 20000 in
theorem tX11_isNameHere {X : gX} {V : gEnv} {M0 : gMem}  {o : Int32} (h : fX11_isNameHere M0 = some o) (O : gO X V mX11_isNameHere gShM (some .boolean) (some (.int o)) M0) : gG X V mX11_isNameHere gShM M0 0 0 0 [(0, .ref (gAd V 0))] [] := by
  unfold fX11_isNameHere at h
  refine g_aload_n 0 rfl rfl dX11_isNameHere_0 ?_
  refine g_getI FX11_231 sM_0 rfl dX11_isNameHere_1 ?_
  refine g_iconst (v := 1) rfl dX11_isNameHere_4 ?_
  rcases g_ite h with ⟨c1, h⟩ | ⟨c1, h⟩
  · refine g_icmp_ne_f c1 (tgt := 26) rfl dX11_isNameHere_5 ?_
    refine g_aload_n 0 rfl rfl dX11_isNameHere_8 ?_
    refine g_getI FX11_222 sM_0 rfl dX11_isNameHere_9 ?_
    refine g_aload_n 0 rfl rfl dX11_isNameHere_12 ?_
    refine g_getI FX11_225 sM_0 rfl dX11_isNameHere_13 ?_
    refine g_isub dX11_isNameHere_16 ?_
    refine g_bipush (v := 6) rfl dX11_isNameHere_17 ?_
    rcases g_ite h with ⟨c2, h⟩ | ⟨c2, h⟩
    · refine g_icmp_gt_t c2 (tgt := 26) rfl dX11_isNameHere_19 ?_
      refine g_iconst (v := 0) rfl dX11_isNameHere_26 ?_
      cases h
      exact g_iret O ⟨Nat.le_of_ble_eq_true rfl, Nat.le_of_ble_eq_true rfl⟩ rfl dX11_isNameHere_27
    · refine g_icmp_gt_f c2 (tgt := 26) rfl dX11_isNameHere_19 ?_
      refine g_iconst (v := 1) rfl dX11_isNameHere_22 ?_
      refine g_goto (tgt := 27) rfl dX11_isNameHere_23 ?_
      cases h
      exact g_iret O ⟨Nat.le_of_ble_eq_true rfl, Nat.le_of_ble_eq_true rfl⟩ rfl dX11_isNameHere_27
  · refine g_icmp_ne_t c1 (tgt := 26) rfl dX11_isNameHere_5 ?_
    refine g_iconst (v := 0) rfl dX11_isNameHere_26 ?_
    cases h
    exact g_iret O ⟨Nat.le_of_ble_eq_true rfl, Nat.le_of_ble_eq_true rfl⟩ rfl dX11_isNameHere_27
theorem kX11_isNameHere {l : Launch} {V : gEnv} {M0 : gMem}   {o : Int32} (h : fX11_isNameHere M0 = some o) : gM l yX11_isNameHere cX11_isNameHere 1 (some .boolean) rX11_isNameHere V gShM [.ref (gAd V 0)] M0 (some (.int o)) M0 :=
  gM.of (by decide) (Nat.le_of_ble_eq_true rfl) rfl (fun X _ O => tX11_isNameHere  h O)
theorem dX11_seesTask_0 : decode cX11_seesTask 0 = .ok (.aload_n 0, 1) := by decide +kernel
theorem dX11_seesTask_1 : decode cX11_seesTask 1 = .ok (.getfield 240, 3) := by decide +kernel
theorem dX11_seesTask_4 : decode cX11_seesTask 4 = .ok (.ifCond .eq 5, 3) := by decide +kernel
theorem dX11_seesTask_7 : decode cX11_seesTask 7 = .ok (.iconst 0, 1) := by decide +kernel
theorem dX11_seesTask_8 : decode cX11_seesTask 8 = .ok (.ireturn, 1) := by decide +kernel
theorem dX11_seesTask_9 : decode cX11_seesTask 9 = .ok (.aload_n 0, 1) := by decide +kernel
theorem dX11_seesTask_10 : decode cX11_seesTask 10 = .ok (.invokevirtual 263, 3) := by decide +kernel
theorem dX11_seesTask_13 : decode cX11_seesTask 13 = .ok (.ifCond .ne 9, 3) := by decide +kernel
theorem dX11_seesTask_16 : decode cX11_seesTask 16 = .ok (.aload_n 0, 1) := by decide +kernel
theorem dX11_seesTask_17 : decode cX11_seesTask 17 = .ok (.iconst 1, 1) := by decide +kernel
theorem dX11_seesTask_18 : decode cX11_seesTask 18 = .ok (.invokevirtual 254, 3) := by decide +kernel
theorem dX11_seesTask_21 : decode cX11_seesTask 21 = .ok (.ireturn, 1) := by decide +kernel
theorem dX11_seesTask_22 : decode cX11_seesTask 22 = .ok (.aload_n 0, 1) := by decide +kernel
theorem dX11_seesTask_23 : decode cX11_seesTask 23 = .ok (.aload_n 0, 1) := by decide +kernel
theorem dX11_seesTask_24 : decode cX11_seesTask 24 = .ok (.aload_n 0, 1) := by decide +kernel
theorem dX11_seesTask_25 : decode cX11_seesTask 25 = .ok (.getfield 225, 3) := by decide +kernel
theorem dX11_seesTask_28 : decode cX11_seesTask 28 = .ok (.aload_n 0, 1) := by decide +kernel
theorem dX11_seesTask_29 : decode cX11_seesTask 29 = .ok (.getfield 222, 3) := by decide +kernel
theorem dX11_seesTask_32 : decode cX11_seesTask 32 = .ok (.aload_n 0, 1) := by decide +kernel
theorem dX11_seesTask_33 : decode cX11_seesTask 33 = .ok (.getfield 225, 3) := by decide +kernel
theorem dX11_seesTask_36 : decode cX11_seesTask 36 = .ok (.isub, 1) := by decide +kernel
theorem dX11_seesTask_37 : decode cX11_seesTask 37 = .ok (.invokevirtual 267, 3) := by decide +kernel
theorem dX11_seesTask_40 : decode cX11_seesTask 40 = .ok (.putfield 257, 3) := by decide +kernel
theorem dX11_seesTask_43 : decode cX11_seesTask 43 = .ok (.aload_n 0, 1) := by decide +kernel
theorem dX11_seesTask_44 : decode cX11_seesTask 44 = .ok (.getfield 257, 3) := by decide +kernel
theorem dX11_seesTask_47 : decode cX11_seesTask 47 = .ok (.iconst (-1), 1) := by decide +kernel
theorem dX11_seesTask_48 : decode cX11_seesTask 48 = .ok (.if_icmp .ne 11, 3) := by decide +kernel
theorem dX11_seesTask_51 : decode cX11_seesTask 51 = .ok (.aload_n 0, 1) := by decide +kernel
theorem dX11_seesTask_52 : decode cX11_seesTask 52 = .ok (.iconst 3, 1) := by decide +kernel
theorem dX11_seesTask_53 : decode cX11_seesTask 53 = .ok (.invokevirtual 254, 3) := by decide +kernel
theorem dX11_seesTask_56 : decode cX11_seesTask 56 = .ok (.ifCond .eq 7, 3) := by decide +kernel
theorem dX11_seesTask_59 : decode cX11_seesTask 59 = .ok (.iconst 1, 1) := by decide +kernel
theorem dX11_seesTask_60 : decode cX11_seesTask 60 = .ok (.goto 4, 3) := by decide +kernel
theorem dX11_seesTask_63 : decode cX11_seesTask 63 = .ok (.iconst 0, 1) := by decide +kernel
theorem dX11_seesTask_64 : decode cX11_seesTask 64 = .ok (.ireturn, 1) := by decide +kernel
abbrev rX11_seesTask : Room := { frames := 2, cells := 0, slots := 0, locals := 47 }
abbrev mX11_seesTask : gY := (cX11_seesTask, RX11, 1, rX11_seesTask)
def fX11_seesTask_b59 (M0 : gMem) : Option (Int32 × gMem) :=
  some ((1 : Int32), M0)
set_option maxRecDepth 20000 in
theorem tX11_seesTask_b59 {X : gX} {V : gEnv} {M0 : gMem}  {o : (Int32 × gMem)} (h : fX11_seesTask_b59 M0 = some o) (O : gO X V mX11_seesTask gShM (some .boolean) (some (.int o.1)) o.2) : gG X V mX11_seesTask gShM M0 0 0 59 [] [] := by
  unfold fX11_seesTask_b59 at h
  refine g_iconst (v := 1) rfl dX11_seesTask_59 ?_
  refine g_goto (tgt := 64) rfl dX11_seesTask_60 ?_
  cases h
  exact g_iret O ⟨Nat.le_of_ble_eq_true rfl, Nat.le_of_ble_eq_true rfl⟩ rfl dX11_seesTask_64
def fX11_seesTask (M0 : gMem) : Option (Int32 × gMem) :=
  if (M0.1 0 26) = 0 then ((fX11_isNameHere M0).bind fun v2 => if v2 = 0 then ((fX11_fails (1 : Int32) M0).bind fun v4 => (zv v4.1).bind fun v5 => some (v5, v4.2)) else (fX11_named (M0.1 0 23) ((M0.1 0 22) - (M0.1 0 23)) M0).bind fun v6 => (wF M0 0 30 v6).bind fun M7 => if (M7.1 0 30) = (-1 : Int32) then ((fX11_fails (3 : Int32) M7).bind fun v9 => if v9.1 = 0 then (some ((0 : Int32), v9.2)) else fX11_seesTask_b59 v9.2) else fX11_seesTask_b59 M7) else some ((0 : Int32), M0)
set_option maxRecDepth 20000 in
theorem tX11_seesTask {X : gX} {V : gEnv} {M0 : gMem}  {o : (Int32 × gMem)} (h : fX11_seesTask M0 = some o) (O : gO X V mX11_seesTask gShM (some .boolean) (some (.int o.1)) o.2) : gG X V mX11_seesTask gShM M0 0 0 0 [(0, .ref (gAd V 0))] [] := by
  unfold fX11_seesTask at h
  refine g_aload_n 0 rfl rfl dX11_seesTask_0 ?_
  refine g_getI FX11_240 sM_0 rfl dX11_seesTask_1 ?_
  rcases g_ite h with ⟨c1, h⟩ | ⟨c1, h⟩
  · refine g_if_eq_t c1 (tgt := 9) rfl dX11_seesTask_4 ?_
    refine g_aload_n 0 rfl rfl dX11_seesTask_9 ?_
    obtain ⟨v2, ev2, h⟩ := g_bnd h
    refine g_callV LX11_263 sM_0 rfl (kX11_isNameHere ev2) rfl rfl (Nat.le_of_ble_eq_true rfl) ⟨Nat.le_of_ble_eq_true rfl, Nat.le_of_ble_eq_true rfl⟩ ⟨Nat.le_of_ble_eq_true rfl, Nat.le_of_ble_eq_true rfl⟩ dX11_seesTask_10 rfl ?_
    rcases g_ite h with ⟨c3, h⟩ | ⟨c3, h⟩
    · refine g_if_ne_f c3 (tgt := 22) rfl dX11_seesTask_13 ?_
      refine g_aload_n 0 rfl rfl dX11_seesTask_16 ?_
      refine g_iconst (v := 1) rfl dX11_seesTask_17 ?_
      obtain ⟨v4, ev4, h⟩ := g_bnd h
      refine g_callV LX11_254 sM_0 rfl (kX11_fails ev4) rfl rfl (Nat.le_of_ble_eq_true rfl) ⟨Nat.le_of_ble_eq_true rfl, Nat.le_of_ble_eq_true rfl⟩ ⟨Nat.le_of_ble_eq_true rfl, Nat.le_of_ble_eq_true rfl⟩ dX11_seesTask_18 rfl ?_
      obtain ⟨v5, ev5, h⟩ := g_bnd h
      refine g_zv ev5 ?_
      cases h
      exact g_iret O ⟨Nat.le_of_ble_eq_true rfl, Nat.le_of_ble_eq_true rfl⟩ (g_nz (zv_ok ev5)) dX11_seesTask_21
    · refine g_if_ne_t c3 (tgt := 22) rfl dX11_seesTask_13 ?_
      refine g_aload_n 0 rfl rfl dX11_seesTask_22 ?_
      refine g_aload_n 0 rfl rfl dX11_seesTask_23 ?_
      refine g_aload_n 0 rfl rfl dX11_seesTask_24 ?_
      refine g_getI FX11_225 sM_0 rfl dX11_seesTask_25 ?_
      refine g_aload_n 0 rfl rfl dX11_seesTask_28 ?_
      refine g_getI FX11_222 sM_0 rfl dX11_seesTask_29 ?_
      refine g_aload_n 0 rfl rfl dX11_seesTask_32 ?_
      refine g_getI FX11_225 sM_0 rfl dX11_seesTask_33 ?_
      refine g_isub dX11_seesTask_36 ?_
      obtain ⟨v6, ev6, h⟩ := g_bnd h
      refine g_callV LX11_267 sM_0 rfl (kX11_named ev6) rfl rfl (Nat.le_of_ble_eq_true rfl) ⟨Nat.le_of_ble_eq_true rfl, Nat.le_of_ble_eq_true rfl⟩ ⟨Nat.le_of_ble_eq_true rfl, Nat.le_of_ble_eq_true rfl⟩ dX11_seesTask_37 rfl ?_
      obtain ⟨M7, eM7, h⟩ := g_bnd h
      refine g_putI' eM7 FX11_257 jX11 sM_0 rfl rfl rfl dX11_seesTask_40 ?_
      refine g_aload_n 0 rfl rfl dX11_seesTask_43 ?_
      refine g_getI FX11_257 sM_0 rfl dX11_seesTask_44 ?_
      refine g_iconst (v := -1) rfl dX11_seesTask_47 ?_
      rcases g_ite h with ⟨c8, h⟩ | ⟨c8, h⟩
      · refine g_icmp_ne_f c8 (tgt := 59) rfl dX11_seesTask_48 ?_
        refine g_aload_n 0 rfl rfl dX11_seesTask_51 ?_
        refine g_iconst (v := 3) rfl dX11_seesTask_52 ?_
        obtain ⟨v9, ev9, h⟩ := g_bnd h
        refine g_callV LX11_254 sM_0 rfl (kX11_fails ev9) rfl rfl (Nat.le_of_ble_eq_true rfl) ⟨Nat.le_of_ble_eq_true rfl, Nat.le_of_ble_eq_true rfl⟩ ⟨Nat.le_of_ble_eq_true rfl, Nat.le_of_ble_eq_true rfl⟩ dX11_seesTask_53 rfl ?_
        rcases g_ite h with ⟨c10, h⟩ | ⟨c10, h⟩
        · refine g_if_eq_t c10 (tgt := 63) rfl dX11_seesTask_56 ?_
          refine g_iconst (v := 0) rfl dX11_seesTask_63 ?_
          cases h
          exact g_iret O ⟨Nat.le_of_ble_eq_true rfl, Nat.le_of_ble_eq_true rfl⟩ rfl dX11_seesTask_64
        · refine g_if_eq_f c10 (tgt := 63) rfl dX11_seesTask_56 ?_
          refine g_sub [] rfl ?_
          exact tX11_seesTask_b59  h O
      · refine g_icmp_ne_t c8 (tgt := 59) rfl dX11_seesTask_48 ?_
        refine g_sub [] rfl ?_
        exact tX11_seesTask_b59  h O
  · refine g_if_eq_f c1 (tgt := 9) rfl dX11_seesTask_4 ?_
    refine g_iconst (v := 0) rfl dX11_seesTask_7 ?_
    cases h
    exact g_iret O ⟨Nat.le_of_ble_eq_true rfl, Nat.le_of_ble_eq_true rfl⟩ rfl dX11_seesTask_8
theorem kX11_seesTask {l : Launch} {V : gEnv} {M0 : gMem}   {o : (Int32 × gMem)} (h : fX11_seesTask M0 = some o) : gM l yX11_seesTask cX11_seesTask 1 (some .boolean) rX11_seesTask V gShM [.ref (gAd V 0)] M0 (some (.int o.1)) o.2 :=
  gM.of (by decide) (Nat.le_of_ble_eq_true rfl) rfl (fun X _ O => tX11_seesTask  h O)
theorem dX11_takesTask_0 : decode cX11_takesTask 0 = .ok (.aload_n 0, 1) := by decide +kernel
theorem dX11_takesTask_1 : decode cX11_takesTask 1 = .ok (.invokevirtual 270, 3) := by decide +kernel
theorem dX11_takesTask_4 : decode cX11_takesTask 4 = .ok (.ifCond .ne 5, 3) := by decide +kernel
theorem dX11_takesTask_7 : decode cX11_takesTask 7 = .ok (.iconst 0, 1) := by decide +kernel
theorem dX11_takesTask_8 : decode cX11_takesTask 8 = .ok (.ireturn, 1) := by decide +kernel
theorem dX11_takesTask_9 : decode cX11_takesTask 9 = .ok (.aload_n 0, 1) := by decide +kernel
theorem dX11_takesTask_10 : decode cX11_takesTask 10 = .ok (.invokevirtual 260, 3) := by decide +kernel
theorem dX11_takesTask_13 : decode cX11_takesTask 13 = .ok (.iconst 1, 1) := by decide +kernel
theorem dX11_takesTask_14 : decode cX11_takesTask 14 = .ok (.ireturn, 1) := by decide +kernel
abbrev rX11_takesTask : Room := { frames := 3, cells := 0, slots := 0, locals := 67 }
abbrev mX11_takesTask : gY := (cX11_takesTask, RX11, 1, rX11_takesTask)
def fX11_takesTask (M0 : gMem) : Option (Int32 × gMem) :=
  (fX11_seesTask M0).bind fun v1 => if v1.1 = 0 then (some ((0 : Int32), v1.2)) else (fX11_goesOn v1.2).bind fun v3 => some ((1 : Int32), v3)
set_option maxRecDepth 20000 in
theorem tX11_takesTask {X : gX} {V : gEnv} {M0 : gMem}  {o : (Int32 × gMem)} (h : fX11_takesTask M0 = some o) (O : gO X V mX11_takesTask gShM (some .boolean) (some (.int o.1)) o.2) : gG X V mX11_takesTask gShM M0 0 0 0 [(0, .ref (gAd V 0))] [] := by
  unfold fX11_takesTask at h
  refine g_aload_n 0 rfl rfl dX11_takesTask_0 ?_
  obtain ⟨v1, ev1, h⟩ := g_bnd h
  refine g_callV LX11_270 sM_0 rfl (kX11_seesTask ev1) rfl rfl (Nat.le_of_ble_eq_true rfl) ⟨Nat.le_of_ble_eq_true rfl, Nat.le_of_ble_eq_true rfl⟩ ⟨Nat.le_of_ble_eq_true rfl, Nat.le_of_ble_eq_true rfl⟩ dX11_takesTask_1 rfl ?_
  rcases g_ite h with ⟨c2, h⟩ | ⟨c2, h⟩
  · refine g_if_ne_f c2 (tgt := 9) rfl dX11_takesTask_4 ?_
    refine g_iconst (v := 0) rfl dX11_takesTask_7 ?_
    cases h
    exact g_iret O ⟨Nat.le_of_ble_eq_true rfl, Nat.le_of_ble_eq_true rfl⟩ rfl dX11_takesTask_8
  · refine g_if_ne_t c2 (tgt := 9) rfl dX11_takesTask_4 ?_
    refine g_aload_n 0 rfl rfl dX11_takesTask_9 ?_
    obtain ⟨v3, ev3, h⟩ := g_bnd h
    refine g_callV LX11_260 sM_0 rfl (kX11_goesOn ev3) rfl rfl (Nat.le_of_ble_eq_true rfl) ⟨Nat.le_of_ble_eq_true rfl, Nat.le_of_ble_eq_true rfl⟩ ⟨Nat.le_of_ble_eq_true rfl, Nat.le_of_ble_eq_true rfl⟩ dX11_takesTask_10 rfl ?_
    refine g_iconst (v := 1) rfl dX11_takesTask_13 ?_
    cases h
    exact g_iret O ⟨Nat.le_of_ble_eq_true rfl, Nat.le_of_ble_eq_true rfl⟩ rfl dX11_takesTask_14
theorem kX11_takesTask {l : Launch} {V : gEnv} {M0 : gMem}   {o : (Int32 × gMem)} (h : fX11_takesTask M0 = some o) : gM l yX11_takesTask cX11_takesTask 1 (some .boolean) rX11_takesTask V gShM [.ref (gAd V 0)] M0 (some (.int o.1)) o.2 :=
  gM.of (by decide) (Nat.le_of_ble_eq_true rfl) rfl (fun X _ O => tX11_takesTask  h O)
theorem dX11_starts_0 : decode cX11_starts 0 = .ok (.aload_n 0, 1) := by decide +kernel
theorem dX11_starts_1 : decode cX11_starts 1 = .ok (.iconst 0, 1) := by decide +kernel
theorem dX11_starts_2 : decode cX11_starts 2 = .ok (.putfield 222, 3) := by decide +kernel
theorem dX11_starts_5 : decode cX11_starts 5 = .ok (.aload_n 0, 1) := by decide +kernel
theorem dX11_starts_6 : decode cX11_starts 6 = .ok (.iconst 0, 1) := by decide +kernel
theorem dX11_starts_7 : decode cX11_starts 7 = .ok (.putfield 240, 3) := by decide +kernel
theorem dX11_starts_10 : decode cX11_starts 10 = .ok (.aload_n 0, 1) := by decide +kernel
theorem dX11_starts_11 : decode cX11_starts 11 = .ok (.iconst (-1), 1) := by decide +kernel
theorem dX11_starts_12 : decode cX11_starts 12 = .ok (.putfield 243, 3) := by decide +kernel
theorem dX11_starts_15 : decode cX11_starts 15 = .ok (.aload_n 0, 1) := by decide +kernel
theorem dX11_starts_16 : decode cX11_starts 16 = .ok (.invokevirtual 260, 3) := by decide +kernel
theorem dX11_starts_19 : decode cX11_starts 19 = .ok (.return_, 1) := by decide +kernel
abbrev rX11_starts : Room := { frames := 3, cells := 0, slots := 0, locals := 63 }
abbrev mX11_starts : gY := (cX11_starts, RX11, 1, rX11_starts)
def fX11_starts (M0 : gMem) : Option gMem :=
  (wF M0 0 22 (0 : Int32)).bind fun M1 => (wF M1 0 26 (0 : Int32)).bind fun M2 => (wF M2 0 27 (-1 : Int32)).bind fun M3 => (fX11_goesOn M3).bind fun v4 => some v4
set_option maxRecDepth 20000 in
theorem tX11_starts {X : gX} {V : gEnv} {M0 : gMem}  {o : gMem} (h : fX11_starts M0 = some o) (O : gO X V mX11_starts gShM none none o) : gG X V mX11_starts gShM M0 0 0 0 [(0, .ref (gAd V 0))] [] := by
  unfold fX11_starts at h
  refine g_aload_n 0 rfl rfl dX11_starts_0 ?_
  refine g_iconst (v := 0) rfl dX11_starts_1 ?_
  obtain ⟨M1, eM1, h⟩ := g_bnd h
  refine g_putI' eM1 FX11_222 jX11 sM_0 rfl rfl rfl dX11_starts_2 ?_
  refine g_aload_n 0 rfl rfl dX11_starts_5 ?_
  refine g_iconst (v := 0) rfl dX11_starts_6 ?_
  obtain ⟨M2, eM2, h⟩ := g_bnd h
  refine g_putI' eM2 FX11_240 jX11 sM_0 rfl rfl rfl dX11_starts_7 ?_
  refine g_aload_n 0 rfl rfl dX11_starts_10 ?_
  refine g_iconst (v := -1) rfl dX11_starts_11 ?_
  obtain ⟨M3, eM3, h⟩ := g_bnd h
  refine g_putI' eM3 FX11_243 jX11 sM_0 rfl rfl rfl dX11_starts_12 ?_
  refine g_aload_n 0 rfl rfl dX11_starts_15 ?_
  obtain ⟨v4, ev4, h⟩ := g_bnd h
  refine g_callV LX11_260 sM_0 rfl (kX11_goesOn ev4) rfl rfl (Nat.le_of_ble_eq_true rfl) ⟨Nat.le_of_ble_eq_true rfl, Nat.le_of_ble_eq_true rfl⟩ ⟨Nat.le_of_ble_eq_true rfl, Nat.le_of_ble_eq_true rfl⟩ dX11_starts_16 rfl ?_
  cases h
  exact g_vret O ⟨Nat.le_of_ble_eq_true rfl, Nat.le_of_ble_eq_true rfl⟩ dX11_starts_19
theorem kX11_starts {l : Launch} {V : gEnv} {M0 : gMem}   {o : gMem} (h : fX11_starts M0 = some o) : gM l yX11_starts cX11_starts 1 none rX11_starts V gShM [.ref (gAd V 0)] M0 none o :=
  gM.of (by decide) (Nat.le_of_ble_eq_true rfl) rfl (fun X _ O => tX11_starts  h O)
theorem dX11_ends_0 : decode cX11_ends 0 = .ok (.aload_n 0, 1) := by decide +kernel
theorem dX11_ends_1 : decode cX11_ends 1 = .ok (.iconst 0, 1) := by decide +kernel
theorem dX11_ends_2 : decode cX11_ends 2 = .ok (.putfield 209, 3) := by decide +kernel
theorem dX11_ends_5 : decode cX11_ends 5 = .ok (.aload_n 0, 1) := by decide +kernel
theorem dX11_ends_6 : decode cX11_ends 6 = .ok (.aload_n 0, 1) := by decide +kernel
theorem dX11_ends_7 : decode cX11_ends 7 = .ok (.getfield 240, 3) := by decide +kernel
theorem dX11_ends_10 : decode cX11_ends 10 = .ok (.putfield 273, 3) := by decide +kernel
theorem dX11_ends_13 : decode cX11_ends 13 = .ok (.aload_n 0, 1) := by decide +kernel
theorem dX11_ends_14 : decode cX11_ends 14 = .ok (.aload_n 0, 1) := by decide +kernel
theorem dX11_ends_15 : decode cX11_ends 15 = .ok (.getfield 243, 3) := by decide +kernel
theorem dX11_ends_18 : decode cX11_ends 18 = .ok (.putfield 46, 3) := by decide +kernel
theorem dX11_ends_21 : decode cX11_ends 21 = .ok (.aload_n 0, 1) := by decide +kernel
theorem dX11_ends_22 : decode cX11_ends 22 = .ok (.getfield 240, 3) := by decide +kernel
theorem dX11_ends_25 : decode cX11_ends 25 = .ok (.ifCond .ne 7, 3) := by decide +kernel
theorem dX11_ends_28 : decode cX11_ends 28 = .ok (.iconst 1, 1) := by decide +kernel
theorem dX11_ends_29 : decode cX11_ends 29 = .ok (.goto 4, 3) := by decide +kernel
theorem dX11_ends_32 : decode cX11_ends 32 = .ok (.iconst 0, 1) := by decide +kernel
theorem dX11_ends_33 : decode cX11_ends 33 = .ok (.ireturn, 1) := by decide +kernel
abbrev rX11_ends : Room := { frames := 0, cells := 0, slots := 0, locals := 0 }
abbrev mX11_ends : gY := (cX11_ends, RX11, 1, rX11_ends)
def fX11_ends (M0 : gMem) : Option (Int32 × gMem) :=
  (wF M0 0 21 (0 : Int32)).bind fun M1 => (wF M1 0 28 (M1.1 0 26)).bind fun M2 => (wF M2 0 29 (M2.1 0 27)).bind fun M3 => some (if (M3.1 0 26) = 0 then (1 : Int32) else (0 : Int32), M3)
set_option maxRecDepth 20000 in
theorem tX11_ends {X : gX} {V : gEnv} {M0 : gMem}  {o : (Int32 × gMem)} (h : fX11_ends M0 = some o) (O : gO X V mX11_ends gShM (some .boolean) (some (.int o.1)) o.2) : gG X V mX11_ends gShM M0 0 0 0 [(0, .ref (gAd V 0))] [] := by
  unfold fX11_ends at h
  refine g_aload_n 0 rfl rfl dX11_ends_0 ?_
  refine g_iconst (v := 0) rfl dX11_ends_1 ?_
  obtain ⟨M1, eM1, h⟩ := g_bnd h
  refine g_putI' eM1 FX11_209 jX11 sM_0 rfl rfl rfl dX11_ends_2 ?_
  refine g_aload_n 0 rfl rfl dX11_ends_5 ?_
  refine g_aload_n 0 rfl rfl dX11_ends_6 ?_
  refine g_getI FX11_240 sM_0 rfl dX11_ends_7 ?_
  obtain ⟨M2, eM2, h⟩ := g_bnd h
  refine g_putI' eM2 FX11_273 jX11 sM_0 rfl rfl rfl dX11_ends_10 ?_
  refine g_aload_n 0 rfl rfl dX11_ends_13 ?_
  refine g_aload_n 0 rfl rfl dX11_ends_14 ?_
  refine g_getI FX11_243 sM_0 rfl dX11_ends_15 ?_
  obtain ⟨M3, eM3, h⟩ := g_bnd h
  refine g_putI' eM3 FX11_46 jX11 sM_0 rfl rfl rfl dX11_ends_18 ?_
  refine g_aload_n 0 rfl rfl dX11_ends_21 ?_
  refine g_getI FX11_240 sM_0 rfl dX11_ends_22 ?_
  have KJ : gG X V mX11_ends gShM M3 0 0 33 [(0, .ref (gAd V 0))] [.int (if (M3.1 0 26) = 0 then (1 : Int32) else (0 : Int32))] := by
    cases h
    exact g_iret O ⟨Nat.le_of_ble_eq_true rfl, Nat.le_of_ble_eq_true rfl⟩ (by split <;> rfl) dX11_ends_33
  by_cases c4 : (M3.1 0 26) = 0
  · rw [if_pos c4] at KJ
    refine g_if_ne_f c4 (tgt := 32) rfl dX11_ends_25 ?_
    refine g_iconst (v := 1) rfl dX11_ends_28 ?_
    refine g_goto (tgt := 33) rfl dX11_ends_29 ?_
    exact KJ
  · rw [if_neg c4] at KJ
    refine g_if_ne_t c4 (tgt := 32) rfl dX11_ends_25 ?_
    refine g_iconst (v := 0) rfl dX11_ends_32 ?_
    exact KJ
theorem kX11_ends {l : Launch} {V : gEnv} {M0 : gMem}   {o : (Int32 × gMem)} (h : fX11_ends M0 = some o) : gM l yX11_ends cX11_ends 1 (some .boolean) rX11_ends V gShM [.ref (gAd V 0)] M0 (some (.int o.1)) o.2 :=
  gM.of (by decide) (Nat.le_of_ble_eq_true rfl) rfl (fun X _ O => tX11_ends  h O)
theorem dX11_errorCode_0 : decode cX11_errorCode 0 = .ok (.aload_n 0, 1) := by decide +kernel
theorem dX11_errorCode_1 : decode cX11_errorCode 1 = .ok (.iconst 0, 1) := by decide +kernel
theorem dX11_errorCode_2 : decode cX11_errorCode 2 = .ok (.putfield 72, 3) := by decide +kernel
theorem dX11_errorCode_5 : decode cX11_errorCode 5 = .ok (.aload_n 0, 1) := by decide +kernel
theorem dX11_errorCode_6 : decode cX11_errorCode 6 = .ok (.getfield 273, 3) := by decide +kernel
theorem dX11_errorCode_9 : decode cX11_errorCode 9 = .ok (.ireturn, 1) := by decide +kernel
abbrev rX11_errorCode : Room := { frames := 0, cells := 0, slots := 0, locals := 0 }
abbrev mX11_errorCode : gY := (cX11_errorCode, RX11, 1, rX11_errorCode)
def fX11_errorCode (M0 : gMem) : Option (Int32 × gMem) :=
  (wF M0 0 0 (0 : Int32)).bind fun M1 => some (M1.1 0 28, M1)
set_option maxRecDepth 20000 in
theorem tX11_errorCode {X : gX} {V : gEnv} {M0 : gMem}  {o : (Int32 × gMem)} (h : fX11_errorCode M0 = some o) (O : gO X V mX11_errorCode gShM (some .int) (some (.int o.1)) o.2) : gG X V mX11_errorCode gShM M0 0 0 0 [(0, .ref (gAd V 0))] [] := by
  unfold fX11_errorCode at h
  refine g_aload_n 0 rfl rfl dX11_errorCode_0 ?_
  refine g_iconst (v := 0) rfl dX11_errorCode_1 ?_
  obtain ⟨M1, eM1, h⟩ := g_bnd h
  refine g_putI' eM1 FX11_72 jX11 sM_0 rfl rfl rfl dX11_errorCode_2 ?_
  refine g_aload_n 0 rfl rfl dX11_errorCode_5 ?_
  refine g_getI FX11_273 sM_0 rfl dX11_errorCode_6 ?_
  cases h
  exact g_iret O ⟨Nat.le_of_ble_eq_true rfl, Nat.le_of_ble_eq_true rfl⟩ rfl dX11_errorCode_9
theorem kX11_errorCode {l : Launch} {V : gEnv} {M0 : gMem}   {o : (Int32 × gMem)} (h : fX11_errorCode M0 = some o) : gM l yX11_errorCode cX11_errorCode 1 (some .int) rX11_errorCode V gShM [.ref (gAd V 0)] M0 (some (.int o.1)) o.2 :=
  gM.of (by decide) (Nat.le_of_ble_eq_true rfl) rfl (fun X _ O => tX11_errorCode  h O)
theorem dX11_errorPosition_0 : decode cX11_errorPosition 0 = .ok (.aload_n 0, 1) := by decide +kernel
theorem dX11_errorPosition_1 : decode cX11_errorPosition 1 = .ok (.iconst 0, 1) := by decide +kernel
theorem dX11_errorPosition_2 : decode cX11_errorPosition 2 = .ok (.putfield 72, 3) := by decide +kernel
theorem dX11_errorPosition_5 : decode cX11_errorPosition 5 = .ok (.aload_n 0, 1) := by decide +kernel
theorem dX11_errorPosition_6 : decode cX11_errorPosition 6 = .ok (.getfield 46, 3) := by decide +kernel
theorem dX11_errorPosition_9 : decode cX11_errorPosition 9 = .ok (.ireturn, 1) := by decide +kernel
abbrev rX11_errorPosition : Room := { frames := 0, cells := 0, slots := 0, locals := 0 }
abbrev mX11_errorPosition : gY := (cX11_errorPosition, RX11, 1, rX11_errorPosition)
def fX11_errorPosition (M0 : gMem) : Option (Int32 × gMem) :=
  (wF M0 0 0 (0 : Int32)).bind fun M1 => some (M1.1 0 29, M1)
set_option maxRecDepth 20000 in
theorem tX11_errorPosition {X : gX} {V : gEnv} {M0 : gMem}  {o : (Int32 × gMem)} (h : fX11_errorPosition M0 = some o) (O : gO X V mX11_errorPosition gShM (some .int) (some (.int o.1)) o.2) : gG X V mX11_errorPosition gShM M0 0 0 0 [(0, .ref (gAd V 0))] [] := by
  unfold fX11_errorPosition at h
  refine g_aload_n 0 rfl rfl dX11_errorPosition_0 ?_
  refine g_iconst (v := 0) rfl dX11_errorPosition_1 ?_
  obtain ⟨M1, eM1, h⟩ := g_bnd h
  refine g_putI' eM1 FX11_72 jX11 sM_0 rfl rfl rfl dX11_errorPosition_2 ?_
  refine g_aload_n 0 rfl rfl dX11_errorPosition_5 ?_
  refine g_getI FX11_46 sM_0 rfl dX11_errorPosition_6 ?_
  cases h
  exact g_iret O ⟨Nat.le_of_ble_eq_true rfl, Nat.le_of_ble_eq_true rfl⟩ rfl dX11_errorPosition_9
theorem kX11_errorPosition {l : Launch} {V : gEnv} {M0 : gMem}   {o : (Int32 × gMem)} (h : fX11_errorPosition M0 = some o) : gM l yX11_errorPosition cX11_errorPosition 1 (some .int) rX11_errorPosition V gShM [.ref (gAd V 0)] M0 (some (.int o.1)) o.2 :=
  gM.of (by decide) (Nat.le_of_ble_eq_true rfl) rfl (fun X _ O => tX11_errorPosition  h O)
theorem dX11_readsTask_0 : decode cX11_readsTask 0 = .ok (.aload_n 0, 1) := by decide +kernel
theorem dX11_readsTask_1 : decode cX11_readsTask 1 = .ok (.getfield 9, 3) := by decide +kernel
theorem dX11_readsTask_4 : decode cX11_readsTask 4 = .ok (.iconst 0, 1) := by decide +kernel
theorem dX11_readsTask_5 : decode cX11_readsTask 5 = .ok (.iaload, 1) := by decide +kernel
theorem dX11_readsTask_6 : decode cX11_readsTask 6 = .ok (.bipush 24, 2) := by decide +kernel
theorem dX11_readsTask_8 : decode cX11_readsTask 8 = .ok (.if_icmp .ne 9, 3) := by decide +kernel
theorem dX11_readsTask_11 : decode cX11_readsTask 11 = .ok (.aload_n 0, 1) := by decide +kernel
theorem dX11_readsTask_12 : decode cX11_readsTask 12 = .ok (.iconst 4, 1) := by decide +kernel
theorem dX11_readsTask_13 : decode cX11_readsTask 13 = .ok (.invokevirtual 254, 3) := by decide +kernel
theorem dX11_readsTask_16 : decode cX11_readsTask 16 = .ok (.ireturn, 1) := by decide +kernel
theorem dX11_readsTask_17 : decode cX11_readsTask 17 = .ok (.aload_n 0, 1) := by decide +kernel
theorem dX11_readsTask_18 : decode cX11_readsTask 18 = .ok (.invokevirtual 260, 3) := by decide +kernel
theorem dX11_readsTask_21 : decode cX11_readsTask 21 = .ok (.aload_n 0, 1) := by decide +kernel
theorem dX11_readsTask_22 : decode cX11_readsTask 22 = .ok (.invokevirtual 263, 3) := by decide +kernel
theorem dX11_readsTask_25 : decode cX11_readsTask 25 = .ok (.ifCond .ne 9, 3) := by decide +kernel
theorem dX11_readsTask_28 : decode cX11_readsTask 28 = .ok (.aload_n 0, 1) := by decide +kernel
theorem dX11_readsTask_29 : decode cX11_readsTask 29 = .ok (.iconst 1, 1) := by decide +kernel
theorem dX11_readsTask_30 : decode cX11_readsTask 30 = .ok (.invokevirtual 254, 3) := by decide +kernel
theorem dX11_readsTask_33 : decode cX11_readsTask 33 = .ok (.ireturn, 1) := by decide +kernel
theorem dX11_readsTask_34 : decode cX11_readsTask 34 = .ok (.aload_n 0, 1) := by decide +kernel
theorem dX11_readsTask_35 : decode cX11_readsTask 35 = .ok (.aload_n 0, 1) := by decide +kernel
theorem dX11_readsTask_36 : decode cX11_readsTask 36 = .ok (.getfield 225, 3) := by decide +kernel
theorem dX11_readsTask_39 : decode cX11_readsTask 39 = .ok (.aload_n 0, 1) := by decide +kernel
theorem dX11_readsTask_40 : decode cX11_readsTask 40 = .ok (.getfield 222, 3) := by decide +kernel
theorem dX11_readsTask_43 : decode cX11_readsTask 43 = .ok (.aload_n 0, 1) := by decide +kernel
theorem dX11_readsTask_44 : decode cX11_readsTask 44 = .ok (.getfield 225, 3) := by decide +kernel
theorem dX11_readsTask_47 : decode cX11_readsTask 47 = .ok (.isub, 1) := by decide +kernel
theorem dX11_readsTask_48 : decode cX11_readsTask 48 = .ok (.invokevirtual 267, 3) := by decide +kernel
theorem dX11_readsTask_51 : decode cX11_readsTask 51 = .ok (.iconst (-1), 1) := by decide +kernel
theorem dX11_readsTask_52 : decode cX11_readsTask 52 = .ok (.if_icmp .eq 9, 3) := by decide +kernel
theorem dX11_readsTask_55 : decode cX11_readsTask 55 = .ok (.aload_n 0, 1) := by decide +kernel
theorem dX11_readsTask_56 : decode cX11_readsTask 56 = .ok (.iconst 3, 1) := by decide +kernel
theorem dX11_readsTask_57 : decode cX11_readsTask 57 = .ok (.invokevirtual 254, 3) := by decide +kernel
theorem dX11_readsTask_60 : decode cX11_readsTask 60 = .ok (.ireturn, 1) := by decide +kernel
theorem dX11_readsTask_61 : decode cX11_readsTask 61 = .ok (.aload_n 0, 1) := by decide +kernel
theorem dX11_readsTask_62 : decode cX11_readsTask 62 = .ok (.getfield 225, 3) := by decide +kernel
theorem dX11_readsTask_65 : decode cX11_readsTask 65 = .ok (.istore_n 1, 1) := by decide +kernel
theorem dX11_readsTask_66 : decode cX11_readsTask 66 = .ok (.aload_n 0, 1) := by decide +kernel
theorem dX11_readsTask_67 : decode cX11_readsTask 67 = .ok (.getfield 222, 3) := by decide +kernel
theorem dX11_readsTask_70 : decode cX11_readsTask 70 = .ok (.aload_n 0, 1) := by decide +kernel
theorem dX11_readsTask_71 : decode cX11_readsTask 71 = .ok (.getfield 225, 3) := by decide +kernel
theorem dX11_readsTask_74 : decode cX11_readsTask 74 = .ok (.isub, 1) := by decide +kernel
theorem dX11_readsTask_75 : decode cX11_readsTask 75 = .ok (.istore_n 2, 1) := by decide +kernel
theorem dX11_readsTask_76 : decode cX11_readsTask 76 = .ok (.aload_n 0, 1) := by decide +kernel
theorem dX11_readsTask_77 : decode cX11_readsTask 77 = .ok (.invokevirtual 260, 3) := by decide +kernel
theorem dX11_readsTask_80 : decode cX11_readsTask 80 = .ok (.aload_n 0, 1) := by decide +kernel
theorem dX11_readsTask_81 : decode cX11_readsTask 81 = .ok (.iconst 1, 1) := by decide +kernel
theorem dX11_readsTask_82 : decode cX11_readsTask 82 = .ok (.bipush 9, 2) := by decide +kernel
theorem dX11_readsTask_84 : decode cX11_readsTask 84 = .ok (.invokevirtual 276, 3) := by decide +kernel
theorem dX11_readsTask_87 : decode cX11_readsTask 87 = .ok (.ifCond .ne 5, 3) := by decide +kernel
theorem dX11_readsTask_90 : decode cX11_readsTask 90 = .ok (.iconst 0, 1) := by decide +kernel
theorem dX11_readsTask_91 : decode cX11_readsTask 91 = .ok (.ireturn, 1) := by decide +kernel
theorem dX11_readsTask_92 : decode cX11_readsTask 92 = .ok (.aload_n 0, 1) := by decide +kernel
theorem dX11_readsTask_93 : decode cX11_readsTask 93 = .ok (.iload_n 1, 1) := by decide +kernel
theorem dX11_readsTask_94 : decode cX11_readsTask 94 = .ok (.iload_n 2, 1) := by decide +kernel
theorem dX11_readsTask_95 : decode cX11_readsTask 95 = .ok (.aload_n 0, 1) := by decide +kernel
theorem dX11_readsTask_96 : decode cX11_readsTask 96 = .ok (.getfield 257, 3) := by decide +kernel
theorem dX11_readsTask_99 : decode cX11_readsTask 99 = .ok (.invokevirtual 68, 3) := by decide +kernel
theorem dX11_readsTask_102 : decode cX11_readsTask 102 = .ok (.istore_n 3, 1) := by decide +kernel
theorem dX11_readsTask_103 : decode cX11_readsTask 103 = .ok (.iconst 1, 1) := by decide +kernel
theorem dX11_readsTask_104 : decode cX11_readsTask 104 = .ok (.ireturn, 1) := by decide +kernel
abbrev rX11_readsTask : Room := { frames := 4, cells := 0, slots := 0, locals := 85 }
abbrev mX11_readsTask : gY := (cX11_readsTask, RX11, 4, rX11_readsTask)
def fX11_readsTask (M0 : gMem) : Option (Int32 × gMem) :=
  (rI M0 1 374 (0 : Int32)).bind fun v1 => if v1 = (24 : Int32) then ((fX11_fails (4 : Int32) M0).bind fun v3 => (zv v3.1).bind fun v4 => some (v4, v3.2)) else (fX11_goesOn M0).bind fun v5 => (fX11_isNameHere v5).bind fun v6 => if v6 = 0 then ((fX11_fails (1 : Int32) v5).bind fun v8 => (zv v8.1).bind fun v9 => some (v9, v8.2)) else (fX11_named (v5.1 0 23) ((v5.1 0 22) - (v5.1 0 23)) v5).bind fun v10 => if v10 = (-1 : Int32) then ((nm (v5.1 0 23)).bind fun v12 => (nm ((v5.1 0 22) - (v5.1 0 23))).bind fun v13 => (fX11_goesOn v5).bind fun v14 => (fX11_takes (1 : Int32) (9 : Int32) v14).bind fun v15 => if v15.1 = 0 then (some ((0 : Int32), v15.2)) else (fX11_joins v12 v13 (v15.2.1 0 30) v15.2).bind fun v17 => some ((1 : Int32), v17.2)) else (fX11_fails (3 : Int32) v5).bind fun v18 => (zv v18.1).bind fun v19 => some (v19, v18.2)
set_option maxRecDepth 20000 in
theorem tX11_readsTask {X : gX} {V : gEnv} {M0 : gMem}  {o : (Int32 × gMem)} (h : fX11_readsTask M0 = some o) (O : gO X V mX11_readsTask gShM (some .boolean) (some (.int o.1)) o.2) : gG X V mX11_readsTask gShM M0 0 0 0 [(0, .ref (gAd V 0))] [] := by
  unfold fX11_readsTask at h
  refine g_aload_n 0 rfl rfl dX11_readsTask_0 ?_
  refine g_getR FX11_9 sM_0 rfl dX11_readsTask_1 ?_
  refine g_iconst (v := 0) rfl dX11_readsTask_4 ?_
  obtain ⟨v1, ev1, h⟩ := g_bnd h
  refine g_iald' ev1 sM_1 dX11_readsTask_5 ?_
  refine g_bipush (v := 24) rfl dX11_readsTask_6 ?_
  rcases g_ite h with ⟨c2, h⟩ | ⟨c2, h⟩
  · refine g_icmp_ne_f c2 (tgt := 17) rfl dX11_readsTask_8 ?_
    refine g_aload_n 0 rfl rfl dX11_readsTask_11 ?_
    refine g_iconst (v := 4) rfl dX11_readsTask_12 ?_
    obtain ⟨v3, ev3, h⟩ := g_bnd h
    refine g_callV LX11_254 sM_0 rfl (kX11_fails ev3) rfl rfl (Nat.le_of_ble_eq_true rfl) ⟨Nat.le_of_ble_eq_true rfl, Nat.le_of_ble_eq_true rfl⟩ ⟨Nat.le_of_ble_eq_true rfl, Nat.le_of_ble_eq_true rfl⟩ dX11_readsTask_13 rfl ?_
    obtain ⟨v4, ev4, h⟩ := g_bnd h
    refine g_zv ev4 ?_
    cases h
    exact g_iret O ⟨Nat.le_of_ble_eq_true rfl, Nat.le_of_ble_eq_true rfl⟩ (g_nz (zv_ok ev4)) dX11_readsTask_16
  · refine g_icmp_ne_t c2 (tgt := 17) rfl dX11_readsTask_8 ?_
    refine g_aload_n 0 rfl rfl dX11_readsTask_17 ?_
    obtain ⟨v5, ev5, h⟩ := g_bnd h
    refine g_callV LX11_260 sM_0 rfl (kX11_goesOn ev5) rfl rfl (Nat.le_of_ble_eq_true rfl) ⟨Nat.le_of_ble_eq_true rfl, Nat.le_of_ble_eq_true rfl⟩ ⟨Nat.le_of_ble_eq_true rfl, Nat.le_of_ble_eq_true rfl⟩ dX11_readsTask_18 rfl ?_
    refine g_aload_n 0 rfl rfl dX11_readsTask_21 ?_
    obtain ⟨v6, ev6, h⟩ := g_bnd h
    refine g_callV LX11_263 sM_0 rfl (kX11_isNameHere ev6) rfl rfl (Nat.le_of_ble_eq_true rfl) ⟨Nat.le_of_ble_eq_true rfl, Nat.le_of_ble_eq_true rfl⟩ ⟨Nat.le_of_ble_eq_true rfl, Nat.le_of_ble_eq_true rfl⟩ dX11_readsTask_22 rfl ?_
    rcases g_ite h with ⟨c7, h⟩ | ⟨c7, h⟩
    · refine g_if_ne_f c7 (tgt := 34) rfl dX11_readsTask_25 ?_
      refine g_aload_n 0 rfl rfl dX11_readsTask_28 ?_
      refine g_iconst (v := 1) rfl dX11_readsTask_29 ?_
      obtain ⟨v8, ev8, h⟩ := g_bnd h
      refine g_callV LX11_254 sM_0 rfl (kX11_fails ev8) rfl rfl (Nat.le_of_ble_eq_true rfl) ⟨Nat.le_of_ble_eq_true rfl, Nat.le_of_ble_eq_true rfl⟩ ⟨Nat.le_of_ble_eq_true rfl, Nat.le_of_ble_eq_true rfl⟩ dX11_readsTask_30 rfl ?_
      obtain ⟨v9, ev9, h⟩ := g_bnd h
      refine g_zv ev9 ?_
      cases h
      exact g_iret O ⟨Nat.le_of_ble_eq_true rfl, Nat.le_of_ble_eq_true rfl⟩ (g_nz (zv_ok ev9)) dX11_readsTask_33
    · refine g_if_ne_t c7 (tgt := 34) rfl dX11_readsTask_25 ?_
      refine g_aload_n 0 rfl rfl dX11_readsTask_34 ?_
      refine g_aload_n 0 rfl rfl dX11_readsTask_35 ?_
      refine g_getI FX11_225 sM_0 rfl dX11_readsTask_36 ?_
      refine g_aload_n 0 rfl rfl dX11_readsTask_39 ?_
      refine g_getI FX11_222 sM_0 rfl dX11_readsTask_40 ?_
      refine g_aload_n 0 rfl rfl dX11_readsTask_43 ?_
      refine g_getI FX11_225 sM_0 rfl dX11_readsTask_44 ?_
      refine g_isub dX11_readsTask_47 ?_
      obtain ⟨v10, ev10, h⟩ := g_bnd h
      refine g_callV LX11_267 sM_0 rfl (kX11_named ev10) rfl rfl (Nat.le_of_ble_eq_true rfl) ⟨Nat.le_of_ble_eq_true rfl, Nat.le_of_ble_eq_true rfl⟩ ⟨Nat.le_of_ble_eq_true rfl, Nat.le_of_ble_eq_true rfl⟩ dX11_readsTask_48 rfl ?_
      refine g_iconst (v := -1) rfl dX11_readsTask_51 ?_
      rcases g_ite h with ⟨c11, h⟩ | ⟨c11, h⟩
      · refine g_icmp_eq_t c11 (tgt := 61) rfl dX11_readsTask_52 ?_
        refine g_aload_n 0 rfl rfl dX11_readsTask_61 ?_
        refine g_getI FX11_225 sM_0 rfl dX11_readsTask_62 ?_
        obtain ⟨v12, ev12, h⟩ := g_bnd h
        refine g_nmI ev12 ?_
        refine g_istore_n (ls' := [(1, .int v12), (0, .ref (gAd V 0))]) rfl (Nat.le_of_ble_eq_true rfl) rfl dX11_readsTask_65 ?_
        refine g_aload_n 1 rfl rfl dX11_readsTask_66 ?_
        refine g_getI FX11_222 sM_0 rfl dX11_readsTask_67 ?_
        refine g_aload_n 1 rfl rfl dX11_readsTask_70 ?_
        refine g_getI FX11_225 sM_0 rfl dX11_readsTask_71 ?_
        refine g_isub dX11_readsTask_74 ?_
        obtain ⟨v13, ev13, h⟩ := g_bnd h
        refine g_nmI ev13 ?_
        refine g_istore_n (ls' := [(2, .int v13), (1, .int v12), (0, .ref (gAd V 0))]) rfl (Nat.le_of_ble_eq_true rfl) rfl dX11_readsTask_75 ?_
        refine g_aload_n 2 rfl rfl dX11_readsTask_76 ?_
        obtain ⟨v14, ev14, h⟩ := g_bnd h
        refine g_callV LX11_260 sM_0 rfl (kX11_goesOn ev14) rfl rfl (Nat.le_of_ble_eq_true rfl) ⟨Nat.le_of_ble_eq_true rfl, Nat.le_of_ble_eq_true rfl⟩ ⟨Nat.le_of_ble_eq_true rfl, Nat.le_of_ble_eq_true rfl⟩ dX11_readsTask_77 rfl ?_
        refine g_aload_n 2 rfl rfl dX11_readsTask_80 ?_
        refine g_iconst (v := 1) rfl dX11_readsTask_81 ?_
        refine g_bipush (v := 9) rfl dX11_readsTask_82 ?_
        obtain ⟨v15, ev15, h⟩ := g_bnd h
        refine g_callV LX11_276 sM_0 rfl (kX11_takes ev15) rfl rfl (Nat.le_of_ble_eq_true rfl) ⟨Nat.le_of_ble_eq_true rfl, Nat.le_of_ble_eq_true rfl⟩ ⟨Nat.le_of_ble_eq_true rfl, Nat.le_of_ble_eq_true rfl⟩ dX11_readsTask_84 rfl ?_
        rcases g_ite h with ⟨c16, h⟩ | ⟨c16, h⟩
        · refine g_if_ne_f c16 (tgt := 92) rfl dX11_readsTask_87 ?_
          refine g_iconst (v := 0) rfl dX11_readsTask_90 ?_
          cases h
          exact g_iret O ⟨Nat.le_of_ble_eq_true rfl, Nat.le_of_ble_eq_true rfl⟩ rfl dX11_readsTask_91
        · refine g_if_ne_t c16 (tgt := 92) rfl dX11_readsTask_87 ?_
          refine g_aload_n 2 rfl rfl dX11_readsTask_92 ?_
          refine g_iload_n 1 rfl rfl dX11_readsTask_93 ?_
          refine g_iload_n 0 rfl rfl dX11_readsTask_94 ?_
          refine g_aload_n 2 rfl rfl dX11_readsTask_95 ?_
          refine g_getI FX11_257 sM_0 rfl dX11_readsTask_96 ?_
          obtain ⟨v17, ev17, h⟩ := g_bnd h
          refine g_callV LX11_68 sM_0 rfl (kX11_joins ev17) rfl rfl (Nat.le_of_ble_eq_true rfl) ⟨Nat.le_of_ble_eq_true rfl, Nat.le_of_ble_eq_true rfl⟩ ⟨Nat.le_of_ble_eq_true rfl, Nat.le_of_ble_eq_true rfl⟩ dX11_readsTask_99 rfl ?_
          refine g_istore_n (ls' := [(3, .int v17.1), (2, .int v13), (1, .int v12), (0, .ref (gAd V 0))]) rfl (Nat.le_of_ble_eq_true rfl) rfl dX11_readsTask_102 ?_
          refine g_iconst (v := 1) rfl dX11_readsTask_103 ?_
          cases h
          exact g_iret O ⟨Nat.le_of_ble_eq_true rfl, Nat.le_of_ble_eq_true rfl⟩ rfl dX11_readsTask_104
      · refine g_icmp_eq_f c11 (tgt := 61) rfl dX11_readsTask_52 ?_
        refine g_aload_n 0 rfl rfl dX11_readsTask_55 ?_
        refine g_iconst (v := 3) rfl dX11_readsTask_56 ?_
        obtain ⟨v18, ev18, h⟩ := g_bnd h
        refine g_callV LX11_254 sM_0 rfl (kX11_fails ev18) rfl rfl (Nat.le_of_ble_eq_true rfl) ⟨Nat.le_of_ble_eq_true rfl, Nat.le_of_ble_eq_true rfl⟩ ⟨Nat.le_of_ble_eq_true rfl, Nat.le_of_ble_eq_true rfl⟩ dX11_readsTask_57 rfl ?_
        obtain ⟨v19, ev19, h⟩ := g_bnd h
        refine g_zv ev19 ?_
        cases h
        exact g_iret O ⟨Nat.le_of_ble_eq_true rfl, Nat.le_of_ble_eq_true rfl⟩ (g_nz (zv_ok ev19)) dX11_readsTask_60
theorem kX11_readsTask {l : Launch} {V : gEnv} {M0 : gMem}   {o : (Int32 × gMem)} (h : fX11_readsTask M0 = some o) : gM l yX11_readsTask cX11_readsTask 4 (some .boolean) rX11_readsTask V gShM [.ref (gAd V 0)] M0 (some (.int o.1)) o.2 :=
  gM.of (by decide) (Nat.le_of_ble_eq_true rfl) rfl (fun X _ O => tX11_readsTask  h O)
theorem dX11_readsArrow_0 : decode cX11_readsArrow 0 = .ok (.aload_n 0, 1) := by decide +kernel
theorem dX11_readsArrow_1 : decode cX11_readsArrow 1 = .ok (.getfield 9, 3) := by decide +kernel
theorem dX11_readsArrow_4 : decode cX11_readsArrow 4 = .ok (.iconst 1, 1) := by decide +kernel
theorem dX11_readsArrow_5 : decode cX11_readsArrow 5 = .ok (.iaload, 1) := by decide +kernel
theorem dX11_readsArrow_6 : decode cX11_readsArrow 6 = .ok (.bipush 60, 2) := by decide +kernel
theorem dX11_readsArrow_8 : decode cX11_readsArrow 8 = .ok (.if_icmp .ne 9, 3) := by decide +kernel
theorem dX11_readsArrow_11 : decode cX11_readsArrow 11 = .ok (.aload_n 0, 1) := by decide +kernel
theorem dX11_readsArrow_12 : decode cX11_readsArrow 12 = .ok (.iconst 4, 1) := by decide +kernel
theorem dX11_readsArrow_13 : decode cX11_readsArrow 13 = .ok (.invokevirtual 254, 3) := by decide +kernel
theorem dX11_readsArrow_16 : decode cX11_readsArrow 16 = .ok (.ireturn, 1) := by decide +kernel
theorem dX11_readsArrow_17 : decode cX11_readsArrow 17 = .ok (.aload_n 0, 1) := by decide +kernel
theorem dX11_readsArrow_18 : decode cX11_readsArrow 18 = .ok (.invokevirtual 260, 3) := by decide +kernel
theorem dX11_readsArrow_21 : decode cX11_readsArrow 21 = .ok (.aload_n 0, 1) := by decide +kernel
theorem dX11_readsArrow_22 : decode cX11_readsArrow 22 = .ok (.invokevirtual 279, 3) := by decide +kernel
theorem dX11_readsArrow_25 : decode cX11_readsArrow 25 = .ok (.ifCond .ne 5, 3) := by decide +kernel
theorem dX11_readsArrow_28 : decode cX11_readsArrow 28 = .ok (.iconst 0, 1) := by decide +kernel
theorem dX11_readsArrow_29 : decode cX11_readsArrow 29 = .ok (.ireturn, 1) := by decide +kernel
theorem dX11_readsArrow_30 : decode cX11_readsArrow 30 = .ok (.aload_n 0, 1) := by decide +kernel
theorem dX11_readsArrow_31 : decode cX11_readsArrow 31 = .ok (.getfield 257, 3) := by decide +kernel
theorem dX11_readsArrow_34 : decode cX11_readsArrow 34 = .ok (.istore_n 1, 1) := by decide +kernel
theorem dX11_readsArrow_35 : decode cX11_readsArrow 35 = .ok (.aload_n 0, 1) := by decide +kernel
theorem dX11_readsArrow_36 : decode cX11_readsArrow 36 = .ok (.invokevirtual 270, 3) := by decide +kernel
theorem dX11_readsArrow_39 : decode cX11_readsArrow 39 = .ok (.ifCond .ne 5, 3) := by decide +kernel
theorem dX11_readsArrow_42 : decode cX11_readsArrow 42 = .ok (.iconst 0, 1) := by decide +kernel
theorem dX11_readsArrow_43 : decode cX11_readsArrow 43 = .ok (.ireturn, 1) := by decide +kernel
theorem dX11_readsArrow_44 : decode cX11_readsArrow 44 = .ok (.aload_n 0, 1) := by decide +kernel
theorem dX11_readsArrow_45 : decode cX11_readsArrow 45 = .ok (.iload_n 1, 1) := by decide +kernel
theorem dX11_readsArrow_46 : decode cX11_readsArrow 46 = .ok (.aload_n 0, 1) := by decide +kernel
theorem dX11_readsArrow_47 : decode cX11_readsArrow 47 = .ok (.getfield 257, 3) := by decide +kernel
theorem dX11_readsArrow_50 : decode cX11_readsArrow 50 = .ok (.invokevirtual 282, 3) := by decide +kernel
theorem dX11_readsArrow_53 : decode cX11_readsArrow 53 = .ok (.ifCond .ge 9, 3) := by decide +kernel
theorem dX11_readsArrow_56 : decode cX11_readsArrow 56 = .ok (.aload_n 0, 1) := by decide +kernel
theorem dX11_readsArrow_57 : decode cX11_readsArrow 57 = .ok (.iconst 3, 1) := by decide +kernel
theorem dX11_readsArrow_58 : decode cX11_readsArrow 58 = .ok (.invokevirtual 254, 3) := by decide +kernel
theorem dX11_readsArrow_61 : decode cX11_readsArrow 61 = .ok (.ireturn, 1) := by decide +kernel
theorem dX11_readsArrow_62 : decode cX11_readsArrow 62 = .ok (.aload_n 0, 1) := by decide +kernel
theorem dX11_readsArrow_63 : decode cX11_readsArrow 63 = .ok (.invokevirtual 260, 3) := by decide +kernel
theorem dX11_readsArrow_66 : decode cX11_readsArrow 66 = .ok (.iconst 1, 1) := by decide +kernel
theorem dX11_readsArrow_67 : decode cX11_readsArrow 67 = .ok (.ireturn, 1) := by decide +kernel
abbrev rX11_readsArrow : Room := { frames := 7, cells := 0, slots := 0, locals := 162 }
abbrev mX11_readsArrow : gY := (cX11_readsArrow, RX11, 2, rX11_readsArrow)
def fX11_readsArrow (M0 : gMem) : Option (Int32 × gMem) :=
  (rI M0 1 374 (1 : Int32)).bind fun v1 => if v1 = (60 : Int32) then ((fX11_fails (4 : Int32) M0).bind fun v3 => (zv v3.1).bind fun v4 => some (v4, v3.2)) else (fX11_goesOn M0).bind fun v5 => (fX11_takesTask v5).bind fun v6 => if v6.1 = 0 then (some ((0 : Int32), v6.2)) else (nm (v6.2.1 0 30)).bind fun v8 => (fX11_seesTask v6.2).bind fun v9 => if v9.1 = 0 then (some ((0 : Int32), v9.2)) else (fX11_comes v8 (v9.2.1 0 30) v9.2).bind fun v11 => if 0 ≤ v11.1 then ((fX11_goesOn v11.2).bind fun v13 => some ((1 : Int32), v13)) else (fX11_fails (3 : Int32) v11.2).bind fun v14 => (zv v14.1).bind fun v15 => some (v15, v14.2)
set_option maxRecDepth 20000 in
theorem tX11_readsArrow {X : gX} {V : gEnv} {M0 : gMem}  {o : (Int32 × gMem)} (h : fX11_readsArrow M0 = some o) (O : gO X V mX11_readsArrow gShM (some .boolean) (some (.int o.1)) o.2) : gG X V mX11_readsArrow gShM M0 0 0 0 [(0, .ref (gAd V 0))] [] := by
  unfold fX11_readsArrow at h
  refine g_aload_n 0 rfl rfl dX11_readsArrow_0 ?_
  refine g_getR FX11_9 sM_0 rfl dX11_readsArrow_1 ?_
  refine g_iconst (v := 1) rfl dX11_readsArrow_4 ?_
  obtain ⟨v1, ev1, h⟩ := g_bnd h
  refine g_iald' ev1 sM_1 dX11_readsArrow_5 ?_
  refine g_bipush (v := 60) rfl dX11_readsArrow_6 ?_
  rcases g_ite h with ⟨c2, h⟩ | ⟨c2, h⟩
  · refine g_icmp_ne_f c2 (tgt := 17) rfl dX11_readsArrow_8 ?_
    refine g_aload_n 0 rfl rfl dX11_readsArrow_11 ?_
    refine g_iconst (v := 4) rfl dX11_readsArrow_12 ?_
    obtain ⟨v3, ev3, h⟩ := g_bnd h
    refine g_callV LX11_254 sM_0 rfl (kX11_fails ev3) rfl rfl (Nat.le_of_ble_eq_true rfl) ⟨Nat.le_of_ble_eq_true rfl, Nat.le_of_ble_eq_true rfl⟩ ⟨Nat.le_of_ble_eq_true rfl, Nat.le_of_ble_eq_true rfl⟩ dX11_readsArrow_13 rfl ?_
    obtain ⟨v4, ev4, h⟩ := g_bnd h
    refine g_zv ev4 ?_
    cases h
    exact g_iret O ⟨Nat.le_of_ble_eq_true rfl, Nat.le_of_ble_eq_true rfl⟩ (g_nz (zv_ok ev4)) dX11_readsArrow_16
  · refine g_icmp_ne_t c2 (tgt := 17) rfl dX11_readsArrow_8 ?_
    refine g_aload_n 0 rfl rfl dX11_readsArrow_17 ?_
    obtain ⟨v5, ev5, h⟩ := g_bnd h
    refine g_callV LX11_260 sM_0 rfl (kX11_goesOn ev5) rfl rfl (Nat.le_of_ble_eq_true rfl) ⟨Nat.le_of_ble_eq_true rfl, Nat.le_of_ble_eq_true rfl⟩ ⟨Nat.le_of_ble_eq_true rfl, Nat.le_of_ble_eq_true rfl⟩ dX11_readsArrow_18 rfl ?_
    refine g_aload_n 0 rfl rfl dX11_readsArrow_21 ?_
    obtain ⟨v6, ev6, h⟩ := g_bnd h
    refine g_callV LX11_279 sM_0 rfl (kX11_takesTask ev6) rfl rfl (Nat.le_of_ble_eq_true rfl) ⟨Nat.le_of_ble_eq_true rfl, Nat.le_of_ble_eq_true rfl⟩ ⟨Nat.le_of_ble_eq_true rfl, Nat.le_of_ble_eq_true rfl⟩ dX11_readsArrow_22 rfl ?_
    rcases g_ite h with ⟨c7, h⟩ | ⟨c7, h⟩
    · refine g_if_ne_f c7 (tgt := 30) rfl dX11_readsArrow_25 ?_
      refine g_iconst (v := 0) rfl dX11_readsArrow_28 ?_
      cases h
      exact g_iret O ⟨Nat.le_of_ble_eq_true rfl, Nat.le_of_ble_eq_true rfl⟩ rfl dX11_readsArrow_29
    · refine g_if_ne_t c7 (tgt := 30) rfl dX11_readsArrow_25 ?_
      refine g_aload_n 0 rfl rfl dX11_readsArrow_30 ?_
      refine g_getI FX11_257 sM_0 rfl dX11_readsArrow_31 ?_
      obtain ⟨v8, ev8, h⟩ := g_bnd h
      refine g_nmI ev8 ?_
      refine g_istore_n (ls' := [(1, .int v8), (0, .ref (gAd V 0))]) rfl (Nat.le_of_ble_eq_true rfl) rfl dX11_readsArrow_34 ?_
      refine g_aload_n 1 rfl rfl dX11_readsArrow_35 ?_
      obtain ⟨v9, ev9, h⟩ := g_bnd h
      refine g_callV LX11_270 sM_0 rfl (kX11_seesTask ev9) rfl rfl (Nat.le_of_ble_eq_true rfl) ⟨Nat.le_of_ble_eq_true rfl, Nat.le_of_ble_eq_true rfl⟩ ⟨Nat.le_of_ble_eq_true rfl, Nat.le_of_ble_eq_true rfl⟩ dX11_readsArrow_36 rfl ?_
      rcases g_ite h with ⟨c10, h⟩ | ⟨c10, h⟩
      · refine g_if_ne_f c10 (tgt := 44) rfl dX11_readsArrow_39 ?_
        refine g_iconst (v := 0) rfl dX11_readsArrow_42 ?_
        cases h
        exact g_iret O ⟨Nat.le_of_ble_eq_true rfl, Nat.le_of_ble_eq_true rfl⟩ rfl dX11_readsArrow_43
      · refine g_if_ne_t c10 (tgt := 44) rfl dX11_readsArrow_39 ?_
        refine g_aload_n 1 rfl rfl dX11_readsArrow_44 ?_
        refine g_iload_n 0 rfl rfl dX11_readsArrow_45 ?_
        refine g_aload_n 1 rfl rfl dX11_readsArrow_46 ?_
        refine g_getI FX11_257 sM_0 rfl dX11_readsArrow_47 ?_
        obtain ⟨v11, ev11, h⟩ := g_bnd h
        refine g_callV LX11_282 sM_0 rfl (kX11_comes ev11) rfl rfl (Nat.le_of_ble_eq_true rfl) ⟨Nat.le_of_ble_eq_true rfl, Nat.le_of_ble_eq_true rfl⟩ ⟨Nat.le_of_ble_eq_true rfl, Nat.le_of_ble_eq_true rfl⟩ dX11_readsArrow_50 rfl ?_
        rcases g_ite h with ⟨c12, h⟩ | ⟨c12, h⟩
        · refine g_if_ge_t c12 (tgt := 62) rfl dX11_readsArrow_53 ?_
          refine g_aload_n 1 rfl rfl dX11_readsArrow_62 ?_
          obtain ⟨v13, ev13, h⟩ := g_bnd h
          refine g_callV LX11_260 sM_0 rfl (kX11_goesOn ev13) rfl rfl (Nat.le_of_ble_eq_true rfl) ⟨Nat.le_of_ble_eq_true rfl, Nat.le_of_ble_eq_true rfl⟩ ⟨Nat.le_of_ble_eq_true rfl, Nat.le_of_ble_eq_true rfl⟩ dX11_readsArrow_63 rfl ?_
          refine g_iconst (v := 1) rfl dX11_readsArrow_66 ?_
          cases h
          exact g_iret O ⟨Nat.le_of_ble_eq_true rfl, Nat.le_of_ble_eq_true rfl⟩ rfl dX11_readsArrow_67
        · refine g_if_ge_f c12 (tgt := 62) rfl dX11_readsArrow_53 ?_
          refine g_aload_n 1 rfl rfl dX11_readsArrow_56 ?_
          refine g_iconst (v := 3) rfl dX11_readsArrow_57 ?_
          obtain ⟨v14, ev14, h⟩ := g_bnd h
          refine g_callV LX11_254 sM_0 rfl (kX11_fails ev14) rfl rfl (Nat.le_of_ble_eq_true rfl) ⟨Nat.le_of_ble_eq_true rfl, Nat.le_of_ble_eq_true rfl⟩ ⟨Nat.le_of_ble_eq_true rfl, Nat.le_of_ble_eq_true rfl⟩ dX11_readsArrow_58 rfl ?_
          obtain ⟨v15, ev15, h⟩ := g_bnd h
          refine g_zv ev15 ?_
          cases h
          exact g_iret O ⟨Nat.le_of_ble_eq_true rfl, Nat.le_of_ble_eq_true rfl⟩ (g_nz (zv_ok ev15)) dX11_readsArrow_61
theorem kX11_readsArrow {l : Launch} {V : gEnv} {M0 : gMem}   {o : (Int32 × gMem)} (h : fX11_readsArrow M0 = some o) : gM l yX11_readsArrow cX11_readsArrow 2 (some .boolean) rX11_readsArrow V gShM [.ref (gAd V 0)] M0 (some (.int o.1)) o.2 :=
  gM.of (by decide) (Nat.le_of_ble_eq_true rfl) rfl (fun X _ O => tX11_readsArrow  h O)
theorem dX11_readsOnce_0 : decode cX11_readsOnce 0 = .ok (.aload_n 0, 1) := by decide +kernel
theorem dX11_readsOnce_1 : decode cX11_readsOnce 1 = .ok (.getfield 285, 3) := by decide +kernel
theorem dX11_readsOnce_4 : decode cX11_readsOnce 4 = .ok (.iload_n 1, 1) := by decide +kernel
theorem dX11_readsOnce_5 : decode cX11_readsOnce 5 = .ok (.invokestatic 93, 3) := by decide +kernel
theorem dX11_readsOnce_8 : decode cX11_readsOnce 8 = .ok (.ifCond .eq 9, 3) := by decide +kernel
theorem dX11_readsOnce_11 : decode cX11_readsOnce 11 = .ok (.aload_n 0, 1) := by decide +kernel
theorem dX11_readsOnce_12 : decode cX11_readsOnce 12 = .ok (.iconst 3, 1) := by decide +kernel
theorem dX11_readsOnce_13 : decode cX11_readsOnce 13 = .ok (.invokevirtual 254, 3) := by decide +kernel
theorem dX11_readsOnce_16 : decode cX11_readsOnce 16 = .ok (.ireturn, 1) := by decide +kernel
theorem dX11_readsOnce_17 : decode cX11_readsOnce 17 = .ok (.aload_n 0, 1) := by decide +kernel
theorem dX11_readsOnce_18 : decode cX11_readsOnce 18 = .ok (.dup, 1) := by decide +kernel
theorem dX11_readsOnce_19 : decode cX11_readsOnce 19 = .ok (.getfield 285, 3) := by decide +kernel
theorem dX11_readsOnce_22 : decode cX11_readsOnce 22 = .ok (.iconst 1, 1) := by decide +kernel
theorem dX11_readsOnce_23 : decode cX11_readsOnce 23 = .ok (.iload_n 1, 1) := by decide +kernel
theorem dX11_readsOnce_24 : decode cX11_readsOnce 24 = .ok (.ishl, 1) := by decide +kernel
theorem dX11_readsOnce_25 : decode cX11_readsOnce 25 = .ok (.ior, 1) := by decide +kernel
theorem dX11_readsOnce_26 : decode cX11_readsOnce 26 = .ok (.putfield 285, 3) := by decide +kernel
theorem dX11_readsOnce_29 : decode cX11_readsOnce 29 = .ok (.aload_n 0, 1) := by decide +kernel
theorem dX11_readsOnce_30 : decode cX11_readsOnce 30 = .ok (.invokevirtual 260, 3) := by decide +kernel
theorem dX11_readsOnce_33 : decode cX11_readsOnce 33 = .ok (.aload_n 0, 1) := by decide +kernel
theorem dX11_readsOnce_34 : decode cX11_readsOnce 34 = .ok (.iconst 0, 1) := by decide +kernel
theorem dX11_readsOnce_35 : decode cX11_readsOnce 35 = .ok (.iload_n 3, 1) := by decide +kernel
theorem dX11_readsOnce_36 : decode cX11_readsOnce 36 = .ok (.invokevirtual 276, 3) := by decide +kernel
theorem dX11_readsOnce_39 : decode cX11_readsOnce 39 = .ok (.ifCond .ne 5, 3) := by decide +kernel
theorem dX11_readsOnce_42 : decode cX11_readsOnce 42 = .ok (.iconst 0, 1) := by decide +kernel
theorem dX11_readsOnce_43 : decode cX11_readsOnce 43 = .ok (.ireturn, 1) := by decide +kernel
theorem dX11_readsOnce_44 : decode cX11_readsOnce 44 = .ok (.aload_n 0, 1) := by decide +kernel
theorem dX11_readsOnce_45 : decode cX11_readsOnce 45 = .ok (.getfield 9, 3) := by decide +kernel
theorem dX11_readsOnce_48 : decode cX11_readsOnce 48 = .ok (.iload_n 2, 1) := by decide +kernel
theorem dX11_readsOnce_49 : decode cX11_readsOnce 49 = .ok (.aload_n 0, 1) := by decide +kernel
theorem dX11_readsOnce_50 : decode cX11_readsOnce 50 = .ok (.getfield 257, 3) := by decide +kernel
theorem dX11_readsOnce_53 : decode cX11_readsOnce 53 = .ok (.iastore, 1) := by decide +kernel
theorem dX11_readsOnce_54 : decode cX11_readsOnce 54 = .ok (.iconst 1, 1) := by decide +kernel
theorem dX11_readsOnce_55 : decode cX11_readsOnce 55 = .ok (.ireturn, 1) := by decide +kernel
abbrev rX11_readsOnce : Room := { frames := 4, cells := 0, slots := 0, locals := 85 }
abbrev mX11_readsOnce : gY := (cX11_readsOnce, RX11, 4, rX11_readsOnce)
def fX11_readsOnce (x1 : Int32) (x2 : Int32) (x3 : Int32) (M0 : gMem) : Option (Int32 × gMem) :=
  (fX11_has (M0.1 0 31) x1).bind fun v1 => if v1 = 0 then ((wF M0 0 31 ((M0.1 0 31) ||| ((1 : Int32) <<< (x1 &&& 31)))).bind fun M3 => (fX11_goesOn M3).bind fun v4 => (fX11_takes (0 : Int32) x3 v4).bind fun v5 => if v5.1 = 0 then (some ((0 : Int32), v5.2)) else (wI v5.2 1 374 x2 (v5.2.1 0 30)).bind fun M7 => some ((1 : Int32), M7)) else (fX11_fails (3 : Int32) M0).bind fun v8 => (zv v8.1).bind fun v9 => some (v9, v8.2)
set_option maxRecDepth 20000 in
theorem tX11_readsOnce {X : gX} {V : gEnv} {x1 : Int32} {x2 : Int32} {x3 : Int32} {M0 : gMem}  {o : (Int32 × gMem)} (h : fX11_readsOnce x1 x2 x3 M0 = some o) (O : gO X V mX11_readsOnce gShM (some .boolean) (some (.int o.1)) o.2) : gG X V mX11_readsOnce gShM M0 0 0 0 [(0, .ref (gAd V 0)), (1, .int x1), (2, .int x2), (3, .int x3)] [] := by
  unfold fX11_readsOnce at h
  refine g_aload_n 0 rfl rfl dX11_readsOnce_0 ?_
  refine g_getI FX11_285 sM_0 rfl dX11_readsOnce_1 ?_
  refine g_iload_n 1 rfl rfl dX11_readsOnce_4 ?_
  obtain ⟨v1, ev1, h⟩ := g_bnd h
  refine g_callS LX11_93 (kX11_has ev1) rfl rfl (Nat.le_of_ble_eq_true rfl) ⟨Nat.le_of_ble_eq_true rfl, Nat.le_of_ble_eq_true rfl⟩ ⟨Nat.le_of_ble_eq_true rfl, Nat.le_of_ble_eq_true rfl⟩ dX11_readsOnce_5 rfl ?_
  rcases g_ite h with ⟨c2, h⟩ | ⟨c2, h⟩
  · refine g_if_eq_t c2 (tgt := 17) rfl dX11_readsOnce_8 ?_
    refine g_aload_n 0 rfl rfl dX11_readsOnce_17 ?_
    refine g_dup rfl dX11_readsOnce_18 ?_
    refine g_getI FX11_285 sM_0 rfl dX11_readsOnce_19 ?_
    refine g_iconst (v := 1) rfl dX11_readsOnce_22 ?_
    refine g_iload_n 1 rfl rfl dX11_readsOnce_23 ?_
    refine g_ishl dX11_readsOnce_24 ?_
    refine g_ior dX11_readsOnce_25 ?_
    obtain ⟨M3, eM3, h⟩ := g_bnd h
    refine g_putI' eM3 FX11_285 jX11 sM_0 rfl rfl rfl dX11_readsOnce_26 ?_
    refine g_aload_n 0 rfl rfl dX11_readsOnce_29 ?_
    obtain ⟨v4, ev4, h⟩ := g_bnd h
    refine g_callV LX11_260 sM_0 rfl (kX11_goesOn ev4) rfl rfl (Nat.le_of_ble_eq_true rfl) ⟨Nat.le_of_ble_eq_true rfl, Nat.le_of_ble_eq_true rfl⟩ ⟨Nat.le_of_ble_eq_true rfl, Nat.le_of_ble_eq_true rfl⟩ dX11_readsOnce_30 rfl ?_
    refine g_aload_n 0 rfl rfl dX11_readsOnce_33 ?_
    refine g_iconst (v := 0) rfl dX11_readsOnce_34 ?_
    refine g_iload_n 3 rfl rfl dX11_readsOnce_35 ?_
    obtain ⟨v5, ev5, h⟩ := g_bnd h
    refine g_callV LX11_276 sM_0 rfl (kX11_takes ev5) rfl rfl (Nat.le_of_ble_eq_true rfl) ⟨Nat.le_of_ble_eq_true rfl, Nat.le_of_ble_eq_true rfl⟩ ⟨Nat.le_of_ble_eq_true rfl, Nat.le_of_ble_eq_true rfl⟩ dX11_readsOnce_36 rfl ?_
    rcases g_ite h with ⟨c6, h⟩ | ⟨c6, h⟩
    · refine g_if_ne_f c6 (tgt := 44) rfl dX11_readsOnce_39 ?_
      refine g_iconst (v := 0) rfl dX11_readsOnce_42 ?_
      cases h
      exact g_iret O ⟨Nat.le_of_ble_eq_true rfl, Nat.le_of_ble_eq_true rfl⟩ rfl dX11_readsOnce_43
    · refine g_if_ne_t c6 (tgt := 44) rfl dX11_readsOnce_39 ?_
      refine g_aload_n 0 rfl rfl dX11_readsOnce_44 ?_
      refine g_getR FX11_9 sM_0 rfl dX11_readsOnce_45 ?_
      refine g_iload_n 2 rfl rfl dX11_readsOnce_48 ?_
      refine g_aload_n 0 rfl rfl dX11_readsOnce_49 ?_
      refine g_getI FX11_257 sM_0 rfl dX11_readsOnce_50 ?_
      obtain ⟨M7, eM7, h⟩ := g_bnd h
      refine g_iast' eM7 sM_1 dX11_readsOnce_53 ?_
      refine g_iconst (v := 1) rfl dX11_readsOnce_54 ?_
      cases h
      exact g_iret O ⟨Nat.le_of_ble_eq_true rfl, Nat.le_of_ble_eq_true rfl⟩ rfl dX11_readsOnce_55
  · refine g_if_eq_f c2 (tgt := 17) rfl dX11_readsOnce_8 ?_
    refine g_aload_n 0 rfl rfl dX11_readsOnce_11 ?_
    refine g_iconst (v := 3) rfl dX11_readsOnce_12 ?_
    obtain ⟨v8, ev8, h⟩ := g_bnd h
    refine g_callV LX11_254 sM_0 rfl (kX11_fails ev8) rfl rfl (Nat.le_of_ble_eq_true rfl) ⟨Nat.le_of_ble_eq_true rfl, Nat.le_of_ble_eq_true rfl⟩ ⟨Nat.le_of_ble_eq_true rfl, Nat.le_of_ble_eq_true rfl⟩ dX11_readsOnce_13 rfl ?_
    obtain ⟨v9, ev9, h⟩ := g_bnd h
    refine g_zv ev9 ?_
    cases h
    exact g_iret O ⟨Nat.le_of_ble_eq_true rfl, Nat.le_of_ble_eq_true rfl⟩ (g_nz (zv_ok ev9)) dX11_readsOnce_16
theorem kX11_readsOnce {l : Launch} {V : gEnv} {M0 : gMem} {x1 : Int32} {x2 : Int32} {x3 : Int32}  {o : (Int32 × gMem)} (h : fX11_readsOnce x1 x2 x3 M0 = some o) : gM l yX11_readsOnce cX11_readsOnce 4 (some .boolean) rX11_readsOnce V gShM [.ref (gAd V 0), .int x1, .int x2, .int x3] M0 (some (.int o.1)) o.2 :=
  gM.of (by decide) (Nat.le_of_ble_eq_true rfl) rfl (fun X _ O => tX11_readsOnce  h O)
