/-! METHODS, by program: pure functions and contracts -/
theorem dX11_readsStatement_0 : decode cX11_readsStatement 0 = .ok (.aload_n 0, 1) := by decide +kernel
theorem dX11_readsStatement_1 : decode cX11_readsStatement 1 = .ok (.ldc_w 288, 3) := by decide +kernel
theorem dX11_readsStatement_4 : decode cX11_readsStatement 4 = .ok (.invokevirtual 290, 3) := by decide +kernel
theorem dX11_readsStatement_7 : decode cX11_readsStatement 7 = .ok (.ifCond .eq 8, 3) := by decide +kernel
theorem dX11_readsStatement_10 : decode cX11_readsStatement 10 = .ok (.aload_n 0, 1) := by decide +kernel
theorem dX11_readsStatement_11 : decode cX11_readsStatement 11 = .ok (.invokevirtual 294, 3) := by decide +kernel
theorem dX11_readsStatement_14 : decode cX11_readsStatement 14 = .ok (.ireturn, 1) := by decide +kernel
theorem dX11_readsStatement_15 : decode cX11_readsStatement 15 = .ok (.aload_n 0, 1) := by decide +kernel
theorem dX11_readsStatement_16 : decode cX11_readsStatement 16 = .ok (.ldc_w 297, 3) := by decide +kernel
theorem dX11_readsStatement_19 : decode cX11_readsStatement 19 = .ok (.invokevirtual 290, 3) := by decide +kernel
theorem dX11_readsStatement_22 : decode cX11_readsStatement 22 = .ok (.ifCond .eq 8, 3) := by decide +kernel
theorem dX11_readsStatement_25 : decode cX11_readsStatement 25 = .ok (.aload_n 0, 1) := by decide +kernel
theorem dX11_readsStatement_26 : decode cX11_readsStatement 26 = .ok (.invokevirtual 299, 3) := by decide +kernel
theorem dX11_readsStatement_29 : decode cX11_readsStatement 29 = .ok (.ireturn, 1) := by decide +kernel
theorem dX11_readsStatement_30 : decode cX11_readsStatement 30 = .ok (.aload_n 0, 1) := by decide +kernel
theorem dX11_readsStatement_31 : decode cX11_readsStatement 31 = .ok (.ldc_w 302, 3) := by decide +kernel
theorem dX11_readsStatement_34 : decode cX11_readsStatement 34 = .ok (.invokevirtual 290, 3) := by decide +kernel
theorem dX11_readsStatement_37 : decode cX11_readsStatement 37 = .ok (.ifCond .eq 11, 3) := by decide +kernel
theorem dX11_readsStatement_40 : decode cX11_readsStatement 40 = .ok (.aload_n 0, 1) := by decide +kernel
theorem dX11_readsStatement_41 : decode cX11_readsStatement 41 = .ok (.iconst 0, 1) := by decide +kernel
theorem dX11_readsStatement_42 : decode cX11_readsStatement 42 = .ok (.iconst 3, 1) := by decide +kernel
theorem dX11_readsStatement_43 : decode cX11_readsStatement 43 = .ok (.iconst 2, 1) := by decide +kernel
theorem dX11_readsStatement_44 : decode cX11_readsStatement 44 = .ok (.invokevirtual 304, 3) := by decide +kernel
theorem dX11_readsStatement_47 : decode cX11_readsStatement 47 = .ok (.ireturn, 1) := by decide +kernel
theorem dX11_readsStatement_48 : decode cX11_readsStatement 48 = .ok (.aload_n 0, 1) := by decide +kernel
theorem dX11_readsStatement_49 : decode cX11_readsStatement 49 = .ok (.ldc_w 307, 3) := by decide +kernel
theorem dX11_readsStatement_52 : decode cX11_readsStatement 52 = .ok (.invokevirtual 290, 3) := by decide +kernel
theorem dX11_readsStatement_55 : decode cX11_readsStatement 55 = .ok (.ifCond .eq 11, 3) := by decide +kernel
theorem dX11_readsStatement_58 : decode cX11_readsStatement 58 = .ok (.aload_n 0, 1) := by decide +kernel
theorem dX11_readsStatement_59 : decode cX11_readsStatement 59 = .ok (.iconst 1, 1) := by decide +kernel
theorem dX11_readsStatement_60 : decode cX11_readsStatement 60 = .ok (.iconst 4, 1) := by decide +kernel
theorem dX11_readsStatement_61 : decode cX11_readsStatement 61 = .ok (.iconst 1, 1) := by decide +kernel
theorem dX11_readsStatement_62 : decode cX11_readsStatement 62 = .ok (.invokevirtual 304, 3) := by decide +kernel
theorem dX11_readsStatement_65 : decode cX11_readsStatement 65 = .ok (.ireturn, 1) := by decide +kernel
theorem dX11_readsStatement_66 : decode cX11_readsStatement 66 = .ok (.aload_n 0, 1) := by decide +kernel
theorem dX11_readsStatement_67 : decode cX11_readsStatement 67 = .ok (.iconst 1, 1) := by decide +kernel
theorem dX11_readsStatement_68 : decode cX11_readsStatement 68 = .ok (.invokevirtual 254, 3) := by decide +kernel
theorem dX11_readsStatement_71 : decode cX11_readsStatement 71 = .ok (.ireturn, 1) := by decide +kernel
abbrev rX11_readsStatement : Room := { frames := 8, cells := 0, slots := 0, locals := 183 }
abbrev mX11_readsStatement : gY := (cX11_readsStatement, RX11, 1, rX11_readsStatement)
def fX11_readsStatement (M0 : gMem) : Option (Int32 × gMem) :=
  (fX11_says 0 M0).bind fun v1 => if v1 = 0 then ((fX11_says 1 M0).bind fun v3 => if v3 = 0 then ((fX11_says 2 M0).bind fun v5 => if v5 = 0 then ((fX11_says 3 M0).bind fun v7 => if v7 = 0 then ((fX11_fails (1 : Int32) M0).bind fun v9 => (zv v9.1).bind fun v10 => some (v10, v9.2)) else (fX11_readsOnce (1 : Int32) (4 : Int32) (1 : Int32) M0).bind fun v11 => (zv v11.1).bind fun v12 => some (v12, v11.2)) else (fX11_readsOnce (0 : Int32) (3 : Int32) (2 : Int32) M0).bind fun v13 => (zv v13.1).bind fun v14 => some (v14, v13.2)) else (fX11_readsArrow M0).bind fun v15 => (zv v15.1).bind fun v16 => some (v16, v15.2)) else (fX11_readsTask M0).bind fun v17 => (zv v17.1).bind fun v18 => some (v18, v17.2)
set_option maxRecDepth 20000 in
theorem tX11_readsStatement {X : gX} {V : gEnv} {M0 : gMem}  {o : (Int32 × gMem)} (h : fX11_readsStatement M0 = some o) (O : gO X V mX11_readsStatement gShM (some .boolean) (some (.int o.1)) o.2) : gG X V mX11_readsStatement gShM M0 0 0 0 [(0, .ref (gAd V 0))] [] := by
  unfold fX11_readsStatement at h
  refine g_aload_n 0 rfl rfl dX11_readsStatement_0 ?_
  refine g_ldcSW SX11_288 dX11_readsStatement_1 ?_
  obtain ⟨v1, ev1, h⟩ := g_bnd h
  refine g_callV LX11_290 sM_0 rfl (kX11_says (by decide) ev1) rfl rfl (Nat.le_of_ble_eq_true rfl) ⟨Nat.le_of_ble_eq_true rfl, Nat.le_of_ble_eq_true rfl⟩ ⟨Nat.le_of_ble_eq_true rfl, Nat.le_of_ble_eq_true rfl⟩ dX11_readsStatement_4 rfl ?_
  rcases g_ite h with ⟨c2, h⟩ | ⟨c2, h⟩
  · refine g_if_eq_t c2 (tgt := 15) rfl dX11_readsStatement_7 ?_
    refine g_aload_n 0 rfl rfl dX11_readsStatement_15 ?_
    refine g_ldcSW SX11_297 dX11_readsStatement_16 ?_
    obtain ⟨v3, ev3, h⟩ := g_bnd h
    refine g_callV LX11_290 sM_0 rfl (kX11_says (by decide) ev3) rfl rfl (Nat.le_of_ble_eq_true rfl) ⟨Nat.le_of_ble_eq_true rfl, Nat.le_of_ble_eq_true rfl⟩ ⟨Nat.le_of_ble_eq_true rfl, Nat.le_of_ble_eq_true rfl⟩ dX11_readsStatement_19 rfl ?_
    rcases g_ite h with ⟨c4, h⟩ | ⟨c4, h⟩
    · refine g_if_eq_t c4 (tgt := 30) rfl dX11_readsStatement_22 ?_
      refine g_aload_n 0 rfl rfl dX11_readsStatement_30 ?_
      refine g_ldcSW SX11_302 dX11_readsStatement_31 ?_
      obtain ⟨v5, ev5, h⟩ := g_bnd h
      refine g_callV LX11_290 sM_0 rfl (kX11_says (by decide) ev5) rfl rfl (Nat.le_of_ble_eq_true rfl) ⟨Nat.le_of_ble_eq_true rfl, Nat.le_of_ble_eq_true rfl⟩ ⟨Nat.le_of_ble_eq_true rfl, Nat.le_of_ble_eq_true rfl⟩ dX11_readsStatement_34 rfl ?_
      rcases g_ite h with ⟨c6, h⟩ | ⟨c6, h⟩
      · refine g_if_eq_t c6 (tgt := 48) rfl dX11_readsStatement_37 ?_
        refine g_aload_n 0 rfl rfl dX11_readsStatement_48 ?_
        refine g_ldcSW SX11_307 dX11_readsStatement_49 ?_
        obtain ⟨v7, ev7, h⟩ := g_bnd h
        refine g_callV LX11_290 sM_0 rfl (kX11_says (by decide) ev7) rfl rfl (Nat.le_of_ble_eq_true rfl) ⟨Nat.le_of_ble_eq_true rfl, Nat.le_of_ble_eq_true rfl⟩ ⟨Nat.le_of_ble_eq_true rfl, Nat.le_of_ble_eq_true rfl⟩ dX11_readsStatement_52 rfl ?_
        rcases g_ite h with ⟨c8, h⟩ | ⟨c8, h⟩
        · refine g_if_eq_t c8 (tgt := 66) rfl dX11_readsStatement_55 ?_
          refine g_aload_n 0 rfl rfl dX11_readsStatement_66 ?_
          refine g_iconst (v := 1) rfl dX11_readsStatement_67 ?_
          obtain ⟨v9, ev9, h⟩ := g_bnd h
          refine g_callV LX11_254 sM_0 rfl (kX11_fails ev9) rfl rfl (Nat.le_of_ble_eq_true rfl) ⟨Nat.le_of_ble_eq_true rfl, Nat.le_of_ble_eq_true rfl⟩ ⟨Nat.le_of_ble_eq_true rfl, Nat.le_of_ble_eq_true rfl⟩ dX11_readsStatement_68 rfl ?_
          obtain ⟨v10, ev10, h⟩ := g_bnd h
          refine g_zv ev10 ?_
          cases h
          exact g_iret O ⟨Nat.le_of_ble_eq_true rfl, Nat.le_of_ble_eq_true rfl⟩ (g_nz (zv_ok ev10)) dX11_readsStatement_71
        · refine g_if_eq_f c8 (tgt := 66) rfl dX11_readsStatement_55 ?_
          refine g_aload_n 0 rfl rfl dX11_readsStatement_58 ?_
          refine g_iconst (v := 1) rfl dX11_readsStatement_59 ?_
          refine g_iconst (v := 4) rfl dX11_readsStatement_60 ?_
          refine g_iconst (v := 1) rfl dX11_readsStatement_61 ?_
          obtain ⟨v11, ev11, h⟩ := g_bnd h
          refine g_callV LX11_304 sM_0 rfl (kX11_readsOnce ev11) rfl rfl (Nat.le_of_ble_eq_true rfl) ⟨Nat.le_of_ble_eq_true rfl, Nat.le_of_ble_eq_true rfl⟩ ⟨Nat.le_of_ble_eq_true rfl, Nat.le_of_ble_eq_true rfl⟩ dX11_readsStatement_62 rfl ?_
          obtain ⟨v12, ev12, h⟩ := g_bnd h
          refine g_zv ev12 ?_
          cases h
          exact g_iret O ⟨Nat.le_of_ble_eq_true rfl, Nat.le_of_ble_eq_true rfl⟩ (g_nz (zv_ok ev12)) dX11_readsStatement_65
      · refine g_if_eq_f c6 (tgt := 48) rfl dX11_readsStatement_37 ?_
        refine g_aload_n 0 rfl rfl dX11_readsStatement_40 ?_
        refine g_iconst (v := 0) rfl dX11_readsStatement_41 ?_
        refine g_iconst (v := 3) rfl dX11_readsStatement_42 ?_
        refine g_iconst (v := 2) rfl dX11_readsStatement_43 ?_
        obtain ⟨v13, ev13, h⟩ := g_bnd h
        refine g_callV LX11_304 sM_0 rfl (kX11_readsOnce ev13) rfl rfl (Nat.le_of_ble_eq_true rfl) ⟨Nat.le_of_ble_eq_true rfl, Nat.le_of_ble_eq_true rfl⟩ ⟨Nat.le_of_ble_eq_true rfl, Nat.le_of_ble_eq_true rfl⟩ dX11_readsStatement_44 rfl ?_
        obtain ⟨v14, ev14, h⟩ := g_bnd h
        refine g_zv ev14 ?_
        cases h
        exact g_iret O ⟨Nat.le_of_ble_eq_true rfl, Nat.le_of_ble_eq_true rfl⟩ (g_nz (zv_ok ev14)) dX11_readsStatement_47
    · refine g_if_eq_f c4 (tgt := 30) rfl dX11_readsStatement_22 ?_
      refine g_aload_n 0 rfl rfl dX11_readsStatement_25 ?_
      obtain ⟨v15, ev15, h⟩ := g_bnd h
      refine g_callV LX11_299 sM_0 rfl (kX11_readsArrow ev15) rfl rfl (Nat.le_of_ble_eq_true rfl) ⟨Nat.le_of_ble_eq_true rfl, Nat.le_of_ble_eq_true rfl⟩ ⟨Nat.le_of_ble_eq_true rfl, Nat.le_of_ble_eq_true rfl⟩ dX11_readsStatement_26 rfl ?_
      obtain ⟨v16, ev16, h⟩ := g_bnd h
      refine g_zv ev16 ?_
      cases h
      exact g_iret O ⟨Nat.le_of_ble_eq_true rfl, Nat.le_of_ble_eq_true rfl⟩ (g_nz (zv_ok ev16)) dX11_readsStatement_29
  · refine g_if_eq_f c2 (tgt := 15) rfl dX11_readsStatement_7 ?_
    refine g_aload_n 0 rfl rfl dX11_readsStatement_10 ?_
    obtain ⟨v17, ev17, h⟩ := g_bnd h
    refine g_callV LX11_294 sM_0 rfl (kX11_readsTask ev17) rfl rfl (Nat.le_of_ble_eq_true rfl) ⟨Nat.le_of_ble_eq_true rfl, Nat.le_of_ble_eq_true rfl⟩ ⟨Nat.le_of_ble_eq_true rfl, Nat.le_of_ble_eq_true rfl⟩ dX11_readsStatement_11 rfl ?_
    obtain ⟨v18, ev18, h⟩ := g_bnd h
    refine g_zv ev18 ?_
    cases h
    exact g_iret O ⟨Nat.le_of_ble_eq_true rfl, Nat.le_of_ble_eq_true rfl⟩ (g_nz (zv_ok ev18)) dX11_readsStatement_14
theorem kX11_readsStatement {l : Launch} {V : gEnv} {M0 : gMem}   {o : (Int32 × gMem)} (h : fX11_readsStatement M0 = some o) : gM l yX11_readsStatement cX11_readsStatement 1 (some .boolean) rX11_readsStatement V gShM [.ref (gAd V 0)] M0 (some (.int o.1)) o.2 :=
  gM.of (by decide) (Nat.le_of_ble_eq_true rfl) rfl (fun X _ O => tX11_readsStatement  h O)
theorem dX11_readsAll_0 : decode cX11_readsAll 0 = .ok (.aload_n 0, 1) := by decide +kernel
theorem dX11_readsAll_1 : decode cX11_readsAll 1 = .ok (.ldc_w 288, 3) := by decide +kernel
theorem dX11_readsAll_4 : decode cX11_readsAll 4 = .ok (.invokevirtual 290, 3) := by decide +kernel
theorem dX11_readsAll_7 : decode cX11_readsAll 7 = .ok (.ifCond .ne 9, 3) := by decide +kernel
theorem dX11_readsAll_10 : decode cX11_readsAll 10 = .ok (.aload_n 0, 1) := by decide +kernel
theorem dX11_readsAll_11 : decode cX11_readsAll 11 = .ok (.iconst 1, 1) := by decide +kernel
theorem dX11_readsAll_12 : decode cX11_readsAll 12 = .ok (.invokevirtual 254, 3) := by decide +kernel
theorem dX11_readsAll_15 : decode cX11_readsAll 15 = .ok (.ireturn, 1) := by decide +kernel
theorem dX11_readsAll_16 : decode cX11_readsAll 16 = .ok (.aload_n 0, 1) := by decide +kernel
theorem dX11_readsAll_17 : decode cX11_readsAll 17 = .ok (.invokevirtual 309, 3) := by decide +kernel
theorem dX11_readsAll_20 : decode cX11_readsAll 20 = .ok (.ifCond .ne 5, 3) := by decide +kernel
theorem dX11_readsAll_23 : decode cX11_readsAll 23 = .ok (.iconst 0, 1) := by decide +kernel
theorem dX11_readsAll_24 : decode cX11_readsAll 24 = .ok (.ireturn, 1) := by decide +kernel
theorem dX11_readsAll_25 : decode cX11_readsAll 25 = .ok (.aload_n 0, 1) := by decide +kernel
theorem dX11_readsAll_26 : decode cX11_readsAll 26 = .ok (.getfield 231, 3) := by decide +kernel
theorem dX11_readsAll_29 : decode cX11_readsAll 29 = .ok (.ifCond .eq 30, 3) := by decide +kernel
theorem dX11_readsAll_32 : decode cX11_readsAll 32 = .ok (.aload_n 0, 1) := by decide +kernel
theorem dX11_readsAll_33 : decode cX11_readsAll 33 = .ok (.getfield 231, 3) := by decide +kernel
theorem dX11_readsAll_36 : decode cX11_readsAll 36 = .ok (.iconst 3, 1) := by decide +kernel
theorem dX11_readsAll_37 : decode cX11_readsAll 37 = .ok (.if_icmp .eq 9, 3) := by decide +kernel
theorem dX11_readsAll_40 : decode cX11_readsAll 40 = .ok (.aload_n 0, 1) := by decide +kernel
theorem dX11_readsAll_41 : decode cX11_readsAll 41 = .ok (.iconst 1, 1) := by decide +kernel
theorem dX11_readsAll_42 : decode cX11_readsAll 42 = .ok (.invokevirtual 254, 3) := by decide +kernel
theorem dX11_readsAll_45 : decode cX11_readsAll 45 = .ok (.ireturn, 1) := by decide +kernel
theorem dX11_readsAll_46 : decode cX11_readsAll 46 = .ok (.aload_n 0, 1) := by decide +kernel
theorem dX11_readsAll_47 : decode cX11_readsAll 47 = .ok (.invokevirtual 260, 3) := by decide +kernel
theorem dX11_readsAll_50 : decode cX11_readsAll 50 = .ok (.aload_n 0, 1) := by decide +kernel
theorem dX11_readsAll_51 : decode cX11_readsAll 51 = .ok (.invokevirtual 309, 3) := by decide +kernel
theorem dX11_readsAll_54 : decode cX11_readsAll 54 = .ok (.ifCond .ne (-29), 3) := by decide +kernel
theorem dX11_readsAll_57 : decode cX11_readsAll 57 = .ok (.iconst 0, 1) := by decide +kernel
theorem dX11_readsAll_58 : decode cX11_readsAll 58 = .ok (.ireturn, 1) := by decide +kernel
theorem dX11_readsAll_59 : decode cX11_readsAll 59 = .ok (.iconst 1, 1) := by decide +kernel
theorem dX11_readsAll_60 : decode cX11_readsAll 60 = .ok (.ireturn, 1) := by decide +kernel
abbrev rX11_readsAll : Room := { frames := 9, cells := 0, slots := 0, locals := 203 }
abbrev mX11_readsAll : gY := (cX11_readsAll, RX11, 1, rX11_readsAll)
def fX11_readsAll_l25 (M0 : gMem) : Option (gMem ⊕ (gMem ⊕ (Int32 × gMem))) :=
  if (M0.1 0 25) = 0 then (some (.inr (.inl M0))) else if (M0.1 0 25) = (3 : Int32) then ((fX11_goesOn M0).bind fun v9 => (fX11_readsStatement v9).bind fun v10 => if v10.1 = 0 then (some (.inr (.inr ((0 : Int32), v10.2)))) else some (.inl v10.2)) else (fX11_fails (1 : Int32) M0).bind fun v12 => (zv v12.1).bind fun v13 => some (.inr (.inr (v13, v12.2)))
set_option maxRecDepth 20000 in
theorem tX11_readsAll_l25 {X : gX} {V : gEnv} {M0 : gMem}  {o : (gMem ⊕ (gMem ⊕ (Int32 × gMem)))} (h : fX11_readsAll_l25 M0 = some o) (Kc : ∀ s9, o = .inl s9 → gG X V mX11_readsAll gShM s9 0 0 25 [(0, .ref (gAd V 0))] []) (Kx : ∀ e9, o = .inr (.inl e9) → gG X V mX11_readsAll gShM e9 0 0 59 [] []) (Kr : ∀ r9, o = .inr (.inr r9) → gO X V mX11_readsAll gShM (some .boolean) (some (.int r9.1)) r9.2) : gG X V mX11_readsAll gShM M0 0 0 25 [(0, .ref (gAd V 0))] [] := by
  unfold fX11_readsAll_l25 at h
  refine g_aload_n 0 rfl rfl dX11_readsAll_25 ?_
  refine g_getI FX11_231 sM_0 rfl dX11_readsAll_26 ?_
  rcases g_ite h with ⟨c7, h⟩ | ⟨c7, h⟩
  · refine g_if_eq_t c7 (tgt := 59) rfl dX11_readsAll_29 ?_
    cases h
    refine g_sub [] rfl ?_
    exact Kx M0 rfl
  · refine g_if_eq_f c7 (tgt := 59) rfl dX11_readsAll_29 ?_
    refine g_aload_n 0 rfl rfl dX11_readsAll_32 ?_
    refine g_getI FX11_231 sM_0 rfl dX11_readsAll_33 ?_
    refine g_iconst (v := 3) rfl dX11_readsAll_36 ?_
    rcases g_ite h with ⟨c8, h⟩ | ⟨c8, h⟩
    · refine g_icmp_eq_t c8 (tgt := 46) rfl dX11_readsAll_37 ?_
      refine g_aload_n 0 rfl rfl dX11_readsAll_46 ?_
      obtain ⟨v9, ev9, h⟩ := g_bnd h
      refine g_callV LX11_260 sM_0 rfl (kX11_goesOn ev9) rfl rfl (Nat.le_of_ble_eq_true rfl) ⟨Nat.le_of_ble_eq_true rfl, Nat.le_of_ble_eq_true rfl⟩ ⟨Nat.le_of_ble_eq_true rfl, Nat.le_of_ble_eq_true rfl⟩ dX11_readsAll_47 rfl ?_
      refine g_aload_n 0 rfl rfl dX11_readsAll_50 ?_
      obtain ⟨v10, ev10, h⟩ := g_bnd h
      refine g_callV LX11_309 sM_0 rfl (kX11_readsStatement ev10) rfl rfl (Nat.le_of_ble_eq_true rfl) ⟨Nat.le_of_ble_eq_true rfl, Nat.le_of_ble_eq_true rfl⟩ ⟨Nat.le_of_ble_eq_true rfl, Nat.le_of_ble_eq_true rfl⟩ dX11_readsAll_51 rfl ?_
      rcases g_ite h with ⟨c11, h⟩ | ⟨c11, h⟩
      · refine g_if_ne_f c11 (tgt := 25) rfl dX11_readsAll_54 ?_
        refine g_iconst (v := 0) rfl dX11_readsAll_57 ?_
        cases h
        exact g_iret (Kr ((0 : Int32), v10.2) rfl) ⟨Nat.le_of_ble_eq_true rfl, Nat.le_of_ble_eq_true rfl⟩ rfl dX11_readsAll_58
      · refine g_if_ne_t c11 (tgt := 25) rfl dX11_readsAll_54 ?_
        cases h
        exact Kc v10.2 rfl
    · refine g_icmp_eq_f c8 (tgt := 46) rfl dX11_readsAll_37 ?_
      refine g_aload_n 0 rfl rfl dX11_readsAll_40 ?_
      refine g_iconst (v := 1) rfl dX11_readsAll_41 ?_
      obtain ⟨v12, ev12, h⟩ := g_bnd h
      refine g_callV LX11_254 sM_0 rfl (kX11_fails ev12) rfl rfl (Nat.le_of_ble_eq_true rfl) ⟨Nat.le_of_ble_eq_true rfl, Nat.le_of_ble_eq_true rfl⟩ ⟨Nat.le_of_ble_eq_true rfl, Nat.le_of_ble_eq_true rfl⟩ dX11_readsAll_42 rfl ?_
      obtain ⟨v13, ev13, h⟩ := g_bnd h
      refine g_zv ev13 ?_
      cases h
      exact g_iret (Kr (v13, v12.2) rfl) ⟨Nat.le_of_ble_eq_true rfl, Nat.le_of_ble_eq_true rfl⟩ (g_nz (zv_ok ev13)) dX11_readsAll_45
def fX11_readsAll (M0 : gMem) : Option (Int32 × gMem) :=
  (fX11_says 0 M0).bind fun v1 => if v1 = 0 then ((fX11_fails (1 : Int32) M0).bind fun v3 => (zv v3.1).bind fun v4 => some (v4, v3.2)) else (fX11_readsStatement M0).bind fun v5 => if v5.1 = 0 then (some ((0 : Int32), v5.2)) else (gLoop (fun z9 => fX11_readsAll_l25 z9) gFu v5.2).bind fun w14 => gSE w14 (fun y15 => some ((1 : Int32), y15)) (fun r16 => some r16)
set_option maxRecDepth 20000 in
theorem tX11_readsAll {X : gX} {V : gEnv} {M0 : gMem}  {o : (Int32 × gMem)} (h : fX11_readsAll M0 = some o) (O : gO X V mX11_readsAll gShM (some .boolean) (some (.int o.1)) o.2) : gG X V mX11_readsAll gShM M0 0 0 0 [(0, .ref (gAd V 0))] [] := by
  unfold fX11_readsAll at h
  refine g_aload_n 0 rfl rfl dX11_readsAll_0 ?_
  refine g_ldcSW SX11_288 dX11_readsAll_1 ?_
  obtain ⟨v1, ev1, h⟩ := g_bnd h
  refine g_callV LX11_290 sM_0 rfl (kX11_says (by decide) ev1) rfl rfl (Nat.le_of_ble_eq_true rfl) ⟨Nat.le_of_ble_eq_true rfl, Nat.le_of_ble_eq_true rfl⟩ ⟨Nat.le_of_ble_eq_true rfl, Nat.le_of_ble_eq_true rfl⟩ dX11_readsAll_4 rfl ?_
  rcases g_ite h with ⟨c2, h⟩ | ⟨c2, h⟩
  · refine g_if_ne_f c2 (tgt := 16) rfl dX11_readsAll_7 ?_
    refine g_aload_n 0 rfl rfl dX11_readsAll_10 ?_
    refine g_iconst (v := 1) rfl dX11_readsAll_11 ?_
    obtain ⟨v3, ev3, h⟩ := g_bnd h
    refine g_callV LX11_254 sM_0 rfl (kX11_fails ev3) rfl rfl (Nat.le_of_ble_eq_true rfl) ⟨Nat.le_of_ble_eq_true rfl, Nat.le_of_ble_eq_true rfl⟩ ⟨Nat.le_of_ble_eq_true rfl, Nat.le_of_ble_eq_true rfl⟩ dX11_readsAll_12 rfl ?_
    obtain ⟨v4, ev4, h⟩ := g_bnd h
    refine g_zv ev4 ?_
    cases h
    exact g_iret O ⟨Nat.le_of_ble_eq_true rfl, Nat.le_of_ble_eq_true rfl⟩ (g_nz (zv_ok ev4)) dX11_readsAll_15
  · refine g_if_ne_t c2 (tgt := 16) rfl dX11_readsAll_7 ?_
    refine g_aload_n 0 rfl rfl dX11_readsAll_16 ?_
    obtain ⟨v5, ev5, h⟩ := g_bnd h
    refine g_callV LX11_309 sM_0 rfl (kX11_readsStatement ev5) rfl rfl (Nat.le_of_ble_eq_true rfl) ⟨Nat.le_of_ble_eq_true rfl, Nat.le_of_ble_eq_true rfl⟩ ⟨Nat.le_of_ble_eq_true rfl, Nat.le_of_ble_eq_true rfl⟩ dX11_readsAll_17 rfl ?_
    rcases g_ite h with ⟨c6, h⟩ | ⟨c6, h⟩
    · refine g_if_ne_f c6 (tgt := 25) rfl dX11_readsAll_20 ?_
      refine g_iconst (v := 0) rfl dX11_readsAll_23 ?_
      cases h
      exact g_iret O ⟨Nat.le_of_ble_eq_true rfl, Nat.le_of_ble_eq_true rfl⟩ rfl dX11_readsAll_24
    · refine g_if_ne_t c6 (tgt := 25) rfl dX11_readsAll_20 ?_
      obtain ⟨w14, ew14, h⟩ := g_bnd h
      rcases w14 with y15 | r16
      · have h := g_sl h
        have KX : gG X V mX11_readsAll gShM y15 0 0 59 [] [] := by
          refine g_iconst (v := 1) rfl dX11_readsAll_59 ?_
          cases h
          exact g_iret O ⟨Nat.le_of_ble_eq_true rfl, Nat.le_of_ble_eq_true rfl⟩ rfl dX11_readsAll_60
        exact gLoop_Q ew14 (fun z9 => gG X V mX11_readsAll gShM z9 0 0 25 [(0, .ref (gAd V 0))] []) (fun s9 o9 hb9 hc9 hx9 => tX11_readsAll_l25  hb9 hc9 (fun e9 he9 => by cases hx9 _ he9; exact KX) (fun r9 he9 => by cases hx9 _ he9))
      · have h := g_sr h
        cases h
        exact gLoop_Q ew14 (fun z9 => gG X V mX11_readsAll gShM z9 0 0 25 [(0, .ref (gAd V 0))] []) (fun s9 o9 hb9 hc9 hx9 => tX11_readsAll_l25  hb9 hc9 (fun e9 he9 => by cases hx9 _ he9) (fun r9 he9 => by cases hx9 _ he9; exact O))
theorem kX11_readsAll {l : Launch} {V : gEnv} {M0 : gMem}   {o : (Int32 × gMem)} (h : fX11_readsAll M0 = some o) : gM l yX11_readsAll cX11_readsAll 1 (some .boolean) rX11_readsAll V gShM [.ref (gAd V 0)] M0 (some (.int o.1)) o.2 :=
  gM.of (by decide) (Nat.le_of_ble_eq_true rfl) rfl (fun X _ O => tX11_readsAll  h O)
theorem dX11_keepsBefore_0 : decode cX11_keepsBefore 0 = .ok (.iconst 0, 1) := by decide +kernel
theorem dX11_keepsBefore_1 : decode cX11_keepsBefore 1 = .ok (.istore_n 1, 1) := by decide +kernel
theorem dX11_keepsBefore_2 : decode cX11_keepsBefore 2 = .ok (.iload_n 1, 1) := by decide +kernel
theorem dX11_keepsBefore_3 : decode cX11_keepsBefore 3 = .ok (.sipush 374, 3) := by decide +kernel
theorem dX11_keepsBefore_6 : decode cX11_keepsBefore 6 = .ok (.if_icmp .ge 28, 3) := by decide +kernel
theorem dX11_keepsBefore_9 : decode cX11_keepsBefore 9 = .ok (.aload_n 0, 1) := by decide +kernel
theorem dX11_keepsBefore_10 : decode cX11_keepsBefore 10 = .ok (.getfield 16, 3) := by decide +kernel
theorem dX11_keepsBefore_13 : decode cX11_keepsBefore 13 = .ok (.iload_n 1, 1) := by decide +kernel
theorem dX11_keepsBefore_14 : decode cX11_keepsBefore 14 = .ok (.aload_n 0, 1) := by decide +kernel
theorem dX11_keepsBefore_15 : decode cX11_keepsBefore 15 = .ok (.getfield 9, 3) := by decide +kernel
theorem dX11_keepsBefore_18 : decode cX11_keepsBefore 18 = .ok (.iload_n 1, 1) := by decide +kernel
theorem dX11_keepsBefore_19 : decode cX11_keepsBefore 19 = .ok (.iaload, 1) := by decide +kernel
theorem dX11_keepsBefore_20 : decode cX11_keepsBefore 20 = .ok (.iastore, 1) := by decide +kernel
theorem dX11_keepsBefore_21 : decode cX11_keepsBefore 21 = .ok (.aload_n 0, 1) := by decide +kernel
theorem dX11_keepsBefore_22 : decode cX11_keepsBefore 22 = .ok (.getfield 9, 3) := by decide +kernel
theorem dX11_keepsBefore_25 : decode cX11_keepsBefore 25 = .ok (.iload_n 1, 1) := by decide +kernel
theorem dX11_keepsBefore_26 : decode cX11_keepsBefore 26 = .ok (.iconst 0, 1) := by decide +kernel
theorem dX11_keepsBefore_27 : decode cX11_keepsBefore 27 = .ok (.iastore, 1) := by decide +kernel
theorem dX11_keepsBefore_28 : decode cX11_keepsBefore 28 = .ok (.iinc 1 1, 3) := by decide +kernel
theorem dX11_keepsBefore_31 : decode cX11_keepsBefore 31 = .ok (.goto (-29), 3) := by decide +kernel
theorem dX11_keepsBefore_34 : decode cX11_keepsBefore 34 = .ok (.return_, 1) := by decide +kernel
abbrev rX11_keepsBefore : Room := { frames := 0, cells := 0, slots := 0, locals := 0 }
abbrev mX11_keepsBefore : gY := (cX11_keepsBefore, RX11, 2, rX11_keepsBefore)
def fX11_keepsBefore_l2 (x1 : Int32) (M0 : gMem) : Option ((Int32 × gMem) ⊕ gMem) :=
  if (374 : Int32) ≤ x1 then (some (.inr M0)) else (rI M0 1 374 x1).bind fun v2 => (wI M0 3 374 x1 v2).bind fun M3 => (wI M3 1 374 x1 (0 : Int32)).bind fun M4 => some (.inl (x1 + (1 : Int32), M4))
set_option maxRecDepth 20000 in
theorem tX11_keepsBefore_l2 {X : gX} {V : gEnv} {x1 : Int32} {M0 : gMem}  {o : ((Int32 × gMem) ⊕ gMem)} (h : fX11_keepsBefore_l2 x1 M0 = some o) (Kc : ∀ s9, o = .inl s9 → gG X V mX11_keepsBefore gShM s9.2 0 0 2 [(0, .ref (gAd V 0)), (1, .int s9.1)] []) (Kx : ∀ e9, o = .inr e9 → gG X V mX11_keepsBefore gShM e9 0 0 34 [] []) : gG X V mX11_keepsBefore gShM M0 0 0 2 [(0, .ref (gAd V 0)), (1, .int x1)] [] := by
  unfold fX11_keepsBefore_l2 at h
  refine g_iload_n 1 rfl rfl dX11_keepsBefore_2 ?_
  refine g_sipush (v := 374) rfl dX11_keepsBefore_3 ?_
  rcases g_ite h with ⟨c1, h⟩ | ⟨c1, h⟩
  · refine g_icmp_ge_t c1 (tgt := 34) rfl dX11_keepsBefore_6 ?_
    cases h
    refine g_sub [] rfl ?_
    exact Kx M0 rfl
  · refine g_icmp_ge_f c1 (tgt := 34) rfl dX11_keepsBefore_6 ?_
    refine g_aload_n 0 rfl rfl dX11_keepsBefore_9 ?_
    refine g_getR FX11_16 sM_0 rfl dX11_keepsBefore_10 ?_
    refine g_iload_n 1 rfl rfl dX11_keepsBefore_13 ?_
    refine g_aload_n 0 rfl rfl dX11_keepsBefore_14 ?_
    refine g_getR FX11_9 sM_0 rfl dX11_keepsBefore_15 ?_
    refine g_iload_n 1 rfl rfl dX11_keepsBefore_18 ?_
    obtain ⟨v2, ev2, h⟩ := g_bnd h
    refine g_iald' ev2 sM_1 dX11_keepsBefore_19 ?_
    obtain ⟨M3, eM3, h⟩ := g_bnd h
    refine g_iast' eM3 sM_3 dX11_keepsBefore_20 ?_
    refine g_aload_n 0 rfl rfl dX11_keepsBefore_21 ?_
    refine g_getR FX11_9 sM_0 rfl dX11_keepsBefore_22 ?_
    refine g_iload_n 1 rfl rfl dX11_keepsBefore_25 ?_
    refine g_iconst (v := 0) rfl dX11_keepsBefore_26 ?_
    obtain ⟨M4, eM4, h⟩ := g_bnd h
    refine g_iast' eM4 sM_1 dX11_keepsBefore_27 ?_
    refine g_iinc (j := 1) (v := x1 + (1 : Int32)) (ls' := [(1, .int (x1 + (1 : Int32))), (0, .ref (gAd V 0))]) rfl rfl (Nat.le_of_ble_eq_true rfl) rfl dX11_keepsBefore_28 ?_
    refine g_goto (tgt := 2) rfl dX11_keepsBefore_31 ?_
    cases h
    refine g_sub [1, 0] rfl ?_
    exact Kc (x1 + (1 : Int32), M4) rfl
def fX11_keepsBefore (M0 : gMem) : Option gMem :=
  (gLoop (fun z9 => fX11_keepsBefore_l2 z9.1 z9.2) gFu ((0 : Int32), M0)).bind fun w5 => some w5
set_option maxRecDepth 20000 in
theorem tX11_keepsBefore {X : gX} {V : gEnv} {M0 : gMem}  {o : gMem} (h : fX11_keepsBefore M0 = some o) (O : gO X V mX11_keepsBefore gShM none none o) : gG X V mX11_keepsBefore gShM M0 0 0 0 [(0, .ref (gAd V 0))] [] := by
  unfold fX11_keepsBefore at h
  refine g_iconst (v := 0) rfl dX11_keepsBefore_0 ?_
  refine g_istore_n (ls' := [(1, .int (0 : Int32)), (0, .ref (gAd V 0))]) rfl (Nat.le_of_ble_eq_true rfl) rfl dX11_keepsBefore_1 ?_
  obtain ⟨w5, ew5, h⟩ := g_bnd h
  refine g_sub [1, 0] rfl ?_
  have KX : gG X V mX11_keepsBefore gShM w5 0 0 34 [] [] := by
    cases h
    exact g_vret O ⟨Nat.le_of_ble_eq_true rfl, Nat.le_of_ble_eq_true rfl⟩ dX11_keepsBefore_34
  exact gLoop_Q ew5 (fun z9 => gG X V mX11_keepsBefore gShM z9.2 0 0 2 [(0, .ref (gAd V 0)), (1, .int z9.1)] []) (fun s9 o9 hb9 hc9 hx9 => tX11_keepsBefore_l2  hb9 hc9 (fun e9 he9 => by cases hx9 _ he9; exact KX))
theorem kX11_keepsBefore {l : Launch} {V : gEnv} {M0 : gMem}   {o : gMem} (h : fX11_keepsBefore M0 = some o) : gM l yX11_keepsBefore cX11_keepsBefore 2 none rX11_keepsBefore V gShM [.ref (gAd V 0)] M0 none o :=
  gM.of (by decide) (Nat.le_of_ble_eq_true rfl) rfl (fun X _ O => tX11_keepsBefore  h O)
theorem dX11_laysBefore_0 : decode cX11_laysBefore 0 = .ok (.iconst 0, 1) := by decide +kernel
theorem dX11_laysBefore_1 : decode cX11_laysBefore 1 = .ok (.istore_n 1, 1) := by decide +kernel
theorem dX11_laysBefore_2 : decode cX11_laysBefore 2 = .ok (.iload_n 1, 1) := by decide +kernel
theorem dX11_laysBefore_3 : decode cX11_laysBefore 3 = .ok (.sipush 374, 3) := by decide +kernel
theorem dX11_laysBefore_6 : decode cX11_laysBefore 6 = .ok (.if_icmp .ge 21, 3) := by decide +kernel
theorem dX11_laysBefore_9 : decode cX11_laysBefore 9 = .ok (.aload_n 0, 1) := by decide +kernel
theorem dX11_laysBefore_10 : decode cX11_laysBefore 10 = .ok (.getfield 9, 3) := by decide +kernel
theorem dX11_laysBefore_13 : decode cX11_laysBefore 13 = .ok (.iload_n 1, 1) := by decide +kernel
theorem dX11_laysBefore_14 : decode cX11_laysBefore 14 = .ok (.aload_n 0, 1) := by decide +kernel
theorem dX11_laysBefore_15 : decode cX11_laysBefore 15 = .ok (.getfield 16, 3) := by decide +kernel
theorem dX11_laysBefore_18 : decode cX11_laysBefore 18 = .ok (.iload_n 1, 1) := by decide +kernel
theorem dX11_laysBefore_19 : decode cX11_laysBefore 19 = .ok (.iaload, 1) := by decide +kernel
theorem dX11_laysBefore_20 : decode cX11_laysBefore 20 = .ok (.iastore, 1) := by decide +kernel
theorem dX11_laysBefore_21 : decode cX11_laysBefore 21 = .ok (.iinc 1 1, 3) := by decide +kernel
theorem dX11_laysBefore_24 : decode cX11_laysBefore 24 = .ok (.goto (-22), 3) := by decide +kernel
theorem dX11_laysBefore_27 : decode cX11_laysBefore 27 = .ok (.return_, 1) := by decide +kernel
abbrev rX11_laysBefore : Room := { frames := 0, cells := 0, slots := 0, locals := 0 }
abbrev mX11_laysBefore : gY := (cX11_laysBefore, RX11, 2, rX11_laysBefore)
def fX11_laysBefore_l2 (x1 : Int32) (M0 : gMem) : Option ((Int32 × gMem) ⊕ gMem) :=
  if (374 : Int32) ≤ x1 then (some (.inr M0)) else (rI M0 3 374 x1).bind fun v2 => (wI M0 1 374 x1 v2).bind fun M3 => some (.inl (x1 + (1 : Int32), M3))
set_option maxRecDepth 20000 in
theorem tX11_laysBefore_l2 {X : gX} {V : gEnv} {x1 : Int32} {M0 : gMem}  {o : ((Int32 × gMem) ⊕ gMem)} (h : fX11_laysBefore_l2 x1 M0 = some o) (Kc : ∀ s9, o = .inl s9 → gG X V mX11_laysBefore gShM s9.2 0 0 2 [(0, .ref (gAd V 0)), (1, .int s9.1)] []) (Kx : ∀ e9, o = .inr e9 → gG X V mX11_laysBefore gShM e9 0 0 27 [] []) : gG X V mX11_laysBefore gShM M0 0 0 2 [(0, .ref (gAd V 0)), (1, .int x1)] [] := by
  unfold fX11_laysBefore_l2 at h
  refine g_iload_n 1 rfl rfl dX11_laysBefore_2 ?_
  refine g_sipush (v := 374) rfl dX11_laysBefore_3 ?_
  rcases g_ite h with ⟨c1, h⟩ | ⟨c1, h⟩
  · refine g_icmp_ge_t c1 (tgt := 27) rfl dX11_laysBefore_6 ?_
    cases h
    refine g_sub [] rfl ?_
    exact Kx M0 rfl
  · refine g_icmp_ge_f c1 (tgt := 27) rfl dX11_laysBefore_6 ?_
    refine g_aload_n 0 rfl rfl dX11_laysBefore_9 ?_
    refine g_getR FX11_9 sM_0 rfl dX11_laysBefore_10 ?_
    refine g_iload_n 1 rfl rfl dX11_laysBefore_13 ?_
    refine g_aload_n 0 rfl rfl dX11_laysBefore_14 ?_
    refine g_getR FX11_16 sM_0 rfl dX11_laysBefore_15 ?_
    refine g_iload_n 1 rfl rfl dX11_laysBefore_18 ?_
    obtain ⟨v2, ev2, h⟩ := g_bnd h
    refine g_iald' ev2 sM_3 dX11_laysBefore_19 ?_
    obtain ⟨M3, eM3, h⟩ := g_bnd h
    refine g_iast' eM3 sM_1 dX11_laysBefore_20 ?_
    refine g_iinc (j := 1) (v := x1 + (1 : Int32)) (ls' := [(1, .int (x1 + (1 : Int32))), (0, .ref (gAd V 0))]) rfl rfl (Nat.le_of_ble_eq_true rfl) rfl dX11_laysBefore_21 ?_
    refine g_goto (tgt := 2) rfl dX11_laysBefore_24 ?_
    cases h
    refine g_sub [1, 0] rfl ?_
    exact Kc (x1 + (1 : Int32), M3) rfl
def fX11_laysBefore (M0 : gMem) : Option gMem :=
  (gLoop (fun z9 => fX11_laysBefore_l2 z9.1 z9.2) gFu ((0 : Int32), M0)).bind fun w4 => some w4
set_option maxRecDepth 20000 in
theorem tX11_laysBefore {X : gX} {V : gEnv} {M0 : gMem}  {o : gMem} (h : fX11_laysBefore M0 = some o) (O : gO X V mX11_laysBefore gShM none none o) : gG X V mX11_laysBefore gShM M0 0 0 0 [(0, .ref (gAd V 0))] [] := by
  unfold fX11_laysBefore at h
  refine g_iconst (v := 0) rfl dX11_laysBefore_0 ?_
  refine g_istore_n (ls' := [(1, .int (0 : Int32)), (0, .ref (gAd V 0))]) rfl (Nat.le_of_ble_eq_true rfl) rfl dX11_laysBefore_1 ?_
  obtain ⟨w4, ew4, h⟩ := g_bnd h
  refine g_sub [1, 0] rfl ?_
  have KX : gG X V mX11_laysBefore gShM w4 0 0 27 [] [] := by
    cases h
    exact g_vret O ⟨Nat.le_of_ble_eq_true rfl, Nat.le_of_ble_eq_true rfl⟩ dX11_laysBefore_27
  exact gLoop_Q ew4 (fun z9 => gG X V mX11_laysBefore gShM z9.2 0 0 2 [(0, .ref (gAd V 0)), (1, .int z9.1)] []) (fun s9 o9 hb9 hc9 hx9 => tX11_laysBefore_l2  hb9 hc9 (fun e9 he9 => by cases hx9 _ he9; exact KX))
theorem kX11_laysBefore {l : Launch} {V : gEnv} {M0 : gMem}   {o : gMem} (h : fX11_laysBefore M0 = some o) : gM l yX11_laysBefore cX11_laysBefore 2 none rX11_laysBefore V gShM [.ref (gAd V 0)] M0 none o :=
  gM.of (by decide) (Nat.le_of_ble_eq_true rfl) rfl (fun X _ O => tX11_laysBefore  h O)
theorem dX11_readText_0 : decode cX11_readText 0 = .ok (.aload_n 0, 1) := by decide +kernel
theorem dX11_readText_1 : decode cX11_readText 1 = .ok (.iconst 0, 1) := by decide +kernel
theorem dX11_readText_2 : decode cX11_readText 2 = .ok (.putfield 72, 3) := by decide +kernel
theorem dX11_readText_5 : decode cX11_readText 5 = .ok (.aload_n 0, 1) := by decide +kernel
theorem dX11_readText_6 : decode cX11_readText 6 = .ok (.invokevirtual 312, 3) := by decide +kernel
theorem dX11_readText_9 : decode cX11_readText 9 = .ok (.aload_n 0, 1) := by decide +kernel
theorem dX11_readText_10 : decode cX11_readText 10 = .ok (.iconst 0, 1) := by decide +kernel
theorem dX11_readText_11 : decode cX11_readText 11 = .ok (.putfield 285, 3) := by decide +kernel
theorem dX11_readText_14 : decode cX11_readText 14 = .ok (.aload_n 0, 1) := by decide +kernel
theorem dX11_readText_15 : decode cX11_readText 15 = .ok (.invokevirtual 315, 3) := by decide +kernel
theorem dX11_readText_18 : decode cX11_readText 18 = .ok (.aload_n 0, 1) := by decide +kernel
theorem dX11_readText_19 : decode cX11_readText 19 = .ok (.invokevirtual 318, 3) := by decide +kernel
theorem dX11_readText_22 : decode cX11_readText 22 = .ok (.istore_n 1, 1) := by decide +kernel
theorem dX11_readText_23 : decode cX11_readText 23 = .ok (.aload_n 0, 1) := by decide +kernel
theorem dX11_readText_24 : decode cX11_readText 24 = .ok (.invokevirtual 321, 3) := by decide +kernel
theorem dX11_readText_27 : decode cX11_readText 27 = .ok (.ifCond .ne 14, 3) := by decide +kernel
theorem dX11_readText_30 : decode cX11_readText 30 = .ok (.aload_n 0, 1) := by decide +kernel
theorem dX11_readText_31 : decode cX11_readText 31 = .ok (.iconst 1, 1) := by decide +kernel
theorem dX11_readText_32 : decode cX11_readText 32 = .ok (.putfield 72, 3) := by decide +kernel
theorem dX11_readText_35 : decode cX11_readText 35 = .ok (.aload_n 0, 1) := by decide +kernel
theorem dX11_readText_36 : decode cX11_readText 36 = .ok (.invokevirtual 324, 3) := by decide +kernel
theorem dX11_readText_39 : decode cX11_readText 39 = .ok (.iconst 0, 1) := by decide +kernel
theorem dX11_readText_40 : decode cX11_readText 40 = .ok (.ireturn, 1) := by decide +kernel
theorem dX11_readText_41 : decode cX11_readText 41 = .ok (.iconst 0, 1) := by decide +kernel
theorem dX11_readText_42 : decode cX11_readText 42 = .ok (.istore_n 2, 1) := by decide +kernel
theorem dX11_readText_43 : decode cX11_readText 43 = .ok (.iload_n 2, 1) := by decide +kernel
theorem dX11_readText_44 : decode cX11_readText 44 = .ok (.bipush 8, 2) := by decide +kernel
theorem dX11_readText_46 : decode cX11_readText 46 = .ok (.if_icmp .gt 18, 3) := by decide +kernel
theorem dX11_readText_49 : decode cX11_readText 49 = .ok (.aload_n 0, 1) := by decide +kernel
theorem dX11_readText_50 : decode cX11_readText 50 = .ok (.getfield 9, 3) := by decide +kernel
theorem dX11_readText_53 : decode cX11_readText 53 = .ok (.iconst 5, 1) := by decide +kernel
theorem dX11_readText_54 : decode cX11_readText 54 = .ok (.iload_n 2, 1) := by decide +kernel
theorem dX11_readText_55 : decode cX11_readText 55 = .ok (.iadd, 1) := by decide +kernel
theorem dX11_readText_56 : decode cX11_readText 56 = .ok (.iconst 0, 1) := by decide +kernel
theorem dX11_readText_57 : decode cX11_readText 57 = .ok (.iastore, 1) := by decide +kernel
theorem dX11_readText_58 : decode cX11_readText 58 = .ok (.iinc 2 1, 3) := by decide +kernel
theorem dX11_readText_61 : decode cX11_readText 61 = .ok (.goto (-18), 3) := by decide +kernel
theorem dX11_readText_64 : decode cX11_readText 64 = .ok (.aload_n 0, 1) := by decide +kernel
theorem dX11_readText_65 : decode cX11_readText 65 = .ok (.iconst 0, 1) := by decide +kernel
theorem dX11_readText_66 : decode cX11_readText 66 = .ok (.putfield 75, 3) := by decide +kernel
theorem dX11_readText_69 : decode cX11_readText 69 = .ok (.aload_n 0, 1) := by decide +kernel
theorem dX11_readText_70 : decode cX11_readText 70 = .ok (.getfield 9, 3) := by decide +kernel
theorem dX11_readText_73 : decode cX11_readText 73 = .ok (.iconst 0, 1) := by decide +kernel
theorem dX11_readText_74 : decode cX11_readText 74 = .ok (.iaload, 1) := by decide +kernel
theorem dX11_readText_75 : decode cX11_readText 75 = .ok (.ireturn, 1) := by decide +kernel
abbrev rX11_readText : Room := { frames := 10, cells := 0, slots := 0, locals := 223 }
abbrev mX11_readText : gY := (cX11_readText, RX11, 3, rX11_readText)
def fX11_readText_l43 (x2 : Int32) (M0 : gMem) : Option ((Int32 × gMem) ⊕ gMem) :=
  if (8 : Int32) < x2 then (some (.inr M0)) else (wI M0 1 374 ((5 : Int32) + x2) (0 : Int32)).bind fun M11 => some (.inl (x2 + (1 : Int32), M11))
set_option maxRecDepth 20000 in
theorem tX11_readText_l43 {X : gX} {V : gEnv} {x2 : Int32} {M0 : gMem}  {o : ((Int32 × gMem) ⊕ gMem)} (h : fX11_readText_l43 x2 M0 = some o) (Kc : ∀ s9, o = .inl s9 → gG X V mX11_readText gShM s9.2 0 0 43 [(0, .ref (gAd V 0)), (2, .int s9.1)] []) (Kx : ∀ e9, o = .inr e9 → gG X V mX11_readText gShM e9 0 0 64 [(0, .ref (gAd V 0))] []) : gG X V mX11_readText gShM M0 0 0 43 [(0, .ref (gAd V 0)), (2, .int x2)] [] := by
  unfold fX11_readText_l43 at h
  refine g_iload_n 1 rfl rfl dX11_readText_43 ?_
  refine g_bipush (v := 8) rfl dX11_readText_44 ?_
  rcases g_ite h with ⟨c10, h⟩ | ⟨c10, h⟩
  · refine g_icmp_gt_t c10 (tgt := 64) rfl dX11_readText_46 ?_
    cases h
    refine g_sub [0] rfl ?_
    exact Kx M0 rfl
  · refine g_icmp_gt_f c10 (tgt := 64) rfl dX11_readText_46 ?_
    refine g_aload_n 0 rfl rfl dX11_readText_49 ?_
    refine g_getR FX11_9 sM_0 rfl dX11_readText_50 ?_
    refine g_iconst (v := 5) rfl dX11_readText_53 ?_
    refine g_iload_n 1 rfl rfl dX11_readText_54 ?_
    refine g_iadd dX11_readText_55 ?_
    refine g_iconst (v := 0) rfl dX11_readText_56 ?_
    obtain ⟨M11, eM11, h⟩ := g_bnd h
    refine g_iast' eM11 sM_1 dX11_readText_57 ?_
    refine g_iinc (j := 1) (v := x2 + (1 : Int32)) (ls' := [(2, .int (x2 + (1 : Int32))), (0, .ref (gAd V 0))]) rfl rfl (Nat.le_of_ble_eq_true rfl) rfl dX11_readText_58 ?_
    refine g_goto (tgt := 43) rfl dX11_readText_61 ?_
    cases h
    refine g_sub [1, 0] rfl ?_
    exact Kc (x2 + (1 : Int32), M11) rfl
def fX11_readText (M0 : gMem) : Option (Int32 × gMem) :=
  (wF M0 0 0 (0 : Int32)).bind fun M1 => (fX11_keepsBefore M1).bind fun v2 => (wF v2 0 31 (0 : Int32)).bind fun M3 => (fX11_starts M3).bind fun v4 => (fX11_readsAll v4).bind fun v5 => (fX11_ends v5.2).bind fun v6 => if v6.1 = 0 then ((wF v6.2 0 0 (1 : Int32)).bind fun M8 => (fX11_laysBefore M8).bind fun v9 => some ((0 : Int32), v9)) else (gLoop (fun z9 => fX11_readText_l43 z9.1 z9.2) gFu ((0 : Int32), v6.2)).bind fun w12 => (wF w12 0 6 (0 : Int32)).bind fun M13 => (rI M13 1 374 (0 : Int32)).bind fun v14 => some (v14, M13)
set_option maxRecDepth 20000 in
theorem tX11_readText {X : gX} {V : gEnv} {M0 : gMem}  {o : (Int32 × gMem)} (h : fX11_readText M0 = some o) (O : gO X V mX11_readText gShM (some .int) (some (.int o.1)) o.2) : gG X V mX11_readText gShM M0 0 0 0 [(0, .ref (gAd V 0))] [] := by
  unfold fX11_readText at h
  refine g_aload_n 0 rfl rfl dX11_readText_0 ?_
  refine g_iconst (v := 0) rfl dX11_readText_1 ?_
  obtain ⟨M1, eM1, h⟩ := g_bnd h
  refine g_putI' eM1 FX11_72 jX11 sM_0 rfl rfl rfl dX11_readText_2 ?_
  refine g_aload_n 0 rfl rfl dX11_readText_5 ?_
  obtain ⟨v2, ev2, h⟩ := g_bnd h
  refine g_callV LX11_312 sM_0 rfl (kX11_keepsBefore ev2) rfl rfl (Nat.le_of_ble_eq_true rfl) ⟨Nat.le_of_ble_eq_true rfl, Nat.le_of_ble_eq_true rfl⟩ ⟨Nat.le_of_ble_eq_true rfl, Nat.le_of_ble_eq_true rfl⟩ dX11_readText_6 rfl ?_
  refine g_aload_n 0 rfl rfl dX11_readText_9 ?_
  refine g_iconst (v := 0) rfl dX11_readText_10 ?_
  obtain ⟨M3, eM3, h⟩ := g_bnd h
  refine g_putI' eM3 FX11_285 jX11 sM_0 rfl rfl rfl dX11_readText_11 ?_
  refine g_aload_n 0 rfl rfl dX11_readText_14 ?_
  obtain ⟨v4, ev4, h⟩ := g_bnd h
  refine g_callV LX11_315 sM_0 rfl (kX11_starts ev4) rfl rfl (Nat.le_of_ble_eq_true rfl) ⟨Nat.le_of_ble_eq_true rfl, Nat.le_of_ble_eq_true rfl⟩ ⟨Nat.le_of_ble_eq_true rfl, Nat.le_of_ble_eq_true rfl⟩ dX11_readText_15 rfl ?_
  refine g_aload_n 0 rfl rfl dX11_readText_18 ?_
  obtain ⟨v5, ev5, h⟩ := g_bnd h
  refine g_callV LX11_318 sM_0 rfl (kX11_readsAll ev5) rfl rfl (Nat.le_of_ble_eq_true rfl) ⟨Nat.le_of_ble_eq_true rfl, Nat.le_of_ble_eq_true rfl⟩ ⟨Nat.le_of_ble_eq_true rfl, Nat.le_of_ble_eq_true rfl⟩ dX11_readText_19 rfl ?_
  refine g_istore_n (ls' := [(1, .int v5.1), (0, .ref (gAd V 0))]) rfl (Nat.le_of_ble_eq_true rfl) rfl dX11_readText_22 ?_
  refine g_aload_n 1 rfl rfl dX11_readText_23 ?_
  obtain ⟨v6, ev6, h⟩ := g_bnd h
  refine g_callV LX11_321 sM_0 rfl (kX11_ends ev6) rfl rfl (Nat.le_of_ble_eq_true rfl) ⟨Nat.le_of_ble_eq_true rfl, Nat.le_of_ble_eq_true rfl⟩ ⟨Nat.le_of_ble_eq_true rfl, Nat.le_of_ble_eq_true rfl⟩ dX11_readText_24 rfl ?_
  rcases g_ite h with ⟨c7, h⟩ | ⟨c7, h⟩
  · refine g_if_ne_f c7 (tgt := 41) rfl dX11_readText_27 ?_
    refine g_aload_n 1 rfl rfl dX11_readText_30 ?_
    refine g_iconst (v := 1) rfl dX11_readText_31 ?_
    obtain ⟨M8, eM8, h⟩ := g_bnd h
    refine g_putI' eM8 FX11_72 jX11 sM_0 rfl rfl rfl dX11_readText_32 ?_
    refine g_aload_n 1 rfl rfl dX11_readText_35 ?_
    obtain ⟨v9, ev9, h⟩ := g_bnd h
    refine g_callV LX11_324 sM_0 rfl (kX11_laysBefore ev9) rfl rfl (Nat.le_of_ble_eq_true rfl) ⟨Nat.le_of_ble_eq_true rfl, Nat.le_of_ble_eq_true rfl⟩ ⟨Nat.le_of_ble_eq_true rfl, Nat.le_of_ble_eq_true rfl⟩ dX11_readText_36 rfl ?_
    refine g_iconst (v := 0) rfl dX11_readText_39 ?_
    cases h
    exact g_iret O ⟨Nat.le_of_ble_eq_true rfl, Nat.le_of_ble_eq_true rfl⟩ rfl dX11_readText_40
  · refine g_if_ne_t c7 (tgt := 41) rfl dX11_readText_27 ?_
    refine g_iconst (v := 0) rfl dX11_readText_41 ?_
    refine g_istore_n (ls' := [(2, .int (0 : Int32)), (1, .int v5.1), (0, .ref (gAd V 0))]) rfl (Nat.le_of_ble_eq_true rfl) rfl dX11_readText_42 ?_
    obtain ⟨w12, ew12, h⟩ := g_bnd h
    refine g_sub [2, 0] rfl ?_
    have KX : gG X V mX11_readText gShM w12 0 0 64 [(0, .ref (gAd V 0))] [] := by
      refine g_aload_n 0 rfl rfl dX11_readText_64 ?_
      refine g_iconst (v := 0) rfl dX11_readText_65 ?_
      obtain ⟨M13, eM13, h⟩ := g_bnd h
      refine g_putI' eM13 FX11_75 jX11 sM_0 rfl rfl rfl dX11_readText_66 ?_
      refine g_aload_n 0 rfl rfl dX11_readText_69 ?_
      refine g_getR FX11_9 sM_0 rfl dX11_readText_70 ?_
      refine g_iconst (v := 0) rfl dX11_readText_73 ?_
      obtain ⟨v14, ev14, h⟩ := g_bnd h
      refine g_iald' ev14 sM_1 dX11_readText_74 ?_
      cases h
      exact g_iret O ⟨Nat.le_of_ble_eq_true rfl, Nat.le_of_ble_eq_true rfl⟩ rfl dX11_readText_75
    exact gLoop_Q ew12 (fun z9 => gG X V mX11_readText gShM z9.2 0 0 43 [(0, .ref (gAd V 0)), (2, .int z9.1)] []) (fun s9 o9 hb9 hc9 hx9 => tX11_readText_l43  hb9 hc9 (fun e9 he9 => by cases hx9 _ he9; exact KX))
theorem kX11_readText {l : Launch} {V : gEnv} {M0 : gMem}   {o : (Int32 × gMem)} (h : fX11_readText M0 = some o) : gM l yX11_readText cX11_readText 3 (some .int) rX11_readText V gShM [.ref (gAd V 0)] M0 (some (.int o.1)) o.2 :=
  gM.of (by decide) (Nat.le_of_ble_eq_true rfl) rfl (fun X _ O => tX11_readText  h O)
theorem dX11_orderHere_0 : decode cX11_orderHere 0 = .ok (.aload_n 0, 1) := by decide +kernel
theorem dX11_orderHere_1 : decode cX11_orderHere 1 = .ok (.ldc_w 297, 3) := by decide +kernel
theorem dX11_orderHere_4 : decode cX11_orderHere 4 = .ok (.invokevirtual 290, 3) := by decide +kernel
theorem dX11_orderHere_7 : decode cX11_orderHere 7 = .ok (.ifCond .eq 5, 3) := by decide +kernel
theorem dX11_orderHere_10 : decode cX11_orderHere 10 = .ok (.iconst 0, 1) := by decide +kernel
theorem dX11_orderHere_11 : decode cX11_orderHere 11 = .ok (.ireturn, 1) := by decide +kernel
theorem dX11_orderHere_12 : decode cX11_orderHere 12 = .ok (.aload_n 0, 1) := by decide +kernel
theorem dX11_orderHere_13 : decode cX11_orderHere 13 = .ok (.ldc_w 327, 3) := by decide +kernel
theorem dX11_orderHere_16 : decode cX11_orderHere 16 = .ok (.invokevirtual 290, 3) := by decide +kernel
theorem dX11_orderHere_19 : decode cX11_orderHere 19 = .ok (.ifCond .eq 5, 3) := by decide +kernel
theorem dX11_orderHere_22 : decode cX11_orderHere 22 = .ok (.iconst 1, 1) := by decide +kernel
theorem dX11_orderHere_23 : decode cX11_orderHere 23 = .ok (.ireturn, 1) := by decide +kernel
theorem dX11_orderHere_24 : decode cX11_orderHere 24 = .ok (.aload_n 0, 1) := by decide +kernel
theorem dX11_orderHere_25 : decode cX11_orderHere 25 = .ok (.ldc_w 329, 3) := by decide +kernel
theorem dX11_orderHere_28 : decode cX11_orderHere 28 = .ok (.invokevirtual 290, 3) := by decide +kernel
theorem dX11_orderHere_31 : decode cX11_orderHere 31 = .ok (.ifCond .eq 5, 3) := by decide +kernel
theorem dX11_orderHere_34 : decode cX11_orderHere 34 = .ok (.iconst 2, 1) := by decide +kernel
theorem dX11_orderHere_35 : decode cX11_orderHere 35 = .ok (.ireturn, 1) := by decide +kernel
theorem dX11_orderHere_36 : decode cX11_orderHere 36 = .ok (.aload_n 0, 1) := by decide +kernel
theorem dX11_orderHere_37 : decode cX11_orderHere 37 = .ok (.ldc_w 331, 3) := by decide +kernel
theorem dX11_orderHere_40 : decode cX11_orderHere 40 = .ok (.invokevirtual 290, 3) := by decide +kernel
theorem dX11_orderHere_43 : decode cX11_orderHere 43 = .ok (.ifCond .eq 5, 3) := by decide +kernel
theorem dX11_orderHere_46 : decode cX11_orderHere 46 = .ok (.iconst 3, 1) := by decide +kernel
theorem dX11_orderHere_47 : decode cX11_orderHere 47 = .ok (.ireturn, 1) := by decide +kernel
theorem dX11_orderHere_48 : decode cX11_orderHere 48 = .ok (.aload_n 0, 1) := by decide +kernel
theorem dX11_orderHere_49 : decode cX11_orderHere 49 = .ok (.ldc_w 302, 3) := by decide +kernel
theorem dX11_orderHere_52 : decode cX11_orderHere 52 = .ok (.invokevirtual 290, 3) := by decide +kernel
theorem dX11_orderHere_55 : decode cX11_orderHere 55 = .ok (.ifCond .eq 5, 3) := by decide +kernel
theorem dX11_orderHere_58 : decode cX11_orderHere 58 = .ok (.iconst 4, 1) := by decide +kernel
theorem dX11_orderHere_59 : decode cX11_orderHere 59 = .ok (.ireturn, 1) := by decide +kernel
theorem dX11_orderHere_60 : decode cX11_orderHere 60 = .ok (.aload_n 0, 1) := by decide +kernel
theorem dX11_orderHere_61 : decode cX11_orderHere 61 = .ok (.ldc_w 307, 3) := by decide +kernel
theorem dX11_orderHere_64 : decode cX11_orderHere 64 = .ok (.invokevirtual 290, 3) := by decide +kernel
theorem dX11_orderHere_67 : decode cX11_orderHere 67 = .ok (.ifCond .eq 5, 3) := by decide +kernel
theorem dX11_orderHere_70 : decode cX11_orderHere 70 = .ok (.iconst 5, 1) := by decide +kernel
theorem dX11_orderHere_71 : decode cX11_orderHere 71 = .ok (.ireturn, 1) := by decide +kernel
theorem dX11_orderHere_72 : decode cX11_orderHere 72 = .ok (.aload_n 0, 1) := by decide +kernel
theorem dX11_orderHere_73 : decode cX11_orderHere 73 = .ok (.ldc_w 333, 3) := by decide +kernel
theorem dX11_orderHere_76 : decode cX11_orderHere 76 = .ok (.invokevirtual 290, 3) := by decide +kernel
theorem dX11_orderHere_79 : decode cX11_orderHere 79 = .ok (.ifCond .eq 8, 3) := by decide +kernel
theorem dX11_orderHere_82 : decode cX11_orderHere 82 = .ok (.bipush 6, 2) := by decide +kernel
theorem dX11_orderHere_84 : decode cX11_orderHere 84 = .ok (.goto 4, 3) := by decide +kernel
theorem dX11_orderHere_87 : decode cX11_orderHere 87 = .ok (.iconst (-1), 1) := by decide +kernel
theorem dX11_orderHere_88 : decode cX11_orderHere 88 = .ok (.ireturn, 1) := by decide +kernel
abbrev rX11_orderHere : Room := { frames := 5, cells := 0, slots := 0, locals := 142 }
abbrev mX11_orderHere : gY := (cX11_orderHere, RX11, 1, rX11_orderHere)
def fX11_orderHere (M0 : gMem) : Option Int32 :=
  (fX11_says 1 M0).bind fun v1 => if v1 = 0 then ((fX11_says 4 M0).bind fun v3 => if v3 = 0 then ((fX11_says 5 M0).bind fun v5 => if v5 = 0 then ((fX11_says 6 M0).bind fun v7 => if v7 = 0 then ((fX11_says 2 M0).bind fun v9 => if v9 = 0 then ((fX11_says 3 M0).bind fun v11 => if v11 = 0 then ((fX11_says 7 M0).bind fun v13 => some (if v13 = 0 then (-1 : Int32) else (6 : Int32))) else some (5 : Int32)) else some (4 : Int32)) else some (3 : Int32)) else some (2 : Int32)) else some (1 : Int32)) else some (0 : Int32)
set_option maxRecDepth 20000 in
theorem tX11_orderHere {X : gX} {V : gEnv} {M0 : gMem}  {o : Int32} (h : fX11_orderHere M0 = some o) (O : gO X V mX11_orderHere gShM (some .int) (some (.int o)) M0) : gG X V mX11_orderHere gShM M0 0 0 0 [(0, .ref (gAd V 0))] [] := by
  unfold fX11_orderHere at h
  refine g_aload_n 0 rfl rfl dX11_orderHere_0 ?_
  refine g_ldcSW SX11_297 dX11_orderHere_1 ?_
  obtain ⟨v1, ev1, h⟩ := g_bnd h
  refine g_callV LX11_290 sM_0 rfl (kX11_says (by decide) ev1) rfl rfl (Nat.le_of_ble_eq_true rfl) ⟨Nat.le_of_ble_eq_true rfl, Nat.le_of_ble_eq_true rfl⟩ ⟨Nat.le_of_ble_eq_true rfl, Nat.le_of_ble_eq_true rfl⟩ dX11_orderHere_4 rfl ?_
  rcases g_ite h with ⟨c2, h⟩ | ⟨c2, h⟩
  · refine g_if_eq_t c2 (tgt := 12) rfl dX11_orderHere_7 ?_
    refine g_aload_n 0 rfl rfl dX11_orderHere_12 ?_
    refine g_ldcSW SX11_327 dX11_orderHere_13 ?_
    obtain ⟨v3, ev3, h⟩ := g_bnd h
    refine g_callV LX11_290 sM_0 rfl (kX11_says (by decide) ev3) rfl rfl (Nat.le_of_ble_eq_true rfl) ⟨Nat.le_of_ble_eq_true rfl, Nat.le_of_ble_eq_true rfl⟩ ⟨Nat.le_of_ble_eq_true rfl, Nat.le_of_ble_eq_true rfl⟩ dX11_orderHere_16 rfl ?_
    rcases g_ite h with ⟨c4, h⟩ | ⟨c4, h⟩
    · refine g_if_eq_t c4 (tgt := 24) rfl dX11_orderHere_19 ?_
      refine g_aload_n 0 rfl rfl dX11_orderHere_24 ?_
      refine g_ldcSW SX11_329 dX11_orderHere_25 ?_
      obtain ⟨v5, ev5, h⟩ := g_bnd h
      refine g_callV LX11_290 sM_0 rfl (kX11_says (by decide) ev5) rfl rfl (Nat.le_of_ble_eq_true rfl) ⟨Nat.le_of_ble_eq_true rfl, Nat.le_of_ble_eq_true rfl⟩ ⟨Nat.le_of_ble_eq_true rfl, Nat.le_of_ble_eq_true rfl⟩ dX11_orderHere_28 rfl ?_
      rcases g_ite h with ⟨c6, h⟩ | ⟨c6, h⟩
      · refine g_if_eq_t c6 (tgt := 36) rfl dX11_orderHere_31 ?_
        refine g_aload_n 0 rfl rfl dX11_orderHere_36 ?_
        refine g_ldcSW SX11_331 dX11_orderHere_37 ?_
        obtain ⟨v7, ev7, h⟩ := g_bnd h
        refine g_callV LX11_290 sM_0 rfl (kX11_says (by decide) ev7) rfl rfl (Nat.le_of_ble_eq_true rfl) ⟨Nat.le_of_ble_eq_true rfl, Nat.le_of_ble_eq_true rfl⟩ ⟨Nat.le_of_ble_eq_true rfl, Nat.le_of_ble_eq_true rfl⟩ dX11_orderHere_40 rfl ?_
        rcases g_ite h with ⟨c8, h⟩ | ⟨c8, h⟩
        · refine g_if_eq_t c8 (tgt := 48) rfl dX11_orderHere_43 ?_
          refine g_aload_n 0 rfl rfl dX11_orderHere_48 ?_
          refine g_ldcSW SX11_302 dX11_orderHere_49 ?_
          obtain ⟨v9, ev9, h⟩ := g_bnd h
          refine g_callV LX11_290 sM_0 rfl (kX11_says (by decide) ev9) rfl rfl (Nat.le_of_ble_eq_true rfl) ⟨Nat.le_of_ble_eq_true rfl, Nat.le_of_ble_eq_true rfl⟩ ⟨Nat.le_of_ble_eq_true rfl, Nat.le_of_ble_eq_true rfl⟩ dX11_orderHere_52 rfl ?_
          rcases g_ite h with ⟨c10, h⟩ | ⟨c10, h⟩
          · refine g_if_eq_t c10 (tgt := 60) rfl dX11_orderHere_55 ?_
            refine g_aload_n 0 rfl rfl dX11_orderHere_60 ?_
            refine g_ldcSW SX11_307 dX11_orderHere_61 ?_
            obtain ⟨v11, ev11, h⟩ := g_bnd h
            refine g_callV LX11_290 sM_0 rfl (kX11_says (by decide) ev11) rfl rfl (Nat.le_of_ble_eq_true rfl) ⟨Nat.le_of_ble_eq_true rfl, Nat.le_of_ble_eq_true rfl⟩ ⟨Nat.le_of_ble_eq_true rfl, Nat.le_of_ble_eq_true rfl⟩ dX11_orderHere_64 rfl ?_
            rcases g_ite h with ⟨c12, h⟩ | ⟨c12, h⟩
            · refine g_if_eq_t c12 (tgt := 72) rfl dX11_orderHere_67 ?_
              refine g_aload_n 0 rfl rfl dX11_orderHere_72 ?_
              refine g_ldcSW SX11_333 dX11_orderHere_73 ?_
              obtain ⟨v13, ev13, h⟩ := g_bnd h
              refine g_callV LX11_290 sM_0 rfl (kX11_says (by decide) ev13) rfl rfl (Nat.le_of_ble_eq_true rfl) ⟨Nat.le_of_ble_eq_true rfl, Nat.le_of_ble_eq_true rfl⟩ ⟨Nat.le_of_ble_eq_true rfl, Nat.le_of_ble_eq_true rfl⟩ dX11_orderHere_76 rfl ?_
              have KJ : gG X V mX11_orderHere gShM M0 0 0 88 [(0, .ref (gAd V 0))] [.int (if v13 = 0 then (-1 : Int32) else (6 : Int32))] := by
                cases h
                exact g_iret O ⟨Nat.le_of_ble_eq_true rfl, Nat.le_of_ble_eq_true rfl⟩ rfl dX11_orderHere_88
              by_cases c14 : v13 = 0
              · rw [if_pos c14] at KJ
                refine g_if_eq_t c14 (tgt := 87) rfl dX11_orderHere_79 ?_
                refine g_iconst (v := -1) rfl dX11_orderHere_87 ?_
                exact KJ
              · rw [if_neg c14] at KJ
                refine g_if_eq_f c14 (tgt := 87) rfl dX11_orderHere_79 ?_
                refine g_bipush (v := 6) rfl dX11_orderHere_82 ?_
                refine g_goto (tgt := 88) rfl dX11_orderHere_84 ?_
                exact KJ
            · refine g_if_eq_f c12 (tgt := 72) rfl dX11_orderHere_67 ?_
              refine g_iconst (v := 5) rfl dX11_orderHere_70 ?_
              cases h
              exact g_iret O ⟨Nat.le_of_ble_eq_true rfl, Nat.le_of_ble_eq_true rfl⟩ rfl dX11_orderHere_71
          · refine g_if_eq_f c10 (tgt := 60) rfl dX11_orderHere_55 ?_
            refine g_iconst (v := 4) rfl dX11_orderHere_58 ?_
            cases h
            exact g_iret O ⟨Nat.le_of_ble_eq_true rfl, Nat.le_of_ble_eq_true rfl⟩ rfl dX11_orderHere_59
        · refine g_if_eq_f c8 (tgt := 48) rfl dX11_orderHere_43 ?_
          refine g_iconst (v := 3) rfl dX11_orderHere_46 ?_
          cases h
          exact g_iret O ⟨Nat.le_of_ble_eq_true rfl, Nat.le_of_ble_eq_true rfl⟩ rfl dX11_orderHere_47
      · refine g_if_eq_f c6 (tgt := 36) rfl dX11_orderHere_31 ?_
        refine g_iconst (v := 2) rfl dX11_orderHere_34 ?_
        cases h
        exact g_iret O ⟨Nat.le_of_ble_eq_true rfl, Nat.le_of_ble_eq_true rfl⟩ rfl dX11_orderHere_35
    · refine g_if_eq_f c4 (tgt := 24) rfl dX11_orderHere_19 ?_
      refine g_iconst (v := 1) rfl dX11_orderHere_22 ?_
      cases h
      exact g_iret O ⟨Nat.le_of_ble_eq_true rfl, Nat.le_of_ble_eq_true rfl⟩ rfl dX11_orderHere_23
  · refine g_if_eq_f c2 (tgt := 12) rfl dX11_orderHere_7 ?_
    refine g_iconst (v := 0) rfl dX11_orderHere_10 ?_
    cases h
    exact g_iret O ⟨Nat.le_of_ble_eq_true rfl, Nat.le_of_ble_eq_true rfl⟩ rfl dX11_orderHere_11
theorem kX11_orderHere {l : Launch} {V : gEnv} {M0 : gMem}   {o : Int32} (h : fX11_orderHere M0 = some o) : gM l yX11_orderHere cX11_orderHere 1 (some .int) rX11_orderHere V gShM [.ref (gAd V 0)] M0 (some (.int o)) M0 :=
  gM.of (by decide) (Nat.le_of_ble_eq_true rfl) rfl (fun X _ O => tX11_orderHere  h O)
theorem dX11_readsFirst_0 : decode cX11_readsFirst 0 = .ok (.iload_n 1, 1) := by decide +kernel
theorem dX11_readsFirst_1 : decode cX11_readsFirst 1 = .ok (.tableswitch 55 3 6 #[31, 39, 46, 53], 31) := by decide +kernel
theorem dX11_readsFirst_32 : decode cX11_readsFirst 32 = .ok (.aload_n 0, 1) := by decide +kernel
theorem dX11_readsFirst_33 : decode cX11_readsFirst 33 = .ok (.iconst 0, 1) := by decide +kernel
theorem dX11_readsFirst_34 : decode cX11_readsFirst 34 = .ok (.bipush 22, 2) := by decide +kernel
theorem dX11_readsFirst_36 : decode cX11_readsFirst 36 = .ok (.invokevirtual 276, 3) := by decide +kernel
theorem dX11_readsFirst_39 : decode cX11_readsFirst 39 = .ok (.ireturn, 1) := by decide +kernel
theorem dX11_readsFirst_40 : decode cX11_readsFirst 40 = .ok (.aload_n 0, 1) := by decide +kernel
theorem dX11_readsFirst_41 : decode cX11_readsFirst 41 = .ok (.iconst 0, 1) := by decide +kernel
theorem dX11_readsFirst_42 : decode cX11_readsFirst 42 = .ok (.iconst 2, 1) := by decide +kernel
theorem dX11_readsFirst_43 : decode cX11_readsFirst 43 = .ok (.invokevirtual 276, 3) := by decide +kernel
theorem dX11_readsFirst_46 : decode cX11_readsFirst 46 = .ok (.ireturn, 1) := by decide +kernel
theorem dX11_readsFirst_47 : decode cX11_readsFirst 47 = .ok (.aload_n 0, 1) := by decide +kernel
theorem dX11_readsFirst_48 : decode cX11_readsFirst 48 = .ok (.iconst 0, 1) := by decide +kernel
theorem dX11_readsFirst_49 : decode cX11_readsFirst 49 = .ok (.iconst 1, 1) := by decide +kernel
theorem dX11_readsFirst_50 : decode cX11_readsFirst 50 = .ok (.invokevirtual 276, 3) := by decide +kernel
theorem dX11_readsFirst_53 : decode cX11_readsFirst 53 = .ok (.ireturn, 1) := by decide +kernel
theorem dX11_readsFirst_54 : decode cX11_readsFirst 54 = .ok (.iconst 1, 1) := by decide +kernel
theorem dX11_readsFirst_55 : decode cX11_readsFirst 55 = .ok (.ireturn, 1) := by decide +kernel
theorem dX11_readsFirst_56 : decode cX11_readsFirst 56 = .ok (.aload_n 0, 1) := by decide +kernel
theorem dX11_readsFirst_57 : decode cX11_readsFirst 57 = .ok (.invokevirtual 279, 3) := by decide +kernel
theorem dX11_readsFirst_60 : decode cX11_readsFirst 60 = .ok (.ireturn, 1) := by decide +kernel
abbrev rX11_readsFirst : Room := { frames := 4, cells := 0, slots := 0, locals := 87 }
abbrev mX11_readsFirst : gY := (cX11_readsFirst, RX11, 2, rX11_readsFirst)
def fX11_readsFirst (x1 : Int32) (M0 : gMem) : Option (Int32 × gMem) :=
  if x1 = (3 : Int32) then ((fX11_takes (0 : Int32) (22 : Int32) M0).bind fun v2 => (zv v2.1).bind fun v3 => some (v3, v2.2)) else if x1 = (4 : Int32) then ((fX11_takes (0 : Int32) (2 : Int32) M0).bind fun v5 => (zv v5.1).bind fun v6 => some (v6, v5.2)) else if x1 = (5 : Int32) then ((fX11_takes (0 : Int32) (1 : Int32) M0).bind fun v8 => (zv v8.1).bind fun v9 => some (v9, v8.2)) else if x1 = (6 : Int32) then (some ((1 : Int32), M0)) else (fX11_takesTask M0).bind fun v11 => (zv v11.1).bind fun v12 => some (v12, v11.2)
set_option maxRecDepth 20000 in
theorem tX11_readsFirst {X : gX} {V : gEnv} {x1 : Int32} {M0 : gMem}  {o : (Int32 × gMem)} (h : fX11_readsFirst x1 M0 = some o) (O : gO X V mX11_readsFirst gShM (some .boolean) (some (.int o.1)) o.2) : gG X V mX11_readsFirst gShM M0 0 0 0 [(0, .ref (gAd V 0)), (1, .int x1)] [] := by
  unfold fX11_readsFirst at h
  refine g_iload_n 1 rfl rfl dX11_readsFirst_0 ?_
  rcases g_ite h with ⟨c1, h⟩ | ⟨c1, h⟩
  · refine g_tabIn (off := 31) (tgt := 32) (by rw [c1]; decide) (by rw [c1]; decide) (by rw [c1]; rfl) rfl dX11_readsFirst_1 ?_
    refine g_aload_n 0 rfl rfl dX11_readsFirst_32 ?_
    refine g_iconst (v := 0) rfl dX11_readsFirst_33 ?_
    refine g_bipush (v := 22) rfl dX11_readsFirst_34 ?_
    obtain ⟨v2, ev2, h⟩ := g_bnd h
    refine g_callV LX11_276 sM_0 rfl (kX11_takes ev2) rfl rfl (Nat.le_of_ble_eq_true rfl) ⟨Nat.le_of_ble_eq_true rfl, Nat.le_of_ble_eq_true rfl⟩ ⟨Nat.le_of_ble_eq_true rfl, Nat.le_of_ble_eq_true rfl⟩ dX11_readsFirst_36 rfl ?_
    obtain ⟨v3, ev3, h⟩ := g_bnd h
    refine g_zv ev3 ?_
    cases h
    exact g_iret O ⟨Nat.le_of_ble_eq_true rfl, Nat.le_of_ble_eq_true rfl⟩ (g_nz (zv_ok ev3)) dX11_readsFirst_39
  ·
    rcases g_ite h with ⟨c4, h⟩ | ⟨c4, h⟩
    · refine g_tabIn (off := 39) (tgt := 40) (by rw [c4]; decide) (by rw [c4]; decide) (by rw [c4]; rfl) rfl dX11_readsFirst_1 ?_
      refine g_aload_n 0 rfl rfl dX11_readsFirst_40 ?_
      refine g_iconst (v := 0) rfl dX11_readsFirst_41 ?_
      refine g_iconst (v := 2) rfl dX11_readsFirst_42 ?_
      obtain ⟨v5, ev5, h⟩ := g_bnd h
      refine g_callV LX11_276 sM_0 rfl (kX11_takes ev5) rfl rfl (Nat.le_of_ble_eq_true rfl) ⟨Nat.le_of_ble_eq_true rfl, Nat.le_of_ble_eq_true rfl⟩ ⟨Nat.le_of_ble_eq_true rfl, Nat.le_of_ble_eq_true rfl⟩ dX11_readsFirst_43 rfl ?_
      obtain ⟨v6, ev6, h⟩ := g_bnd h
      refine g_zv ev6 ?_
      cases h
      exact g_iret O ⟨Nat.le_of_ble_eq_true rfl, Nat.le_of_ble_eq_true rfl⟩ (g_nz (zv_ok ev6)) dX11_readsFirst_46
    ·
      rcases g_ite h with ⟨c7, h⟩ | ⟨c7, h⟩
      · refine g_tabIn (off := 46) (tgt := 47) (by rw [c7]; decide) (by rw [c7]; decide) (by rw [c7]; rfl) rfl dX11_readsFirst_1 ?_
        refine g_aload_n 0 rfl rfl dX11_readsFirst_47 ?_
        refine g_iconst (v := 0) rfl dX11_readsFirst_48 ?_
        refine g_iconst (v := 1) rfl dX11_readsFirst_49 ?_
        obtain ⟨v8, ev8, h⟩ := g_bnd h
        refine g_callV LX11_276 sM_0 rfl (kX11_takes ev8) rfl rfl (Nat.le_of_ble_eq_true rfl) ⟨Nat.le_of_ble_eq_true rfl, Nat.le_of_ble_eq_true rfl⟩ ⟨Nat.le_of_ble_eq_true rfl, Nat.le_of_ble_eq_true rfl⟩ dX11_readsFirst_50 rfl ?_
        obtain ⟨v9, ev9, h⟩ := g_bnd h
        refine g_zv ev9 ?_
        cases h
        exact g_iret O ⟨Nat.le_of_ble_eq_true rfl, Nat.le_of_ble_eq_true rfl⟩ (g_nz (zv_ok ev9)) dX11_readsFirst_53
      ·
        rcases g_ite h with ⟨c10, h⟩ | ⟨c10, h⟩
        · refine g_tabIn (off := 53) (tgt := 54) (by rw [c10]; decide) (by rw [c10]; decide) (by rw [c10]; rfl) rfl dX11_readsFirst_1 ?_
          refine g_iconst (v := 1) rfl dX11_readsFirst_54 ?_
          cases h
          exact g_iret O ⟨Nat.le_of_ble_eq_true rfl, Nat.le_of_ble_eq_true rfl⟩ rfl dX11_readsFirst_55
        ·
          have nc1 := gne (3 : Int32) (j := 3) rfl c1
          have nc4 := gne (4 : Int32) (j := 4) rfl c4
          have nc7 := gne (5 : Int32) (j := 5) rfl c7
          have nc10 := gne (6 : Int32) (j := 6) rfl c10
          refine g_tabOut (tgt := 56) (by omega) rfl dX11_readsFirst_1 ?_
          refine g_aload_n 0 rfl rfl dX11_readsFirst_56 ?_
          obtain ⟨v11, ev11, h⟩ := g_bnd h
          refine g_callV LX11_279 sM_0 rfl (kX11_takesTask ev11) rfl rfl (Nat.le_of_ble_eq_true rfl) ⟨Nat.le_of_ble_eq_true rfl, Nat.le_of_ble_eq_true rfl⟩ ⟨Nat.le_of_ble_eq_true rfl, Nat.le_of_ble_eq_true rfl⟩ dX11_readsFirst_57 rfl ?_
          obtain ⟨v12, ev12, h⟩ := g_bnd h
          refine g_zv ev12 ?_
          cases h
          exact g_iret O ⟨Nat.le_of_ble_eq_true rfl, Nat.le_of_ble_eq_true rfl⟩ (g_nz (zv_ok ev12)) dX11_readsFirst_60
theorem kX11_readsFirst {l : Launch} {V : gEnv} {M0 : gMem} {x1 : Int32}  {o : (Int32 × gMem)} (h : fX11_readsFirst x1 M0 = some o) : gM l yX11_readsFirst cX11_readsFirst 2 (some .boolean) rX11_readsFirst V gShM [.ref (gAd V 0), .int x1] M0 (some (.int o.1)) o.2 :=
  gM.of (by decide) (Nat.le_of_ble_eq_true rfl) rfl (fun X _ O => tX11_readsFirst  h O)
theorem dX11_readsSecond_0 : decode cX11_readsSecond 0 = .ok (.iload_n 1, 1) := by decide +kernel
theorem dX11_readsSecond_1 : decode cX11_readsSecond 1 = .ok (.tableswitch 40 0 2 #[27, 27, 32], 27) := by decide +kernel
theorem dX11_readsSecond_28 : decode cX11_readsSecond 28 = .ok (.aload_n 0, 1) := by decide +kernel
theorem dX11_readsSecond_29 : decode cX11_readsSecond 29 = .ok (.invokevirtual 279, 3) := by decide +kernel
theorem dX11_readsSecond_32 : decode cX11_readsSecond 32 = .ok (.ireturn, 1) := by decide +kernel
theorem dX11_readsSecond_33 : decode cX11_readsSecond 33 = .ok (.aload_n 0, 1) := by decide +kernel
theorem dX11_readsSecond_34 : decode cX11_readsSecond 34 = .ok (.iconst 1, 1) := by decide +kernel
theorem dX11_readsSecond_35 : decode cX11_readsSecond 35 = .ok (.bipush 9, 2) := by decide +kernel
theorem dX11_readsSecond_37 : decode cX11_readsSecond 37 = .ok (.invokevirtual 276, 3) := by decide +kernel
theorem dX11_readsSecond_40 : decode cX11_readsSecond 40 = .ok (.ireturn, 1) := by decide +kernel
theorem dX11_readsSecond_41 : decode cX11_readsSecond 41 = .ok (.iconst 1, 1) := by decide +kernel
theorem dX11_readsSecond_42 : decode cX11_readsSecond 42 = .ok (.ireturn, 1) := by decide +kernel
abbrev rX11_readsSecond : Room := { frames := 4, cells := 0, slots := 0, locals := 87 }
abbrev mX11_readsSecond : gY := (cX11_readsSecond, RX11, 2, rX11_readsSecond)
def fX11_readsSecond (x1 : Int32) (M0 : gMem) : Option (Int32 × gMem) :=
  if x1 = (0 : Int32) then ((fX11_takesTask M0).bind fun v2 => (zv v2.1).bind fun v3 => some (v3, v2.2)) else if x1 = (1 : Int32) then ((fX11_takesTask M0).bind fun v5 => (zv v5.1).bind fun v6 => some (v6, v5.2)) else if x1 = (2 : Int32) then ((fX11_takes (1 : Int32) (9 : Int32) M0).bind fun v8 => (zv v8.1).bind fun v9 => some (v9, v8.2)) else some ((1 : Int32), M0)
set_option maxRecDepth 20000 in
theorem tX11_readsSecond {X : gX} {V : gEnv} {x1 : Int32} {M0 : gMem}  {o : (Int32 × gMem)} (h : fX11_readsSecond x1 M0 = some o) (O : gO X V mX11_readsSecond gShM (some .boolean) (some (.int o.1)) o.2) : gG X V mX11_readsSecond gShM M0 0 0 0 [(0, .ref (gAd V 0)), (1, .int x1)] [] := by
  unfold fX11_readsSecond at h
  refine g_iload_n 1 rfl rfl dX11_readsSecond_0 ?_
  rcases g_ite h with ⟨c1, h⟩ | ⟨c1, h⟩
  · refine g_tabIn (off := 27) (tgt := 28) (by rw [c1]; decide) (by rw [c1]; decide) (by rw [c1]; rfl) rfl dX11_readsSecond_1 ?_
    refine g_aload_n 0 rfl rfl dX11_readsSecond_28 ?_
    obtain ⟨v2, ev2, h⟩ := g_bnd h
    refine g_callV LX11_279 sM_0 rfl (kX11_takesTask ev2) rfl rfl (Nat.le_of_ble_eq_true rfl) ⟨Nat.le_of_ble_eq_true rfl, Nat.le_of_ble_eq_true rfl⟩ ⟨Nat.le_of_ble_eq_true rfl, Nat.le_of_ble_eq_true rfl⟩ dX11_readsSecond_29 rfl ?_
    obtain ⟨v3, ev3, h⟩ := g_bnd h
    refine g_zv ev3 ?_
    cases h
    exact g_iret O ⟨Nat.le_of_ble_eq_true rfl, Nat.le_of_ble_eq_true rfl⟩ (g_nz (zv_ok ev3)) dX11_readsSecond_32
  ·
    rcases g_ite h with ⟨c4, h⟩ | ⟨c4, h⟩
    · refine g_tabIn (off := 27) (tgt := 28) (by rw [c4]; decide) (by rw [c4]; decide) (by rw [c4]; rfl) rfl dX11_readsSecond_1 ?_
      refine g_aload_n 0 rfl rfl dX11_readsSecond_28 ?_
      obtain ⟨v5, ev5, h⟩ := g_bnd h
      refine g_callV LX11_279 sM_0 rfl (kX11_takesTask ev5) rfl rfl (Nat.le_of_ble_eq_true rfl) ⟨Nat.le_of_ble_eq_true rfl, Nat.le_of_ble_eq_true rfl⟩ ⟨Nat.le_of_ble_eq_true rfl, Nat.le_of_ble_eq_true rfl⟩ dX11_readsSecond_29 rfl ?_
      obtain ⟨v6, ev6, h⟩ := g_bnd h
      refine g_zv ev6 ?_
      cases h
      exact g_iret O ⟨Nat.le_of_ble_eq_true rfl, Nat.le_of_ble_eq_true rfl⟩ (g_nz (zv_ok ev6)) dX11_readsSecond_32
    ·
      rcases g_ite h with ⟨c7, h⟩ | ⟨c7, h⟩
      · refine g_tabIn (off := 32) (tgt := 33) (by rw [c7]; decide) (by rw [c7]; decide) (by rw [c7]; rfl) rfl dX11_readsSecond_1 ?_
        refine g_aload_n 0 rfl rfl dX11_readsSecond_33 ?_
        refine g_iconst (v := 1) rfl dX11_readsSecond_34 ?_
        refine g_bipush (v := 9) rfl dX11_readsSecond_35 ?_
        obtain ⟨v8, ev8, h⟩ := g_bnd h
        refine g_callV LX11_276 sM_0 rfl (kX11_takes ev8) rfl rfl (Nat.le_of_ble_eq_true rfl) ⟨Nat.le_of_ble_eq_true rfl, Nat.le_of_ble_eq_true rfl⟩ ⟨Nat.le_of_ble_eq_true rfl, Nat.le_of_ble_eq_true rfl⟩ dX11_readsSecond_37 rfl ?_
        obtain ⟨v9, ev9, h⟩ := g_bnd h
        refine g_zv ev9 ?_
        cases h
        exact g_iret O ⟨Nat.le_of_ble_eq_true rfl, Nat.le_of_ble_eq_true rfl⟩ (g_nz (zv_ok ev9)) dX11_readsSecond_40
      ·
        have nc1 := gne (0 : Int32) (j := 0) rfl c1
        have nc4 := gne (1 : Int32) (j := 1) rfl c4
        have nc7 := gne (2 : Int32) (j := 2) rfl c7
        refine g_tabOut (tgt := 41) (by omega) rfl dX11_readsSecond_1 ?_
        refine g_iconst (v := 1) rfl dX11_readsSecond_41 ?_
        cases h
        exact g_iret O ⟨Nat.le_of_ble_eq_true rfl, Nat.le_of_ble_eq_true rfl⟩ rfl dX11_readsSecond_42
theorem kX11_readsSecond {l : Launch} {V : gEnv} {M0 : gMem} {x1 : Int32}  {o : (Int32 × gMem)} (h : fX11_readsSecond x1 M0 = some o) : gM l yX11_readsSecond cX11_readsSecond 2 (some .boolean) rX11_readsSecond V gShM [.ref (gAd V 0), .int x1] M0 (some (.int o.1)) o.2 :=
  gM.of (by decide) (Nat.le_of_ble_eq_true rfl) rfl (fun X _ O => tX11_readsSecond  h O)
