/-! the class's constructor, by program -/
abbrev gShD : List gShp := [.inr (10, [(3, 1), (3, 11), (3, 21), (0, 0), (3, 31), (0, 0), (3, 32), (3, 34), (3, 36), (3, 37), (3, 41), (3, 44), (3, 50), (3, 55)]), .inr (2, [(3, 2), (3, 3), (3, 4), (3, 5), (3, 6), (3, 7), (3, 8), (3, 9), (3, 10), (0, 0), (0, 0), (0, 0), (0, 0), (0, 0)]), .inl (1, 24), .inl (0, 24), .inl (0, 60), .inl (0, 60), .inl (0, 24), .inl (0, 24), .inl (0, 24), .inl (0, 24), .inl (1, 9), .inr (2, [(3, 12), (3, 13), (3, 14), (3, 15), (3, 16), (3, 17), (3, 18), (3, 19), (3, 20), (0, 0), (0, 0), (0, 0), (0, 0), (0, 0)]), .inl (1, 24), .inl (0, 24), .inl (0, 60), .inl (0, 60), .inl (0, 24), .inl (0, 24), .inl (0, 24), .inl (0, 24), .inl (1, 9), .inr (2, [(3, 22), (3, 23), (3, 24), (3, 25), (3, 26), (3, 27), (3, 28), (3, 29), (3, 30), (0, 0), (0, 0), (0, 0), (0, 0), (0, 0)]), .inl (1, 24), .inl (0, 24), .inl (0, 60), .inl (0, 60), .inl (0, 24), .inl (0, 24), .inl (0, 24), .inl (0, 24), .inl (1, 9), .inl (3, 8), .inr (5, [(3, 33), (0, 0), (0, 0), (0, 0), (0, 0), (0, 0)]), .inl (2, 900), .inr (4, [(3, 35), (0, 0)]), .inl (2, 256), .inr (1, [(0, 0), (0, 0)]), .inr (3, [(3, 38), (3, 39), (3, 40), (0, 0)]), .inl (0, 30), .inl (0, 30), .inl (0, 30), .inr (6, [(3, 42), (0, 0), (0, 0), (0, 0), (0, 0), (0, 0), (0, 0)]), .inr (7, [(3, 43), (0, 0)]), .inl (0, 24), .inr (8, [(3, 45), (3, 47), (3, 48), (3, 49)]), .inr (7, [(3, 46), (0, 0)]), .inl (0, 24), .inl (0, 24), .inl (0, 24), .inl (0, 24), .inr (0, [(3, 51), (3, 52), (3, 53), (3, 54), (0, 0)]), .inl (0, 24), .inl (0, 24), .inl (0, 24), .inl (0, 24), .inr (9, [(3, 56)]), .inl (0, 24), .inr (2, [(3, 58), (3, 59), (3, 60), (3, 61), (3, 62), (3, 63), (3, 64), (3, 65), (3, 66), (0, 0), (0, 0), (0, 0), (0, 0), (0, 0)]), .inl (1, 24), .inl (0, 24), .inl (0, 60), .inl (0, 60), .inl (0, 24), .inl (0, 24), .inl (0, 24), .inl (0, 24), .inl (1, 9), .inr (2, [(3, 68), (3, 69), (3, 70), (3, 71), (3, 72), (3, 73), (3, 74), (3, 75), (3, 76), (0, 0), (0, 0), (0, 0), (0, 0), (0, 0)]), .inl (1, 24), .inl (0, 24), .inl (0, 60), .inl (0, 60), .inl (0, 24), .inl (0, 24), .inl (0, 24), .inl (0, 24), .inl (1, 9), .inr (2, [(3, 78), (3, 79), (3, 80), (3, 81), (3, 82), (3, 83), (3, 84), (3, 85), (3, 86), (0, 0), (0, 0), (0, 0), (0, 0), (0, 0)]), .inl (1, 24), .inl (0, 24), .inl (0, 60), .inl (0, 60), .inl (0, 24), .inl (0, 24), .inl (0, 24), .inl (0, 24), .inl (1, 9), .inr (2, [(3, 88), (3, 89), (3, 90), (3, 91), (3, 92), (3, 93), (3, 94), (3, 95), (3, 96), (0, 0), (0, 0), (0, 0), (0, 0), (0, 0)]), .inl (1, 24), .inl (0, 24), .inl (0, 60), .inl (0, 60), .inl (0, 24), .inl (0, 24), .inl (0, 24), .inl (0, 24), .inl (1, 9), .inr (2, [(3, 98), (3, 99), (3, 100), (3, 101), (3, 102), (3, 103), (3, 104), (3, 105), (3, 106), (0, 0), (0, 0), (0, 0), (0, 0), (0, 0)]), .inl (1, 24), .inl (0, 24), .inl (0, 60), .inl (0, 60), .inl (0, 24), .inl (0, 24), .inl (0, 24), .inl (0, 24), .inl (1, 9), .inr (2, [(3, 108), (3, 109), (3, 110), (3, 111), (3, 112), (3, 113), (3, 114), (3, 115), (3, 116), (0, 0), (0, 0), (0, 0), (0, 0), (0, 0)]), .inl (1, 24), .inl (0, 24), .inl (0, 60), .inl (0, 60), .inl (0, 24), .inl (0, 24), .inl (0, 24), .inl (0, 24), .inl (1, 9), .inr (2, [(3, 118), (3, 119), (3, 120), (3, 121), (3, 122), (3, 123), (3, 124), (3, 125), (3, 126), (0, 0), (0, 0), (0, 0), (0, 0), (0, 0)]), .inl (1, 24), .inl (0, 24), .inl (0, 60), .inl (0, 60), .inl (0, 24), .inl (0, 24), .inl (0, 24), .inl (0, 24), .inl (1, 9), .inr (2, [(3, 128), (3, 129), (3, 130), (3, 131), (3, 132), (3, 133), (3, 134), (3, 135), (3, 136), (0, 0), (0, 0), (0, 0), (0, 0), (0, 0)]), .inl (1, 24), .inl (0, 24), .inl (0, 60), .inl (0, 60), .inl (0, 24), .inl (0, 24), .inl (0, 24), .inl (0, 24), .inl (1, 9)]
theorem gShD_C : gShD ++ [.inl (1, 1)] = gShC := by decide +kernel
theorem nD_1 : gNet gShD 1 := ⟨rfl, rfl, rfl, rfl, rfl, rfl, rfl, rfl, rfl, rfl⟩
set_option maxRecDepth 20000 in
theorem tD_addTask {X : gX} {V : gEnv} {t0 : Nat} {x1 : Int64} {x3 : Int32} {M0 : gMem} (ht0 : gNet gShD t0) {o : gMem} (h : fX2_addTask t0 x1 x3 M0 = some o) (O : gO X V mX2_addTask gShD none none o) : gG X V mX2_addTask gShD M0 0 0 0 [(0, .ref (gAd V t0)), (1, .long x1), (3, .int x3)] [] := by
  unfold fX2_addTask at h
  refine g_aload_n 0 rfl rfl dX2_addTask_0 ?_
  refine g_getI FX2_40 ht0.1 rfl dX2_addTask_1 ?_
  refine g_bipush (v := 24) rfl dX2_addTask_4 ?_
  rcases g_ite h with ⟨c1, h⟩ | ⟨c1, h⟩
  · refine g_icmp_ge_t c1 (tgt := 18) rfl dX2_addTask_6 ?_
    cases h
    exact g_vret O ⟨Nat.le_of_ble_eq_true rfl, Nat.le_of_ble_eq_true rfl⟩ dX2_addTask_18
  · refine g_icmp_ge_f c1 (tgt := 18) rfl dX2_addTask_6 ?_
    refine g_aload_n 0 rfl rfl dX2_addTask_9 ?_
    refine g_getI FX2_47 ht0.1 rfl dX2_addTask_10 ?_
    refine g_bipush (v := 24) rfl dX2_addTask_13 ?_
    rcases g_ite h with ⟨c2, h⟩ | ⟨c2, h⟩
    · refine g_icmp_lt_t c2 (tgt := 19) rfl dX2_addTask_15 ?_
      refine g_aload_n 0 rfl rfl dX2_addTask_19 ?_
      refine g_getR FX2_9 ht0.1 rfl dX2_addTask_20 ?_
      refine g_aload_n 0 rfl rfl dX2_addTask_23 ?_
      refine g_getI FX2_40 ht0.1 rfl dX2_addTask_24 ?_
      refine g_lload_n 1 rfl rfl dX2_addTask_27 ?_
      obtain ⟨M3, eM3, h⟩ := g_bnd h
      refine g_last' eM3 ht0.2.1 dX2_addTask_28 ?_
      refine g_aload_n 0 rfl rfl dX2_addTask_29 ?_
      refine g_getR FX2_15 ht0.1 rfl dX2_addTask_30 ?_
      refine g_aload_n 0 rfl rfl dX2_addTask_33 ?_
      refine g_getI FX2_40 ht0.1 rfl dX2_addTask_34 ?_
      refine g_iload_n 2 rfl rfl dX2_addTask_37 ?_
      obtain ⟨M4, eM4, h⟩ := g_bnd h
      refine g_iast' eM4 ht0.2.2.1 dX2_addTask_38 ?_
      refine g_aload_n 0 rfl rfl dX2_addTask_39 ?_
      refine g_getR FX2_25 ht0.1 rfl dX2_addTask_40 ?_
      refine g_aload_n 0 rfl rfl dX2_addTask_43 ?_
      refine g_getI FX2_40 ht0.1 rfl dX2_addTask_44 ?_
      refine g_iconst (v := 0) rfl dX2_addTask_47 ?_
      obtain ⟨M5, eM5, h⟩ := g_bnd h
      refine g_iast' eM5 ht0.2.2.2.2.2.1 dX2_addTask_48 ?_
      refine g_aload_n 0 rfl rfl dX2_addTask_49 ?_
      refine g_getR FX2_28 ht0.1 rfl dX2_addTask_50 ?_
      refine g_aload_n 0 rfl rfl dX2_addTask_53 ?_
      refine g_getI FX2_40 ht0.1 rfl dX2_addTask_54 ?_
      refine g_iconst (v := 1) rfl dX2_addTask_57 ?_
      refine g_aload_n 0 rfl rfl dX2_addTask_58 ?_
      refine g_getI FX2_40 ht0.1 rfl dX2_addTask_59 ?_
      refine g_ishl dX2_addTask_62 ?_
      obtain ⟨M6, eM6, h⟩ := g_bnd h
      refine g_iast' eM6 ht0.2.2.2.2.2.2.1 dX2_addTask_63 ?_
      refine g_aload_n 0 rfl rfl dX2_addTask_64 ?_
      refine g_getR FX2_34 ht0.1 rfl dX2_addTask_65 ?_
      refine g_aload_n 0 rfl rfl dX2_addTask_68 ?_
      refine g_getI FX2_40 ht0.1 rfl dX2_addTask_69 ?_
      refine g_aload_n 0 rfl rfl dX2_addTask_72 ?_
      refine g_getI FX2_47 ht0.1 rfl dX2_addTask_73 ?_
      obtain ⟨M7, eM7, h⟩ := g_bnd h
      refine g_iast' eM7 ht0.2.2.2.2.2.2.2.2.1 dX2_addTask_76 ?_
      refine g_aload_n 0 rfl rfl dX2_addTask_77 ?_
      refine g_getR FX2_31 ht0.1 rfl dX2_addTask_78 ?_
      refine g_aload_n 0 rfl rfl dX2_addTask_81 ?_
      refine g_getI FX2_47 ht0.1 rfl dX2_addTask_82 ?_
      refine g_iconst (v := 1) rfl dX2_addTask_85 ?_
      refine g_aload_n 0 rfl rfl dX2_addTask_86 ?_
      refine g_getI FX2_40 ht0.1 rfl dX2_addTask_87 ?_
      refine g_ishl dX2_addTask_90 ?_
      obtain ⟨M8, eM8, h⟩ := g_bnd h
      refine g_iast' eM8 ht0.2.2.2.2.2.2.2.1 dX2_addTask_91 ?_
      refine g_aload_n 0 rfl rfl dX2_addTask_92 ?_
      refine g_dup rfl dX2_addTask_93 ?_
      refine g_getI FX2_40 ht0.1 rfl dX2_addTask_94 ?_
      refine g_iconst (v := 1) rfl dX2_addTask_97 ?_
      refine g_iadd dX2_addTask_98 ?_
      obtain ⟨M9, eM9, h⟩ := g_bnd h
      refine g_putI' eM9 FX2_40 jX2 ht0.1 rfl rfl rfl dX2_addTask_99 ?_
      refine g_aload_n 0 rfl rfl dX2_addTask_102 ?_
      refine g_dup rfl dX2_addTask_103 ?_
      refine g_getI FX2_47 ht0.1 rfl dX2_addTask_104 ?_
      refine g_iconst (v := 1) rfl dX2_addTask_107 ?_
      refine g_iadd dX2_addTask_108 ?_
      obtain ⟨M10, eM10, h⟩ := g_bnd h
      refine g_putI' eM10 FX2_47 jX2 ht0.1 rfl rfl rfl dX2_addTask_109 ?_
      cases h
      exact g_vret O ⟨Nat.le_of_ble_eq_true rfl, Nat.le_of_ble_eq_true rfl⟩ dX2_addTask_112
    · refine g_icmp_lt_f c2 (tgt := 19) rfl dX2_addTask_15 ?_
      cases h
      exact g_vret O ⟨Nat.le_of_ble_eq_true rfl, Nat.le_of_ble_eq_true rfl⟩ dX2_addTask_18
theorem kD_addTask {l : Launch} {V : gEnv} {M0 : gMem} {t0 : Nat} {x1 : Int64} {x3 : Int32} (ht0 : gNet gShD t0) {o : gMem} (h : fX2_addTask t0 x1 x3 M0 = some o) : gM l yX2_addTask cX2_addTask 4 none rX2_addTask V gShD [.ref (gAd V t0), .long x1, .int x3] M0 none o :=
  gM.of (by decide) (Nat.le_of_ble_eq_true rfl) rfl (fun X _ O => tD_addTask ht0 h O)
/-- the memory behind the reader's, the repair's constructor; behind j past Nets -/
def zMA : gMem := (gI (gI gM0 32 5 (-1)) 41 2 (-1))
def zMB : Nat → gMem
  | 0 => zMA
  | j + 1 => gR (zMB j) 31 j (57 + 10 * j + 1)
abbrev rIX10 : Room := { frames := 3, cells := 136, slots := 4686, locals := 60 }
abbrev frX10 : List (Nat × Nat) := [(2, 0), (2, 0), (2, 0), (0, 0), (2, 0), (0, 0), (2, 0), (2, 0), (2, 0), (2, 0), (2, 0), (2, 0), (2, 0), (2, 0)]
abbrev zT10 (m : Nat) : List gShp := .inr (10, [(3, 1), (3, 11), (3, 21), (0, 0), (3, 31), (0, 0), (3, 32), (3, 34), (3, 36), (3, 37), (3, 41), (3, 44), (3, 50), (3, 55)]) :: gShD.tail.take m
theorem zMB_ze : ∀ j n, 56 < n → gZe n (zMB j) := by
  intro j
  induction j with
  | zero =>
    intro n hn c hc
    refine ⟨fun k => ?_, fun k => rfl, fun k => rfl⟩
    show (if c = 41 then upd _ _ _ else if c = 32 then upd _ _ _ else _) k = 0
    rw [if_neg (by omega), if_neg (by omega)]
    rfl
  | succ j ih =>
    intro n hn c hc
    obtain ⟨a, b, d⟩ := ih n hn c hc
    refine ⟨a, b, fun k => ?_⟩
    show (if c = 31 then _ else (zMB j).2.2 c) k = 0
    rw [if_neg (by omega)]; exact d k
theorem zMB_le : ∀ j n, 57 + 10 * j ≤ n → ∀ c i, (zMB j).2.2 c i ≤ n := by
  intro j
  induction j with
  | zero => intro n hn c i; exact Nat.zero_le _
  | succ j ih =>
    intro n hn c i
    show (if c = 31 then va_up ((zMB j).2.2 31) j (57 + 10 * j + 1) else (zMB j).2.2 c) i ≤ n
    by_cases hc : c = 31
    · rw [if_pos hc]
      unfold va_up
      by_cases hi : i = j
      · rw [if_pos hi]; omega
      · rw [if_neg hi]; exact ih n (by omega) 31 i
    · rw [if_neg hc]; exact ih n (by omega) c i
abbrev yI10 : gY := (cX10_init, yX10_init.cls, 2, rIX10)
section K10
variable {X : gX} {V : gEnv} {ad0 : Nat → Nat}
/-- one more past Net -/
theorem k_past {j k n : Nat} {x x' : Int32} (hj : j < 8) (h1 : ¬ (8 : Int32) ≤ x) (h2 : x.toNatClampNeg = j) (h3 : vp_in x 8) (h4 : x + Int32.ofInt 1 = x') (hlen : (zT10 (56 + 10 * j)).length = 57 + 10 * j) (hT' : zT10 (56 + 10 * j) ++ tlX2 (57 + 10 * j) = zT10 (56 + 10 * (j + 1))) (h31 : (zT10 (56 + 10 * j))[31]? = some (.inl (3, 8))) (hsq : ∀ sh ∈ zT10 (56 + 10 * (j + 1)), gSq (57 + 10 * (j + 1)) sh = true) (hR : k + 1 + 9 ≤ rIX10.cells ∧ n + 14 + 273 ≤ rIX10.slots)
    (kk : gK X V yI10 [] ad0 (zT10 (56 + 10 * (j + 1))) (zMB (j + 1)) (k + 1 + 9) (n + 14 + 273) 146 [(1, .int x')]) (hlen' : (zT10 (56 + 10 * (j + 1))).length = 57 + 10 * (j + 1)) : gK X V yI10 [] ad0 (zT10 (56 + 10 * j)) (zMB j) k n 146 [(1, .int x)] := by
  intro hr hz ad hE
  rw [hlen] at hr hz hE
  have hr : gRf (57 + 10 * j) (zT10 (56 + 10 * j)) (zMB j) := by
    have q := hr
    rw [show ([] : List gShp).length + (57 + 10 * j) = 57 + 10 * j from Nat.zero_add _] at q
    exact q
  have hz : gZe (57 + 10 * j) (zMB j) := zMB_ze j _ (by omega)
  have hE : gExt ad0 ad 1 (57 + 10 * j) (gXs X).heap.size := by
    have e := hE
    rw [show ([] : List gShp).length + (57 + 10 * j) = 57 + 10 * j from Nat.zero_add _] at e
    exact e
  show gG X (zSet V ad) yI10 (zT10 (56 + 10 * j)) (zMB j) k n 146 [(0, .ref (ad 0)), (1, .int x)] []
  refine g_iload_n 1 rfl rfl dX10_init_146 ?_
  refine g_bipush (v := 8) rfl dX10_init_147 ?_
  refine g_icmp_ge_f h1 (tgt := 171) rfl dX10_init_149 ?_
  refine g_aload_n 0 rfl rfl dX10_init_152 ?_
  refine g_getR (V := zSet V ad) (c := 0) (q := 31) FX10_26 rfl rfl dX10_init_153 ?_
  refine g_iload_n 1 rfl rfl dX10_init_156 ?_
  refine g_newobj (ci := 2) rfl iX2 jX2 wCX10_9 wNX2 wIX2 (fs := frX2) rfl (by decide +kernel) rfl ⟨Nat.le_trans (Nat.le_add_right _ _) hR.1, Nat.le_trans (Nat.le_add_right _ _) hR.2⟩ (by rw [hlen]; exact hr) (by rw [hlen]; exact hz) dX10_init_157 (fun a1 hE1 => ?_)
  refine g_dup rfl dX10_init_160 ?_
  refine g_callI IX10_11 (nX2 _) (by rw [hlen]; exact hr) (by rw [hlen]; exact hz) (Nat.le_of_ble_eq_true rfl) ⟨Nat.le_of_ble_eq_true rfl, Nat.le_of_ble_eq_true rfl⟩ hR dX10_init_161 (fun a2 hE2 => ?_) (tX2 _ gM0).1
  rw [hlen] at hE1 hE2 ⊢
  have hE1 : gExt ad a1 (57 + 10 * j) (57 + 10 * j + 1) (gXs X).heap.size := hE1
  have hE2 : gExt a1 a2 (57 + 10 * j + 1) (57 + 10 * j + 10) (gXs X).heap.size := hE2
  have e0 : ad 0 = a2 0 := ((hE2.1 0 (by omega)).trans (hE1.1 0 (by omega))).symm
  have e31 : gAd (zSet V ad) 31 = a2 31 := ((hE2.1 31 (by omega)).trans (hE1.1 31 (by omega))).symm
  have eq : a1 (57 + 10 * j) = a2 (57 + 10 * j) := (hE2.1 _ (by omega)).symm
  rw [e0, e31, eq, hT']
  have hI31 : (zT10 (56 + 10 * (j + 1)))[31]? = some (.inl (3, 8)) := by rw [← hT', List.getElem?_append_left (by rw [hlen]; omega)]; exact h31
  have hq : (zT10 (56 + 10 * (j + 1)))[57 + 10 * j]? = some (.inr (2, [(3, 57 + 10 * j + 1), (3, 57 + 10 * j + 2), (3, 57 + 10 * j + 3), (3, 57 + 10 * j + 4), (3, 57 + 10 * j + 5), (3, 57 + 10 * j + 6), (3, 57 + 10 * j + 7), (3, 57 + 10 * j + 8), (3, 57 + 10 * j + 9), (0, 0), (0, 0), (0, 0), (0, 0), (0, 0)])) := by
    rw [← hT', List.getElem?_append_right (by rw [hlen]; omega), hlen, Nat.sub_self]; rfl
  refine g_aast (V := zSet V a2) (c := 31) (q := 57 + 10 * j) hI31 hq h3 dX10_init_164 ?_
  refine g_iinc (j := 1) rfl h4 (by decide) rfl dX10_init_165 ?_
  refine g_goto (tgt := 146) rfl dX10_init_168 ?_
  refine g_sub [1, 0] rfl ?_
  rw [h2]
  refine kk ?_ ?_ a2 ?_
  · rw [hlen']
    refine ⟨fun sh hs => ?_, zMB_le (j + 1) _ (by omega)⟩
    show gSq (0 + (57 + 10 * (j + 1))) sh = true
    rw [Nat.zero_add]
    exact hsq sh hs
  · rw [hlen']; exact zMB_ze (j + 1) _ (by omega)
  · rw [hlen']
    show gExt ad0 a2 1 (0 + (57 + 10 * (j + 1))) _
    rw [Nat.zero_add]
    refine gExt_tr hE (gExt_tr hE1 hE2 (by omega)) (by show 1 ≤ _; omega)
end K10
theorem nX10 (l : Launch) {MC : gMem} (h : fX2_addTask 1 (97 : Int64) (1 : Int32) (zMB 8) = some MC) : gN0 l yX10_init cX10_init 2 rIX10 (va_AO "RingFreeOrder$Net") (.inr (10, frX10)) gShD MC := gN0.of (by decide) rfl rfl (by decide) (fun X V ad e hAO O hin => by
  refine k_super wOX10 wOi wOc ⟨Nat.le_of_ble_eq_true rfl, Nat.le_of_ble_eq_true rfl⟩ dX10_init_0 dX10_init_1 ?_
  refine k_obj (T' := .inr (10, [(3, 1), (2, 0), (2, 0), (0, 0), (2, 0), (0, 0), (2, 0), (2, 0), (2, 0), (2, 0), (2, 0), (2, 0), (2, 0), (2, 0)]) :: gShD.tail.take 10) rfl (by decide +kernel) rfl (nX2 _) tX2 IX10_11 rfl iX2 jX2 wCX10_9 wNX2 wIX2 rfl (by decide +kernel) rfl FX10_12 jX10 rfl rfl hin rfl (fun _ => rfl) (fun _ => rfl) ⟨Nat.le_of_ble_eq_true rfl, Nat.le_of_ble_eq_true rfl⟩ ⟨Nat.le_of_ble_eq_true rfl, Nat.le_of_ble_eq_true rfl⟩ dX10_init_4 dX10_init_5 dX10_init_8 dX10_init_9 dX10_init_12 ?_
  refine k_obj (T' := .inr (10, [(3, 1), (3, 11), (2, 0), (0, 0), (2, 0), (0, 0), (2, 0), (2, 0), (2, 0), (2, 0), (2, 0), (2, 0), (2, 0), (2, 0)]) :: gShD.tail.take 20) rfl (by decide +kernel) rfl (nX2 _) tX2 IX10_11 rfl iX2 jX2 wCX10_9 wNX2 wIX2 rfl (by decide +kernel) rfl FX10_16 jX10 rfl rfl hin rfl (fun _ => rfl) (fun _ => rfl) ⟨Nat.le_of_ble_eq_true rfl, Nat.le_of_ble_eq_true rfl⟩ ⟨Nat.le_of_ble_eq_true rfl, Nat.le_of_ble_eq_true rfl⟩ dX10_init_15 dX10_init_16 dX10_init_19 dX10_init_20 dX10_init_23 ?_
  refine k_obj (T' := .inr (10, [(3, 1), (3, 11), (3, 21), (0, 0), (2, 0), (0, 0), (2, 0), (2, 0), (2, 0), (2, 0), (2, 0), (2, 0), (2, 0), (2, 0)]) :: gShD.tail.take 30) rfl (by decide +kernel) rfl (nX2 _) tX2 IX10_11 rfl iX2 jX2 wCX10_9 wNX2 wIX2 rfl (by decide +kernel) rfl FX10_19 jX10 rfl rfl hin rfl (fun _ => rfl) (fun _ => rfl) ⟨Nat.le_of_ble_eq_true rfl, Nat.le_of_ble_eq_true rfl⟩ ⟨Nat.le_of_ble_eq_true rfl, Nat.le_of_ble_eq_true rfl⟩ dX10_init_26 dX10_init_27 dX10_init_30 dX10_init_31 dX10_init_34 ?_
  refine k_int rfl (i := 0) (x := 0) rfl FX10_22 jX10 rfl rfl rfl rfl (gI_z rfl) dX10_init_37 dX10_init_38 dX10_init_39 ?_
  refine k_anew (T' := .inr (10, [(3, 1), (3, 11), (3, 21), (0, 0), (3, 31), (0, 0), (2, 0), (2, 0), (2, 0), (2, 0), (2, 0), (2, 0), (2, 0), (2, 0)]) :: gShD.tail.take 31) (x := 8) rfl (by decide +kernel) wCX10_9 hAO (by decide) rfl (by decide) FX10_26 jX10 rfl rfl hin rfl (fun _ => rfl) (fun _ => rfl) ⟨Nat.le_of_ble_eq_true rfl, Nat.le_of_ble_eq_true rfl⟩ dX10_init_42 ⟨dX10_init_43, rfl⟩ dX10_init_45 dX10_init_48 ?_
  refine k_int rfl (i := 0) (x := 0) rfl FX10_30 jX10 rfl rfl rfl rfl (gI_z rfl) dX10_init_51 dX10_init_52 dX10_init_53 ?_
  refine k_obj (T' := .inr (10, [(3, 1), (3, 11), (3, 21), (0, 0), (3, 31), (0, 0), (3, 32), (2, 0), (2, 0), (2, 0), (2, 0), (2, 0), (2, 0), (2, 0)]) :: gShD.tail.take 33) rfl (by decide +kernel) (congrArg (fun c => gI gM0 c 5 (-1)) (show ([] : List gShp).length + ((gShD.tail.take 31).length + 1) = 32 by decide +kernel)) (nX5 _) tX5 IX10_36 rfl iX5 jX5 wCX10_34 wNX5 wIX5 rfl (by decide +kernel) rfl FX10_37 jX10 rfl rfl hin rfl (fun _ => rfl) (fun _ => rfl) ⟨Nat.le_of_ble_eq_true rfl, Nat.le_of_ble_eq_true rfl⟩ ⟨Nat.le_of_ble_eq_true rfl, Nat.le_of_ble_eq_true rfl⟩ dX10_init_56 dX10_init_57 dX10_init_60 dX10_init_61 dX10_init_64 ?_
  refine k_obj (T' := .inr (10, [(3, 1), (3, 11), (3, 21), (0, 0), (3, 31), (0, 0), (3, 32), (3, 34), (2, 0), (2, 0), (2, 0), (2, 0), (2, 0), (2, 0)]) :: gShD.tail.take 35) rfl (by decide +kernel) rfl (nX4 _) tX4 IX10_43 rfl iX4 jX4 wCX10_41 wNX4 wIX4 rfl (by decide +kernel) rfl FX10_44 jX10 rfl rfl hin rfl (fun _ => rfl) (fun _ => rfl) ⟨Nat.le_of_ble_eq_true rfl, Nat.le_of_ble_eq_true rfl⟩ ⟨Nat.le_of_ble_eq_true rfl, Nat.le_of_ble_eq_true rfl⟩ dX10_init_67 dX10_init_68 dX10_init_71 dX10_init_72 dX10_init_75 ?_
  refine k_obj (T' := .inr (10, [(3, 1), (3, 11), (3, 21), (0, 0), (3, 31), (0, 0), (3, 32), (3, 34), (3, 36), (2, 0), (2, 0), (2, 0), (2, 0), (2, 0)]) :: gShD.tail.take 36) rfl (by decide +kernel) rfl (nX1 _) tX1 IX10_50 rfl iX1 jX1 wCX10_48 wNX1 wIX1 rfl (by decide +kernel) rfl FX10_51 jX10 rfl rfl hin rfl (fun _ => rfl) (fun _ => rfl) ⟨Nat.le_of_ble_eq_true rfl, Nat.le_of_ble_eq_true rfl⟩ ⟨Nat.le_of_ble_eq_true rfl, Nat.le_of_ble_eq_true rfl⟩ dX10_init_78 dX10_init_79 dX10_init_82 dX10_init_83 dX10_init_86 ?_
  refine k_obj (T' := .inr (10, [(3, 1), (3, 11), (3, 21), (0, 0), (3, 31), (0, 0), (3, 32), (3, 34), (3, 36), (3, 37), (2, 0), (2, 0), (2, 0), (2, 0)]) :: gShD.tail.take 40) rfl (by decide +kernel) rfl (nX3 _) tX3 IX10_57 rfl iX3 jX3 wCX10_55 wNX3 wIX3 rfl (by decide +kernel) rfl FX10_58 jX10 rfl rfl hin rfl (fun _ => rfl) (fun _ => rfl) ⟨Nat.le_of_ble_eq_true rfl, Nat.le_of_ble_eq_true rfl⟩ ⟨Nat.le_of_ble_eq_true rfl, Nat.le_of_ble_eq_true rfl⟩ dX10_init_89 dX10_init_90 dX10_init_93 dX10_init_94 dX10_init_97 ?_
  refine k_obj (T' := .inr (10, [(3, 1), (3, 11), (3, 21), (0, 0), (3, 31), (0, 0), (3, 32), (3, 34), (3, 36), (3, 37), (3, 41), (2, 0), (2, 0), (2, 0)]) :: gShD.tail.take 43) rfl (by decide +kernel) (congrArg (fun c => gI (gI gM0 32 5 (-1)) c 2 (-1)) (show ([] : List gShp).length + ((gShD.tail.take 40).length + 1) = 41 by decide +kernel)) (nX6 _) tX6 IX10_64 rfl iX6 jX6 wCX10_62 wNX6 wIX6 rfl (by decide +kernel) rfl FX10_65 jX10 rfl rfl hin rfl (fun _ => rfl) (fun _ => rfl) ⟨Nat.le_of_ble_eq_true rfl, Nat.le_of_ble_eq_true rfl⟩ ⟨Nat.le_of_ble_eq_true rfl, Nat.le_of_ble_eq_true rfl⟩ dX10_init_100 dX10_init_101 dX10_init_104 dX10_init_105 dX10_init_108 ?_
  refine k_obj (T' := .inr (10, [(3, 1), (3, 11), (3, 21), (0, 0), (3, 31), (0, 0), (3, 32), (3, 34), (3, 36), (3, 37), (3, 41), (3, 44), (2, 0), (2, 0)]) :: gShD.tail.take 49) rfl (by decide +kernel) rfl (nX8 _) tX8 IX10_71 rfl iX8 jX8 wCX10_69 wNX8 wIX8 rfl (by decide +kernel) rfl FX10_72 jX10 rfl rfl hin rfl (fun _ => rfl) (fun _ => rfl) ⟨Nat.le_of_ble_eq_true rfl, Nat.le_of_ble_eq_true rfl⟩ ⟨Nat.le_of_ble_eq_true rfl, Nat.le_of_ble_eq_true rfl⟩ dX10_init_111 dX10_init_112 dX10_init_115 dX10_init_116 dX10_init_119 ?_
  refine k_obj (T' := .inr (10, [(3, 1), (3, 11), (3, 21), (0, 0), (3, 31), (0, 0), (3, 32), (3, 34), (3, 36), (3, 37), (3, 41), (3, 44), (3, 50), (2, 0)]) :: gShD.tail.take 54) rfl (by decide +kernel) rfl (nX0 _) tX0 IX10_78 rfl iX0 jX0 wCX10_76 wNX0 wIX0 rfl (by decide +kernel) rfl FX10_79 jX10 rfl rfl hin rfl (fun _ => rfl) (fun _ => rfl) ⟨Nat.le_of_ble_eq_true rfl, Nat.le_of_ble_eq_true rfl⟩ ⟨Nat.le_of_ble_eq_true rfl, Nat.le_of_ble_eq_true rfl⟩ dX10_init_122 dX10_init_123 dX10_init_126 dX10_init_127 dX10_init_130 ?_
  refine k_obj (T' := .inr (10, [(3, 1), (3, 11), (3, 21), (0, 0), (3, 31), (0, 0), (3, 32), (3, 34), (3, 36), (3, 37), (3, 41), (3, 44), (3, 50), (3, 55)]) :: gShD.tail.take 56) rfl (by decide +kernel) rfl (nX9 _) tX9 IX10_85 rfl iX9 jX9 wCX10_83 wNX9 wIX9 rfl (by decide +kernel) rfl FX10_86 jX10 rfl rfl hin rfl (fun _ => rfl) (fun _ => rfl) ⟨Nat.le_of_ble_eq_true rfl, Nat.le_of_ble_eq_true rfl⟩ ⟨Nat.le_of_ble_eq_true rfl, Nat.le_of_ble_eq_true rfl⟩ dX10_init_133 dX10_init_134 dX10_init_137 dX10_init_138 dX10_init_141 ?_
  show gK X V yI10 [] ad (zT10 56) zMA _ _ 144 []
  intro hr hz ad1 hE
  refine g_iconst (v := 0) rfl dX10_init_144 ?_
  refine g_istore_n rfl (by decide) rfl dX10_init_145 ?_
  refine g_sub [1, 0] rfl ?_
  revert hr hz ad1 hE
  show gK X V yI10 [] ad (zT10 (56 + 10 * 0)) (zMB 0) _ _ 146 [(1, .int 0)]
  refine k_past (x := 0) (x' := 1) (j := 0) (by decide) (by decide) (by decide) (show ¬ ((0 : Int32) < 0 ∨ 8 ≤ (0 : Int32).toNatClampNeg) by decide) (by decide) rfl (by decide +kernel) rfl (by decide +kernel) ⟨Nat.le_of_ble_eq_true rfl, Nat.le_of_ble_eq_true rfl⟩ ?_ rfl
  refine k_past (x := 1) (x' := 2) (j := 1) (by decide) (by decide) (by decide) (show ¬ ((1 : Int32) < 0 ∨ 8 ≤ (1 : Int32).toNatClampNeg) by decide) (by decide) rfl (by decide +kernel) rfl (by decide +kernel) ⟨Nat.le_of_ble_eq_true rfl, Nat.le_of_ble_eq_true rfl⟩ ?_ rfl
  refine k_past (x := 2) (x' := 3) (j := 2) (by decide) (by decide) (by decide) (show ¬ ((2 : Int32) < 0 ∨ 8 ≤ (2 : Int32).toNatClampNeg) by decide) (by decide) rfl (by decide +kernel) rfl (by decide +kernel) ⟨Nat.le_of_ble_eq_true rfl, Nat.le_of_ble_eq_true rfl⟩ ?_ rfl
  refine k_past (x := 3) (x' := 4) (j := 3) (by decide) (by decide) (by decide) (show ¬ ((3 : Int32) < 0 ∨ 8 ≤ (3 : Int32).toNatClampNeg) by decide) (by decide) rfl (by decide +kernel) rfl (by decide +kernel) ⟨Nat.le_of_ble_eq_true rfl, Nat.le_of_ble_eq_true rfl⟩ ?_ rfl
  refine k_past (x := 4) (x' := 5) (j := 4) (by decide) (by decide) (by decide) (show ¬ ((4 : Int32) < 0 ∨ 8 ≤ (4 : Int32).toNatClampNeg) by decide) (by decide) rfl (by decide +kernel) rfl (by decide +kernel) ⟨Nat.le_of_ble_eq_true rfl, Nat.le_of_ble_eq_true rfl⟩ ?_ rfl
  refine k_past (x := 5) (x' := 6) (j := 5) (by decide) (by decide) (by decide) (show ¬ ((5 : Int32) < 0 ∨ 8 ≤ (5 : Int32).toNatClampNeg) by decide) (by decide) rfl (by decide +kernel) rfl (by decide +kernel) ⟨Nat.le_of_ble_eq_true rfl, Nat.le_of_ble_eq_true rfl⟩ ?_ rfl
  refine k_past (x := 6) (x' := 7) (j := 6) (by decide) (by decide) (by decide) (show ¬ ((6 : Int32) < 0 ∨ 8 ≤ (6 : Int32).toNatClampNeg) by decide) (by decide) rfl (by decide +kernel) rfl (by decide +kernel) ⟨Nat.le_of_ble_eq_true rfl, Nat.le_of_ble_eq_true rfl⟩ ?_ rfl
  refine k_past (x := 7) (x' := 8) (j := 7) (by decide) (by decide) (by decide) (show ¬ ((7 : Int32) < 0 ∨ 8 ≤ (7 : Int32).toNatClampNeg) by decide) (by decide) rfl (by decide +kernel) rfl (by decide +kernel) ⟨Nat.le_of_ble_eq_true rfl, Nat.le_of_ble_eq_true rfl⟩ ?_ rfl
  intro hr hz ad1 hE
  show gG X (zSet V ad1) yI10 gShD (zMB 8) _ _ 146 [(0, .ref (ad1 0)), (1, .int 8)] []
  refine g_iload_n 1 rfl rfl dX10_init_146 ?_
  refine g_bipush (v := 8) rfl dX10_init_147 ?_
  refine g_icmp_ge_t (by decide) (tgt := 171) rfl dX10_init_149 ?_
  refine g_aload_n 0 rfl rfl dX10_init_171 ?_
  refine g_getR (V := zSet V ad1) (c := 0) (q := 1) FX10_12 rfl rfl dX10_init_172 ?_
  refine g_ldc2 KX10_90 dX10_init_175 ?_
  refine g_iconst (v := 1) rfl dX10_init_178 ?_
  refine g_callV (V := zSet V ad1) LX10_92 (c := 1) (Sh := gShD) rfl rfl (kD_addTask nD_1 h) rfl rfl (Nat.le_of_ble_eq_true rfl) ⟨Nat.le_of_ble_eq_true rfl, Nat.le_of_ble_eq_true rfl⟩ ⟨Nat.le_of_ble_eq_true rfl, Nat.le_of_ble_eq_true rfl⟩ dX10_init_179 rfl ?_
  rw [show ([] : List gShp).length + (zT10 (56 + 10 * (7 + 1))).length = ([] : List gShp).length + gShD.length by decide +kernel] at hE
  exact k_ret0 (T := gShD) (Sh := []) O hE ⟨Nat.le_of_ble_eq_true rfl, Nat.le_of_ble_eq_true rfl⟩ dX10_init_182)
