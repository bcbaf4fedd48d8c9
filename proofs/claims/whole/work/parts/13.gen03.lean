/-! METHODS, by program: pure functions and contracts -/
theorem dX11_laysPart_0 : decode cX11_laysPart 0 = .ok (.aload_n 0, 1) := by decide +kernel
theorem dX11_laysPart_1 : decode cX11_laysPart 1 = .ok (.iconst (-1), 1) := by decide +kernel
theorem dX11_laysPart_2 : decode cX11_laysPart 2 = .ok (.invokevirtual 104, 3) := by decide +kernel
theorem dX11_laysPart_5 : decode cX11_laysPart 5 = .ok (.aload_n 0, 1) := by decide +kernel
theorem dX11_laysPart_6 : decode cX11_laysPart 6 = .ok (.aload_n 0, 1) := by decide +kernel
theorem dX11_laysPart_7 : decode cX11_laysPart 7 = .ok (.iload_n 2, 1) := by decide +kernel
theorem dX11_laysPart_8 : decode cX11_laysPart 8 = .ok (.invokevirtual 101, 3) := by decide +kernel
theorem dX11_laysPart_11 : decode cX11_laysPart 11 = .ok (.putfield 108, 3) := by decide +kernel
theorem dX11_laysPart_14 : decode cX11_laysPart 14 = .ok (.aload_n 0, 1) := by decide +kernel
theorem dX11_laysPart_15 : decode cX11_laysPart 15 = .ok (.aload_n 0, 1) := by decide +kernel
theorem dX11_laysPart_16 : decode cX11_laysPart 16 = .ok (.iload_n 1, 1) := by decide +kernel
theorem dX11_laysPart_17 : decode cX11_laysPart 17 = .ok (.invokevirtual 101, 3) := by decide +kernel
theorem dX11_laysPart_20 : decode cX11_laysPart 20 = .ok (.putfield 111, 3) := by decide +kernel
theorem dX11_laysPart_23 : decode cX11_laysPart 23 = .ok (.aload_n 0, 1) := by decide +kernel
theorem dX11_laysPart_24 : decode cX11_laysPart 24 = .ok (.iconst 0, 1) := by decide +kernel
theorem dX11_laysPart_25 : decode cX11_laysPart 25 = .ok (.putfield 114, 3) := by decide +kernel
theorem dX11_laysPart_28 : decode cX11_laysPart 28 = .ok (.aload_n 0, 1) := by decide +kernel
theorem dX11_laysPart_29 : decode cX11_laysPart 29 = .ok (.iconst 0, 1) := by decide +kernel
theorem dX11_laysPart_30 : decode cX11_laysPart 30 = .ok (.putfield 117, 3) := by decide +kernel
theorem dX11_laysPart_33 : decode cX11_laysPart 33 = .ok (.aload_n 0, 1) := by decide +kernel
theorem dX11_laysPart_34 : decode cX11_laysPart 34 = .ok (.getfield 108, 3) := by decide +kernel
theorem dX11_laysPart_37 : decode cX11_laysPart 37 = .ok (.istore_n 3, 1) := by decide +kernel
theorem dX11_laysPart_38 : decode cX11_laysPart 38 = .ok (.iload_n 3, 1) := by decide +kernel
theorem dX11_laysPart_39 : decode cX11_laysPart 39 = .ok (.aload_n 0, 1) := by decide +kernel
theorem dX11_laysPart_40 : decode cX11_laysPart 40 = .ok (.getfield 111, 3) := by decide +kernel
theorem dX11_laysPart_43 : decode cX11_laysPart 43 = .ok (.if_icmp .gt 80, 3) := by decide +kernel
theorem dX11_laysPart_46 : decode cX11_laysPart 46 = .ok (.aload_n 0, 1) := by decide +kernel
theorem dX11_laysPart_47 : decode cX11_laysPart 47 = .ok (.getfield 9, 3) := by decide +kernel
theorem dX11_laysPart_50 : decode cX11_laysPart 50 = .ok (.bipush 14, 2) := by decide +kernel
theorem dX11_laysPart_52 : decode cX11_laysPart 52 = .ok (.iload_n 3, 1) := by decide +kernel
theorem dX11_laysPart_53 : decode cX11_laysPart 53 = .ok (.iadd, 1) := by decide +kernel
theorem dX11_laysPart_54 : decode cX11_laysPart 54 = .ok (.iaload, 1) := by decide +kernel
theorem dX11_laysPart_55 : decode cX11_laysPart 55 = .ok (.istore 4, 2) := by decide +kernel
theorem dX11_laysPart_57 : decode cX11_laysPart 57 = .ok (.aload_n 0, 1) := by decide +kernel
theorem dX11_laysPart_58 : decode cX11_laysPart 58 = .ok (.dup, 1) := by decide +kernel
theorem dX11_laysPart_59 : decode cX11_laysPart 59 = .ok (.getfield 114, 3) := by decide +kernel
theorem dX11_laysPart_62 : decode cX11_laysPart 62 = .ok (.aload_n 0, 1) := by decide +kernel
theorem dX11_laysPart_63 : decode cX11_laysPart 63 = .ok (.getfield 25, 3) := by decide +kernel
theorem dX11_laysPart_66 : decode cX11_laysPart 66 = .ok (.iload_n 2, 1) := by decide +kernel
theorem dX11_laysPart_67 : decode cX11_laysPart 67 = .ok (.iaload, 1) := by decide +kernel
theorem dX11_laysPart_68 : decode cX11_laysPart 68 = .ok (.iload 4, 2) := by decide +kernel
theorem dX11_laysPart_70 : decode cX11_laysPart 70 = .ok (.invokestatic 93, 3) := by decide +kernel
theorem dX11_laysPart_73 : decode cX11_laysPart 73 = .ok (.ifCond .eq 9, 3) := by decide +kernel
theorem dX11_laysPart_76 : decode cX11_laysPart 76 = .ok (.iconst 1, 1) := by decide +kernel
theorem dX11_laysPart_77 : decode cX11_laysPart 77 = .ok (.iload_n 3, 1) := by decide +kernel
theorem dX11_laysPart_78 : decode cX11_laysPart 78 = .ok (.ishl, 1) := by decide +kernel
theorem dX11_laysPart_79 : decode cX11_laysPart 79 = .ok (.goto 4, 3) := by decide +kernel
theorem dX11_laysPart_82 : decode cX11_laysPart 82 = .ok (.iconst 0, 1) := by decide +kernel
theorem dX11_laysPart_83 : decode cX11_laysPart 83 = .ok (.ior, 1) := by decide +kernel
theorem dX11_laysPart_84 : decode cX11_laysPart 84 = .ok (.putfield 114, 3) := by decide +kernel
theorem dX11_laysPart_87 : decode cX11_laysPart 87 = .ok (.aload_n 0, 1) := by decide +kernel
theorem dX11_laysPart_88 : decode cX11_laysPart 88 = .ok (.dup, 1) := by decide +kernel
theorem dX11_laysPart_89 : decode cX11_laysPart 89 = .ok (.getfield 117, 3) := by decide +kernel
theorem dX11_laysPart_92 : decode cX11_laysPart 92 = .ok (.aload_n 0, 1) := by decide +kernel
theorem dX11_laysPart_93 : decode cX11_laysPart 93 = .ok (.getfield 25, 3) := by decide +kernel
theorem dX11_laysPart_96 : decode cX11_laysPart 96 = .ok (.iload 4, 2) := by decide +kernel
theorem dX11_laysPart_98 : decode cX11_laysPart 98 = .ok (.iaload, 1) := by decide +kernel
theorem dX11_laysPart_99 : decode cX11_laysPart 99 = .ok (.iload_n 1, 1) := by decide +kernel
theorem dX11_laysPart_100 : decode cX11_laysPart 100 = .ok (.invokestatic 93, 3) := by decide +kernel
theorem dX11_laysPart_103 : decode cX11_laysPart 103 = .ok (.ifCond .eq 9, 3) := by decide +kernel
theorem dX11_laysPart_106 : decode cX11_laysPart 106 = .ok (.iconst 1, 1) := by decide +kernel
theorem dX11_laysPart_107 : decode cX11_laysPart 107 = .ok (.iload_n 3, 1) := by decide +kernel
theorem dX11_laysPart_108 : decode cX11_laysPart 108 = .ok (.ishl, 1) := by decide +kernel
theorem dX11_laysPart_109 : decode cX11_laysPart 109 = .ok (.goto 4, 3) := by decide +kernel
theorem dX11_laysPart_112 : decode cX11_laysPart 112 = .ok (.iconst 0, 1) := by decide +kernel
theorem dX11_laysPart_113 : decode cX11_laysPart 113 = .ok (.ior, 1) := by decide +kernel
theorem dX11_laysPart_114 : decode cX11_laysPart 114 = .ok (.putfield 117, 3) := by decide +kernel
theorem dX11_laysPart_117 : decode cX11_laysPart 117 = .ok (.iinc 3 1, 3) := by decide +kernel
theorem dX11_laysPart_120 : decode cX11_laysPart 120 = .ok (.goto (-82), 3) := by decide +kernel
theorem dX11_laysPart_123 : decode cX11_laysPart 123 = .ok (.aload_n 0, 1) := by decide +kernel
theorem dX11_laysPart_124 : decode cX11_laysPart 124 = .ok (.iconst 0, 1) := by decide +kernel
theorem dX11_laysPart_125 : decode cX11_laysPart 125 = .ok (.putfield 120, 3) := by decide +kernel
theorem dX11_laysPart_128 : decode cX11_laysPart 128 = .ok (.iconst 0, 1) := by decide +kernel
theorem dX11_laysPart_129 : decode cX11_laysPart 129 = .ok (.istore_n 3, 1) := by decide +kernel
theorem dX11_laysPart_130 : decode cX11_laysPart 130 = .ok (.iload_n 3, 1) := by decide +kernel
theorem dX11_laysPart_131 : decode cX11_laysPart 131 = .ok (.aload_n 0, 1) := by decide +kernel
theorem dX11_laysPart_132 : decode cX11_laysPart 132 = .ok (.getfield 9, 3) := by decide +kernel
theorem dX11_laysPart_135 : decode cX11_laysPart 135 = .ok (.iconst 1, 1) := by decide +kernel
theorem dX11_laysPart_136 : decode cX11_laysPart 136 = .ok (.iaload, 1) := by decide +kernel
theorem dX11_laysPart_137 : decode cX11_laysPart 137 = .ok (.if_icmp .ge 99, 3) := by decide +kernel
theorem dX11_laysPart_140 : decode cX11_laysPart 140 = .ok (.aload_n 0, 1) := by decide +kernel
theorem dX11_laysPart_141 : decode cX11_laysPart 141 = .ok (.dup, 1) := by decide +kernel
theorem dX11_laysPart_142 : decode cX11_laysPart 142 = .ok (.getfield 120, 3) := by decide +kernel
theorem dX11_laysPart_145 : decode cX11_laysPart 145 = .ok (.aload_n 0, 1) := by decide +kernel
theorem dX11_laysPart_146 : decode cX11_laysPart 146 = .ok (.iload_n 3, 1) := by decide +kernel
theorem dX11_laysPart_147 : decode cX11_laysPart 147 = .ok (.invokevirtual 97, 3) := by decide +kernel
theorem dX11_laysPart_150 : decode cX11_laysPart 150 = .ok (.ifCond .ne 30, 3) := by decide +kernel
theorem dX11_laysPart_153 : decode cX11_laysPart 153 = .ok (.aload_n 0, 1) := by decide +kernel
theorem dX11_laysPart_154 : decode cX11_laysPart 154 = .ok (.getfield 114, 3) := by decide +kernel
theorem dX11_laysPart_157 : decode cX11_laysPart 157 = .ok (.aload_n 0, 1) := by decide +kernel
theorem dX11_laysPart_158 : decode cX11_laysPart 158 = .ok (.aload_n 0, 1) := by decide +kernel
theorem dX11_laysPart_159 : decode cX11_laysPart 159 = .ok (.getfield 9, 3) := by decide +kernel
theorem dX11_laysPart_162 : decode cX11_laysPart 162 = .ok (.bipush 38, 2) := by decide +kernel
theorem dX11_laysPart_164 : decode cX11_laysPart 164 = .ok (.iload_n 3, 1) := by decide +kernel
theorem dX11_laysPart_165 : decode cX11_laysPart 165 = .ok (.iadd, 1) := by decide +kernel
theorem dX11_laysPart_166 : decode cX11_laysPart 166 = .ok (.iaload, 1) := by decide +kernel
theorem dX11_laysPart_167 : decode cX11_laysPart 167 = .ok (.invokevirtual 101, 3) := by decide +kernel
theorem dX11_laysPart_170 : decode cX11_laysPart 170 = .ok (.invokestatic 93, 3) := by decide +kernel
theorem dX11_laysPart_173 : decode cX11_laysPart 173 = .ok (.ifCond .eq 7, 3) := by decide +kernel
theorem dX11_laysPart_176 : decode cX11_laysPart 176 = .ok (.iconst 1, 1) := by decide +kernel
theorem dX11_laysPart_177 : decode cX11_laysPart 177 = .ok (.goto 4, 3) := by decide +kernel
theorem dX11_laysPart_180 : decode cX11_laysPart 180 = .ok (.iconst 0, 1) := by decide +kernel
theorem dX11_laysPart_181 : decode cX11_laysPart 181 = .ok (.iadd, 1) := by decide +kernel
theorem dX11_laysPart_182 : decode cX11_laysPart 182 = .ok (.putfield 120, 3) := by decide +kernel
theorem dX11_laysPart_185 : decode cX11_laysPart 185 = .ok (.aload_n 0, 1) := by decide +kernel
theorem dX11_laysPart_186 : decode cX11_laysPart 186 = .ok (.dup, 1) := by decide +kernel
theorem dX11_laysPart_187 : decode cX11_laysPart 187 = .ok (.getfield 120, 3) := by decide +kernel
theorem dX11_laysPart_190 : decode cX11_laysPart 190 = .ok (.aload_n 0, 1) := by decide +kernel
theorem dX11_laysPart_191 : decode cX11_laysPart 191 = .ok (.iload_n 3, 1) := by decide +kernel
theorem dX11_laysPart_192 : decode cX11_laysPart 192 = .ok (.invokevirtual 97, 3) := by decide +kernel
theorem dX11_laysPart_195 : decode cX11_laysPart 195 = .ok (.ifCond .ne 30, 3) := by decide +kernel
theorem dX11_laysPart_198 : decode cX11_laysPart 198 = .ok (.aload_n 0, 1) := by decide +kernel
theorem dX11_laysPart_199 : decode cX11_laysPart 199 = .ok (.getfield 117, 3) := by decide +kernel
theorem dX11_laysPart_202 : decode cX11_laysPart 202 = .ok (.aload_n 0, 1) := by decide +kernel
theorem dX11_laysPart_203 : decode cX11_laysPart 203 = .ok (.aload_n 0, 1) := by decide +kernel
theorem dX11_laysPart_204 : decode cX11_laysPart 204 = .ok (.getfield 9, 3) := by decide +kernel
theorem dX11_laysPart_207 : decode cX11_laysPart 207 = .ok (.bipush 98, 2) := by decide +kernel
theorem dX11_laysPart_209 : decode cX11_laysPart 209 = .ok (.iload_n 3, 1) := by decide +kernel
theorem dX11_laysPart_210 : decode cX11_laysPart 210 = .ok (.iadd, 1) := by decide +kernel
theorem dX11_laysPart_211 : decode cX11_laysPart 211 = .ok (.iaload, 1) := by decide +kernel
theorem dX11_laysPart_212 : decode cX11_laysPart 212 = .ok (.invokevirtual 101, 3) := by decide +kernel
theorem dX11_laysPart_215 : decode cX11_laysPart 215 = .ok (.invokestatic 93, 3) := by decide +kernel
theorem dX11_laysPart_218 : decode cX11_laysPart 218 = .ok (.ifCond .eq 7, 3) := by decide +kernel
theorem dX11_laysPart_221 : decode cX11_laysPart 221 = .ok (.iconst 1, 1) := by decide +kernel
theorem dX11_laysPart_222 : decode cX11_laysPart 222 = .ok (.goto 4, 3) := by decide +kernel
theorem dX11_laysPart_225 : decode cX11_laysPart 225 = .ok (.iconst 0, 1) := by decide +kernel
theorem dX11_laysPart_226 : decode cX11_laysPart 226 = .ok (.iadd, 1) := by decide +kernel
theorem dX11_laysPart_227 : decode cX11_laysPart 227 = .ok (.putfield 120, 3) := by decide +kernel
theorem dX11_laysPart_230 : decode cX11_laysPart 230 = .ok (.iinc 3 1, 3) := by decide +kernel
theorem dX11_laysPart_233 : decode cX11_laysPart 233 = .ok (.goto (-103), 3) := by decide +kernel
theorem dX11_laysPart_236 : decode cX11_laysPart 236 = .ok (.return_, 1) := by decide +kernel
abbrev rX11_laysPart : Room := { frames := 2, cells := 0, slots := 0, locals := 44 }
abbrev mX11_laysPart : gY := (cX11_laysPart, RX11, 5, rX11_laysPart)
def fX11_laysPart_l38 (x1 : Int32) (x2 : Int32) (x3 : Int32) (M0 : gMem) : Option ((Int32 × gMem) ⊕ gMem) :=
  if (M0.1 0 11) < x3 then (some (.inr M0)) else (rI M0 1 374 ((14 : Int32) + x3)).bind fun v10 => (rI M0 6 24 x2).bind fun v11 => (fX11_has v11 v10).bind fun v12 => (wF M0 0 12 ((M0.1 0 12) ||| (if v12 = 0 then (0 : Int32) else (1 : Int32) <<< (x3 &&& 31)))).bind fun M14 => (rI M14 6 24 v10).bind fun v15 => (fX11_has v15 x1).bind fun v16 => (wF M14 0 13 ((M14.1 0 13) ||| (if v16 = 0 then (0 : Int32) else (1 : Int32) <<< (x3 &&& 31)))).bind fun M18 => some (.inl (x3 + (1 : Int32), M18))
set_option maxRecDepth 20000 in
theorem tX11_laysPart_l38 {X : gX} {V : gEnv} {x1 : Int32} {x2 : Int32} {x3 : Int32} {M0 : gMem}  {o : ((Int32 × gMem) ⊕ gMem)} (h : fX11_laysPart_l38 x1 x2 x3 M0 = some o) (Kc : ∀ s9, o = .inl s9 → gG X V mX11_laysPart gShM s9.2 0 0 38 [(0, .ref (gAd V 0)), (1, .int x1), (2, .int x2), (3, .int s9.1)] []) (Kx : ∀ e9, o = .inr e9 → gG X V mX11_laysPart gShM e9 0 0 123 [(0, .ref (gAd V 0))] []) : gG X V mX11_laysPart gShM M0 0 0 38 [(0, .ref (gAd V 0)), (1, .int x1), (2, .int x2), (3, .int x3)] [] := by
  unfold fX11_laysPart_l38 at h
  refine g_iload_n 3 rfl rfl dX11_laysPart_38 ?_
  refine g_aload_n 0 rfl rfl dX11_laysPart_39 ?_
  refine g_getI FX11_111 sM_0 rfl dX11_laysPart_40 ?_
  rcases g_ite h with ⟨c9, h⟩ | ⟨c9, h⟩
  · refine g_icmp_gt_t c9 (tgt := 123) rfl dX11_laysPart_43 ?_
    cases h
    refine g_sub [0] rfl ?_
    exact Kx M0 rfl
  · refine g_icmp_gt_f c9 (tgt := 123) rfl dX11_laysPart_43 ?_
    refine g_aload_n 0 rfl rfl dX11_laysPart_46 ?_
    refine g_getR FX11_9 sM_0 rfl dX11_laysPart_47 ?_
    refine g_bipush (v := 14) rfl dX11_laysPart_50 ?_
    refine g_iload_n 3 rfl rfl dX11_laysPart_52 ?_
    refine g_iadd dX11_laysPart_53 ?_
    obtain ⟨v10, ev10, h⟩ := g_bnd h
    refine g_iald' ev10 sM_1 dX11_laysPart_54 ?_
    refine g_istore (ls' := [(4, .int v10), (0, .ref (gAd V 0)), (1, .int x1), (2, .int x2), (3, .int x3)]) (Nat.le_of_ble_eq_true rfl) rfl dX11_laysPart_55 ?_
    refine g_aload_n 1 rfl rfl dX11_laysPart_57 ?_
    refine g_dup rfl dX11_laysPart_58 ?_
    refine g_getI FX11_114 sM_0 rfl dX11_laysPart_59 ?_
    refine g_aload_n 1 rfl rfl dX11_laysPart_62 ?_
    refine g_getR FX11_25 sM_0 rfl dX11_laysPart_63 ?_
    refine g_iload_n 3 rfl rfl dX11_laysPart_66 ?_
    obtain ⟨v11, ev11, h⟩ := g_bnd h
    refine g_iald' ev11 sM_6 dX11_laysPart_67 ?_
    refine g_iload 0 rfl dX11_laysPart_68 ?_
    obtain ⟨v12, ev12, h⟩ := g_bnd h
    refine g_callS LX11_93 (kX11_has ev12) rfl rfl (Nat.le_of_ble_eq_true rfl) ⟨Nat.le_of_ble_eq_true rfl, Nat.le_of_ble_eq_true rfl⟩ ⟨Nat.le_of_ble_eq_true rfl, Nat.le_of_ble_eq_true rfl⟩ dX11_laysPart_70 rfl ?_
    have KJ : gG X V mX11_laysPart gShM M0 0 0 83 [(4, .int v10), (0, .ref (gAd V 0)), (1, .int x1), (2, .int x2), (3, .int x3)] [.int (if v12 = 0 then (0 : Int32) else (1 : Int32) <<< (x3 &&& 31)), .int (M0.1 0 12), .ref (gAd V 0)] := by
      refine g_ior dX11_laysPart_83 ?_
      obtain ⟨M14, eM14, h⟩ := g_bnd h
      refine g_putI' eM14 FX11_114 jX11 sM_0 rfl rfl rfl dX11_laysPart_84 ?_
      refine g_aload_n 1 rfl rfl dX11_laysPart_87 ?_
      refine g_dup rfl dX11_laysPart_88 ?_
      refine g_getI FX11_117 sM_0 rfl dX11_laysPart_89 ?_
      refine g_aload_n 1 rfl rfl dX11_laysPart_92 ?_
      refine g_getR FX11_25 sM_0 rfl dX11_laysPart_93 ?_
      refine g_iload 0 rfl dX11_laysPart_96 ?_
      obtain ⟨v15, ev15, h⟩ := g_bnd h
      refine g_iald' ev15 sM_6 dX11_laysPart_98 ?_
      refine g_iload_n 2 rfl rfl dX11_laysPart_99 ?_
      obtain ⟨v16, ev16, h⟩ := g_bnd h
      refine g_callS LX11_93 (kX11_has ev16) rfl rfl (Nat.le_of_ble_eq_true rfl) ⟨Nat.le_of_ble_eq_true rfl, Nat.le_of_ble_eq_true rfl⟩ ⟨Nat.le_of_ble_eq_true rfl, Nat.le_of_ble_eq_true rfl⟩ dX11_laysPart_100 rfl ?_
      have KJ : gG X V mX11_laysPart gShM M14 0 0 113 [(4, .int v10), (0, .ref (gAd V 0)), (1, .int x1), (2, .int x2), (3, .int x3)] [.int (if v16 = 0 then (0 : Int32) else (1 : Int32) <<< (x3 &&& 31)), .int (M14.1 0 13), .ref (gAd V 0)] := by
        refine g_ior dX11_laysPart_113 ?_
        obtain ⟨M18, eM18, h⟩ := g_bnd h
        refine g_putI' eM18 FX11_117 jX11 sM_0 rfl rfl rfl dX11_laysPart_114 ?_
        refine g_iinc (j := 4) (v := x3 + (1 : Int32)) (ls' := [(3, .int (x3 + (1 : Int32))), (4, .int v10), (0, .ref (gAd V 0)), (1, .int x1), (2, .int x2)]) rfl rfl (Nat.le_of_ble_eq_true rfl) rfl dX11_laysPart_117 ?_
        refine g_goto (tgt := 38) rfl dX11_laysPart_120 ?_
        cases h
        refine g_sub [2, 3, 4, 0] rfl ?_
        exact Kc (x3 + (1 : Int32), M18) rfl
      by_cases c17 : v16 = 0
      · rw [if_pos c17] at KJ
        refine g_if_eq_t c17 (tgt := 112) rfl dX11_laysPart_103 ?_
        refine g_iconst (v := 0) rfl dX11_laysPart_112 ?_
        exact KJ
      · rw [if_neg c17] at KJ
        refine g_if_eq_f c17 (tgt := 112) rfl dX11_laysPart_103 ?_
        refine g_iconst (v := 1) rfl dX11_laysPart_106 ?_
        refine g_iload_n 4 rfl rfl dX11_laysPart_107 ?_
        refine g_ishl dX11_laysPart_108 ?_
        refine g_goto (tgt := 113) rfl dX11_laysPart_109 ?_
        exact KJ
    by_cases c13 : v12 = 0
    · rw [if_pos c13] at KJ
      refine g_if_eq_t c13 (tgt := 82) rfl dX11_laysPart_73 ?_
      refine g_iconst (v := 0) rfl dX11_laysPart_82 ?_
      exact KJ
    · rw [if_neg c13] at KJ
      refine g_if_eq_f c13 (tgt := 82) rfl dX11_laysPart_73 ?_
      refine g_iconst (v := 1) rfl dX11_laysPart_76 ?_
      refine g_iload_n 4 rfl rfl dX11_laysPart_77 ?_
      refine g_ishl dX11_laysPart_78 ?_
      refine g_goto (tgt := 83) rfl dX11_laysPart_79 ?_
      exact KJ
def fX11_laysPart_b226 (x3 : Int32) (s1 : Int32) (s2 : Int32) (M0 : gMem) : Option ((Int32 × gMem) ⊕ gMem) :=
  (wF M0 0 14 (s1 + s2)).bind fun M36 => some (.inl (x3 + (1 : Int32), M36))
set_option maxRecDepth 20000 in
theorem tX11_laysPart_b226 {X : gX} {V : gEnv} {x3 : Int32} {s1 : Int32} {s2 : Int32} {M0 : gMem}  {o : ((Int32 × gMem) ⊕ gMem)} (h : fX11_laysPart_b226 x3 s1 s2 M0 = some o) (Kc : ∀ s9, o = .inl s9 → gG X V mX11_laysPart gShM s9.2 0 0 130 [(0, .ref (gAd V 0)), (3, .int s9.1)] []) (Kx : ∀ e9, o = .inr e9 → gG X V mX11_laysPart gShM e9 0 0 236 [] []) : gG X V mX11_laysPart gShM M0 0 0 226 [(0, .ref (gAd V 0)), (3, .int x3)] [.int s2, .int s1, .ref (gAd V 0)] := by
  unfold fX11_laysPart_b226 at h
  refine g_iadd dX11_laysPart_226 ?_
  obtain ⟨M36, eM36, h⟩ := g_bnd h
  refine g_putI' eM36 FX11_120 jX11 sM_0 rfl rfl rfl dX11_laysPart_227 ?_
  refine g_iinc (j := 1) (v := x3 + (1 : Int32)) (ls' := [(3, .int (x3 + (1 : Int32))), (0, .ref (gAd V 0))]) rfl rfl (Nat.le_of_ble_eq_true rfl) rfl dX11_laysPart_230 ?_
  refine g_goto (tgt := 130) rfl dX11_laysPart_233 ?_
  cases h
  refine g_sub [1, 0] rfl ?_
  exact Kc (x3 + (1 : Int32), M36) rfl
def fX11_laysPart_b225 (x3 : Int32) (s1 : Int32) (M0 : gMem) : Option ((Int32 × gMem) ⊕ gMem) :=
  fX11_laysPart_b226 x3 s1 (0 : Int32) M0
set_option maxRecDepth 20000 in
theorem tX11_laysPart_b225 {X : gX} {V : gEnv} {x3 : Int32} {s1 : Int32} {M0 : gMem}  {o : ((Int32 × gMem) ⊕ gMem)} (h : fX11_laysPart_b225 x3 s1 M0 = some o) (Kc : ∀ s9, o = .inl s9 → gG X V mX11_laysPart gShM s9.2 0 0 130 [(0, .ref (gAd V 0)), (3, .int s9.1)] []) (Kx : ∀ e9, o = .inr e9 → gG X V mX11_laysPart gShM e9 0 0 236 [] []) : gG X V mX11_laysPart gShM M0 0 0 225 [(0, .ref (gAd V 0)), (3, .int x3)] [.int s1, .ref (gAd V 0)] := by
  unfold fX11_laysPart_b225 at h
  refine g_iconst (v := 0) rfl dX11_laysPart_225 ?_
  exact tX11_laysPart_b226  h Kc Kx
def fX11_laysPart_b181 (x3 : Int32) (s1 : Int32) (s2 : Int32) (M0 : gMem) : Option ((Int32 × gMem) ⊕ gMem) :=
  (wF M0 0 14 (s1 + s2)).bind fun M29 => (fX11_isInner x3 M29).bind fun v30 => if v30 = 0 then ((rI M29 1 374 ((98 : Int32) + x3)).bind fun v32 => (fX11_placeOf v32 M29).bind fun v33 => (fX11_has (M29.1 0 13) v33).bind fun v34 => if v34 = 0 then (fX11_laysPart_b225 x3 (M29.1 0 14) M29) else fX11_laysPart_b226 x3 (M29.1 0 14) (1 : Int32) M29) else fX11_laysPart_b225 x3 (M29.1 0 14) M29
set_option maxRecDepth 20000 in
theorem tX11_laysPart_b181 {X : gX} {V : gEnv} {x3 : Int32} {s1 : Int32} {s2 : Int32} {M0 : gMem}  {o : ((Int32 × gMem) ⊕ gMem)} (h : fX11_laysPart_b181 x3 s1 s2 M0 = some o) (Kc : ∀ s9, o = .inl s9 → gG X V mX11_laysPart gShM s9.2 0 0 130 [(0, .ref (gAd V 0)), (3, .int s9.1)] []) (Kx : ∀ e9, o = .inr e9 → gG X V mX11_laysPart gShM e9 0 0 236 [] []) : gG X V mX11_laysPart gShM M0 0 0 181 [(0, .ref (gAd V 0)), (3, .int x3)] [.int s2, .int s1, .ref (gAd V 0)] := by
  unfold fX11_laysPart_b181 at h
  refine g_iadd dX11_laysPart_181 ?_
  obtain ⟨M29, eM29, h⟩ := g_bnd h
  refine g_putI' eM29 FX11_120 jX11 sM_0 rfl rfl rfl dX11_laysPart_182 ?_
  refine g_aload_n 0 rfl rfl dX11_laysPart_185 ?_
  refine g_dup rfl dX11_laysPart_186 ?_
  refine g_getI FX11_120 sM_0 rfl dX11_laysPart_187 ?_
  refine g_aload_n 0 rfl rfl dX11_laysPart_190 ?_
  refine g_iload_n 1 rfl rfl dX11_laysPart_191 ?_
  obtain ⟨v30, ev30, h⟩ := g_bnd h
  refine g_callV LX11_97 sM_0 rfl (kX11_isInner ev30) rfl rfl (Nat.le_of_ble_eq_true rfl) ⟨Nat.le_of_ble_eq_true rfl, Nat.le_of_ble_eq_true rfl⟩ ⟨Nat.le_of_ble_eq_true rfl, Nat.le_of_ble_eq_true rfl⟩ dX11_laysPart_192 rfl ?_
  rcases g_ite h with ⟨c31, h⟩ | ⟨c31, h⟩
  · refine g_if_ne_f c31 (tgt := 225) rfl dX11_laysPart_195 ?_
    refine g_aload_n 0 rfl rfl dX11_laysPart_198 ?_
    refine g_getI FX11_117 sM_0 rfl dX11_laysPart_199 ?_
    refine g_aload_n 0 rfl rfl dX11_laysPart_202 ?_
    refine g_aload_n 0 rfl rfl dX11_laysPart_203 ?_
    refine g_getR FX11_9 sM_0 rfl dX11_laysPart_204 ?_
    refine g_bipush (v := 98) rfl dX11_laysPart_207 ?_
    refine g_iload_n 1 rfl rfl dX11_laysPart_209 ?_
    refine g_iadd dX11_laysPart_210 ?_
    obtain ⟨v32, ev32, h⟩ := g_bnd h
    refine g_iald' ev32 sM_1 dX11_laysPart_211 ?_
    obtain ⟨v33, ev33, h⟩ := g_bnd h
    refine g_callV LX11_101 sM_0 rfl (kX11_placeOf ev33) rfl rfl (Nat.le_of_ble_eq_true rfl) ⟨Nat.le_of_ble_eq_true rfl, Nat.le_of_ble_eq_true rfl⟩ ⟨Nat.le_of_ble_eq_true rfl, Nat.le_of_ble_eq_true rfl⟩ dX11_laysPart_212 rfl ?_
    obtain ⟨v34, ev34, h⟩ := g_bnd h
    refine g_callS LX11_93 (kX11_has ev34) rfl rfl (Nat.le_of_ble_eq_true rfl) ⟨Nat.le_of_ble_eq_true rfl, Nat.le_of_ble_eq_true rfl⟩ ⟨Nat.le_of_ble_eq_true rfl, Nat.le_of_ble_eq_true rfl⟩ dX11_laysPart_215 rfl ?_
    rcases g_ite h with ⟨c35, h⟩ | ⟨c35, h⟩
    · refine g_if_eq_t c35 (tgt := 225) rfl dX11_laysPart_218 ?_
      exact tX11_laysPart_b225  h Kc Kx
    · refine g_if_eq_f c35 (tgt := 225) rfl dX11_laysPart_218 ?_
      refine g_iconst (v := 1) rfl dX11_laysPart_221 ?_
      refine g_goto (tgt := 226) rfl dX11_laysPart_222 ?_
      exact tX11_laysPart_b226  h Kc Kx
  · refine g_if_ne_t c31 (tgt := 225) rfl dX11_laysPart_195 ?_
    exact tX11_laysPart_b225  h Kc Kx
def fX11_laysPart_b180 (x3 : Int32) (s1 : Int32) (M0 : gMem) : Option ((Int32 × gMem) ⊕ gMem) :=
  fX11_laysPart_b181 x3 s1 (0 : Int32) M0
set_option maxRecDepth 20000 in
theorem tX11_laysPart_b180 {X : gX} {V : gEnv} {x3 : Int32} {s1 : Int32} {M0 : gMem}  {o : ((Int32 × gMem) ⊕ gMem)} (h : fX11_laysPart_b180 x3 s1 M0 = some o) (Kc : ∀ s9, o = .inl s9 → gG X V mX11_laysPart gShM s9.2 0 0 130 [(0, .ref (gAd V 0)), (3, .int s9.1)] []) (Kx : ∀ e9, o = .inr e9 → gG X V mX11_laysPart gShM e9 0 0 236 [] []) : gG X V mX11_laysPart gShM M0 0 0 180 [(0, .ref (gAd V 0)), (3, .int x3)] [.int s1, .ref (gAd V 0)] := by
  unfold fX11_laysPart_b180 at h
  refine g_iconst (v := 0) rfl dX11_laysPart_180 ?_
  exact tX11_laysPart_b181  h Kc Kx
def fX11_laysPart_l130 (x3 : Int32) (M0 : gMem) : Option ((Int32 × gMem) ⊕ gMem) :=
  (rI M0 1 374 (1 : Int32)).bind fun v21 => if v21 ≤ x3 then (some (.inr M0)) else (fX11_isInner x3 M0).bind fun v23 => if v23 = 0 then ((rI M0 1 374 ((38 : Int32) + x3)).bind fun v25 => (fX11_placeOf v25 M0).bind fun v26 => (fX11_has (M0.1 0 12) v26).bind fun v27 => if v27 = 0 then (fX11_laysPart_b180 x3 (M0.1 0 14) M0) else fX11_laysPart_b181 x3 (M0.1 0 14) (1 : Int32) M0) else fX11_laysPart_b180 x3 (M0.1 0 14) M0
set_option maxRecDepth 20000 in
theorem tX11_laysPart_l130 {X : gX} {V : gEnv} {x3 : Int32} {M0 : gMem}  {o : ((Int32 × gMem) ⊕ gMem)} (h : fX11_laysPart_l130 x3 M0 = some o) (Kc : ∀ s9, o = .inl s9 → gG X V mX11_laysPart gShM s9.2 0 0 130 [(0, .ref (gAd V 0)), (3, .int s9.1)] []) (Kx : ∀ e9, o = .inr e9 → gG X V mX11_laysPart gShM e9 0 0 236 [] []) : gG X V mX11_laysPart gShM M0 0 0 130 [(0, .ref (gAd V 0)), (3, .int x3)] [] := by
  unfold fX11_laysPart_l130 at h
  refine g_iload_n 1 rfl rfl dX11_laysPart_130 ?_
  refine g_aload_n 0 rfl rfl dX11_laysPart_131 ?_
  refine g_getR FX11_9 sM_0 rfl dX11_laysPart_132 ?_
  refine g_iconst (v := 1) rfl dX11_laysPart_135 ?_
  obtain ⟨v21, ev21, h⟩ := g_bnd h
  refine g_iald' ev21 sM_1 dX11_laysPart_136 ?_
  rcases g_ite h with ⟨c22, h⟩ | ⟨c22, h⟩
  · refine g_icmp_ge_t c22 (tgt := 236) rfl dX11_laysPart_137 ?_
    cases h
    refine g_sub [] rfl ?_
    exact Kx M0 rfl
  · refine g_icmp_ge_f c22 (tgt := 236) rfl dX11_laysPart_137 ?_
    refine g_aload_n 0 rfl rfl dX11_laysPart_140 ?_
    refine g_dup rfl dX11_laysPart_141 ?_
    refine g_getI FX11_120 sM_0 rfl dX11_laysPart_142 ?_
    refine g_aload_n 0 rfl rfl dX11_laysPart_145 ?_
    refine g_iload_n 1 rfl rfl dX11_laysPart_146 ?_
    obtain ⟨v23, ev23, h⟩ := g_bnd h
    refine g_callV LX11_97 sM_0 rfl (kX11_isInner ev23) rfl rfl (Nat.le_of_ble_eq_true rfl) ⟨Nat.le_of_ble_eq_true rfl, Nat.le_of_ble_eq_true rfl⟩ ⟨Nat.le_of_ble_eq_true rfl, Nat.le_of_ble_eq_true rfl⟩ dX11_laysPart_147 rfl ?_
    rcases g_ite h with ⟨c24, h⟩ | ⟨c24, h⟩
    · refine g_if_ne_f c24 (tgt := 180) rfl dX11_laysPart_150 ?_
      refine g_aload_n 0 rfl rfl dX11_laysPart_153 ?_
      refine g_getI FX11_114 sM_0 rfl dX11_laysPart_154 ?_
      refine g_aload_n 0 rfl rfl dX11_laysPart_157 ?_
      refine g_aload_n 0 rfl rfl dX11_laysPart_158 ?_
      refine g_getR FX11_9 sM_0 rfl dX11_laysPart_159 ?_
      refine g_bipush (v := 38) rfl dX11_laysPart_162 ?_
      refine g_iload_n 1 rfl rfl dX11_laysPart_164 ?_
      refine g_iadd dX11_laysPart_165 ?_
      obtain ⟨v25, ev25, h⟩ := g_bnd h
      refine g_iald' ev25 sM_1 dX11_laysPart_166 ?_
      obtain ⟨v26, ev26, h⟩ := g_bnd h
      refine g_callV LX11_101 sM_0 rfl (kX11_placeOf ev26) rfl rfl (Nat.le_of_ble_eq_true rfl) ⟨Nat.le_of_ble_eq_true rfl, Nat.le_of_ble_eq_true rfl⟩ ⟨Nat.le_of_ble_eq_true rfl, Nat.le_of_ble_eq_true rfl⟩ dX11_laysPart_167 rfl ?_
      obtain ⟨v27, ev27, h⟩ := g_bnd h
      refine g_callS LX11_93 (kX11_has ev27) rfl rfl (Nat.le_of_ble_eq_true rfl) ⟨Nat.le_of_ble_eq_true rfl, Nat.le_of_ble_eq_true rfl⟩ ⟨Nat.le_of_ble_eq_true rfl, Nat.le_of_ble_eq_true rfl⟩ dX11_laysPart_170 rfl ?_
      rcases g_ite h with ⟨c28, h⟩ | ⟨c28, h⟩
      · refine g_if_eq_t c28 (tgt := 180) rfl dX11_laysPart_173 ?_
        exact tX11_laysPart_b180  h Kc Kx
      · refine g_if_eq_f c28 (tgt := 180) rfl dX11_laysPart_173 ?_
        refine g_iconst (v := 1) rfl dX11_laysPart_176 ?_
        refine g_goto (tgt := 181) rfl dX11_laysPart_177 ?_
        exact tX11_laysPart_b181  h Kc Kx
    · refine g_if_ne_t c24 (tgt := 180) rfl dX11_laysPart_150 ?_
      exact tX11_laysPart_b180  h Kc Kx
def fX11_laysPart (x1 : Int32) (x2 : Int32) (M0 : gMem) : Option gMem :=
  (fX11_laysReach (-1 : Int32) M0).bind fun v1 => (fX11_placeOf x2 v1).bind fun v2 => (wF v1 0 10 v2).bind fun M3 => (fX11_placeOf x1 M3).bind fun v4 => (wF M3 0 11 v4).bind fun M5 => (wF M5 0 12 (0 : Int32)).bind fun M6 => (wF M6 0 13 (0 : Int32)).bind fun M7 => (nm (M7.1 0 10)).bind fun v8 => (gLoop (fun z9 => fX11_laysPart_l38 x1 x2 z9.1 z9.2) gFu (v8, M7)).bind fun w19 => (wF w19 0 14 (0 : Int32)).bind fun M20 => (gLoop (fun z9 => fX11_laysPart_l130 z9.1 z9.2) gFu ((0 : Int32), M20)).bind fun w37 => some w37
set_option maxRecDepth 20000 in
theorem tX11_laysPart {X : gX} {V : gEnv} {x1 : Int32} {x2 : Int32} {M0 : gMem}  {o : gMem} (h : fX11_laysPart x1 x2 M0 = some o) (O : gO X V mX11_laysPart gShM none none o) : gG X V mX11_laysPart gShM M0 0 0 0 [(0, .ref (gAd V 0)), (1, .int x1), (2, .int x2)] [] := by
  unfold fX11_laysPart at h
  refine g_aload_n 0 rfl rfl dX11_laysPart_0 ?_
  refine g_iconst (v := -1) rfl dX11_laysPart_1 ?_
  obtain ⟨v1, ev1, h⟩ := g_bnd h
  refine g_callV LX11_104 sM_0 rfl (kX11_laysReach ev1) rfl rfl (Nat.le_of_ble_eq_true rfl) ⟨Nat.le_of_ble_eq_true rfl, Nat.le_of_ble_eq_true rfl⟩ ⟨Nat.le_of_ble_eq_true rfl, Nat.le_of_ble_eq_true rfl⟩ dX11_laysPart_2 rfl ?_
  refine g_aload_n 0 rfl rfl dX11_laysPart_5 ?_
  refine g_aload_n 0 rfl rfl dX11_laysPart_6 ?_
  refine g_iload_n 2 rfl rfl dX11_laysPart_7 ?_
  obtain ⟨v2, ev2, h⟩ := g_bnd h
  refine g_callV LX11_101 sM_0 rfl (kX11_placeOf ev2) rfl rfl (Nat.le_of_ble_eq_true rfl) ⟨Nat.le_of_ble_eq_true rfl, Nat.le_of_ble_eq_true rfl⟩ ⟨Nat.le_of_ble_eq_true rfl, Nat.le_of_ble_eq_true rfl⟩ dX11_laysPart_8 rfl ?_
  obtain ⟨M3, eM3, h⟩ := g_bnd h
  refine g_putI' eM3 FX11_108 jX11 sM_0 rfl rfl rfl dX11_laysPart_11 ?_
  refine g_aload_n 0 rfl rfl dX11_laysPart_14 ?_
  refine g_aload_n 0 rfl rfl dX11_laysPart_15 ?_
  refine g_iload_n 1 rfl rfl dX11_laysPart_16 ?_
  obtain ⟨v4, ev4, h⟩ := g_bnd h
  refine g_callV LX11_101 sM_0 rfl (kX11_placeOf ev4) rfl rfl (Nat.le_of_ble_eq_true rfl) ⟨Nat.le_of_ble_eq_true rfl, Nat.le_of_ble_eq_true rfl⟩ ⟨Nat.le_of_ble_eq_true rfl, Nat.le_of_ble_eq_true rfl⟩ dX11_laysPart_17 rfl ?_
  obtain ⟨M5, eM5, h⟩ := g_bnd h
  refine g_putI' eM5 FX11_111 jX11 sM_0 rfl rfl rfl dX11_laysPart_20 ?_
  refine g_aload_n 0 rfl rfl dX11_laysPart_23 ?_
  refine g_iconst (v := 0) rfl dX11_laysPart_24 ?_
  obtain ⟨M6, eM6, h⟩ := g_bnd h
  refine g_putI' eM6 FX11_114 jX11 sM_0 rfl rfl rfl dX11_laysPart_25 ?_
  refine g_aload_n 0 rfl rfl dX11_laysPart_28 ?_
  refine g_iconst (v := 0) rfl dX11_laysPart_29 ?_
  obtain ⟨M7, eM7, h⟩ := g_bnd h
  refine g_putI' eM7 FX11_117 jX11 sM_0 rfl rfl rfl dX11_laysPart_30 ?_
  refine g_aload_n 0 rfl rfl dX11_laysPart_33 ?_
  refine g_getI FX11_108 sM_0 rfl dX11_laysPart_34 ?_
  obtain ⟨v8, ev8, h⟩ := g_bnd h
  refine g_nmI ev8 ?_
  refine g_istore_n (ls' := [(3, .int v8), (0, .ref (gAd V 0)), (1, .int x1), (2, .int x2)]) rfl (Nat.le_of_ble_eq_true rfl) rfl dX11_laysPart_37 ?_
  obtain ⟨w19, ew19, h⟩ := g_bnd h
  refine g_sub [1, 2, 3, 0] rfl ?_
  have KX : gG X V mX11_laysPart gShM w19 0 0 123 [(0, .ref (gAd V 0))] [] := by
    refine g_aload_n 0 rfl rfl dX11_laysPart_123 ?_
    refine g_iconst (v := 0) rfl dX11_laysPart_124 ?_
    obtain ⟨M20, eM20, h⟩ := g_bnd h
    refine g_putI' eM20 FX11_120 jX11 sM_0 rfl rfl rfl dX11_laysPart_125 ?_
    refine g_iconst (v := 0) rfl dX11_laysPart_128 ?_
    refine g_istore_n (ls' := [(3, .int (0 : Int32)), (0, .ref (gAd V 0))]) rfl (Nat.le_of_ble_eq_true rfl) rfl dX11_laysPart_129 ?_
    obtain ⟨w37, ew37, h⟩ := g_bnd h
    refine g_sub [1, 0] rfl ?_
    have KX : gG X V mX11_laysPart gShM w37 0 0 236 [] [] := by
      cases h
      exact g_vret O ⟨Nat.le_of_ble_eq_true rfl, Nat.le_of_ble_eq_true rfl⟩ dX11_laysPart_236
    exact gLoop_Q ew37 (fun z9 => gG X V mX11_laysPart gShM z9.2 0 0 130 [(0, .ref (gAd V 0)), (3, .int z9.1)] []) (fun s9 o9 hb9 hc9 hx9 => tX11_laysPart_l130  hb9 hc9 (fun e9 he9 => by cases hx9 _ he9; exact KX))
  exact gLoop_Q ew19 (fun z9 => gG X V mX11_laysPart gShM z9.2 0 0 38 [(0, .ref (gAd V 0)), (1, .int x1), (2, .int x2), (3, .int z9.1)] []) (fun s9 o9 hb9 hc9 hx9 => tX11_laysPart_l38  hb9 hc9 (fun e9 he9 => by cases hx9 _ he9; exact KX))
theorem kX11_laysPart {l : Launch} {V : gEnv} {M0 : gMem} {x1 : Int32} {x2 : Int32}  {o : gMem} (h : fX11_laysPart x1 x2 M0 = some o) : gM l yX11_laysPart cX11_laysPart 5 none rX11_laysPart V gShM [.ref (gAd V 0), .int x1, .int x2] M0 none o :=
  gM.of (by decide) (Nat.le_of_ble_eq_true rfl) rfl (fun X _ O => tX11_laysPart  h O)
theorem dX11_reason_0 : decode cX11_reason 0 = .ok (.iload_n 1, 1) := by decide +kernel
theorem dX11_reason_1 : decode cX11_reason 1 = .ok (.iload_n 2, 1) := by decide +kernel
theorem dX11_reason_2 : decode cX11_reason 2 = .ok (.if_icmp .ne 5, 3) := by decide +kernel
theorem dX11_reason_5 : decode cX11_reason 5 = .ok (.iconst 1, 1) := by decide +kernel
theorem dX11_reason_6 : decode cX11_reason 6 = .ok (.ireturn, 1) := by decide +kernel
theorem dX11_reason_7 : decode cX11_reason 7 = .ok (.aload_n 0, 1) := by decide +kernel
theorem dX11_reason_8 : decode cX11_reason 8 = .ok (.iload_n 1, 1) := by decide +kernel
theorem dX11_reason_9 : decode cX11_reason 9 = .ok (.iload_n 2, 1) := by decide +kernel
theorem dX11_reason_10 : decode cX11_reason 10 = .ok (.invokevirtual 123, 3) := by decide +kernel
theorem dX11_reason_13 : decode cX11_reason 13 = .ok (.iconst (-1), 1) := by decide +kernel
theorem dX11_reason_14 : decode cX11_reason 14 = .ok (.if_icmp .eq 5, 3) := by decide +kernel
theorem dX11_reason_17 : decode cX11_reason 17 = .ok (.iconst 2, 1) := by decide +kernel
theorem dX11_reason_18 : decode cX11_reason 18 = .ok (.ireturn, 1) := by decide +kernel
theorem dX11_reason_19 : decode cX11_reason 19 = .ok (.aload_n 0, 1) := by decide +kernel
theorem dX11_reason_20 : decode cX11_reason 20 = .ok (.getfield 9, 3) := by decide +kernel
theorem dX11_reason_23 : decode cX11_reason 23 = .ok (.iconst 1, 1) := by decide +kernel
theorem dX11_reason_24 : decode cX11_reason 24 = .ok (.iaload, 1) := by decide +kernel
theorem dX11_reason_25 : decode cX11_reason 25 = .ok (.bipush 60, 2) := by decide +kernel
theorem dX11_reason_27 : decode cX11_reason 27 = .ok (.if_icmp .ne 5, 3) := by decide +kernel
theorem dX11_reason_30 : decode cX11_reason 30 = .ok (.iconst 3, 1) := by decide +kernel
theorem dX11_reason_31 : decode cX11_reason 31 = .ok (.ireturn, 1) := by decide +kernel
theorem dX11_reason_32 : decode cX11_reason 32 = .ok (.aload_n 0, 1) := by decide +kernel
theorem dX11_reason_33 : decode cX11_reason 33 = .ok (.getfield 9, 3) := by decide +kernel
theorem dX11_reason_36 : decode cX11_reason 36 = .ok (.iconst 4, 1) := by decide +kernel
theorem dX11_reason_37 : decode cX11_reason 37 = .ok (.iaload, 1) := by decide +kernel
theorem dX11_reason_38 : decode cX11_reason 38 = .ok (.iconst 1, 1) := by decide +kernel
theorem dX11_reason_39 : decode cX11_reason 39 = .ok (.if_icmp .eq 12, 3) := by decide +kernel
theorem dX11_reason_42 : decode cX11_reason 42 = .ok (.aload_n 0, 1) := by decide +kernel
theorem dX11_reason_43 : decode cX11_reason 43 = .ok (.iload_n 1, 1) := by decide +kernel
theorem dX11_reason_44 : decode cX11_reason 44 = .ok (.iload_n 2, 1) := by decide +kernel
theorem dX11_reason_45 : decode cX11_reason 45 = .ok (.invokevirtual 126, 3) := by decide +kernel
theorem dX11_reason_48 : decode cX11_reason 48 = .ok (.ifCond .ne 5, 3) := by decide +kernel
theorem dX11_reason_51 : decode cX11_reason 51 = .ok (.iconst 0, 1) := by decide +kernel
theorem dX11_reason_52 : decode cX11_reason 52 = .ok (.ireturn, 1) := by decide +kernel
theorem dX11_reason_53 : decode cX11_reason 53 = .ok (.aload_n 0, 1) := by decide +kernel
theorem dX11_reason_54 : decode cX11_reason 54 = .ok (.iload_n 1, 1) := by decide +kernel
theorem dX11_reason_55 : decode cX11_reason 55 = .ok (.iload_n 2, 1) := by decide +kernel
theorem dX11_reason_56 : decode cX11_reason 56 = .ok (.invokevirtual 129, 3) := by decide +kernel
theorem dX11_reason_59 : decode cX11_reason 59 = .ok (.aload_n 0, 1) := by decide +kernel
theorem dX11_reason_60 : decode cX11_reason 60 = .ok (.getfield 114, 3) := by decide +kernel
theorem dX11_reason_63 : decode cX11_reason 63 = .ok (.aload_n 0, 1) := by decide +kernel
theorem dX11_reason_64 : decode cX11_reason 64 = .ok (.getfield 117, 3) := by decide +kernel
theorem dX11_reason_67 : decode cX11_reason 67 = .ok (.iand, 1) := by decide +kernel
theorem dX11_reason_68 : decode cX11_reason 68 = .ok (.ifCond .eq 7, 3) := by decide +kernel
theorem dX11_reason_71 : decode cX11_reason 71 = .ok (.iconst 4, 1) := by decide +kernel
theorem dX11_reason_72 : decode cX11_reason 72 = .ok (.goto 4, 3) := by decide +kernel
theorem dX11_reason_75 : decode cX11_reason 75 = .ok (.iconst 0, 1) := by decide +kernel
theorem dX11_reason_76 : decode cX11_reason 76 = .ok (.ireturn, 1) := by decide +kernel
abbrev rX11_reason : Room := { frames := 3, cells := 0, slots := 0, locals := 68 }
abbrev mX11_reason : gY := (cX11_reason, RX11, 3, rX11_reason)
def fX11_reason (x1 : Int32) (x2 : Int32) (M0 : gMem) : Option (Int32 × gMem) :=
  if x1 = x2 then (some ((1 : Int32), M0)) else (fX11_arrowFrom x1 x2 M0).bind fun v2 => if v2 = (-1 : Int32) then ((rI M0 1 374 (1 : Int32)).bind fun v4 => if v4 = (60 : Int32) then (some ((3 : Int32), M0)) else (rI M0 1 374 (4 : Int32)).bind fun v6 => if v6 = (1 : Int32) then (some ((0 : Int32), M0)) else (fX11_needsRepair x1 x2 M0).bind fun v8 => if v8 = 0 then (some ((0 : Int32), M0)) else (fX11_laysPart x1 x2 M0).bind fun v10 => some (if ((v10.1 0 12) &&& (v10.1 0 13)) = 0 then (0 : Int32) else (4 : Int32), v10)) else some ((2 : Int32), M0)
set_option maxRecDepth 20000 in
theorem tX11_reason {X : gX} {V : gEnv} {x1 : Int32} {x2 : Int32} {M0 : gMem}  {o : (Int32 × gMem)} (h : fX11_reason x1 x2 M0 = some o) (O : gO X V mX11_reason gShM (some .int) (some (.int o.1)) o.2) : gG X V mX11_reason gShM M0 0 0 0 [(0, .ref (gAd V 0)), (1, .int x1), (2, .int x2)] [] := by
  unfold fX11_reason at h
  refine g_iload_n 1 rfl rfl dX11_reason_0 ?_
  refine g_iload_n 2 rfl rfl dX11_reason_1 ?_
  rcases g_ite h with ⟨c1, h⟩ | ⟨c1, h⟩
  · refine g_icmp_ne_f c1 (tgt := 7) rfl dX11_reason_2 ?_
    refine g_iconst (v := 1) rfl dX11_reason_5 ?_
    cases h
    exact g_iret O ⟨Nat.le_of_ble_eq_true rfl, Nat.le_of_ble_eq_true rfl⟩ rfl dX11_reason_6
  · refine g_icmp_ne_t c1 (tgt := 7) rfl dX11_reason_2 ?_
    refine g_aload_n 0 rfl rfl dX11_reason_7 ?_
    refine g_iload_n 1 rfl rfl dX11_reason_8 ?_
    refine g_iload_n 2 rfl rfl dX11_reason_9 ?_
    obtain ⟨v2, ev2, h⟩ := g_bnd h
    refine g_callV LX11_123 sM_0 rfl (kX11_arrowFrom ev2) rfl rfl (Nat.le_of_ble_eq_true rfl) ⟨Nat.le_of_ble_eq_true rfl, Nat.le_of_ble_eq_true rfl⟩ ⟨Nat.le_of_ble_eq_true rfl, Nat.le_of_ble_eq_true rfl⟩ dX11_reason_10 rfl ?_
    refine g_iconst (v := -1) rfl dX11_reason_13 ?_
    rcases g_ite h with ⟨c3, h⟩ | ⟨c3, h⟩
    · refine g_icmp_eq_t c3 (tgt := 19) rfl dX11_reason_14 ?_
      refine g_aload_n 0 rfl rfl dX11_reason_19 ?_
      refine g_getR FX11_9 sM_0 rfl dX11_reason_20 ?_
      refine g_iconst (v := 1) rfl dX11_reason_23 ?_
      obtain ⟨v4, ev4, h⟩ := g_bnd h
      refine g_iald' ev4 sM_1 dX11_reason_24 ?_
      refine g_bipush (v := 60) rfl dX11_reason_25 ?_
      rcases g_ite h with ⟨c5, h⟩ | ⟨c5, h⟩
      · refine g_icmp_ne_f c5 (tgt := 32) rfl dX11_reason_27 ?_
        refine g_iconst (v := 3) rfl dX11_reason_30 ?_
        cases h
        exact g_iret O ⟨Nat.le_of_ble_eq_true rfl, Nat.le_of_ble_eq_true rfl⟩ rfl dX11_reason_31
      · refine g_icmp_ne_t c5 (tgt := 32) rfl dX11_reason_27 ?_
        refine g_aload_n 0 rfl rfl dX11_reason_32 ?_
        refine g_getR FX11_9 sM_0 rfl dX11_reason_33 ?_
        refine g_iconst (v := 4) rfl dX11_reason_36 ?_
        obtain ⟨v6, ev6, h⟩ := g_bnd h
        refine g_iald' ev6 sM_1 dX11_reason_37 ?_
        refine g_iconst (v := 1) rfl dX11_reason_38 ?_
        rcases g_ite h with ⟨c7, h⟩ | ⟨c7, h⟩
        · refine g_icmp_eq_t c7 (tgt := 51) rfl dX11_reason_39 ?_
          refine g_iconst (v := 0) rfl dX11_reason_51 ?_
          cases h
          exact g_iret O ⟨Nat.le_of_ble_eq_true rfl, Nat.le_of_ble_eq_true rfl⟩ rfl dX11_reason_52
        · refine g_icmp_eq_f c7 (tgt := 51) rfl dX11_reason_39 ?_
          refine g_aload_n 0 rfl rfl dX11_reason_42 ?_
          refine g_iload_n 1 rfl rfl dX11_reason_43 ?_
          refine g_iload_n 2 rfl rfl dX11_reason_44 ?_
          obtain ⟨v8, ev8, h⟩ := g_bnd h
          refine g_callV LX11_126 sM_0 rfl (kX11_needsRepair ev8) rfl rfl (Nat.le_of_ble_eq_true rfl) ⟨Nat.le_of_ble_eq_true rfl, Nat.le_of_ble_eq_true rfl⟩ ⟨Nat.le_of_ble_eq_true rfl, Nat.le_of_ble_eq_true rfl⟩ dX11_reason_45 rfl ?_
          rcases g_ite h with ⟨c9, h⟩ | ⟨c9, h⟩
          · refine g_if_ne_f c9 (tgt := 53) rfl dX11_reason_48 ?_
            refine g_iconst (v := 0) rfl dX11_reason_51 ?_
            cases h
            exact g_iret O ⟨Nat.le_of_ble_eq_true rfl, Nat.le_of_ble_eq_true rfl⟩ rfl dX11_reason_52
          · refine g_if_ne_t c9 (tgt := 53) rfl dX11_reason_48 ?_
            refine g_aload_n 0 rfl rfl dX11_reason_53 ?_
            refine g_iload_n 1 rfl rfl dX11_reason_54 ?_
            refine g_iload_n 2 rfl rfl dX11_reason_55 ?_
            obtain ⟨v10, ev10, h⟩ := g_bnd h
            refine g_callV LX11_129 sM_0 rfl (kX11_laysPart ev10) rfl rfl (Nat.le_of_ble_eq_true rfl) ⟨Nat.le_of_ble_eq_true rfl, Nat.le_of_ble_eq_true rfl⟩ ⟨Nat.le_of_ble_eq_true rfl, Nat.le_of_ble_eq_true rfl⟩ dX11_reason_56 rfl ?_
            refine g_aload_n 0 rfl rfl dX11_reason_59 ?_
            refine g_getI FX11_114 sM_0 rfl dX11_reason_60 ?_
            refine g_aload_n 0 rfl rfl dX11_reason_63 ?_
            refine g_getI FX11_117 sM_0 rfl dX11_reason_64 ?_
            refine g_iand dX11_reason_67 ?_
            have KJ : gG X V mX11_reason gShM v10 0 0 76 [(0, .ref (gAd V 0)), (1, .int x1), (2, .int x2)] [.int (if ((v10.1 0 12) &&& (v10.1 0 13)) = 0 then (0 : Int32) else (4 : Int32))] := by
              cases h
              exact g_iret O ⟨Nat.le_of_ble_eq_true rfl, Nat.le_of_ble_eq_true rfl⟩ rfl dX11_reason_76
            by_cases c11 : ((v10.1 0 12) &&& (v10.1 0 13)) = 0
            · rw [if_pos c11] at KJ
              refine g_if_eq_t c11 (tgt := 75) rfl dX11_reason_68 ?_
              refine g_iconst (v := 0) rfl dX11_reason_75 ?_
              exact KJ
            · rw [if_neg c11] at KJ
              refine g_if_eq_f c11 (tgt := 75) rfl dX11_reason_68 ?_
              refine g_iconst (v := 4) rfl dX11_reason_71 ?_
              refine g_goto (tgt := 76) rfl dX11_reason_72 ?_
              exact KJ
    · refine g_icmp_eq_f c3 (tgt := 19) rfl dX11_reason_14 ?_
      refine g_iconst (v := 2) rfl dX11_reason_17 ?_
      cases h
      exact g_iret O ⟨Nat.le_of_ble_eq_true rfl, Nat.le_of_ble_eq_true rfl⟩ rfl dX11_reason_18
theorem kX11_reason {l : Launch} {V : gEnv} {M0 : gMem} {x1 : Int32} {x2 : Int32}  {o : (Int32 × gMem)} (h : fX11_reason x1 x2 M0 = some o) : gM l yX11_reason cX11_reason 3 (some .int) rX11_reason V gShM [.ref (gAd V 0), .int x1, .int x2] M0 (some (.int o.1)) o.2 :=
  gM.of (by decide) (Nat.le_of_ble_eq_true rfl) rfl (fun X _ O => tX11_reason  h O)
theorem dX11_adds_0 : decode cX11_adds 0 = .ok (.aload_n 0, 1) := by decide +kernel
theorem dX11_adds_1 : decode cX11_adds 1 = .ok (.getfield 31, 3) := by decide +kernel
theorem dX11_adds_4 : decode cX11_adds 4 = .ok (.aload_n 0, 1) := by decide +kernel
theorem dX11_adds_5 : decode cX11_adds 5 = .ok (.getfield 133, 3) := by decide +kernel
theorem dX11_adds_8 : decode cX11_adds 8 = .ok (.iload_n 1, 1) := by decide +kernel
theorem dX11_adds_9 : decode cX11_adds 9 = .ok (.iastore, 1) := by decide +kernel
theorem dX11_adds_10 : decode cX11_adds 10 = .ok (.aload_n 0, 1) := by decide +kernel
theorem dX11_adds_11 : decode cX11_adds 11 = .ok (.dup, 1) := by decide +kernel
theorem dX11_adds_12 : decode cX11_adds 12 = .ok (.getfield 133, 3) := by decide +kernel
theorem dX11_adds_15 : decode cX11_adds 15 = .ok (.iconst 1, 1) := by decide +kernel
theorem dX11_adds_16 : decode cX11_adds 16 = .ok (.iadd, 1) := by decide +kernel
theorem dX11_adds_17 : decode cX11_adds 17 = .ok (.putfield 133, 3) := by decide +kernel
theorem dX11_adds_20 : decode cX11_adds 20 = .ok (.return_, 1) := by decide +kernel
abbrev rX11_adds : Room := { frames := 0, cells := 0, slots := 0, locals := 0 }
abbrev mX11_adds : gY := (cX11_adds, RX11, 2, rX11_adds)
def fX11_adds (x1 : Int32) (M0 : gMem) : Option gMem :=
  (wI M0 8 24 (M0.1 0 16) x1).bind fun M1 => (wF M1 0 16 ((M1.1 0 16) + (1 : Int32))).bind fun M2 => some M2
set_option maxRecDepth 20000 in
theorem tX11_adds {X : gX} {V : gEnv} {x1 : Int32} {M0 : gMem}  {o : gMem} (h : fX11_adds x1 M0 = some o) (O : gO X V mX11_adds gShM none none o) : gG X V mX11_adds gShM M0 0 0 0 [(0, .ref (gAd V 0)), (1, .int x1)] [] := by
  unfold fX11_adds at h
  refine g_aload_n 0 rfl rfl dX11_adds_0 ?_
  refine g_getR FX11_31 sM_0 rfl dX11_adds_1 ?_
  refine g_aload_n 0 rfl rfl dX11_adds_4 ?_
  refine g_getI FX11_133 sM_0 rfl dX11_adds_5 ?_
  refine g_iload_n 1 rfl rfl dX11_adds_8 ?_
  obtain ⟨M1, eM1, h⟩ := g_bnd h
  refine g_iast' eM1 sM_8 dX11_adds_9 ?_
  refine g_aload_n 0 rfl rfl dX11_adds_10 ?_
  refine g_dup rfl dX11_adds_11 ?_
  refine g_getI FX11_133 sM_0 rfl dX11_adds_12 ?_
  refine g_iconst (v := 1) rfl dX11_adds_15 ?_
  refine g_iadd dX11_adds_16 ?_
  obtain ⟨M2, eM2, h⟩ := g_bnd h
  refine g_putI' eM2 FX11_133 jX11 sM_0 rfl rfl rfl dX11_adds_17 ?_
  cases h
  exact g_vret O ⟨Nat.le_of_ble_eq_true rfl, Nat.le_of_ble_eq_true rfl⟩ dX11_adds_20
theorem kX11_adds {l : Launch} {V : gEnv} {M0 : gMem} {x1 : Int32}  {o : gMem} (h : fX11_adds x1 M0 = some o) : gM l yX11_adds cX11_adds 2 none rX11_adds V gShM [.ref (gAd V 0), .int x1] M0 none o :=
  gM.of (by decide) (Nat.le_of_ble_eq_true rfl) rfl (fun X _ O => tX11_adds  h O)
theorem dX11_addsAll_0 : decode cX11_addsAll 0 = .ok (.aload_n 0, 1) := by decide +kernel
theorem dX11_addsAll_1 : decode cX11_addsAll 1 = .ok (.getfield 108, 3) := by decide +kernel
theorem dX11_addsAll_4 : decode cX11_addsAll 4 = .ok (.istore_n 2, 1) := by decide +kernel
theorem dX11_addsAll_5 : decode cX11_addsAll 5 = .ok (.iload_n 2, 1) := by decide +kernel
theorem dX11_addsAll_6 : decode cX11_addsAll 6 = .ok (.aload_n 0, 1) := by decide +kernel
theorem dX11_addsAll_7 : decode cX11_addsAll 7 = .ok (.getfield 111, 3) := by decide +kernel
theorem dX11_addsAll_10 : decode cX11_addsAll 10 = .ok (.if_icmp .gt 22, 3) := by decide +kernel
theorem dX11_addsAll_13 : decode cX11_addsAll 13 = .ok (.iload_n 1, 1) := by decide +kernel
theorem dX11_addsAll_14 : decode cX11_addsAll 14 = .ok (.iload_n 2, 1) := by decide +kernel
theorem dX11_addsAll_15 : decode cX11_addsAll 15 = .ok (.invokestatic 93, 3) := by decide +kernel
theorem dX11_addsAll_18 : decode cX11_addsAll 18 = .ok (.ifCond .eq 8, 3) := by decide +kernel
theorem dX11_addsAll_21 : decode cX11_addsAll 21 = .ok (.aload_n 0, 1) := by decide +kernel
theorem dX11_addsAll_22 : decode cX11_addsAll 22 = .ok (.iload_n 2, 1) := by decide +kernel
theorem dX11_addsAll_23 : decode cX11_addsAll 23 = .ok (.invokevirtual 136, 3) := by decide +kernel
theorem dX11_addsAll_26 : decode cX11_addsAll 26 = .ok (.iinc 2 1, 3) := by decide +kernel
theorem dX11_addsAll_29 : decode cX11_addsAll 29 = .ok (.goto (-24), 3) := by decide +kernel
theorem dX11_addsAll_32 : decode cX11_addsAll 32 = .ok (.return_, 1) := by decide +kernel
abbrev rX11_addsAll : Room := { frames := 1, cells := 0, slots := 0, locals := 21 }
abbrev mX11_addsAll : gY := (cX11_addsAll, RX11, 3, rX11_addsAll)
def fX11_addsAll_b26 (x1 : Int32) (x2 : Int32) (M0 : gMem) : Option ((Int32 × gMem) ⊕ gMem) :=
  some (.inl (x2 + (1 : Int32), M0))
set_option maxRecDepth 20000 in
theorem tX11_addsAll_b26 {X : gX} {V : gEnv} {x1 : Int32} {x2 : Int32} {M0 : gMem}  {o : ((Int32 × gMem) ⊕ gMem)} (h : fX11_addsAll_b26 x1 x2 M0 = some o) (Kc : ∀ s9, o = .inl s9 → gG X V mX11_addsAll gShM s9.2 0 0 5 [(0, .ref (gAd V 0)), (1, .int x1), (2, .int s9.1)] []) (Kx : ∀ e9, o = .inr e9 → gG X V mX11_addsAll gShM e9 0 0 32 [] []) : gG X V mX11_addsAll gShM M0 0 0 26 [(0, .ref (gAd V 0)), (1, .int x1), (2, .int x2)] [] := by
  unfold fX11_addsAll_b26 at h
  refine g_iinc (j := 2) (v := x2 + (1 : Int32)) (ls' := [(2, .int (x2 + (1 : Int32))), (0, .ref (gAd V 0)), (1, .int x1)]) rfl rfl (Nat.le_of_ble_eq_true rfl) rfl dX11_addsAll_26 ?_
  refine g_goto (tgt := 5) rfl dX11_addsAll_29 ?_
  cases h
  refine g_sub [1, 2, 0] rfl ?_
  exact Kc (x2 + (1 : Int32), M0) rfl
def fX11_addsAll_l5 (x1 : Int32) (x2 : Int32) (M0 : gMem) : Option ((Int32 × gMem) ⊕ gMem) :=
  if (M0.1 0 11) < x2 then (some (.inr M0)) else (fX11_has x1 x2).bind fun v3 => if v3 = 0 then (fX11_addsAll_b26 x1 x2 M0) else (fX11_adds x2 M0).bind fun v5 => fX11_addsAll_b26 x1 x2 v5
set_option maxRecDepth 20000 in
theorem tX11_addsAll_l5 {X : gX} {V : gEnv} {x1 : Int32} {x2 : Int32} {M0 : gMem}  {o : ((Int32 × gMem) ⊕ gMem)} (h : fX11_addsAll_l5 x1 x2 M0 = some o) (Kc : ∀ s9, o = .inl s9 → gG X V mX11_addsAll gShM s9.2 0 0 5 [(0, .ref (gAd V 0)), (1, .int x1), (2, .int s9.1)] []) (Kx : ∀ e9, o = .inr e9 → gG X V mX11_addsAll gShM e9 0 0 32 [] []) : gG X V mX11_addsAll gShM M0 0 0 5 [(0, .ref (gAd V 0)), (1, .int x1), (2, .int x2)] [] := by
  unfold fX11_addsAll_l5 at h
  refine g_iload_n 2 rfl rfl dX11_addsAll_5 ?_
  refine g_aload_n 0 rfl rfl dX11_addsAll_6 ?_
  refine g_getI FX11_111 sM_0 rfl dX11_addsAll_7 ?_
  rcases g_ite h with ⟨c2, h⟩ | ⟨c2, h⟩
  · refine g_icmp_gt_t c2 (tgt := 32) rfl dX11_addsAll_10 ?_
    cases h
    refine g_sub [] rfl ?_
    exact Kx M0 rfl
  · refine g_icmp_gt_f c2 (tgt := 32) rfl dX11_addsAll_10 ?_
    refine g_iload_n 1 rfl rfl dX11_addsAll_13 ?_
    refine g_iload_n 2 rfl rfl dX11_addsAll_14 ?_
    obtain ⟨v3, ev3, h⟩ := g_bnd h
    refine g_callS LX11_93 (kX11_has ev3) rfl rfl (Nat.le_of_ble_eq_true rfl) ⟨Nat.le_of_ble_eq_true rfl, Nat.le_of_ble_eq_true rfl⟩ ⟨Nat.le_of_ble_eq_true rfl, Nat.le_of_ble_eq_true rfl⟩ dX11_addsAll_15 rfl ?_
    rcases g_ite h with ⟨c4, h⟩ | ⟨c4, h⟩
    · refine g_if_eq_t c4 (tgt := 26) rfl dX11_addsAll_18 ?_
      exact tX11_addsAll_b26  h Kc Kx
    · refine g_if_eq_f c4 (tgt := 26) rfl dX11_addsAll_18 ?_
      refine g_aload_n 0 rfl rfl dX11_addsAll_21 ?_
      refine g_iload_n 2 rfl rfl dX11_addsAll_22 ?_
      obtain ⟨v5, ev5, h⟩ := g_bnd h
      refine g_callV LX11_136 sM_0 rfl (kX11_adds ev5) rfl rfl (Nat.le_of_ble_eq_true rfl) ⟨Nat.le_of_ble_eq_true rfl, Nat.le_of_ble_eq_true rfl⟩ ⟨Nat.le_of_ble_eq_true rfl, Nat.le_of_ble_eq_true rfl⟩ dX11_addsAll_23 rfl ?_
      exact tX11_addsAll_b26  h Kc Kx
def fX11_addsAll (x1 : Int32) (M0 : gMem) : Option gMem :=
  (nm (M0.1 0 10)).bind fun v1 => (gLoop (fun z9 => fX11_addsAll_l5 x1 z9.1 z9.2) gFu (v1, M0)).bind fun w6 => some w6
set_option maxRecDepth 20000 in
theorem tX11_addsAll {X : gX} {V : gEnv} {x1 : Int32} {M0 : gMem}  {o : gMem} (h : fX11_addsAll x1 M0 = some o) (O : gO X V mX11_addsAll gShM none none o) : gG X V mX11_addsAll gShM M0 0 0 0 [(0, .ref (gAd V 0)), (1, .int x1)] [] := by
  unfold fX11_addsAll at h
  refine g_aload_n 0 rfl rfl dX11_addsAll_0 ?_
  refine g_getI FX11_108 sM_0 rfl dX11_addsAll_1 ?_
  obtain ⟨v1, ev1, h⟩ := g_bnd h
  refine g_nmI ev1 ?_
  refine g_istore_n (ls' := [(2, .int v1), (0, .ref (gAd V 0)), (1, .int x1)]) rfl (Nat.le_of_ble_eq_true rfl) rfl dX11_addsAll_4 ?_
  obtain ⟨w6, ew6, h⟩ := g_bnd h
  refine g_sub [1, 2, 0] rfl ?_
  have KX : gG X V mX11_addsAll gShM w6 0 0 32 [] [] := by
    cases h
    exact g_vret O ⟨Nat.le_of_ble_eq_true rfl, Nat.le_of_ble_eq_true rfl⟩ dX11_addsAll_32
  exact gLoop_Q ew6 (fun z9 => gG X V mX11_addsAll gShM z9.2 0 0 5 [(0, .ref (gAd V 0)), (1, .int x1), (2, .int z9.1)] []) (fun s9 o9 hb9 hc9 hx9 => tX11_addsAll_l5  hb9 hc9 (fun e9 he9 => by cases hx9 _ he9; exact KX))
theorem kX11_addsAll {l : Launch} {V : gEnv} {M0 : gMem} {x1 : Int32}  {o : gMem} (h : fX11_addsAll x1 M0 = some o) : gM l yX11_addsAll cX11_addsAll 3 none rX11_addsAll V gShM [.ref (gAd V 0), .int x1] M0 none o :=
  gM.of (by decide) (Nat.le_of_ble_eq_true rfl) rfl (fun X _ O => tX11_addsAll  h O)
theorem dX11_addsJoined_0 : decode cX11_addsJoined 0 = .ok (.aload_n 0, 1) := by decide +kernel
theorem dX11_addsJoined_1 : decode cX11_addsJoined 1 = .ok (.getfield 114, 3) := by decide +kernel
theorem dX11_addsJoined_4 : decode cX11_addsJoined 4 = .ok (.aload_n 0, 1) := by decide +kernel
theorem dX11_addsJoined_5 : decode cX11_addsJoined 5 = .ok (.getfield 117, 3) := by decide +kernel
theorem dX11_addsJoined_8 : decode cX11_addsJoined 8 = .ok (.iand, 1) := by decide +kernel
theorem dX11_addsJoined_9 : decode cX11_addsJoined 9 = .ok (.ifCond .eq 9, 3) := by decide +kernel
theorem dX11_addsJoined_12 : decode cX11_addsJoined 12 = .ok (.aload_n 0, 1) := by decide +kernel
theorem dX11_addsJoined_13 : decode cX11_addsJoined 13 = .ok (.bipush (-2), 2) := by decide +kernel
theorem dX11_addsJoined_15 : decode cX11_addsJoined 15 = .ok (.invokevirtual 136, 3) := by decide +kernel
theorem dX11_addsJoined_18 : decode cX11_addsJoined 18 = .ok (.return_, 1) := by decide +kernel
abbrev rX11_addsJoined : Room := { frames := 1, cells := 0, slots := 0, locals := 21 }
abbrev mX11_addsJoined : gY := (cX11_addsJoined, RX11, 1, rX11_addsJoined)
def fX11_addsJoined (M0 : gMem) : Option gMem :=
  if ((M0.1 0 12) &&& (M0.1 0 13)) = 0 then (some M0) else (fX11_adds (-2 : Int32) M0).bind fun v2 => some v2
set_option maxRecDepth 20000 in
theorem tX11_addsJoined {X : gX} {V : gEnv} {M0 : gMem}  {o : gMem} (h : fX11_addsJoined M0 = some o) (O : gO X V mX11_addsJoined gShM none none o) : gG X V mX11_addsJoined gShM M0 0 0 0 [(0, .ref (gAd V 0))] [] := by
  unfold fX11_addsJoined at h
  refine g_aload_n 0 rfl rfl dX11_addsJoined_0 ?_
  refine g_getI FX11_114 sM_0 rfl dX11_addsJoined_1 ?_
  refine g_aload_n 0 rfl rfl dX11_addsJoined_4 ?_
  refine g_getI FX11_117 sM_0 rfl dX11_addsJoined_5 ?_
  refine g_iand dX11_addsJoined_8 ?_
  rcases g_ite h with ⟨c1, h⟩ | ⟨c1, h⟩
  · refine g_if_eq_t c1 (tgt := 18) rfl dX11_addsJoined_9 ?_
    cases h
    exact g_vret O ⟨Nat.le_of_ble_eq_true rfl, Nat.le_of_ble_eq_true rfl⟩ dX11_addsJoined_18
  · refine g_if_eq_f c1 (tgt := 18) rfl dX11_addsJoined_9 ?_
    refine g_aload_n 0 rfl rfl dX11_addsJoined_12 ?_
    refine g_bipush (v := -2) rfl dX11_addsJoined_13 ?_
    obtain ⟨v2, ev2, h⟩ := g_bnd h
    refine g_callV LX11_136 sM_0 rfl (kX11_adds ev2) rfl rfl (Nat.le_of_ble_eq_true rfl) ⟨Nat.le_of_ble_eq_true rfl, Nat.le_of_ble_eq_true rfl⟩ ⟨Nat.le_of_ble_eq_true rfl, Nat.le_of_ble_eq_true rfl⟩ dX11_addsJoined_15 rfl ?_
    cases h
    exact g_vret O ⟨Nat.le_of_ble_eq_true rfl, Nat.le_of_ble_eq_true rfl⟩ dX11_addsJoined_18
theorem kX11_addsJoined {l : Launch} {V : gEnv} {M0 : gMem}   {o : gMem} (h : fX11_addsJoined M0 = some o) : gM l yX11_addsJoined cX11_addsJoined 1 none rX11_addsJoined V gShM [.ref (gAd V 0)] M0 none o :=
  gM.of (by decide) (Nat.le_of_ble_eq_true rfl) rfl (fun X _ O => tX11_addsJoined  h O)
theorem dX11_affected_0 : decode cX11_affected 0 = .ok (.iconst 0, 1) := by decide +kernel
theorem dX11_affected_1 : decode cX11_affected 1 = .ok (.istore_n 1, 1) := by decide +kernel
theorem dX11_affected_2 : decode cX11_affected 2 = .ok (.aload_n 0, 1) := by decide +kernel
theorem dX11_affected_3 : decode cX11_affected 3 = .ok (.getfield 108, 3) := by decide +kernel
theorem dX11_affected_6 : decode cX11_affected 6 = .ok (.istore_n 2, 1) := by decide +kernel
theorem dX11_affected_7 : decode cX11_affected 7 = .ok (.iload_n 2, 1) := by decide +kernel
theorem dX11_affected_8 : decode cX11_affected 8 = .ok (.aload_n 0, 1) := by decide +kernel
theorem dX11_affected_9 : decode cX11_affected 9 = .ok (.getfield 111, 3) := by decide +kernel
theorem dX11_affected_12 : decode cX11_affected 12 = .ok (.if_icmp .gt 15, 3) := by decide +kernel
theorem dX11_affected_15 : decode cX11_affected 15 = .ok (.iload_n 1, 1) := by decide +kernel
theorem dX11_affected_16 : decode cX11_affected 16 = .ok (.iconst 1, 1) := by decide +kernel
theorem dX11_affected_17 : decode cX11_affected 17 = .ok (.iload_n 2, 1) := by decide +kernel
theorem dX11_affected_18 : decode cX11_affected 18 = .ok (.ishl, 1) := by decide +kernel
theorem dX11_affected_19 : decode cX11_affected 19 = .ok (.ior, 1) := by decide +kernel
theorem dX11_affected_20 : decode cX11_affected 20 = .ok (.istore_n 1, 1) := by decide +kernel
theorem dX11_affected_21 : decode cX11_affected 21 = .ok (.iinc 2 1, 3) := by decide +kernel
theorem dX11_affected_24 : decode cX11_affected 24 = .ok (.goto (-17), 3) := by decide +kernel
theorem dX11_affected_27 : decode cX11_affected 27 = .ok (.iload_n 1, 1) := by decide +kernel
theorem dX11_affected_28 : decode cX11_affected 28 = .ok (.ireturn, 1) := by decide +kernel
abbrev rX11_affected : Room := { frames := 0, cells := 0, slots := 0, locals := 0 }
abbrev mX11_affected : gY := (cX11_affected, RX11, 3, rX11_affected)
def fX11_affected_l7 (M0 : gMem) (x1 : Int32) (x2 : Int32) : Option ((Int32 × Int32) ⊕ Int32) :=
  if (M0.1 0 11) < x2 then (some (.inr x1)) else (nm (x1 ||| ((1 : Int32) <<< (x2 &&& 31)))).bind fun v3 => some (.inl (v3, x2 + (1 : Int32)))
set_option maxRecDepth 20000 in
theorem tX11_affected_l7 {X : gX} {V : gEnv} {M0 : gMem} {x1 : Int32} {x2 : Int32}  {o : ((Int32 × Int32) ⊕ Int32)} (h : fX11_affected_l7 M0 x1 x2 = some o) (Kc : ∀ s9, o = .inl s9 → gG X V mX11_affected gShM M0 0 0 7 [(0, .ref (gAd V 0)), (1, .int s9.1), (2, .int s9.2)] []) (Kx : ∀ e9, o = .inr e9 → gG X V mX11_affected gShM M0 0 0 27 [(1, .int e9)] []) : gG X V mX11_affected gShM M0 0 0 7 [(0, .ref (gAd V 0)), (1, .int x1), (2, .int x2)] [] := by
  unfold fX11_affected_l7 at h
  refine g_iload_n 2 rfl rfl dX11_affected_7 ?_
  refine g_aload_n 0 rfl rfl dX11_affected_8 ?_
  refine g_getI FX11_111 sM_0 rfl dX11_affected_9 ?_
  rcases g_ite h with ⟨c2, h⟩ | ⟨c2, h⟩
  · refine g_icmp_gt_t c2 (tgt := 27) rfl dX11_affected_12 ?_
    cases h
    refine g_sub [1] rfl ?_
    exact Kx x1 rfl
  · refine g_icmp_gt_f c2 (tgt := 27) rfl dX11_affected_12 ?_
    refine g_iload_n 1 rfl rfl dX11_affected_15 ?_
    refine g_iconst (v := 1) rfl dX11_affected_16 ?_
    refine g_iload_n 2 rfl rfl dX11_affected_17 ?_
    refine g_ishl dX11_affected_18 ?_
    refine g_ior dX11_affected_19 ?_
    obtain ⟨v3, ev3, h⟩ := g_bnd h
    refine g_nmI ev3 ?_
    refine g_istore_n (ls' := [(1, .int v3), (0, .ref (gAd V 0)), (2, .int x2)]) rfl (Nat.le_of_ble_eq_true rfl) rfl dX11_affected_20 ?_
    refine g_iinc (j := 2) (v := x2 + (1 : Int32)) (ls' := [(2, .int (x2 + (1 : Int32))), (1, .int v3), (0, .ref (gAd V 0))]) rfl rfl (Nat.le_of_ble_eq_true rfl) rfl dX11_affected_21 ?_
    refine g_goto (tgt := 7) rfl dX11_affected_24 ?_
    cases h
    refine g_sub [2, 1, 0] rfl ?_
    exact Kc (v3, x2 + (1 : Int32)) rfl
def fX11_affected (M0 : gMem) : Option Int32 :=
  (nm (M0.1 0 10)).bind fun v1 => (gLoop (fun z9 => fX11_affected_l7 M0 z9.1 z9.2) gFu ((0 : Int32), v1)).bind fun w4 => some w4
set_option maxRecDepth 20000 in
theorem tX11_affected {X : gX} {V : gEnv} {M0 : gMem}  {o : Int32} (h : fX11_affected M0 = some o) (O : gO X V mX11_affected gShM (some .int) (some (.int o)) M0) : gG X V mX11_affected gShM M0 0 0 0 [(0, .ref (gAd V 0))] [] := by
  unfold fX11_affected at h
  refine g_iconst (v := 0) rfl dX11_affected_0 ?_
  refine g_istore_n (ls' := [(1, .int (0 : Int32)), (0, .ref (gAd V 0))]) rfl (Nat.le_of_ble_eq_true rfl) rfl dX11_affected_1 ?_
  refine g_aload_n 1 rfl rfl dX11_affected_2 ?_
  refine g_getI FX11_108 sM_0 rfl dX11_affected_3 ?_
  obtain ⟨v1, ev1, h⟩ := g_bnd h
  refine g_nmI ev1 ?_
  refine g_istore_n (ls' := [(2, .int v1), (1, .int (0 : Int32)), (0, .ref (gAd V 0))]) rfl (Nat.le_of_ble_eq_true rfl) rfl dX11_affected_6 ?_
  obtain ⟨w4, ew4, h⟩ := g_bnd h
  refine g_sub [2, 1, 0] rfl ?_
  have KX : gG X V mX11_affected gShM M0 0 0 27 [(1, .int w4)] [] := by
    refine g_iload_n 0 rfl rfl dX11_affected_27 ?_
    cases h
    exact g_iret O ⟨Nat.le_of_ble_eq_true rfl, Nat.le_of_ble_eq_true rfl⟩ rfl dX11_affected_28
  exact gLoop_Q ew4 (fun z9 => gG X V mX11_affected gShM M0 0 0 7 [(0, .ref (gAd V 0)), (1, .int z9.1), (2, .int z9.2)] []) (fun s9 o9 hb9 hc9 hx9 => tX11_affected_l7  hb9 hc9 (fun e9 he9 => by cases hx9 _ he9; exact KX))
theorem kX11_affected {l : Launch} {V : gEnv} {M0 : gMem}   {o : Int32} (h : fX11_affected M0 = some o) : gM l yX11_affected cX11_affected 3 (some .int) rX11_affected V gShM [.ref (gAd V 0)] M0 (some (.int o)) M0 :=
  gM.of (by decide) (Nat.le_of_ble_eq_true rfl) rfl (fun X _ O => tX11_affected  h O)
theorem dX11_nth_0 : decode cX11_nth 0 = .ok (.iload_n 2, 1) := by decide +kernel
theorem dX11_nth_1 : decode cX11_nth 1 = .ok (.istore_n 3, 1) := by decide +kernel
theorem dX11_nth_2 : decode cX11_nth 2 = .ok (.aload_n 0, 1) := by decide +kernel
theorem dX11_nth_3 : decode cX11_nth 3 = .ok (.getfield 108, 3) := by decide +kernel
theorem dX11_nth_6 : decode cX11_nth 6 = .ok (.istore 4, 2) := by decide +kernel
theorem dX11_nth_8 : decode cX11_nth 8 = .ok (.iload 4, 2) := by decide +kernel
theorem dX11_nth_10 : decode cX11_nth 10 = .ok (.aload_n 0, 1) := by decide +kernel
theorem dX11_nth_11 : decode cX11_nth 11 = .ok (.getfield 111, 3) := by decide +kernel
theorem dX11_nth_14 : decode cX11_nth 14 = .ok (.if_icmp .gt 42, 3) := by decide +kernel
theorem dX11_nth_17 : decode cX11_nth 17 = .ok (.iload_n 1, 1) := by decide +kernel
theorem dX11_nth_18 : decode cX11_nth 18 = .ok (.iload 4, 2) := by decide +kernel
theorem dX11_nth_20 : decode cX11_nth 20 = .ok (.invokestatic 93, 3) := by decide +kernel
theorem dX11_nth_23 : decode cX11_nth 23 = .ok (.ifCond .eq 10, 3) := by decide +kernel
theorem dX11_nth_26 : decode cX11_nth 26 = .ok (.iload_n 3, 1) := by decide +kernel
theorem dX11_nth_27 : decode cX11_nth 27 = .ok (.ifCond .ne 6, 3) := by decide +kernel
theorem dX11_nth_30 : decode cX11_nth 30 = .ok (.iload 4, 2) := by decide +kernel
theorem dX11_nth_32 : decode cX11_nth 32 = .ok (.ireturn, 1) := by decide +kernel
theorem dX11_nth_33 : decode cX11_nth 33 = .ok (.iload_n 3, 1) := by decide +kernel
theorem dX11_nth_34 : decode cX11_nth 34 = .ok (.iload_n 1, 1) := by decide +kernel
theorem dX11_nth_35 : decode cX11_nth 35 = .ok (.iload 4, 2) := by decide +kernel
theorem dX11_nth_37 : decode cX11_nth 37 = .ok (.invokestatic 93, 3) := by decide +kernel
theorem dX11_nth_40 : decode cX11_nth 40 = .ok (.ifCond .eq 7, 3) := by decide +kernel
theorem dX11_nth_43 : decode cX11_nth 43 = .ok (.iconst 1, 1) := by decide +kernel
theorem dX11_nth_44 : decode cX11_nth 44 = .ok (.goto 4, 3) := by decide +kernel
theorem dX11_nth_47 : decode cX11_nth 47 = .ok (.iconst 0, 1) := by decide +kernel
theorem dX11_nth_48 : decode cX11_nth 48 = .ok (.isub, 1) := by decide +kernel
theorem dX11_nth_49 : decode cX11_nth 49 = .ok (.istore_n 3, 1) := by decide +kernel
theorem dX11_nth_50 : decode cX11_nth 50 = .ok (.iinc 4 1, 3) := by decide +kernel
theorem dX11_nth_53 : decode cX11_nth 53 = .ok (.goto (-45), 3) := by decide +kernel
theorem dX11_nth_56 : decode cX11_nth 56 = .ok (.iconst (-1), 1) := by decide +kernel
theorem dX11_nth_57 : decode cX11_nth 57 = .ok (.ireturn, 1) := by decide +kernel
abbrev rX11_nth : Room := { frames := 1, cells := 0, slots := 0, locals := 21 }
abbrev mX11_nth : gY := (cX11_nth, RX11, 5, rX11_nth)
def fX11_nth_b33 (x1 : Int32) (x3 : Int32) (x4 : Int32) (M0 : gMem) : Option ((Int32 × Int32) ⊕ (Unit ⊕ Int32)) :=
  (fX11_has x1 x4).bind fun v5 => (nm (x3 - (if v5 = 0 then (0 : Int32) else (1 : Int32)))).bind fun v7 => some (.inl (v7, x4 + (1 : Int32)))
set_option maxRecDepth 20000 in
theorem tX11_nth_b33 {X : gX} {V : gEnv} {x1 : Int32} {x3 : Int32} {x4 : Int32} {M0 : gMem}  {o : ((Int32 × Int32) ⊕ (Unit ⊕ Int32))} (h : fX11_nth_b33 x1 x3 x4 M0 = some o) (Kc : ∀ s9, o = .inl s9 → gG X V mX11_nth gShM M0 0 0 8 [(0, .ref (gAd V 0)), (1, .int x1), (3, .int s9.1), (4, .int s9.2)] []) (Kx : ∀ e9, o = .inr (.inl e9) → gG X V mX11_nth gShM M0 0 0 56 [] []) (Kr : ∀ r9, o = .inr (.inr r9) → gO X V mX11_nth gShM (some .int) (some (.int r9)) M0) : gG X V mX11_nth gShM M0 0 0 33 [(0, .ref (gAd V 0)), (1, .int x1), (3, .int x3), (4, .int x4)] [] := by
  unfold fX11_nth_b33 at h
  refine g_iload_n 2 rfl rfl dX11_nth_33 ?_
  refine g_iload_n 1 rfl rfl dX11_nth_34 ?_
  refine g_iload 3 rfl dX11_nth_35 ?_
  obtain ⟨v5, ev5, h⟩ := g_bnd h
  refine g_callS LX11_93 (kX11_has ev5) rfl rfl (Nat.le_of_ble_eq_true rfl) ⟨Nat.le_of_ble_eq_true rfl, Nat.le_of_ble_eq_true rfl⟩ ⟨Nat.le_of_ble_eq_true rfl, Nat.le_of_ble_eq_true rfl⟩ dX11_nth_37 rfl ?_
  have KJ : gG X V mX11_nth gShM M0 0 0 48 [(0, .ref (gAd V 0)), (1, .int x1), (3, .int x3), (4, .int x4)] [.int (if v5 = 0 then (0 : Int32) else (1 : Int32)), .int x3] := by
    refine g_isub dX11_nth_48 ?_
    obtain ⟨v7, ev7, h⟩ := g_bnd h
    refine g_nmI ev7 ?_
    refine g_istore_n (ls' := [(3, .int v7), (0, .ref (gAd V 0)), (1, .int x1), (4, .int x4)]) rfl (Nat.le_of_ble_eq_true rfl) rfl dX11_nth_49 ?_
    refine g_iinc (j := 3) (v := x4 + (1 : Int32)) (ls' := [(4, .int (x4 + (1 : Int32))), (3, .int v7), (0, .ref (gAd V 0)), (1, .int x1)]) rfl rfl (Nat.le_of_ble_eq_true rfl) rfl dX11_nth_50 ?_
    refine g_goto (tgt := 8) rfl dX11_nth_53 ?_
    cases h
    refine g_sub [2, 3, 1, 0] rfl ?_
    exact Kc (v7, x4 + (1 : Int32)) rfl
  by_cases c6 : v5 = 0
  · rw [if_pos c6] at KJ
    refine g_if_eq_t c6 (tgt := 47) rfl dX11_nth_40 ?_
    refine g_iconst (v := 0) rfl dX11_nth_47 ?_
    exact KJ
  · rw [if_neg c6] at KJ
    refine g_if_eq_f c6 (tgt := 47) rfl dX11_nth_40 ?_
    refine g_iconst (v := 1) rfl dX11_nth_43 ?_
    refine g_goto (tgt := 48) rfl dX11_nth_44 ?_
    exact KJ
def fX11_nth_l8 (x1 : Int32) (M0 : gMem) (x3 : Int32) (x4 : Int32) : Option ((Int32 × Int32) ⊕ (Unit ⊕ Int32)) :=
  if (M0.1 0 11) < x4 then (some (.inr (.inl ()))) else (fX11_has x1 x4).bind fun v3 => if v3 = 0 then (fX11_nth_b33 x1 x3 x4 M0) else if x3 = 0 then (some (.inr (.inr x4))) else fX11_nth_b33 x1 x3 x4 M0
set_option maxRecDepth 20000 in
theorem tX11_nth_l8 {X : gX} {V : gEnv} {x1 : Int32} {M0 : gMem} {x3 : Int32} {x4 : Int32}  {o : ((Int32 × Int32) ⊕ (Unit ⊕ Int32))} (h : fX11_nth_l8 x1 M0 x3 x4 = some o) (Kc : ∀ s9, o = .inl s9 → gG X V mX11_nth gShM M0 0 0 8 [(0, .ref (gAd V 0)), (1, .int x1), (3, .int s9.1), (4, .int s9.2)] []) (Kx : ∀ e9, o = .inr (.inl e9) → gG X V mX11_nth gShM M0 0 0 56 [] []) (Kr : ∀ r9, o = .inr (.inr r9) → gO X V mX11_nth gShM (some .int) (some (.int r9)) M0) : gG X V mX11_nth gShM M0 0 0 8 [(0, .ref (gAd V 0)), (1, .int x1), (3, .int x3), (4, .int x4)] [] := by
  unfold fX11_nth_l8 at h
  refine g_iload 3 rfl dX11_nth_8 ?_
  refine g_aload_n 0 rfl rfl dX11_nth_10 ?_
  refine g_getI FX11_111 sM_0 rfl dX11_nth_11 ?_
  rcases g_ite h with ⟨c2, h⟩ | ⟨c2, h⟩
  · refine g_icmp_gt_t c2 (tgt := 56) rfl dX11_nth_14 ?_
    cases h
    refine g_sub [] rfl ?_
    exact Kx () rfl
  · refine g_icmp_gt_f c2 (tgt := 56) rfl dX11_nth_14 ?_
    refine g_iload_n 1 rfl rfl dX11_nth_17 ?_
    refine g_iload 3 rfl dX11_nth_18 ?_
    obtain ⟨v3, ev3, h⟩ := g_bnd h
    refine g_callS LX11_93 (kX11_has ev3) rfl rfl (Nat.le_of_ble_eq_true rfl) ⟨Nat.le_of_ble_eq_true rfl, Nat.le_of_ble_eq_true rfl⟩ ⟨Nat.le_of_ble_eq_true rfl, Nat.le_of_ble_eq_true rfl⟩ dX11_nth_20 rfl ?_
    rcases g_ite h with ⟨c4, h⟩ | ⟨c4, h⟩
    · refine g_if_eq_t c4 (tgt := 33) rfl dX11_nth_23 ?_
      exact tX11_nth_b33  h Kc Kx Kr
    · refine g_if_eq_f c4 (tgt := 33) rfl dX11_nth_23 ?_
      refine g_iload_n 2 rfl rfl dX11_nth_26 ?_
      rcases g_ite h with ⟨c8, h⟩ | ⟨c8, h⟩
      · refine g_if_ne_f c8 (tgt := 33) rfl dX11_nth_27 ?_
        refine g_iload 3 rfl dX11_nth_30 ?_
        cases h
        exact g_iret (Kr x4 rfl) ⟨Nat.le_of_ble_eq_true rfl, Nat.le_of_ble_eq_true rfl⟩ rfl dX11_nth_32
      · refine g_if_ne_t c8 (tgt := 33) rfl dX11_nth_27 ?_
        exact tX11_nth_b33  h Kc Kx Kr
def fX11_nth (x1 : Int32) (x2 : Int32) (M0 : gMem) : Option Int32 :=
  (nm (M0.1 0 10)).bind fun v1 => (gLoop (fun z9 => fX11_nth_l8 x1 M0 z9.1 z9.2) gFu (x2, v1)).bind fun w9 => gSE w9 (fun y10 => some (-1 : Int32)) (fun r11 => some r11)
set_option maxRecDepth 20000 in
theorem tX11_nth {X : gX} {V : gEnv} {x1 : Int32} {x2 : Int32} {M0 : gMem}  {o : Int32} (h : fX11_nth x1 x2 M0 = some o) (O : gO X V mX11_nth gShM (some .int) (some (.int o)) M0) : gG X V mX11_nth gShM M0 0 0 0 [(0, .ref (gAd V 0)), (1, .int x1), (2, .int x2)] [] := by
  unfold fX11_nth at h
  refine g_iload_n 2 rfl rfl dX11_nth_0 ?_
  refine g_istore_n (ls' := [(3, .int x2), (0, .ref (gAd V 0)), (1, .int x1), (2, .int x2)]) rfl (Nat.le_of_ble_eq_true rfl) rfl dX11_nth_1 ?_
  refine g_aload_n 1 rfl rfl dX11_nth_2 ?_
  refine g_getI FX11_108 sM_0 rfl dX11_nth_3 ?_
  obtain ⟨v1, ev1, h⟩ := g_bnd h
  refine g_nmI ev1 ?_
  refine g_istore (ls' := [(4, .int v1), (3, .int x2), (0, .ref (gAd V 0)), (1, .int x1), (2, .int x2)]) (Nat.le_of_ble_eq_true rfl) rfl dX11_nth_6 ?_
  obtain ⟨w9, ew9, h⟩ := g_bnd h
  refine g_sub [2, 3, 1, 0] rfl ?_
  rcases w9 with y10 | r11
  · have h := g_sl h
    have KX : gG X V mX11_nth gShM M0 0 0 56 [] [] := by
      refine g_iconst (v := -1) rfl dX11_nth_56 ?_
      cases h
      exact g_iret O ⟨Nat.le_of_ble_eq_true rfl, Nat.le_of_ble_eq_true rfl⟩ rfl dX11_nth_57
    exact gLoop_Q ew9 (fun z9 => gG X V mX11_nth gShM M0 0 0 8 [(0, .ref (gAd V 0)), (1, .int x1), (3, .int z9.1), (4, .int z9.2)] []) (fun s9 o9 hb9 hc9 hx9 => tX11_nth_l8  hb9 hc9 (fun e9 he9 => by cases hx9 _ he9; exact KX) (fun r9 he9 => by cases hx9 _ he9))
  · have h := g_sr h
    cases h
    exact gLoop_Q ew9 (fun z9 => gG X V mX11_nth gShM M0 0 0 8 [(0, .ref (gAd V 0)), (1, .int x1), (3, .int z9.1), (4, .int z9.2)] []) (fun s9 o9 hb9 hc9 hx9 => tX11_nth_l8  hb9 hc9 (fun e9 he9 => by cases hx9 _ he9) (fun r9 he9 => by cases hx9 _ he9; exact O))
theorem kX11_nth {l : Launch} {V : gEnv} {M0 : gMem} {x1 : Int32} {x2 : Int32}  {o : Int32} (h : fX11_nth x1 x2 M0 = some o) : gM l yX11_nth cX11_nth 5 (some .int) rX11_nth V gShM [.ref (gAd V 0), .int x1, .int x2] M0 (some (.int o)) M0 :=
  gM.of (by decide) (Nat.le_of_ble_eq_true rfl) rfl (fun X _ O => tX11_nth  h O)
