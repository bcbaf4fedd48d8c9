/-! METHODS, by program: pure functions and contracts -/
theorem dX11_repairs_0 : decode cX11_repairs 0 = .ok (.aload_n 0, 1) := by decide +kernel
theorem dX11_repairs_1 : decode cX11_repairs 1 = .ok (.getfield 114, 3) := by decide +kernel
theorem dX11_repairs_4 : decode cX11_repairs 4 = .ok (.aload_n 0, 1) := by decide +kernel
theorem dX11_repairs_5 : decode cX11_repairs 5 = .ok (.getfield 117, 3) := by decide +kernel
theorem dX11_repairs_8 : decode cX11_repairs 8 = .ok (.iand, 1) := by decide +kernel
theorem dX11_repairs_9 : decode cX11_repairs 9 = .ok (.istore_n 1, 1) := by decide +kernel
theorem dX11_repairs_10 : decode cX11_repairs 10 = .ok (.iload_n 1, 1) := by decide +kernel
theorem dX11_repairs_11 : decode cX11_repairs 11 = .ok (.ifCond .ne 7, 3) := by decide +kernel
theorem dX11_repairs_14 : decode cX11_repairs 14 = .ok (.iconst (-1), 1) := by decide +kernel
theorem dX11_repairs_15 : decode cX11_repairs 15 = .ok (.goto 8, 3) := by decide +kernel
theorem dX11_repairs_18 : decode cX11_repairs 18 = .ok (.aload_n 0, 1) := by decide +kernel
theorem dX11_repairs_19 : decode cX11_repairs 19 = .ok (.iload_n 1, 1) := by decide +kernel
theorem dX11_repairs_20 : decode cX11_repairs 20 = .ok (.invokevirtual 166, 3) := by decide +kernel
theorem dX11_repairs_23 : decode cX11_repairs 23 = .ok (.istore_n 2, 1) := by decide +kernel
theorem dX11_repairs_24 : decode cX11_repairs 24 = .ok (.aload_n 0, 1) := by decide +kernel
theorem dX11_repairs_25 : decode cX11_repairs 25 = .ok (.invokevirtual 169, 3) := by decide +kernel
theorem dX11_repairs_28 : decode cX11_repairs 28 = .ok (.iconst 0, 1) := by decide +kernel
theorem dX11_repairs_29 : decode cX11_repairs 29 = .ok (.istore_n 3, 1) := by decide +kernel
theorem dX11_repairs_30 : decode cX11_repairs 30 = .ok (.iconst 0, 1) := by decide +kernel
theorem dX11_repairs_31 : decode cX11_repairs 31 = .ok (.istore 4, 2) := by decide +kernel
theorem dX11_repairs_33 : decode cX11_repairs 33 = .ok (.iload 4, 2) := by decide +kernel
theorem dX11_repairs_35 : decode cX11_repairs 35 = .ok (.aload_n 0, 1) := by decide +kernel
theorem dX11_repairs_36 : decode cX11_repairs 36 = .ok (.getfield 9, 3) := by decide +kernel
theorem dX11_repairs_39 : decode cX11_repairs 39 = .ok (.iconst 0, 1) := by decide +kernel
theorem dX11_repairs_40 : decode cX11_repairs 40 = .ok (.iaload, 1) := by decide +kernel
theorem dX11_repairs_41 : decode cX11_repairs 41 = .ok (.if_icmp .ge 22, 3) := by decide +kernel
theorem dX11_repairs_44 : decode cX11_repairs 44 = .ok (.aload_n 0, 1) := by decide +kernel
theorem dX11_repairs_45 : decode cX11_repairs 45 = .ok (.getfield 37, 3) := by decide +kernel
theorem dX11_repairs_48 : decode cX11_repairs 48 = .ok (.iload 4, 2) := by decide +kernel
theorem dX11_repairs_50 : decode cX11_repairs 50 = .ok (.aload_n 0, 1) := by decide +kernel
theorem dX11_repairs_51 : decode cX11_repairs 51 = .ok (.iload 4, 2) := by decide +kernel
theorem dX11_repairs_53 : decode cX11_repairs 53 = .ok (.invokevirtual 101, 3) := by decide +kernel
theorem dX11_repairs_56 : decode cX11_repairs 56 = .ok (.iastore, 1) := by decide +kernel
theorem dX11_repairs_57 : decode cX11_repairs 57 = .ok (.iinc 4 1, 3) := by decide +kernel
theorem dX11_repairs_60 : decode cX11_repairs 60 = .ok (.goto (-27), 3) := by decide +kernel
theorem dX11_repairs_63 : decode cX11_repairs 63 = .ok (.iconst 0, 1) := by decide +kernel
theorem dX11_repairs_64 : decode cX11_repairs 64 = .ok (.istore 4, 2) := by decide +kernel
theorem dX11_repairs_66 : decode cX11_repairs 66 = .ok (.iload 4, 2) := by decide +kernel
theorem dX11_repairs_68 : decode cX11_repairs 68 = .ok (.aload_n 0, 1) := by decide +kernel
theorem dX11_repairs_69 : decode cX11_repairs 69 = .ok (.getfield 9, 3) := by decide +kernel
theorem dX11_repairs_72 : decode cX11_repairs 72 = .ok (.iconst 2, 1) := by decide +kernel
theorem dX11_repairs_73 : decode cX11_repairs 73 = .ok (.iaload, 1) := by decide +kernel
theorem dX11_repairs_74 : decode cX11_repairs 74 = .ok (.if_icmp .ge 111, 3) := by decide +kernel
theorem dX11_repairs_77 : decode cX11_repairs 77 = .ok (.iload 4, 2) := by decide +kernel
theorem dX11_repairs_79 : decode cX11_repairs 79 = .ok (.aload_n 0, 1) := by decide +kernel
theorem dX11_repairs_80 : decode cX11_repairs 80 = .ok (.getfield 108, 3) := by decide +kernel
theorem dX11_repairs_83 : decode cX11_repairs 83 = .ok (.aload_n 0, 1) := by decide +kernel
theorem dX11_repairs_84 : decode cX11_repairs 84 = .ok (.getfield 111, 3) := by decide +kernel
theorem dX11_repairs_87 : decode cX11_repairs 87 = .ok (.invokestatic 172, 3) := by decide +kernel
theorem dX11_repairs_90 : decode cX11_repairs 90 = .ok (.ifCond .ne 22, 3) := by decide +kernel
theorem dX11_repairs_93 : decode cX11_repairs 93 = .ok (.aload_n 0, 1) := by decide +kernel
theorem dX11_repairs_94 : decode cX11_repairs 94 = .ok (.getfield 34, 3) := by decide +kernel
theorem dX11_repairs_97 : decode cX11_repairs 97 = .ok (.iload_n 3, 1) := by decide +kernel
theorem dX11_repairs_98 : decode cX11_repairs 98 = .ok (.aload_n 0, 1) := by decide +kernel
theorem dX11_repairs_99 : decode cX11_repairs 99 = .ok (.getfield 9, 3) := by decide +kernel
theorem dX11_repairs_102 : decode cX11_repairs 102 = .ok (.bipush 14, 2) := by decide +kernel
theorem dX11_repairs_104 : decode cX11_repairs 104 = .ok (.iload 4, 2) := by decide +kernel
theorem dX11_repairs_106 : decode cX11_repairs 106 = .ok (.iadd, 1) := by decide +kernel
theorem dX11_repairs_107 : decode cX11_repairs 107 = .ok (.iaload, 1) := by decide +kernel
theorem dX11_repairs_108 : decode cX11_repairs 108 = .ok (.iastore, 1) := by decide +kernel
theorem dX11_repairs_109 : decode cX11_repairs 109 = .ok (.iinc 3 1, 3) := by decide +kernel
theorem dX11_repairs_112 : decode cX11_repairs 112 = .ok (.iconst 0, 1) := by decide +kernel
theorem dX11_repairs_113 : decode cX11_repairs 113 = .ok (.istore 5, 2) := by decide +kernel
theorem dX11_repairs_115 : decode cX11_repairs 115 = .ok (.iload 5, 2) := by decide +kernel
theorem dX11_repairs_117 : decode cX11_repairs 117 = .ok (.aload_n 0, 1) := by decide +kernel
theorem dX11_repairs_118 : decode cX11_repairs 118 = .ok (.getfield 133, 3) := by decide +kernel
theorem dX11_repairs_121 : decode cX11_repairs 121 = .ok (.if_icmp .ge 58, 3) := by decide +kernel
theorem dX11_repairs_124 : decode cX11_repairs 124 = .ok (.iload 4, 2) := by decide +kernel
theorem dX11_repairs_126 : decode cX11_repairs 126 = .ok (.aload_n 0, 1) := by decide +kernel
theorem dX11_repairs_127 : decode cX11_repairs 127 = .ok (.getfield 111, 3) := by decide +kernel
theorem dX11_repairs_130 : decode cX11_repairs 130 = .ok (.if_icmp .ne 49, 3) := by decide +kernel
theorem dX11_repairs_133 : decode cX11_repairs 133 = .ok (.aload_n 0, 1) := by decide +kernel
theorem dX11_repairs_134 : decode cX11_repairs 134 = .ok (.getfield 34, 3) := by decide +kernel
theorem dX11_repairs_137 : decode cX11_repairs 137 = .ok (.iload_n 3, 1) := by decide +kernel
theorem dX11_repairs_138 : decode cX11_repairs 138 = .ok (.aload_n 0, 1) := by decide +kernel
theorem dX11_repairs_139 : decode cX11_repairs 139 = .ok (.getfield 31, 3) := by decide +kernel
theorem dX11_repairs_142 : decode cX11_repairs 142 = .ok (.iload 5, 2) := by decide +kernel
theorem dX11_repairs_144 : decode cX11_repairs 144 = .ok (.iaload, 1) := by decide +kernel
theorem dX11_repairs_145 : decode cX11_repairs 145 = .ok (.bipush (-2), 2) := by decide +kernel
theorem dX11_repairs_147 : decode cX11_repairs 147 = .ok (.if_icmp .ne 7, 3) := by decide +kernel
theorem dX11_repairs_150 : decode cX11_repairs 150 = .ok (.iload_n 2, 1) := by decide +kernel
theorem dX11_repairs_151 : decode cX11_repairs 151 = .ok (.goto 18, 3) := by decide +kernel
theorem dX11_repairs_154 : decode cX11_repairs 154 = .ok (.aload_n 0, 1) := by decide +kernel
theorem dX11_repairs_155 : decode cX11_repairs 155 = .ok (.getfield 9, 3) := by decide +kernel
theorem dX11_repairs_158 : decode cX11_repairs 158 = .ok (.bipush 14, 2) := by decide +kernel
theorem dX11_repairs_160 : decode cX11_repairs 160 = .ok (.aload_n 0, 1) := by decide +kernel
theorem dX11_repairs_161 : decode cX11_repairs 161 = .ok (.getfield 31, 3) := by decide +kernel
theorem dX11_repairs_164 : decode cX11_repairs 164 = .ok (.iload 5, 2) := by decide +kernel
theorem dX11_repairs_166 : decode cX11_repairs 166 = .ok (.iaload, 1) := by decide +kernel
theorem dX11_repairs_167 : decode cX11_repairs 167 = .ok (.iadd, 1) := by decide +kernel
theorem dX11_repairs_168 : decode cX11_repairs 168 = .ok (.iaload, 1) := by decide +kernel
theorem dX11_repairs_169 : decode cX11_repairs 169 = .ok (.iastore, 1) := by decide +kernel
theorem dX11_repairs_170 : decode cX11_repairs 170 = .ok (.iinc 3 1, 3) := by decide +kernel
theorem dX11_repairs_173 : decode cX11_repairs 173 = .ok (.iinc 5 1, 3) := by decide +kernel
theorem dX11_repairs_176 : decode cX11_repairs 176 = .ok (.goto (-61), 3) := by decide +kernel
theorem dX11_repairs_179 : decode cX11_repairs 179 = .ok (.iinc 4 1, 3) := by decide +kernel
theorem dX11_repairs_182 : decode cX11_repairs 182 = .ok (.goto (-116), 3) := by decide +kernel
theorem dX11_repairs_185 : decode cX11_repairs 185 = .ok (.iconst 0, 1) := by decide +kernel
theorem dX11_repairs_186 : decode cX11_repairs 186 = .ok (.istore 4, 2) := by decide +kernel
theorem dX11_repairs_188 : decode cX11_repairs 188 = .ok (.iload 4, 2) := by decide +kernel
theorem dX11_repairs_190 : decode cX11_repairs 190 = .ok (.aload_n 0, 1) := by decide +kernel
theorem dX11_repairs_191 : decode cX11_repairs 191 = .ok (.getfield 9, 3) := by decide +kernel
theorem dX11_repairs_194 : decode cX11_repairs 194 = .ok (.iconst 0, 1) := by decide +kernel
theorem dX11_repairs_195 : decode cX11_repairs 195 = .ok (.iaload, 1) := by decide +kernel
theorem dX11_repairs_196 : decode cX11_repairs 196 = .ok (.if_icmp .ge 35, 3) := by decide +kernel
theorem dX11_repairs_199 : decode cX11_repairs 199 = .ok (.iload_n 1, 1) := by decide +kernel
theorem dX11_repairs_200 : decode cX11_repairs 200 = .ok (.ifCond .eq 25, 3) := by decide +kernel
theorem dX11_repairs_203 : decode cX11_repairs 203 = .ok (.iload_n 1, 1) := by decide +kernel
theorem dX11_repairs_204 : decode cX11_repairs 204 = .ok (.aload_n 0, 1) := by decide +kernel
theorem dX11_repairs_205 : decode cX11_repairs 205 = .ok (.getfield 37, 3) := by decide +kernel
theorem dX11_repairs_208 : decode cX11_repairs 208 = .ok (.iload 4, 2) := by decide +kernel
theorem dX11_repairs_210 : decode cX11_repairs 210 = .ok (.iaload, 1) := by decide +kernel
theorem dX11_repairs_211 : decode cX11_repairs 211 = .ok (.invokestatic 93, 3) := by decide +kernel
theorem dX11_repairs_214 : decode cX11_repairs 214 = .ok (.ifCond .eq 11, 3) := by decide +kernel
theorem dX11_repairs_217 : decode cX11_repairs 217 = .ok (.aload_n 0, 1) := by decide +kernel
theorem dX11_repairs_218 : decode cX11_repairs 218 = .ok (.iload 4, 2) := by decide +kernel
theorem dX11_repairs_220 : decode cX11_repairs 220 = .ok (.iconst 1, 1) := by decide +kernel
theorem dX11_repairs_221 : decode cX11_repairs 221 = .ok (.iload_n 2, 1) := by decide +kernel
theorem dX11_repairs_222 : decode cX11_repairs 222 = .ok (.invokevirtual 78, 3) := by decide +kernel
theorem dX11_repairs_225 : decode cX11_repairs 225 = .ok (.iinc 4 1, 3) := by decide +kernel
theorem dX11_repairs_228 : decode cX11_repairs 228 = .ok (.goto (-40), 3) := by decide +kernel
theorem dX11_repairs_231 : decode cX11_repairs 231 = .ok (.iconst 0, 1) := by decide +kernel
theorem dX11_repairs_232 : decode cX11_repairs 232 = .ok (.istore 4, 2) := by decide +kernel
theorem dX11_repairs_234 : decode cX11_repairs 234 = .ok (.iload 4, 2) := by decide +kernel
theorem dX11_repairs_236 : decode cX11_repairs 236 = .ok (.iload_n 3, 1) := by decide +kernel
theorem dX11_repairs_237 : decode cX11_repairs 237 = .ok (.if_icmp .ge 26, 3) := by decide +kernel
theorem dX11_repairs_240 : decode cX11_repairs 240 = .ok (.aload_n 0, 1) := by decide +kernel
theorem dX11_repairs_241 : decode cX11_repairs 241 = .ok (.getfield 9, 3) := by decide +kernel
theorem dX11_repairs_244 : decode cX11_repairs 244 = .ok (.bipush 14, 2) := by decide +kernel
theorem dX11_repairs_246 : decode cX11_repairs 246 = .ok (.iload 4, 2) := by decide +kernel
theorem dX11_repairs_248 : decode cX11_repairs 248 = .ok (.iadd, 1) := by decide +kernel
theorem dX11_repairs_249 : decode cX11_repairs 249 = .ok (.aload_n 0, 1) := by decide +kernel
theorem dX11_repairs_250 : decode cX11_repairs 250 = .ok (.getfield 34, 3) := by decide +kernel
theorem dX11_repairs_253 : decode cX11_repairs 253 = .ok (.iload 4, 2) := by decide +kernel
theorem dX11_repairs_255 : decode cX11_repairs 255 = .ok (.iaload, 1) := by decide +kernel
theorem dX11_repairs_256 : decode cX11_repairs 256 = .ok (.iastore, 1) := by decide +kernel
theorem dX11_repairs_257 : decode cX11_repairs 257 = .ok (.iinc 4 1, 3) := by decide +kernel
theorem dX11_repairs_260 : decode cX11_repairs 260 = .ok (.goto (-26), 3) := by decide +kernel
theorem dX11_repairs_263 : decode cX11_repairs 263 = .ok (.aload_n 0, 1) := by decide +kernel
theorem dX11_repairs_264 : decode cX11_repairs 264 = .ok (.getfield 9, 3) := by decide +kernel
theorem dX11_repairs_267 : decode cX11_repairs 267 = .ok (.iconst 2, 1) := by decide +kernel
theorem dX11_repairs_268 : decode cX11_repairs 268 = .ok (.iload_n 3, 1) := by decide +kernel
theorem dX11_repairs_269 : decode cX11_repairs 269 = .ok (.iastore, 1) := by decide +kernel
theorem dX11_repairs_270 : decode cX11_repairs 270 = .ok (.aload_n 0, 1) := by decide +kernel
theorem dX11_repairs_271 : decode cX11_repairs 271 = .ok (.invokevirtual 176, 3) := by decide +kernel
theorem dX11_repairs_274 : decode cX11_repairs 274 = .ok (.ireturn, 1) := by decide +kernel
abbrev rX11_repairs : Room := { frames := 5, cells := 0, slots := 0, locals := 113 }
abbrev mX11_repairs : gY := (cX11_repairs, RX11, 6, rX11_repairs)
def fX11_repairs_l33 (x1 : Int32) (x2 : Int32) (x3 : Int32) (x4 : Int32) (M0 : gMem) : Option ((Int32 × gMem) ⊕ gMem) :=
  (rI M0 1 374 (0 : Int32)).bind fun v4 => if v4 ≤ x4 then (some (.inr M0)) else (fX11_placeOf x4 M0).bind fun v6 => (wI M0 10 24 x4 v6).bind fun M7 => some (.inl (x4 + (1 : Int32), M7))
set_option maxRecDepth 20000 in
theorem tX11_repairs_l33 {X : gX} {V : gEnv} {x1 : Int32} {x2 : Int32} {x3 : Int32} {x4 : Int32} {M0 : gMem}  {o : ((Int32 × gMem) ⊕ gMem)} (h : fX11_repairs_l33 x1 x2 x3 x4 M0 = some o) (Kc : ∀ s9, o = .inl s9 → gG X V mX11_repairs gShM s9.2 0 0 33 [(0, .ref (gAd V 0)), (1, .int x1), (2, .int x2), (3, .int x3), (4, .int s9.1)] []) (Kx : ∀ e9, o = .inr e9 → gG X V mX11_repairs gShM e9 0 0 63 [(0, .ref (gAd V 0)), (1, .int x1), (2, .int x2), (3, .int x3)] []) : gG X V mX11_repairs gShM M0 0 0 33 [(0, .ref (gAd V 0)), (1, .int x1), (2, .int x2), (3, .int x3), (4, .int x4)] [] := by
  unfold fX11_repairs_l33 at h
  refine g_iload 4 rfl dX11_repairs_33 ?_
  refine g_aload_n 0 rfl rfl dX11_repairs_35 ?_
  refine g_getR FX11_9 sM_0 rfl dX11_repairs_36 ?_
  refine g_iconst (v := 0) rfl dX11_repairs_39 ?_
  obtain ⟨v4, ev4, h⟩ := g_bnd h
  refine g_iald' ev4 sM_1 dX11_repairs_40 ?_
  rcases g_ite h with ⟨c5, h⟩ | ⟨c5, h⟩
  · refine g_icmp_ge_t c5 (tgt := 63) rfl dX11_repairs_41 ?_
    cases h
    refine g_sub [0, 1, 2, 3] rfl ?_
    exact Kx M0 rfl
  · refine g_icmp_ge_f c5 (tgt := 63) rfl dX11_repairs_41 ?_
    refine g_aload_n 0 rfl rfl dX11_repairs_44 ?_
    refine g_getR FX11_37 sM_0 rfl dX11_repairs_45 ?_
    refine g_iload 4 rfl dX11_repairs_48 ?_
    refine g_aload_n 0 rfl rfl dX11_repairs_50 ?_
    refine g_iload 4 rfl dX11_repairs_51 ?_
    obtain ⟨v6, ev6, h⟩ := g_bnd h
    refine g_callV LX11_101 sM_0 rfl (kX11_placeOf ev6) rfl rfl (Nat.le_of_ble_eq_true rfl) ⟨Nat.le_of_ble_eq_true rfl, Nat.le_of_ble_eq_true rfl⟩ ⟨Nat.le_of_ble_eq_true rfl, Nat.le_of_ble_eq_true rfl⟩ dX11_repairs_53 rfl ?_
    obtain ⟨M7, eM7, h⟩ := g_bnd h
    refine g_iast' eM7 sM_10 dX11_repairs_56 ?_
    refine g_iinc (j := 4) (v := x4 + (1 : Int32)) (ls' := [(4, .int (x4 + (1 : Int32))), (0, .ref (gAd V 0)), (1, .int x1), (2, .int x2), (3, .int x3)]) rfl rfl (Nat.le_of_ble_eq_true rfl) rfl dX11_repairs_57 ?_
    refine g_goto (tgt := 33) rfl dX11_repairs_60 ?_
    cases h
    refine g_sub [1, 2, 3, 4, 0] rfl ?_
    exact Kc (x4 + (1 : Int32), M7) rfl
def fX11_repairs_b169 (x1 : Int32) (x2 : Int32) (x3 : Int32) (x4 : Int32) (x5 : Int32) (s1 : Int32) (s2 : Int32) (M0 : gMem) : Option ((Int32 × Int32 × gMem) ⊕ (Int32 × gMem)) :=
  (wI M0 9 24 s1 s2).bind fun M19 => some (.inl (x3 + (1 : Int32), x5 + (1 : Int32), M19))
set_option maxRecDepth 20000 in
theorem tX11_repairs_b169 {X : gX} {V : gEnv} {x1 : Int32} {x2 : Int32} {x3 : Int32} {x4 : Int32} {x5 : Int32} {s1 : Int32} {s2 : Int32} {M0 : gMem}  {o : ((Int32 × Int32 × gMem) ⊕ (Int32 × gMem))} (h : fX11_repairs_b169 x1 x2 x3 x4 x5 s1 s2 M0 = some o) (Kc : ∀ s9, o = .inl s9 → gG X V mX11_repairs gShM s9.2.2 0 0 115 [(0, .ref (gAd V 0)), (1, .int x1), (2, .int x2), (3, .int s9.1), (4, .int x4), (5, .int s9.2.1)] []) (Kx : ∀ e9, o = .inr e9 → gG X V mX11_repairs gShM e9.2 0 0 179 [(0, .ref (gAd V 0)), (1, .int x1), (2, .int x2), (3, .int e9.1), (4, .int x4)] []) : gG X V mX11_repairs gShM M0 0 0 169 [(0, .ref (gAd V 0)), (1, .int x1), (2, .int x2), (3, .int x3), (4, .int x4), (5, .int x5)] [.int s2, .int s1, .ref (gAd V 9)] := by
  unfold fX11_repairs_b169 at h
  obtain ⟨M19, eM19, h⟩ := g_bnd h
  refine g_iast' eM19 sM_9 dX11_repairs_169 ?_
  refine g_iinc (j := 3) (v := x3 + (1 : Int32)) (ls' := [(3, .int (x3 + (1 : Int32))), (0, .ref (gAd V 0)), (1, .int x1), (2, .int x2), (4, .int x4), (5, .int x5)]) rfl rfl (Nat.le_of_ble_eq_true rfl) rfl dX11_repairs_170 ?_
  refine g_iinc (j := 5) (v := x5 + (1 : Int32)) (ls' := [(5, .int (x5 + (1 : Int32))), (3, .int (x3 + (1 : Int32))), (0, .ref (gAd V 0)), (1, .int x1), (2, .int x2), (4, .int x4)]) rfl rfl (Nat.le_of_ble_eq_true rfl) rfl dX11_repairs_173 ?_
  refine g_goto (tgt := 115) rfl dX11_repairs_176 ?_
  cases h
  refine g_sub [2, 3, 4, 1, 5, 0] rfl ?_
  exact Kc (x3 + (1 : Int32), x5 + (1 : Int32), M19) rfl
def fX11_repairs_l115 (x1 : Int32) (x2 : Int32) (x4 : Int32) (x3 : Int32) (x5 : Int32) (M0 : gMem) : Option ((Int32 × Int32 × gMem) ⊕ (Int32 × gMem)) :=
  if (M0.1 0 16) ≤ x5 then (some (.inr (x3, M0))) else if x4 = (M0.1 0 11) then ((rI M0 8 24 x5).bind fun v17 => if v17 = (-2 : Int32) then (fX11_repairs_b169 x1 x2 x3 x4 x5 x3 x2 M0) else (rI M0 8 24 x5).bind fun v20 => (rI M0 1 374 ((14 : Int32) + v20)).bind fun v21 => fX11_repairs_b169 x1 x2 x3 x4 x5 x3 v21 M0) else some (.inr (x3, M0))
set_option maxRecDepth 20000 in
theorem tX11_repairs_l115 {X : gX} {V : gEnv} {x1 : Int32} {x2 : Int32} {x4 : Int32} {x3 : Int32} {x5 : Int32} {M0 : gMem}  {o : ((Int32 × Int32 × gMem) ⊕ (Int32 × gMem))} (h : fX11_repairs_l115 x1 x2 x4 x3 x5 M0 = some o) (Kc : ∀ s9, o = .inl s9 → gG X V mX11_repairs gShM s9.2.2 0 0 115 [(0, .ref (gAd V 0)), (1, .int x1), (2, .int x2), (3, .int s9.1), (4, .int x4), (5, .int s9.2.1)] []) (Kx : ∀ e9, o = .inr e9 → gG X V mX11_repairs gShM e9.2 0 0 179 [(0, .ref (gAd V 0)), (1, .int x1), (2, .int x2), (3, .int e9.1), (4, .int x4)] []) : gG X V mX11_repairs gShM M0 0 0 115 [(0, .ref (gAd V 0)), (1, .int x1), (2, .int x2), (3, .int x3), (4, .int x4), (5, .int x5)] [] := by
  unfold fX11_repairs_l115 at h
  refine g_iload 5 rfl dX11_repairs_115 ?_
  refine g_aload_n 0 rfl rfl dX11_repairs_117 ?_
  refine g_getI FX11_133 sM_0 rfl dX11_repairs_118 ?_
  rcases g_ite h with ⟨c15, h⟩ | ⟨c15, h⟩
  · refine g_icmp_ge_t c15 (tgt := 179) rfl dX11_repairs_121 ?_
    cases h
    refine g_sub [0, 1, 2, 3, 4] rfl ?_
    exact Kx (x3, M0) rfl
  · refine g_icmp_ge_f c15 (tgt := 179) rfl dX11_repairs_121 ?_
    refine g_iload 4 rfl dX11_repairs_124 ?_
    refine g_aload_n 0 rfl rfl dX11_repairs_126 ?_
    refine g_getI FX11_111 sM_0 rfl dX11_repairs_127 ?_
    rcases g_ite h with ⟨c16, h⟩ | ⟨c16, h⟩
    · refine g_icmp_ne_f c16 (tgt := 179) rfl dX11_repairs_130 ?_
      refine g_aload_n 0 rfl rfl dX11_repairs_133 ?_
      refine g_getR FX11_34 sM_0 rfl dX11_repairs_134 ?_
      refine g_iload_n 3 rfl rfl dX11_repairs_137 ?_
      refine g_aload_n 0 rfl rfl dX11_repairs_138 ?_
      refine g_getR FX11_31 sM_0 rfl dX11_repairs_139 ?_
      refine g_iload 5 rfl dX11_repairs_142 ?_
      obtain ⟨v17, ev17, h⟩ := g_bnd h
      refine g_iald' ev17 sM_8 dX11_repairs_144 ?_
      refine g_bipush (v := -2) rfl dX11_repairs_145 ?_
      rcases g_ite h with ⟨c18, h⟩ | ⟨c18, h⟩
      · refine g_icmp_ne_f c18 (tgt := 154) rfl dX11_repairs_147 ?_
        refine g_iload_n 2 rfl rfl dX11_repairs_150 ?_
        refine g_goto (tgt := 169) rfl dX11_repairs_151 ?_
        exact tX11_repairs_b169  h Kc Kx
      · refine g_icmp_ne_t c18 (tgt := 154) rfl dX11_repairs_147 ?_
        refine g_aload_n 0 rfl rfl dX11_repairs_154 ?_
        refine g_getR FX11_9 sM_0 rfl dX11_repairs_155 ?_
        refine g_bipush (v := 14) rfl dX11_repairs_158 ?_
        refine g_aload_n 0 rfl rfl dX11_repairs_160 ?_
        refine g_getR FX11_31 sM_0 rfl dX11_repairs_161 ?_
        refine g_iload 5 rfl dX11_repairs_164 ?_
        obtain ⟨v20, ev20, h⟩ := g_bnd h
        refine g_iald' ev20 sM_8 dX11_repairs_166 ?_
        refine g_iadd dX11_repairs_167 ?_
        obtain ⟨v21, ev21, h⟩ := g_bnd h
        refine g_iald' ev21 sM_1 dX11_repairs_168 ?_
        exact tX11_repairs_b169  h Kc Kx
    · refine g_icmp_ne_t c16 (tgt := 179) rfl dX11_repairs_130 ?_
      cases h
      refine g_sub [0, 1, 2, 3, 4] rfl ?_
      exact Kx (x3, M0) rfl
def fX11_repairs_b179 (x1 : Int32) (x2 : Int32) (x3 : Int32) (x4 : Int32) (M0 : gMem) : Option ((Int32 × Int32 × gMem) ⊕ (Int32 × gMem)) :=
  some (.inl (x3, x4 + (1 : Int32), M0))
set_option maxRecDepth 20000 in
theorem tX11_repairs_b179 {X : gX} {V : gEnv} {x1 : Int32} {x2 : Int32} {x3 : Int32} {x4 : Int32} {M0 : gMem}  {o : ((Int32 × Int32 × gMem) ⊕ (Int32 × gMem))} (h : fX11_repairs_b179 x1 x2 x3 x4 M0 = some o) (Kc : ∀ s9, o = .inl s9 → gG X V mX11_repairs gShM s9.2.2 0 0 66 [(0, .ref (gAd V 0)), (1, .int x1), (2, .int x2), (3, .int s9.1), (4, .int s9.2.1)] []) (Kx : ∀ e9, o = .inr e9 → gG X V mX11_repairs gShM e9.2 0 0 185 [(0, .ref (gAd V 0)), (1, .int x1), (2, .int x2), (3, .int e9.1)] []) : gG X V mX11_repairs gShM M0 0 0 179 [(0, .ref (gAd V 0)), (1, .int x1), (2, .int x2), (3, .int x3), (4, .int x4)] [] := by
  unfold fX11_repairs_b179 at h
  refine g_iinc (j := 4) (v := x4 + (1 : Int32)) (ls' := [(4, .int (x4 + (1 : Int32))), (0, .ref (gAd V 0)), (1, .int x1), (2, .int x2), (3, .int x3)]) rfl rfl (Nat.le_of_ble_eq_true rfl) rfl dX11_repairs_179 ?_
  refine g_goto (tgt := 66) rfl dX11_repairs_182 ?_
  cases h
  refine g_sub [1, 2, 3, 4, 0] rfl ?_
  exact Kc (x3, x4 + (1 : Int32), M0) rfl
def fX11_repairs_b112 (x1 : Int32) (x2 : Int32) (x3 : Int32) (x4 : Int32) (M0 : gMem) : Option ((Int32 × Int32 × gMem) ⊕ (Int32 × gMem)) :=
  (gLoop (fun z9 => fX11_repairs_l115 x1 x2 x4 z9.1 z9.2.1 z9.2.2) gFu (x3, (0 : Int32), M0)).bind fun w22 => fX11_repairs_b179 x1 x2 w22.1 x4 w22.2
set_option maxRecDepth 20000 in
theorem tX11_repairs_b112 {X : gX} {V : gEnv} {x1 : Int32} {x2 : Int32} {x3 : Int32} {x4 : Int32} {M0 : gMem}  {o : ((Int32 × Int32 × gMem) ⊕ (Int32 × gMem))} (h : fX11_repairs_b112 x1 x2 x3 x4 M0 = some o) (Kc : ∀ s9, o = .inl s9 → gG X V mX11_repairs gShM s9.2.2 0 0 66 [(0, .ref (gAd V 0)), (1, .int x1), (2, .int x2), (3, .int s9.1), (4, .int s9.2.1)] []) (Kx : ∀ e9, o = .inr e9 → gG X V mX11_repairs gShM e9.2 0 0 185 [(0, .ref (gAd V 0)), (1, .int x1), (2, .int x2), (3, .int e9.1)] []) : gG X V mX11_repairs gShM M0 0 0 112 [(0, .ref (gAd V 0)), (1, .int x1), (2, .int x2), (3, .int x3), (4, .int x4)] [] := by
  unfold fX11_repairs_b112 at h
  refine g_iconst (v := 0) rfl dX11_repairs_112 ?_
  refine g_istore (ls' := [(5, .int (0 : Int32)), (0, .ref (gAd V 0)), (1, .int x1), (2, .int x2), (3, .int x3), (4, .int x4)]) (Nat.le_of_ble_eq_true rfl) rfl dX11_repairs_113 ?_
  obtain ⟨w22, ew22, h⟩ := g_bnd h
  refine g_sub [1, 2, 3, 4, 5, 0] rfl ?_
  have KX : gG X V mX11_repairs gShM w22.2 0 0 179 [(0, .ref (gAd V 0)), (1, .int x1), (2, .int x2), (3, .int w22.1), (4, .int x4)] [] := by
    exact tX11_repairs_b179  h Kc Kx
  exact gLoop_Q ew22 (fun z9 => gG X V mX11_repairs gShM z9.2.2 0 0 115 [(0, .ref (gAd V 0)), (1, .int x1), (2, .int x2), (3, .int z9.1), (4, .int x4), (5, .int z9.2.1)] []) (fun s9 o9 hb9 hc9 hx9 => tX11_repairs_l115  hb9 hc9 (fun e9 he9 => by cases hx9 _ he9; exact KX))
def fX11_repairs_l66 (x1 : Int32) (x2 : Int32) (x3 : Int32) (x4 : Int32) (M0 : gMem) : Option ((Int32 × Int32 × gMem) ⊕ (Int32 × gMem)) :=
  (rI M0 1 374 (2 : Int32)).bind fun v9 => if v9 ≤ x4 then (some (.inr (x3, M0))) else (fX11_in x4 (M0.1 0 10) (M0.1 0 11)).bind fun v11 => if v11 = 0 then ((rI M0 1 374 ((14 : Int32) + x4)).bind fun v13 => (wI M0 9 24 x3 v13).bind fun M14 => fX11_repairs_b112 x1 x2 (x3 + (1 : Int32)) x4 M14) else fX11_repairs_b112 x1 x2 x3 x4 M0
set_option maxRecDepth 20000 in
theorem tX11_repairs_l66 {X : gX} {V : gEnv} {x1 : Int32} {x2 : Int32} {x3 : Int32} {x4 : Int32} {M0 : gMem}  {o : ((Int32 × Int32 × gMem) ⊕ (Int32 × gMem))} (h : fX11_repairs_l66 x1 x2 x3 x4 M0 = some o) (Kc : ∀ s9, o = .inl s9 → gG X V mX11_repairs gShM s9.2.2 0 0 66 [(0, .ref (gAd V 0)), (1, .int x1), (2, .int x2), (3, .int s9.1), (4, .int s9.2.1)] []) (Kx : ∀ e9, o = .inr e9 → gG X V mX11_repairs gShM e9.2 0 0 185 [(0, .ref (gAd V 0)), (1, .int x1), (2, .int x2), (3, .int e9.1)] []) : gG X V mX11_repairs gShM M0 0 0 66 [(0, .ref (gAd V 0)), (1, .int x1), (2, .int x2), (3, .int x3), (4, .int x4)] [] := by
  unfold fX11_repairs_l66 at h
  refine g_iload 4 rfl dX11_repairs_66 ?_
  refine g_aload_n 0 rfl rfl dX11_repairs_68 ?_
  refine g_getR FX11_9 sM_0 rfl dX11_repairs_69 ?_
  refine g_iconst (v := 2) rfl dX11_repairs_72 ?_
  obtain ⟨v9, ev9, h⟩ := g_bnd h
  refine g_iald' ev9 sM_1 dX11_repairs_73 ?_
  rcases g_ite h with ⟨c10, h⟩ | ⟨c10, h⟩
  · refine g_icmp_ge_t c10 (tgt := 185) rfl dX11_repairs_74 ?_
    cases h
    refine g_sub [0, 1, 2, 3] rfl ?_
    exact Kx (x3, M0) rfl
  · refine g_icmp_ge_f c10 (tgt := 185) rfl dX11_repairs_74 ?_
    refine g_iload 4 rfl dX11_repairs_77 ?_
    refine g_aload_n 0 rfl rfl dX11_repairs_79 ?_
    refine g_getI FX11_108 sM_0 rfl dX11_repairs_80 ?_
    refine g_aload_n 0 rfl rfl dX11_repairs_83 ?_
    refine g_getI FX11_111 sM_0 rfl dX11_repairs_84 ?_
    obtain ⟨v11, ev11, h⟩ := g_bnd h
    refine g_callS LX11_172 (kX11_in ev11) rfl rfl (Nat.le_of_ble_eq_true rfl) ⟨Nat.le_of_ble_eq_true rfl, Nat.le_of_ble_eq_true rfl⟩ ⟨Nat.le_of_ble_eq_true rfl, Nat.le_of_ble_eq_true rfl⟩ dX11_repairs_87 rfl ?_
    rcases g_ite h with ⟨c12, h⟩ | ⟨c12, h⟩
    · refine g_if_ne_f c12 (tgt := 112) rfl dX11_repairs_90 ?_
      refine g_aload_n 0 rfl rfl dX11_repairs_93 ?_
      refine g_getR FX11_34 sM_0 rfl dX11_repairs_94 ?_
      refine g_iload_n 3 rfl rfl dX11_repairs_97 ?_
      refine g_aload_n 0 rfl rfl dX11_repairs_98 ?_
      refine g_getR FX11_9 sM_0 rfl dX11_repairs_99 ?_
      refine g_bipush (v := 14) rfl dX11_repairs_102 ?_
      refine g_iload 4 rfl dX11_repairs_104 ?_
      refine g_iadd dX11_repairs_106 ?_
      obtain ⟨v13, ev13, h⟩ := g_bnd h
      refine g_iald' ev13 sM_1 dX11_repairs_107 ?_
      obtain ⟨M14, eM14, h⟩ := g_bnd h
      refine g_iast' eM14 sM_9 dX11_repairs_108 ?_
      refine g_iinc (j := 3) (v := x3 + (1 : Int32)) (ls' := [(3, .int (x3 + (1 : Int32))), (0, .ref (gAd V 0)), (1, .int x1), (2, .int x2), (4, .int x4)]) rfl rfl (Nat.le_of_ble_eq_true rfl) rfl dX11_repairs_109 ?_
      refine g_sub [1, 2, 3, 0, 4] rfl ?_
      exact tX11_repairs_b112  h Kc Kx
    · refine g_if_ne_t c12 (tgt := 112) rfl dX11_repairs_90 ?_
      exact tX11_repairs_b112  h Kc Kx
def fX11_repairs_b225 (x1 : Int32) (x2 : Int32) (x3 : Int32) (x4 : Int32) (M0 : gMem) : Option ((Int32 × gMem) ⊕ gMem) :=
  some (.inl (x4 + (1 : Int32), M0))
set_option maxRecDepth 20000 in
theorem tX11_repairs_b225 {X : gX} {V : gEnv} {x1 : Int32} {x2 : Int32} {x3 : Int32} {x4 : Int32} {M0 : gMem}  {o : ((Int32 × gMem) ⊕ gMem)} (h : fX11_repairs_b225 x1 x2 x3 x4 M0 = some o) (Kc : ∀ s9, o = .inl s9 → gG X V mX11_repairs gShM s9.2 0 0 188 [(0, .ref (gAd V 0)), (1, .int x1), (2, .int x2), (3, .int x3), (4, .int s9.1)] []) (Kx : ∀ e9, o = .inr e9 → gG X V mX11_repairs gShM e9 0 0 231 [(0, .ref (gAd V 0)), (3, .int x3)] []) : gG X V mX11_repairs gShM M0 0 0 225 [(0, .ref (gAd V 0)), (1, .int x1), (2, .int x2), (3, .int x3), (4, .int x4)] [] := by
  unfold fX11_repairs_b225 at h
  refine g_iinc (j := 4) (v := x4 + (1 : Int32)) (ls' := [(4, .int (x4 + (1 : Int32))), (0, .ref (gAd V 0)), (1, .int x1), (2, .int x2), (3, .int x3)]) rfl rfl (Nat.le_of_ble_eq_true rfl) rfl dX11_repairs_225 ?_
  refine g_goto (tgt := 188) rfl dX11_repairs_228 ?_
  cases h
  refine g_sub [1, 2, 3, 4, 0] rfl ?_
  exact Kc (x4 + (1 : Int32), M0) rfl
def fX11_repairs_l188 (x1 : Int32) (x2 : Int32) (x3 : Int32) (x4 : Int32) (M0 : gMem) : Option ((Int32 × gMem) ⊕ gMem) :=
  (rI M0 1 374 (0 : Int32)).bind fun v24 => if v24 ≤ x4 then (some (.inr M0)) else if x1 = 0 then (fX11_repairs_b225 x1 x2 x3 x4 M0) else (rI M0 10 24 x4).bind fun v27 => (fX11_has x1 v27).bind fun v28 => if v28 = 0 then (fX11_repairs_b225 x1 x2 x3 x4 M0) else (fX11_puts x4 (1 : Int32) x2 M0).bind fun v30 => fX11_repairs_b225 x1 x2 x3 x4 v30
set_option maxRecDepth 20000 in
theorem tX11_repairs_l188 {X : gX} {V : gEnv} {x1 : Int32} {x2 : Int32} {x3 : Int32} {x4 : Int32} {M0 : gMem}  {o : ((Int32 × gMem) ⊕ gMem)} (h : fX11_repairs_l188 x1 x2 x3 x4 M0 = some o) (Kc : ∀ s9, o = .inl s9 → gG X V mX11_repairs gShM s9.2 0 0 188 [(0, .ref (gAd V 0)), (1, .int x1), (2, .int x2), (3, .int x3), (4, .int s9.1)] []) (Kx : ∀ e9, o = .inr e9 → gG X V mX11_repairs gShM e9 0 0 231 [(0, .ref (gAd V 0)), (3, .int x3)] []) : gG X V mX11_repairs gShM M0 0 0 188 [(0, .ref (gAd V 0)), (1, .int x1), (2, .int x2), (3, .int x3), (4, .int x4)] [] := by
  unfold fX11_repairs_l188 at h
  refine g_iload 4 rfl dX11_repairs_188 ?_
  refine g_aload_n 0 rfl rfl dX11_repairs_190 ?_
  refine g_getR FX11_9 sM_0 rfl dX11_repairs_191 ?_
  refine g_iconst (v := 0) rfl dX11_repairs_194 ?_
  obtain ⟨v24, ev24, h⟩ := g_bnd h
  refine g_iald' ev24 sM_1 dX11_repairs_195 ?_
  rcases g_ite h with ⟨c25, h⟩ | ⟨c25, h⟩
  · refine g_icmp_ge_t c25 (tgt := 231) rfl dX11_repairs_196 ?_
    cases h
    refine g_sub [0, 3] rfl ?_
    exact Kx M0 rfl
  · refine g_icmp_ge_f c25 (tgt := 231) rfl dX11_repairs_196 ?_
    refine g_iload_n 1 rfl rfl dX11_repairs_199 ?_
    rcases g_ite h with ⟨c26, h⟩ | ⟨c26, h⟩
    · refine g_if_eq_t c26 (tgt := 225) rfl dX11_repairs_200 ?_
      exact tX11_repairs_b225  h Kc Kx
    · refine g_if_eq_f c26 (tgt := 225) rfl dX11_repairs_200 ?_
      refine g_iload_n 1 rfl rfl dX11_repairs_203 ?_
      refine g_aload_n 0 rfl rfl dX11_repairs_204 ?_
      refine g_getR FX11_37 sM_0 rfl dX11_repairs_205 ?_
      refine g_iload 4 rfl dX11_repairs_208 ?_
      obtain ⟨v27, ev27, h⟩ := g_bnd h
      refine g_iald' ev27 sM_10 dX11_repairs_210 ?_
      obtain ⟨v28, ev28, h⟩ := g_bnd h
      refine g_callS LX11_93 (kX11_has ev28) rfl rfl (Nat.le_of_ble_eq_true rfl) ⟨Nat.le_of_ble_eq_true rfl, Nat.le_of_ble_eq_true rfl⟩ ⟨Nat.le_of_ble_eq_true rfl, Nat.le_of_ble_eq_true rfl⟩ dX11_repairs_211 rfl ?_
      rcases g_ite h with ⟨c29, h⟩ | ⟨c29, h⟩
      · refine g_if_eq_t c29 (tgt := 225) rfl dX11_repairs_214 ?_
        exact tX11_repairs_b225  h Kc Kx
      · refine g_if_eq_f c29 (tgt := 225) rfl dX11_repairs_214 ?_
        refine g_aload_n 0 rfl rfl dX11_repairs_217 ?_
        refine g_iload 4 rfl dX11_repairs_218 ?_
        refine g_iconst (v := 1) rfl dX11_repairs_220 ?_
        refine g_iload_n 2 rfl rfl dX11_repairs_221 ?_
        obtain ⟨v30, ev30, h⟩ := g_bnd h
        refine g_callV LX11_78 sM_0 rfl (kX11_puts ev30) rfl rfl (Nat.le_of_ble_eq_true rfl) ⟨Nat.le_of_ble_eq_true rfl, Nat.le_of_ble_eq_true rfl⟩ ⟨Nat.le_of_ble_eq_true rfl, Nat.le_of_ble_eq_true rfl⟩ dX11_repairs_222 rfl ?_
        exact tX11_repairs_b225  h Kc Kx
def fX11_repairs_l234 (x3 : Int32) (x4 : Int32) (M0 : gMem) : Option ((Int32 × gMem) ⊕ gMem) :=
  if x3 ≤ x4 then (some (.inr M0)) else (rI M0 9 24 x4).bind fun v33 => (wI M0 1 374 ((14 : Int32) + x4) v33).bind fun M34 => some (.inl (x4 + (1 : Int32), M34))
set_option maxRecDepth 20000 in
theorem tX11_repairs_l234 {X : gX} {V : gEnv} {x3 : Int32} {x4 : Int32} {M0 : gMem}  {o : ((Int32 × gMem) ⊕ gMem)} (h : fX11_repairs_l234 x3 x4 M0 = some o) (Kc : ∀ s9, o = .inl s9 → gG X V mX11_repairs gShM s9.2 0 0 234 [(0, .ref (gAd V 0)), (3, .int x3), (4, .int s9.1)] []) (Kx : ∀ e9, o = .inr e9 → gG X V mX11_repairs gShM e9 0 0 263 [(0, .ref (gAd V 0)), (3, .int x3)] []) : gG X V mX11_repairs gShM M0 0 0 234 [(0, .ref (gAd V 0)), (3, .int x3), (4, .int x4)] [] := by
  unfold fX11_repairs_l234 at h
  refine g_iload 2 rfl dX11_repairs_234 ?_
  refine g_iload_n 1 rfl rfl dX11_repairs_236 ?_
  rcases g_ite h with ⟨c32, h⟩ | ⟨c32, h⟩
  · refine g_icmp_ge_t c32 (tgt := 263) rfl dX11_repairs_237 ?_
    cases h
    refine g_sub [0, 1] rfl ?_
    exact Kx M0 rfl
  · refine g_icmp_ge_f c32 (tgt := 263) rfl dX11_repairs_237 ?_
    refine g_aload_n 0 rfl rfl dX11_repairs_240 ?_
    refine g_getR FX11_9 sM_0 rfl dX11_repairs_241 ?_
    refine g_bipush (v := 14) rfl dX11_repairs_244 ?_
    refine g_iload 2 rfl dX11_repairs_246 ?_
    refine g_iadd dX11_repairs_248 ?_
    refine g_aload_n 0 rfl rfl dX11_repairs_249 ?_
    refine g_getR FX11_34 sM_0 rfl dX11_repairs_250 ?_
    refine g_iload 2 rfl dX11_repairs_253 ?_
    obtain ⟨v33, ev33, h⟩ := g_bnd h
    refine g_iald' ev33 sM_9 dX11_repairs_255 ?_
    obtain ⟨M34, eM34, h⟩ := g_bnd h
    refine g_iast' eM34 sM_1 dX11_repairs_256 ?_
    refine g_iinc (j := 2) (v := x4 + (1 : Int32)) (ls' := [(4, .int (x4 + (1 : Int32))), (0, .ref (gAd V 0)), (3, .int x3)]) rfl rfl (Nat.le_of_ble_eq_true rfl) rfl dX11_repairs_257 ?_
    refine g_goto (tgt := 234) rfl dX11_repairs_260 ?_
    cases h
    refine g_sub [1, 2, 0] rfl ?_
    exact Kc (x4 + (1 : Int32), M34) rfl
def fX11_repairs_b23 (x1 : Int32) (s0 : Int32) (M0 : gMem) : Option (Int32 × gMem) :=
  (fX11_ordersPart M0).bind fun v3 => (gLoop (fun z9 => fX11_repairs_l33 x1 s0 (0 : Int32) z9.1 z9.2) gFu ((0 : Int32), v3)).bind fun w8 => (gLoop (fun z9 => fX11_repairs_l66 x1 s0 z9.1 z9.2.1 z9.2.2) gFu ((0 : Int32), (0 : Int32), w8)).bind fun w23 => (gLoop (fun z9 => fX11_repairs_l188 x1 s0 w23.1 z9.1 z9.2) gFu ((0 : Int32), w23.2)).bind fun w31 => (gLoop (fun z9 => fX11_repairs_l234 w23.1 z9.1 z9.2) gFu ((0 : Int32), w31)).bind fun w35 => (wI w35 1 374 (2 : Int32) w23.1).bind fun M36 => (fX11_movedFrom M36).bind fun v37 => some (v37, M36)
set_option maxRecDepth 20000 in
theorem tX11_repairs_b23 {X : gX} {V : gEnv} {x1 : Int32} {s0 : Int32} {M0 : gMem}  {o : (Int32 × gMem)} (h : fX11_repairs_b23 x1 s0 M0 = some o) (O : gO X V mX11_repairs gShM (some .int) (some (.int o.1)) o.2) : gG X V mX11_repairs gShM M0 0 0 23 [(0, .ref (gAd V 0)), (1, .int x1)] [.int s0] := by
  unfold fX11_repairs_b23 at h
  refine g_istore_n (ls' := [(2, .int s0), (0, .ref (gAd V 0)), (1, .int x1)]) rfl (Nat.le_of_ble_eq_true rfl) rfl dX11_repairs_23 ?_
  refine g_aload_n 1 rfl rfl dX11_repairs_24 ?_
  obtain ⟨v3, ev3, h⟩ := g_bnd h
  refine g_callV LX11_169 sM_0 rfl (kX11_ordersPart ev3) rfl rfl (Nat.le_of_ble_eq_true rfl) ⟨Nat.le_of_ble_eq_true rfl, Nat.le_of_ble_eq_true rfl⟩ ⟨Nat.le_of_ble_eq_true rfl, Nat.le_of_ble_eq_true rfl⟩ dX11_repairs_25 rfl ?_
  refine g_iconst (v := 0) rfl dX11_repairs_28 ?_
  refine g_istore_n (ls' := [(3, .int (0 : Int32)), (2, .int s0), (0, .ref (gAd V 0)), (1, .int x1)]) rfl (Nat.le_of_ble_eq_true rfl) rfl dX11_repairs_29 ?_
  refine g_iconst (v := 0) rfl dX11_repairs_30 ?_
  refine g_istore (ls' := [(4, .int (0 : Int32)), (3, .int (0 : Int32)), (2, .int s0), (0, .ref (gAd V 0)), (1, .int x1)]) (Nat.le_of_ble_eq_true rfl) rfl dX11_repairs_31 ?_
  obtain ⟨w8, ew8, h⟩ := g_bnd h
  refine g_sub [3, 4, 2, 1, 0] rfl ?_
  have KX : gG X V mX11_repairs gShM w8 0 0 63 [(0, .ref (gAd V 0)), (1, .int x1), (2, .int s0), (3, .int (0 : Int32))] [] := by
    refine g_iconst (v := 0) rfl dX11_repairs_63 ?_
    refine g_istore (ls' := [(4, .int (0 : Int32)), (0, .ref (gAd V 0)), (1, .int x1), (2, .int s0), (3, .int (0 : Int32))]) (Nat.le_of_ble_eq_true rfl) rfl dX11_repairs_64 ?_
    obtain ⟨w23, ew23, h⟩ := g_bnd h
    refine g_sub [1, 2, 3, 4, 0] rfl ?_
    have KX : gG X V mX11_repairs gShM w23.2 0 0 185 [(0, .ref (gAd V 0)), (1, .int x1), (2, .int s0), (3, .int w23.1)] [] := by
      refine g_iconst (v := 0) rfl dX11_repairs_185 ?_
      refine g_istore (ls' := [(4, .int (0 : Int32)), (0, .ref (gAd V 0)), (1, .int x1), (2, .int s0), (3, .int w23.1)]) (Nat.le_of_ble_eq_true rfl) rfl dX11_repairs_186 ?_
      obtain ⟨w31, ew31, h⟩ := g_bnd h
      refine g_sub [1, 2, 3, 4, 0] rfl ?_
      have KX : gG X V mX11_repairs gShM w31 0 0 231 [(0, .ref (gAd V 0)), (3, .int w23.1)] [] := by
        refine g_iconst (v := 0) rfl dX11_repairs_231 ?_
        refine g_istore (ls' := [(4, .int (0 : Int32)), (0, .ref (gAd V 0)), (3, .int w23.1)]) (Nat.le_of_ble_eq_true rfl) rfl dX11_repairs_232 ?_
        obtain ⟨w35, ew35, h⟩ := g_bnd h
        refine g_sub [1, 2, 0] rfl ?_
        have KX : gG X V mX11_repairs gShM w35 0 0 263 [(0, .ref (gAd V 0)), (3, .int w23.1)] [] := by
          refine g_aload_n 0 rfl rfl dX11_repairs_263 ?_
          refine g_getR FX11_9 sM_0 rfl dX11_repairs_264 ?_
          refine g_iconst (v := 2) rfl dX11_repairs_267 ?_
          refine g_iload_n 1 rfl rfl dX11_repairs_268 ?_
          obtain ⟨M36, eM36, h⟩ := g_bnd h
          refine g_iast' eM36 sM_1 dX11_repairs_269 ?_
          refine g_aload_n 0 rfl rfl dX11_repairs_270 ?_
          obtain ⟨v37, ev37, h⟩ := g_bnd h
          refine g_callV LX11_176 sM_0 rfl (kX11_movedFrom ev37) rfl rfl (Nat.le_of_ble_eq_true rfl) ⟨Nat.le_of_ble_eq_true rfl, Nat.le_of_ble_eq_true rfl⟩ ⟨Nat.le_of_ble_eq_true rfl, Nat.le_of_ble_eq_true rfl⟩ dX11_repairs_271 rfl ?_
          cases h
          exact g_iret O ⟨Nat.le_of_ble_eq_true rfl, Nat.le_of_ble_eq_true rfl⟩ rfl dX11_repairs_274
        exact gLoop_Q ew35 (fun z9 => gG X V mX11_repairs gShM z9.2 0 0 234 [(0, .ref (gAd V 0)), (3, .int w23.1), (4, .int z9.1)] []) (fun s9 o9 hb9 hc9 hx9 => tX11_repairs_l234  hb9 hc9 (fun e9 he9 => by cases hx9 _ he9; exact KX))
      exact gLoop_Q ew31 (fun z9 => gG X V mX11_repairs gShM z9.2 0 0 188 [(0, .ref (gAd V 0)), (1, .int x1), (2, .int s0), (3, .int w23.1), (4, .int z9.1)] []) (fun s9 o9 hb9 hc9 hx9 => tX11_repairs_l188  hb9 hc9 (fun e9 he9 => by cases hx9 _ he9; exact KX))
    exact gLoop_Q ew23 (fun z9 => gG X V mX11_repairs gShM z9.2.2 0 0 66 [(0, .ref (gAd V 0)), (1, .int x1), (2, .int s0), (3, .int z9.1), (4, .int z9.2.1)] []) (fun s9 o9 hb9 hc9 hx9 => tX11_repairs_l66  hb9 hc9 (fun e9 he9 => by cases hx9 _ he9; exact KX))
  exact gLoop_Q ew8 (fun z9 => gG X V mX11_repairs gShM z9.2 0 0 33 [(0, .ref (gAd V 0)), (1, .int x1), (2, .int s0), (3, .int (0 : Int32)), (4, .int z9.1)] []) (fun s9 o9 hb9 hc9 hx9 => tX11_repairs_l33  hb9 hc9 (fun e9 he9 => by cases hx9 _ he9; exact KX))
def fX11_repairs (M0 : gMem) : Option (Int32 × gMem) :=
  (nm ((M0.1 0 12) &&& (M0.1 0 13))).bind fun v1 => if v1 = 0 then (fX11_repairs_b23 v1 (-1 : Int32) M0) else (fX11_leastHead v1 M0).bind fun v38 => fX11_repairs_b23 v1 v38 M0
set_option maxRecDepth 20000 in
theorem tX11_repairs {X : gX} {V : gEnv} {M0 : gMem}  {o : (Int32 × gMem)} (h : fX11_repairs M0 = some o) (O : gO X V mX11_repairs gShM (some .int) (some (.int o.1)) o.2) : gG X V mX11_repairs gShM M0 0 0 0 [(0, .ref (gAd V 0))] [] := by
  unfold fX11_repairs at h
  refine g_aload_n 0 rfl rfl dX11_repairs_0 ?_
  refine g_getI FX11_114 sM_0 rfl dX11_repairs_1 ?_
  refine g_aload_n 0 rfl rfl dX11_repairs_4 ?_
  refine g_getI FX11_117 sM_0 rfl dX11_repairs_5 ?_
  refine g_iand dX11_repairs_8 ?_
  obtain ⟨v1, ev1, h⟩ := g_bnd h
  refine g_nmI ev1 ?_
  refine g_istore_n (ls' := [(1, .int v1), (0, .ref (gAd V 0))]) rfl (Nat.le_of_ble_eq_true rfl) rfl dX11_repairs_9 ?_
  refine g_iload_n 0 rfl rfl dX11_repairs_10 ?_
  rcases g_ite h with ⟨c2, h⟩ | ⟨c2, h⟩
  · refine g_if_ne_f c2 (tgt := 18) rfl dX11_repairs_11 ?_
    refine g_iconst (v := -1) rfl dX11_repairs_14 ?_
    refine g_goto (tgt := 23) rfl dX11_repairs_15 ?_
    refine g_sub [1, 0] rfl ?_
    exact tX11_repairs_b23  h O
  · refine g_if_ne_t c2 (tgt := 18) rfl dX11_repairs_11 ?_
    refine g_aload_n 1 rfl rfl dX11_repairs_18 ?_
    refine g_iload_n 0 rfl rfl dX11_repairs_19 ?_
    obtain ⟨v38, ev38, h⟩ := g_bnd h
    refine g_callV LX11_166 sM_0 rfl (kX11_leastHead ev38) rfl rfl (Nat.le_of_ble_eq_true rfl) ⟨Nat.le_of_ble_eq_true rfl, Nat.le_of_ble_eq_true rfl⟩ ⟨Nat.le_of_ble_eq_true rfl, Nat.le_of_ble_eq_true rfl⟩ dX11_repairs_20 rfl ?_
    refine g_sub [1, 0] rfl ?_
    exact tX11_repairs_b23  h O
theorem kX11_repairs {l : Launch} {V : gEnv} {M0 : gMem}   {o : (Int32 × gMem)} (h : fX11_repairs M0 = some o) : gM l yX11_repairs cX11_repairs 6 (some .int) rX11_repairs V gShM [.ref (gAd V 0)] M0 (some (.int o.1)) o.2 :=
  gM.of (by decide) (Nat.le_of_ble_eq_true rfl) rfl (fun X _ O => tX11_repairs  h O)
theorem dX11_comes_0 : decode cX11_comes 0 = .ok (.aload_n 0, 1) := by decide +kernel
theorem dX11_comes_1 : decode cX11_comes 1 = .ok (.iload_n 1, 1) := by decide +kernel
theorem dX11_comes_2 : decode cX11_comes 2 = .ok (.iload_n 2, 1) := by decide +kernel
theorem dX11_comes_3 : decode cX11_comes 3 = .ok (.invokevirtual 182, 3) := by decide +kernel
theorem dX11_comes_6 : decode cX11_comes 6 = .ok (.istore_n 3, 1) := by decide +kernel
theorem dX11_comes_7 : decode cX11_comes 7 = .ok (.iload_n 3, 1) := by decide +kernel
theorem dX11_comes_8 : decode cX11_comes 8 = .ok (.ifCond .eq 6, 3) := by decide +kernel
theorem dX11_comes_11 : decode cX11_comes 11 = .ok (.iload_n 3, 1) := by decide +kernel
theorem dX11_comes_12 : decode cX11_comes 12 = .ok (.ineg, 1) := by decide +kernel
theorem dX11_comes_13 : decode cX11_comes 13 = .ok (.ireturn, 1) := by decide +kernel
theorem dX11_comes_14 : decode cX11_comes 14 = .ok (.iconst 0, 1) := by decide +kernel
theorem dX11_comes_15 : decode cX11_comes 15 = .ok (.istore 4, 2) := by decide +kernel
theorem dX11_comes_17 : decode cX11_comes 17 = .ok (.aload_n 0, 1) := by decide +kernel
theorem dX11_comes_18 : decode cX11_comes 18 = .ok (.iload_n 1, 1) := by decide +kernel
theorem dX11_comes_19 : decode cX11_comes 19 = .ok (.iload_n 2, 1) := by decide +kernel
theorem dX11_comes_20 : decode cX11_comes 20 = .ok (.invokevirtual 126, 3) := by decide +kernel
theorem dX11_comes_23 : decode cX11_comes 23 = .ok (.ifCond .eq 71, 3) := by decide +kernel
theorem dX11_comes_26 : decode cX11_comes 26 = .ok (.aload_n 0, 1) := by decide +kernel
theorem dX11_comes_27 : decode cX11_comes 27 = .ok (.iload_n 1, 1) := by decide +kernel
theorem dX11_comes_28 : decode cX11_comes 28 = .ok (.iload_n 2, 1) := by decide +kernel
theorem dX11_comes_29 : decode cX11_comes 29 = .ok (.invokevirtual 129, 3) := by decide +kernel
theorem dX11_comes_32 : decode cX11_comes 32 = .ok (.aload_n 0, 1) := by decide +kernel
theorem dX11_comes_33 : decode cX11_comes 33 = .ok (.iconst 2, 1) := by decide +kernel
theorem dX11_comes_34 : decode cX11_comes 34 = .ok (.iconst 1, 1) := by decide +kernel
theorem dX11_comes_35 : decode cX11_comes 35 = .ok (.invokevirtual 185, 3) := by decide +kernel
theorem dX11_comes_38 : decode cX11_comes 38 = .ok (.aload_n 0, 1) := by decide +kernel
theorem dX11_comes_39 : decode cX11_comes 39 = .ok (.iconst 3, 1) := by decide +kernel
theorem dX11_comes_40 : decode cX11_comes 40 = .ok (.aload_n 0, 1) := by decide +kernel
theorem dX11_comes_41 : decode cX11_comes 41 = .ok (.getfield 111, 3) := by decide +kernel
theorem dX11_comes_44 : decode cX11_comes 44 = .ok (.aload_n 0, 1) := by decide +kernel
theorem dX11_comes_45 : decode cX11_comes 45 = .ok (.getfield 108, 3) := by decide +kernel
theorem dX11_comes_48 : decode cX11_comes 48 = .ok (.isub, 1) := by decide +kernel
theorem dX11_comes_49 : decode cX11_comes 49 = .ok (.iconst 1, 1) := by decide +kernel
theorem dX11_comes_50 : decode cX11_comes 50 = .ok (.iadd, 1) := by decide +kernel
theorem dX11_comes_51 : decode cX11_comes 51 = .ok (.invokevirtual 185, 3) := by decide +kernel
theorem dX11_comes_54 : decode cX11_comes 54 = .ok (.aload_n 0, 1) := by decide +kernel
theorem dX11_comes_55 : decode cX11_comes 55 = .ok (.iconst 4, 1) := by decide +kernel
theorem dX11_comes_56 : decode cX11_comes 56 = .ok (.aload_n 0, 1) := by decide +kernel
theorem dX11_comes_57 : decode cX11_comes 57 = .ok (.getfield 120, 3) := by decide +kernel
theorem dX11_comes_60 : decode cX11_comes 60 = .ok (.invokevirtual 185, 3) := by decide +kernel
theorem dX11_comes_63 : decode cX11_comes 63 = .ok (.aload_n 0, 1) := by decide +kernel
theorem dX11_comes_64 : decode cX11_comes 64 = .ok (.bipush 6, 2) := by decide +kernel
theorem dX11_comes_66 : decode cX11_comes 66 = .ok (.aload_n 0, 1) := by decide +kernel
theorem dX11_comes_67 : decode cX11_comes 67 = .ok (.getfield 114, 3) := by decide +kernel
theorem dX11_comes_70 : decode cX11_comes 70 = .ok (.aload_n 0, 1) := by decide +kernel
theorem dX11_comes_71 : decode cX11_comes 71 = .ok (.getfield 117, 3) := by decide +kernel
theorem dX11_comes_74 : decode cX11_comes 74 = .ok (.iand, 1) := by decide +kernel
theorem dX11_comes_75 : decode cX11_comes 75 = .ok (.invokestatic 139, 3) := by decide +kernel
theorem dX11_comes_78 : decode cX11_comes 78 = .ok (.invokevirtual 185, 3) := by decide +kernel
theorem dX11_comes_81 : decode cX11_comes 81 = .ok (.aload_n 0, 1) := by decide +kernel
theorem dX11_comes_82 : decode cX11_comes 82 = .ok (.invokevirtual 188, 3) := by decide +kernel
theorem dX11_comes_85 : decode cX11_comes 85 = .ok (.istore 4, 2) := by decide +kernel
theorem dX11_comes_87 : decode cX11_comes 87 = .ok (.aload_n 0, 1) := by decide +kernel
theorem dX11_comes_88 : decode cX11_comes 88 = .ok (.iconst 5, 1) := by decide +kernel
theorem dX11_comes_89 : decode cX11_comes 89 = .ok (.iload 4, 2) := by decide +kernel
theorem dX11_comes_91 : decode cX11_comes 91 = .ok (.invokevirtual 185, 3) := by decide +kernel
theorem dX11_comes_94 : decode cX11_comes 94 = .ok (.aload_n 0, 1) := by decide +kernel
theorem dX11_comes_95 : decode cX11_comes 95 = .ok (.iconst 0, 1) := by decide +kernel
theorem dX11_comes_96 : decode cX11_comes 96 = .ok (.iconst 1, 1) := by decide +kernel
theorem dX11_comes_97 : decode cX11_comes 97 = .ok (.invokevirtual 185, 3) := by decide +kernel
theorem dX11_comes_100 : decode cX11_comes 100 = .ok (.aload_n 0, 1) := by decide +kernel
theorem dX11_comes_101 : decode cX11_comes 101 = .ok (.getfield 9, 3) := by decide +kernel
theorem dX11_comes_104 : decode cX11_comes 104 = .ok (.bipush 38, 2) := by decide +kernel
theorem dX11_comes_106 : decode cX11_comes 106 = .ok (.aload_n 0, 1) := by decide +kernel
theorem dX11_comes_107 : decode cX11_comes 107 = .ok (.getfield 9, 3) := by decide +kernel
theorem dX11_comes_110 : decode cX11_comes 110 = .ok (.iconst 1, 1) := by decide +kernel
theorem dX11_comes_111 : decode cX11_comes 111 = .ok (.iaload, 1) := by decide +kernel
theorem dX11_comes_112 : decode cX11_comes 112 = .ok (.iadd, 1) := by decide +kernel
theorem dX11_comes_113 : decode cX11_comes 113 = .ok (.iload_n 1, 1) := by decide +kernel
theorem dX11_comes_114 : decode cX11_comes 114 = .ok (.iastore, 1) := by decide +kernel
theorem dX11_comes_115 : decode cX11_comes 115 = .ok (.aload_n 0, 1) := by decide +kernel
theorem dX11_comes_116 : decode cX11_comes 116 = .ok (.getfield 9, 3) := by decide +kernel
theorem dX11_comes_119 : decode cX11_comes 119 = .ok (.bipush 98, 2) := by decide +kernel
theorem dX11_comes_121 : decode cX11_comes 121 = .ok (.aload_n 0, 1) := by decide +kernel
theorem dX11_comes_122 : decode cX11_comes 122 = .ok (.getfield 9, 3) := by decide +kernel
theorem dX11_comes_125 : decode cX11_comes 125 = .ok (.iconst 1, 1) := by decide +kernel
theorem dX11_comes_126 : decode cX11_comes 126 = .ok (.iaload, 1) := by decide +kernel
theorem dX11_comes_127 : decode cX11_comes 127 = .ok (.iadd, 1) := by decide +kernel
theorem dX11_comes_128 : decode cX11_comes 128 = .ok (.iload_n 2, 1) := by decide +kernel
theorem dX11_comes_129 : decode cX11_comes 129 = .ok (.iastore, 1) := by decide +kernel
theorem dX11_comes_130 : decode cX11_comes 130 = .ok (.aload_n 0, 1) := by decide +kernel
theorem dX11_comes_131 : decode cX11_comes 131 = .ok (.getfield 9, 3) := by decide +kernel
theorem dX11_comes_134 : decode cX11_comes 134 = .ok (.iconst 1, 1) := by decide +kernel
theorem dX11_comes_135 : decode cX11_comes 135 = .ok (.dup2, 1) := by decide +kernel
theorem dX11_comes_136 : decode cX11_comes 136 = .ok (.iaload, 1) := by decide +kernel
theorem dX11_comes_137 : decode cX11_comes 137 = .ok (.iconst 1, 1) := by decide +kernel
theorem dX11_comes_138 : decode cX11_comes 138 = .ok (.iadd, 1) := by decide +kernel
theorem dX11_comes_139 : decode cX11_comes 139 = .ok (.iastore, 1) := by decide +kernel
theorem dX11_comes_140 : decode cX11_comes 140 = .ok (.iload 4, 2) := by decide +kernel
theorem dX11_comes_142 : decode cX11_comes 142 = .ok (.ireturn, 1) := by decide +kernel
abbrev rX11_comes : Room := { frames := 6, cells := 0, slots := 0, locals := 138 }
abbrev mX11_comes : gY := (cX11_comes, RX11, 5, rX11_comes)
def fX11_comes_b94 (x1 : Int32) (x2 : Int32) (x4 : Int32) (M0 : gMem) : Option (Int32 × gMem) :=
  (fX11_counts (0 : Int32) (1 : Int32) M0).bind fun v5 => (rI v5 1 374 (1 : Int32)).bind fun v6 => (wI v5 1 374 ((38 : Int32) + v6) x1).bind fun M7 => (rI M7 1 374 (1 : Int32)).bind fun v8 => (wI M7 1 374 ((98 : Int32) + v8) x2).bind fun M9 => (rI M9 1 374 (1 : Int32)).bind fun v10 => (wI M9 1 374 (1 : Int32) (v10 + (1 : Int32))).bind fun M11 => some (x4, M11)
set_option maxRecDepth 20000 in
theorem tX11_comes_b94 {X : gX} {V : gEnv} {x1 : Int32} {x2 : Int32} {x4 : Int32} {M0 : gMem}  {o : (Int32 × gMem)} (h : fX11_comes_b94 x1 x2 x4 M0 = some o) (O : gO X V mX11_comes gShM (some .int) (some (.int o.1)) o.2) : gG X V mX11_comes gShM M0 0 0 94 [(0, .ref (gAd V 0)), (1, .int x1), (2, .int x2), (4, .int x4)] [] := by
  unfold fX11_comes_b94 at h
  refine g_aload_n 0 rfl rfl dX11_comes_94 ?_
  refine g_iconst (v := 0) rfl dX11_comes_95 ?_
  refine g_iconst (v := 1) rfl dX11_comes_96 ?_
  obtain ⟨v5, ev5, h⟩ := g_bnd h
  refine g_callV LX11_185 sM_0 rfl (kX11_counts ev5) rfl rfl (Nat.le_of_ble_eq_true rfl) ⟨Nat.le_of_ble_eq_true rfl, Nat.le_of_ble_eq_true rfl⟩ ⟨Nat.le_of_ble_eq_true rfl, Nat.le_of_ble_eq_true rfl⟩ dX11_comes_97 rfl ?_
  refine g_aload_n 0 rfl rfl dX11_comes_100 ?_
  refine g_getR FX11_9 sM_0 rfl dX11_comes_101 ?_
  refine g_bipush (v := 38) rfl dX11_comes_104 ?_
  refine g_aload_n 0 rfl rfl dX11_comes_106 ?_
  refine g_getR FX11_9 sM_0 rfl dX11_comes_107 ?_
  refine g_iconst (v := 1) rfl dX11_comes_110 ?_
  obtain ⟨v6, ev6, h⟩ := g_bnd h
  refine g_iald' ev6 sM_1 dX11_comes_111 ?_
  refine g_iadd dX11_comes_112 ?_
  refine g_iload_n 1 rfl rfl dX11_comes_113 ?_
  obtain ⟨M7, eM7, h⟩ := g_bnd h
  refine g_iast' eM7 sM_1 dX11_comes_114 ?_
  refine g_aload_n 0 rfl rfl dX11_comes_115 ?_
  refine g_getR FX11_9 sM_0 rfl dX11_comes_116 ?_
  refine g_bipush (v := 98) rfl dX11_comes_119 ?_
  refine g_aload_n 0 rfl rfl dX11_comes_121 ?_
  refine g_getR FX11_9 sM_0 rfl dX11_comes_122 ?_
  refine g_iconst (v := 1) rfl dX11_comes_125 ?_
  obtain ⟨v8, ev8, h⟩ := g_bnd h
  refine g_iald' ev8 sM_1 dX11_comes_126 ?_
  refine g_iadd dX11_comes_127 ?_
  refine g_iload_n 2 rfl rfl dX11_comes_128 ?_
  obtain ⟨M9, eM9, h⟩ := g_bnd h
  refine g_iast' eM9 sM_1 dX11_comes_129 ?_
  refine g_aload_n 0 rfl rfl dX11_comes_130 ?_
  refine g_getR FX11_9 sM_0 rfl dX11_comes_131 ?_
  refine g_iconst (v := 1) rfl dX11_comes_134 ?_
  refine g_dup2 rfl rfl dX11_comes_135 ?_
  obtain ⟨v10, ev10, h⟩ := g_bnd h
  refine g_iald' ev10 sM_1 dX11_comes_136 ?_
  refine g_iconst (v := 1) rfl dX11_comes_137 ?_
  refine g_iadd dX11_comes_138 ?_
  obtain ⟨M11, eM11, h⟩ := g_bnd h
  refine g_iast' eM11 sM_1 dX11_comes_139 ?_
  refine g_iload 3 rfl dX11_comes_140 ?_
  cases h
  exact g_iret O ⟨Nat.le_of_ble_eq_true rfl, Nat.le_of_ble_eq_true rfl⟩ rfl dX11_comes_142
def fX11_comes (x1 : Int32) (x2 : Int32) (M0 : gMem) : Option (Int32 × gMem) :=
  (fX11_reason x1 x2 M0).bind fun v1 => if v1.1 = 0 then ((fX11_needsRepair x1 x2 v1.2).bind fun v3 => if v3 = 0 then (fX11_comes_b94 x1 x2 (0 : Int32) v1.2) else (fX11_laysPart x1 x2 v1.2).bind fun v12 => (fX11_counts (2 : Int32) (1 : Int32) v12).bind fun v13 => (fX11_counts (3 : Int32) (((v13.1 0 11) - (v13.1 0 10)) + (1 : Int32)) v13).bind fun v14 => (fX11_counts (4 : Int32) (v14.1 0 14) v14).bind fun v15 => (fX11_many ((v15.1 0 12) &&& (v15.1 0 13))).bind fun v16 => (fX11_counts (6 : Int32) v16 v15).bind fun v17 => (fX11_repairs v17).bind fun v18 => (fX11_counts (5 : Int32) v18.1 v18.2).bind fun v19 => fX11_comes_b94 x1 x2 v18.1 v19) else some (-v1.1, v1.2)
set_option maxRecDepth 20000 in
theorem tX11_comes {X : gX} {V : gEnv} {x1 : Int32} {x2 : Int32} {M0 : gMem}  {o : (Int32 × gMem)} (h : fX11_comes x1 x2 M0 = some o) (O : gO X V mX11_comes gShM (some .int) (some (.int o.1)) o.2) : gG X V mX11_comes gShM M0 0 0 0 [(0, .ref (gAd V 0)), (1, .int x1), (2, .int x2)] [] := by
  unfold fX11_comes at h
  refine g_aload_n 0 rfl rfl dX11_comes_0 ?_
  refine g_iload_n 1 rfl rfl dX11_comes_1 ?_
  refine g_iload_n 2 rfl rfl dX11_comes_2 ?_
  obtain ⟨v1, ev1, h⟩ := g_bnd h
  refine g_callV LX11_182 sM_0 rfl (kX11_reason ev1) rfl rfl (Nat.le_of_ble_eq_true rfl) ⟨Nat.le_of_ble_eq_true rfl, Nat.le_of_ble_eq_true rfl⟩ ⟨Nat.le_of_ble_eq_true rfl, Nat.le_of_ble_eq_true rfl⟩ dX11_comes_3 rfl ?_
  refine g_istore_n (ls' := [(3, .int v1.1), (0, .ref (gAd V 0)), (1, .int x1), (2, .int x2)]) rfl (Nat.le_of_ble_eq_true rfl) rfl dX11_comes_6 ?_
  refine g_iload_n 0 rfl rfl dX11_comes_7 ?_
  rcases g_ite h with ⟨c2, h⟩ | ⟨c2, h⟩
  · refine g_if_eq_t c2 (tgt := 14) rfl dX11_comes_8 ?_
    refine g_iconst (v := 0) rfl dX11_comes_14 ?_
    refine g_istore (ls' := [(4, .int (0 : Int32)), (3, .int v1.1), (0, .ref (gAd V 0)), (1, .int x1), (2, .int x2)]) (Nat.le_of_ble_eq_true rfl) rfl dX11_comes_15 ?_
    refine g_aload_n 2 rfl rfl dX11_comes_17 ?_
    refine g_iload_n 3 rfl rfl dX11_comes_18 ?_
    refine g_iload_n 4 rfl rfl dX11_comes_19 ?_
    obtain ⟨v3, ev3, h⟩ := g_bnd h
    refine g_callV LX11_126 sM_0 rfl (kX11_needsRepair ev3) rfl rfl (Nat.le_of_ble_eq_true rfl) ⟨Nat.le_of_ble_eq_true rfl, Nat.le_of_ble_eq_true rfl⟩ ⟨Nat.le_of_ble_eq_true rfl, Nat.le_of_ble_eq_true rfl⟩ dX11_comes_20 rfl ?_
    rcases g_ite h with ⟨c4, h⟩ | ⟨c4, h⟩
    · refine g_if_eq_t c4 (tgt := 94) rfl dX11_comes_23 ?_
      refine g_sub [2, 3, 4, 0] rfl ?_
      exact tX11_comes_b94  h O
    · refine g_if_eq_f c4 (tgt := 94) rfl dX11_comes_23 ?_
      refine g_aload_n 2 rfl rfl dX11_comes_26 ?_
      refine g_iload_n 3 rfl rfl dX11_comes_27 ?_
      refine g_iload_n 4 rfl rfl dX11_comes_28 ?_
      obtain ⟨v12, ev12, h⟩ := g_bnd h
      refine g_callV LX11_129 sM_0 rfl (kX11_laysPart ev12) rfl rfl (Nat.le_of_ble_eq_true rfl) ⟨Nat.le_of_ble_eq_true rfl, Nat.le_of_ble_eq_true rfl⟩ ⟨Nat.le_of_ble_eq_true rfl, Nat.le_of_ble_eq_true rfl⟩ dX11_comes_29 rfl ?_
      refine g_aload_n 2 rfl rfl dX11_comes_32 ?_
      refine g_iconst (v := 2) rfl dX11_comes_33 ?_
      refine g_iconst (v := 1) rfl dX11_comes_34 ?_
      obtain ⟨v13, ev13, h⟩ := g_bnd h
      refine g_callV LX11_185 sM_0 rfl (kX11_counts ev13) rfl rfl (Nat.le_of_ble_eq_true rfl) ⟨Nat.le_of_ble_eq_true rfl, Nat.le_of_ble_eq_true rfl⟩ ⟨Nat.le_of_ble_eq_true rfl, Nat.le_of_ble_eq_true rfl⟩ dX11_comes_35 rfl ?_
      refine g_aload_n 2 rfl rfl dX11_comes_38 ?_
      refine g_iconst (v := 3) rfl dX11_comes_39 ?_
      refine g_aload_n 2 rfl rfl dX11_comes_40 ?_
      refine g_getI FX11_111 sM_0 rfl dX11_comes_41 ?_
      refine g_aload_n 2 rfl rfl dX11_comes_44 ?_
      refine g_getI FX11_108 sM_0 rfl dX11_comes_45 ?_
      refine g_isub dX11_comes_48 ?_
      refine g_iconst (v := 1) rfl dX11_comes_49 ?_
      refine g_iadd dX11_comes_50 ?_
      obtain ⟨v14, ev14, h⟩ := g_bnd h
      refine g_callV LX11_185 sM_0 rfl (kX11_counts ev14) rfl rfl (Nat.le_of_ble_eq_true rfl) ⟨Nat.le_of_ble_eq_true rfl, Nat.le_of_ble_eq_true rfl⟩ ⟨Nat.le_of_ble_eq_true rfl, Nat.le_of_ble_eq_true rfl⟩ dX11_comes_51 rfl ?_
      refine g_aload_n 2 rfl rfl dX11_comes_54 ?_
      refine g_iconst (v := 4) rfl dX11_comes_55 ?_
      refine g_aload_n 2 rfl rfl dX11_comes_56 ?_
      refine g_getI FX11_120 sM_0 rfl dX11_comes_57 ?_
      obtain ⟨v15, ev15, h⟩ := g_bnd h
      refine g_callV LX11_185 sM_0 rfl (kX11_counts ev15) rfl rfl (Nat.le_of_ble_eq_true rfl) ⟨Nat.le_of_ble_eq_true rfl, Nat.le_of_ble_eq_true rfl⟩ ⟨Nat.le_of_ble_eq_true rfl, Nat.le_of_ble_eq_true rfl⟩ dX11_comes_60 rfl ?_
      refine g_aload_n 2 rfl rfl dX11_comes_63 ?_
      refine g_bipush (v := 6) rfl dX11_comes_64 ?_
      refine g_aload_n 2 rfl rfl dX11_comes_66 ?_
      refine g_getI FX11_114 sM_0 rfl dX11_comes_67 ?_
      refine g_aload_n 2 rfl rfl dX11_comes_70 ?_
      refine g_getI FX11_117 sM_0 rfl dX11_comes_71 ?_
      refine g_iand dX11_comes_74 ?_
      obtain ⟨v16, ev16, h⟩ := g_bnd h
      refine g_callS LX11_139 (kX11_many ev16) rfl rfl (Nat.le_of_ble_eq_true rfl) ⟨Nat.le_of_ble_eq_true rfl, Nat.le_of_ble_eq_true rfl⟩ ⟨Nat.le_of_ble_eq_true rfl, Nat.le_of_ble_eq_true rfl⟩ dX11_comes_75 rfl ?_
      obtain ⟨v17, ev17, h⟩ := g_bnd h
      refine g_callV LX11_185 sM_0 rfl (kX11_counts ev17) rfl rfl (Nat.le_of_ble_eq_true rfl) ⟨Nat.le_of_ble_eq_true rfl, Nat.le_of_ble_eq_true rfl⟩ ⟨Nat.le_of_ble_eq_true rfl, Nat.le_of_ble_eq_true rfl⟩ dX11_comes_78 rfl ?_
      refine g_aload_n 2 rfl rfl dX11_comes_81 ?_
      obtain ⟨v18, ev18, h⟩ := g_bnd h
      refine g_callV LX11_188 sM_0 rfl (kX11_repairs ev18) rfl rfl (Nat.le_of_ble_eq_true rfl) ⟨Nat.le_of_ble_eq_true rfl, Nat.le_of_ble_eq_true rfl⟩ ⟨Nat.le_of_ble_eq_true rfl, Nat.le_of_ble_eq_true rfl⟩ dX11_comes_82 rfl ?_
      refine g_istore (ls' := [(4, .int v18.1), (3, .int v1.1), (0, .ref (gAd V 0)), (1, .int x1), (2, .int x2)]) (Nat.le_of_ble_eq_true rfl) rfl dX11_comes_85 ?_
      refine g_aload_n 2 rfl rfl dX11_comes_87 ?_
      refine g_iconst (v := 5) rfl dX11_comes_88 ?_
      refine g_iload 0 rfl dX11_comes_89 ?_
      obtain ⟨v19, ev19, h⟩ := g_bnd h
      refine g_callV LX11_185 sM_0 rfl (kX11_counts ev19) rfl rfl (Nat.le_of_ble_eq_true rfl) ⟨Nat.le_of_ble_eq_true rfl, Nat.le_of_ble_eq_true rfl⟩ ⟨Nat.le_of_ble_eq_true rfl, Nat.le_of_ble_eq_true rfl⟩ dX11_comes_91 rfl ?_
      refine g_sub [2, 3, 4, 0] rfl ?_
      exact tX11_comes_b94  h O
  · refine g_if_eq_f c2 (tgt := 14) rfl dX11_comes_8 ?_
    refine g_iload_n 0 rfl rfl dX11_comes_11 ?_
    refine g_ineg dX11_comes_12 ?_
    cases h
    exact g_iret O ⟨Nat.le_of_ble_eq_true rfl, Nat.le_of_ble_eq_true rfl⟩ rfl dX11_comes_13
theorem kX11_comes {l : Launch} {V : gEnv} {M0 : gMem} {x1 : Int32} {x2 : Int32}  {o : (Int32 × gMem)} (h : fX11_comes x1 x2 M0 = some o) : gM l yX11_comes cX11_comes 5 (some .int) rX11_comes V gShM [.ref (gAd V 0), .int x1, .int x2] M0 (some (.int o.1)) o.2 :=
  gM.of (by decide) (Nat.le_of_ble_eq_true rfl) rfl (fun X _ O => tX11_comes  h O)
theorem dX11_takesAway_0 : decode cX11_takesAway 0 = .ok (.aload_n 0, 1) := by decide +kernel
theorem dX11_takesAway_1 : decode cX11_takesAway 1 = .ok (.getfield 9, 3) := by decide +kernel
theorem dX11_takesAway_4 : decode cX11_takesAway 4 = .ok (.iconst 1, 1) := by decide +kernel
theorem dX11_takesAway_5 : decode cX11_takesAway 5 = .ok (.dup2, 1) := by decide +kernel
theorem dX11_takesAway_6 : decode cX11_takesAway 6 = .ok (.iaload, 1) := by decide +kernel
theorem dX11_takesAway_7 : decode cX11_takesAway 7 = .ok (.iconst 1, 1) := by decide +kernel
theorem dX11_takesAway_8 : decode cX11_takesAway 8 = .ok (.isub, 1) := by decide +kernel
theorem dX11_takesAway_9 : decode cX11_takesAway 9 = .ok (.iastore, 1) := by decide +kernel
theorem dX11_takesAway_10 : decode cX11_takesAway 10 = .ok (.iload_n 1, 1) := by decide +kernel
theorem dX11_takesAway_11 : decode cX11_takesAway 11 = .ok (.istore_n 2, 1) := by decide +kernel
theorem dX11_takesAway_12 : decode cX11_takesAway 12 = .ok (.iload_n 2, 1) := by decide +kernel
theorem dX11_takesAway_13 : decode cX11_takesAway 13 = .ok (.aload_n 0, 1) := by decide +kernel
theorem dX11_takesAway_14 : decode cX11_takesAway 14 = .ok (.getfield 9, 3) := by decide +kernel
theorem dX11_takesAway_17 : decode cX11_takesAway 17 = .ok (.iconst 1, 1) := by decide +kernel
theorem dX11_takesAway_18 : decode cX11_takesAway 18 = .ok (.iaload, 1) := by decide +kernel
theorem dX11_takesAway_19 : decode cX11_takesAway 19 = .ok (.if_icmp .ge 49, 3) := by decide +kernel
theorem dX11_takesAway_22 : decode cX11_takesAway 22 = .ok (.aload_n 0, 1) := by decide +kernel
theorem dX11_takesAway_23 : decode cX11_takesAway 23 = .ok (.getfield 9, 3) := by decide +kernel
theorem dX11_takesAway_26 : decode cX11_takesAway 26 = .ok (.bipush 38, 2) := by decide +kernel
theorem dX11_takesAway_28 : decode cX11_takesAway 28 = .ok (.iload_n 2, 1) := by decide +kernel
theorem dX11_takesAway_29 : decode cX11_takesAway 29 = .ok (.iadd, 1) := by decide +kernel
theorem dX11_takesAway_30 : decode cX11_takesAway 30 = .ok (.aload_n 0, 1) := by decide +kernel
theorem dX11_takesAway_31 : decode cX11_takesAway 31 = .ok (.getfield 9, 3) := by decide +kernel
theorem dX11_takesAway_34 : decode cX11_takesAway 34 = .ok (.bipush 38, 2) := by decide +kernel
theorem dX11_takesAway_36 : decode cX11_takesAway 36 = .ok (.iload_n 2, 1) := by decide +kernel
theorem dX11_takesAway_37 : decode cX11_takesAway 37 = .ok (.iadd, 1) := by decide +kernel
theorem dX11_takesAway_38 : decode cX11_takesAway 38 = .ok (.iconst 1, 1) := by decide +kernel
theorem dX11_takesAway_39 : decode cX11_takesAway 39 = .ok (.iadd, 1) := by decide +kernel
theorem dX11_takesAway_40 : decode cX11_takesAway 40 = .ok (.iaload, 1) := by decide +kernel
theorem dX11_takesAway_41 : decode cX11_takesAway 41 = .ok (.iastore, 1) := by decide +kernel
theorem dX11_takesAway_42 : decode cX11_takesAway 42 = .ok (.aload_n 0, 1) := by decide +kernel
theorem dX11_takesAway_43 : decode cX11_takesAway 43 = .ok (.getfield 9, 3) := by decide +kernel
theorem dX11_takesAway_46 : decode cX11_takesAway 46 = .ok (.bipush 98, 2) := by decide +kernel
theorem dX11_takesAway_48 : decode cX11_takesAway 48 = .ok (.iload_n 2, 1) := by decide +kernel
theorem dX11_takesAway_49 : decode cX11_takesAway 49 = .ok (.iadd, 1) := by decide +kernel
theorem dX11_takesAway_50 : decode cX11_takesAway 50 = .ok (.aload_n 0, 1) := by decide +kernel
theorem dX11_takesAway_51 : decode cX11_takesAway 51 = .ok (.getfield 9, 3) := by decide +kernel
theorem dX11_takesAway_54 : decode cX11_takesAway 54 = .ok (.bipush 98, 2) := by decide +kernel
theorem dX11_takesAway_56 : decode cX11_takesAway 56 = .ok (.iload_n 2, 1) := by decide +kernel
theorem dX11_takesAway_57 : decode cX11_takesAway 57 = .ok (.iadd, 1) := by decide +kernel
theorem dX11_takesAway_58 : decode cX11_takesAway 58 = .ok (.iconst 1, 1) := by decide +kernel
theorem dX11_takesAway_59 : decode cX11_takesAway 59 = .ok (.iadd, 1) := by decide +kernel
theorem dX11_takesAway_60 : decode cX11_takesAway 60 = .ok (.iaload, 1) := by decide +kernel
theorem dX11_takesAway_61 : decode cX11_takesAway 61 = .ok (.iastore, 1) := by decide +kernel
theorem dX11_takesAway_62 : decode cX11_takesAway 62 = .ok (.iinc 2 1, 3) := by decide +kernel
theorem dX11_takesAway_65 : decode cX11_takesAway 65 = .ok (.goto (-53), 3) := by decide +kernel
theorem dX11_takesAway_68 : decode cX11_takesAway 68 = .ok (.return_, 1) := by decide +kernel
abbrev rX11_takesAway : Room := { frames := 0, cells := 0, slots := 0, locals := 0 }
abbrev mX11_takesAway : gY := (cX11_takesAway, RX11, 3, rX11_takesAway)
def fX11_takesAway_l12 (x2 : Int32) (M0 : gMem) : Option ((Int32 × gMem) ⊕ gMem) :=
  (rI M0 1 374 (1 : Int32)).bind fun v3 => if v3 ≤ x2 then (some (.inr M0)) else (rI M0 1 374 (((38 : Int32) + x2) + (1 : Int32))).bind fun v5 => (wI M0 1 374 ((38 : Int32) + x2) v5).bind fun M6 => (rI M6 1 374 (((98 : Int32) + x2) + (1 : Int32))).bind fun v7 => (wI M6 1 374 ((98 : Int32) + x2) v7).bind fun M8 => some (.inl (x2 + (1 : Int32), M8))
set_option maxRecDepth 20000 in
theorem tX11_takesAway_l12 {X : gX} {V : gEnv} {x2 : Int32} {M0 : gMem}  {o : ((Int32 × gMem) ⊕ gMem)} (h : fX11_takesAway_l12 x2 M0 = some o) (Kc : ∀ s9, o = .inl s9 → gG X V mX11_takesAway gShM s9.2 0 0 12 [(0, .ref (gAd V 0)), (2, .int s9.1)] []) (Kx : ∀ e9, o = .inr e9 → gG X V mX11_takesAway gShM e9 0 0 68 [] []) : gG X V mX11_takesAway gShM M0 0 0 12 [(0, .ref (gAd V 0)), (2, .int x2)] [] := by
  unfold fX11_takesAway_l12 at h
  refine g_iload_n 1 rfl rfl dX11_takesAway_12 ?_
  refine g_aload_n 0 rfl rfl dX11_takesAway_13 ?_
  refine g_getR FX11_9 sM_0 rfl dX11_takesAway_14 ?_
  refine g_iconst (v := 1) rfl dX11_takesAway_17 ?_
  obtain ⟨v3, ev3, h⟩ := g_bnd h
  refine g_iald' ev3 sM_1 dX11_takesAway_18 ?_
  rcases g_ite h with ⟨c4, h⟩ | ⟨c4, h⟩
  · refine g_icmp_ge_t c4 (tgt := 68) rfl dX11_takesAway_19 ?_
    cases h
    refine g_sub [] rfl ?_
    exact Kx M0 rfl
  · refine g_icmp_ge_f c4 (tgt := 68) rfl dX11_takesAway_19 ?_
    refine g_aload_n 0 rfl rfl dX11_takesAway_22 ?_
    refine g_getR FX11_9 sM_0 rfl dX11_takesAway_23 ?_
    refine g_bipush (v := 38) rfl dX11_takesAway_26 ?_
    refine g_iload_n 1 rfl rfl dX11_takesAway_28 ?_
    refine g_iadd dX11_takesAway_29 ?_
    refine g_aload_n 0 rfl rfl dX11_takesAway_30 ?_
    refine g_getR FX11_9 sM_0 rfl dX11_takesAway_31 ?_
    refine g_bipush (v := 38) rfl dX11_takesAway_34 ?_
    refine g_iload_n 1 rfl rfl dX11_takesAway_36 ?_
    refine g_iadd dX11_takesAway_37 ?_
    refine g_iconst (v := 1) rfl dX11_takesAway_38 ?_
    refine g_iadd dX11_takesAway_39 ?_
    obtain ⟨v5, ev5, h⟩ := g_bnd h
    refine g_iald' ev5 sM_1 dX11_takesAway_40 ?_
    obtain ⟨M6, eM6, h⟩ := g_bnd h
    refine g_iast' eM6 sM_1 dX11_takesAway_41 ?_
    refine g_aload_n 0 rfl rfl dX11_takesAway_42 ?_
    refine g_getR FX11_9 sM_0 rfl dX11_takesAway_43 ?_
    refine g_bipush (v := 98) rfl dX11_takesAway_46 ?_
    refine g_iload_n 1 rfl rfl dX11_takesAway_48 ?_
    refine g_iadd dX11_takesAway_49 ?_
    refine g_aload_n 0 rfl rfl dX11_takesAway_50 ?_
    refine g_getR FX11_9 sM_0 rfl dX11_takesAway_51 ?_
    refine g_bipush (v := 98) rfl dX11_takesAway_54 ?_
    refine g_iload_n 1 rfl rfl dX11_takesAway_56 ?_
    refine g_iadd dX11_takesAway_57 ?_
    refine g_iconst (v := 1) rfl dX11_takesAway_58 ?_
    refine g_iadd dX11_takesAway_59 ?_
    obtain ⟨v7, ev7, h⟩ := g_bnd h
    refine g_iald' ev7 sM_1 dX11_takesAway_60 ?_
    obtain ⟨M8, eM8, h⟩ := g_bnd h
    refine g_iast' eM8 sM_1 dX11_takesAway_61 ?_
    refine g_iinc (j := 1) (v := x2 + (1 : Int32)) (ls' := [(2, .int (x2 + (1 : Int32))), (0, .ref (gAd V 0))]) rfl rfl (Nat.le_of_ble_eq_true rfl) rfl dX11_takesAway_62 ?_
    refine g_goto (tgt := 12) rfl dX11_takesAway_65 ?_
    cases h
    refine g_sub [1, 0] rfl ?_
    exact Kc (x2 + (1 : Int32), M8) rfl
def fX11_takesAway (x1 : Int32) (M0 : gMem) : Option gMem :=
  (rI M0 1 374 (1 : Int32)).bind fun v1 => (wI M0 1 374 (1 : Int32) (v1 - (1 : Int32))).bind fun M2 => (gLoop (fun z9 => fX11_takesAway_l12 z9.1 z9.2) gFu (x1, M2)).bind fun w9 => some w9
set_option maxRecDepth 20000 in
theorem tX11_takesAway {X : gX} {V : gEnv} {x1 : Int32} {M0 : gMem}  {o : gMem} (h : fX11_takesAway x1 M0 = some o) (O : gO X V mX11_takesAway gShM none none o) : gG X V mX11_takesAway gShM M0 0 0 0 [(0, .ref (gAd V 0)), (1, .int x1)] [] := by
  unfold fX11_takesAway at h
  refine g_aload_n 0 rfl rfl dX11_takesAway_0 ?_
  refine g_getR FX11_9 sM_0 rfl dX11_takesAway_1 ?_
  refine g_iconst (v := 1) rfl dX11_takesAway_4 ?_
  refine g_dup2 rfl rfl dX11_takesAway_5 ?_
  obtain ⟨v1, ev1, h⟩ := g_bnd h
  refine g_iald' ev1 sM_1 dX11_takesAway_6 ?_
  refine g_iconst (v := 1) rfl dX11_takesAway_7 ?_
  refine g_isub dX11_takesAway_8 ?_
  obtain ⟨M2, eM2, h⟩ := g_bnd h
  refine g_iast' eM2 sM_1 dX11_takesAway_9 ?_
  refine g_iload_n 1 rfl rfl dX11_takesAway_10 ?_
  refine g_istore_n (ls' := [(2, .int x1), (0, .ref (gAd V 0)), (1, .int x1)]) rfl (Nat.le_of_ble_eq_true rfl) rfl dX11_takesAway_11 ?_
  obtain ⟨w9, ew9, h⟩ := g_bnd h
  refine g_sub [1, 0] rfl ?_
  have KX : gG X V mX11_takesAway gShM w9 0 0 68 [] [] := by
    cases h
    exact g_vret O ⟨Nat.le_of_ble_eq_true rfl, Nat.le_of_ble_eq_true rfl⟩ dX11_takesAway_68
  exact gLoop_Q ew9 (fun z9 => gG X V mX11_takesAway gShM z9.2 0 0 12 [(0, .ref (gAd V 0)), (2, .int z9.1)] []) (fun s9 o9 hb9 hc9 hx9 => tX11_takesAway_l12  hb9 hc9 (fun e9 he9 => by cases hx9 _ he9; exact KX))
theorem kX11_takesAway {l : Launch} {V : gEnv} {M0 : gMem} {x1 : Int32}  {o : gMem} (h : fX11_takesAway x1 M0 = some o) : gM l yX11_takesAway cX11_takesAway 3 none rX11_takesAway V gShM [.ref (gAd V 0), .int x1] M0 none o :=
  gM.of (by decide) (Nat.le_of_ble_eq_true rfl) rfl (fun X _ O => tX11_takesAway  h O)
