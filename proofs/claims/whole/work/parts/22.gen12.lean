/-! METHODS, by program: pure functions and contracts -/
theorem dX11_laysChains_0 : decode cX11_laysChains 0 = .ok (.aload_n 0, 1) := by decide +kernel
theorem dX11_laysChains_1 : decode cX11_laysChains 1 = .ok (.iconst 0, 1) := by decide +kernel
theorem dX11_laysChains_2 : decode cX11_laysChains 2 = .ok (.putfield 403, 3) := by decide +kernel
theorem dX11_laysChains_5 : decode cX11_laysChains 5 = .ok (.iconst 0, 1) := by decide +kernel
theorem dX11_laysChains_6 : decode cX11_laysChains 6 = .ok (.istore_n 1, 1) := by decide +kernel
theorem dX11_laysChains_7 : decode cX11_laysChains 7 = .ok (.iload_n 1, 1) := by decide +kernel
theorem dX11_laysChains_8 : decode cX11_laysChains 8 = .ok (.aload_n 0, 1) := by decide +kernel
theorem dX11_laysChains_9 : decode cX11_laysChains 9 = .ok (.getfield 9, 3) := by decide +kernel
theorem dX11_laysChains_12 : decode cX11_laysChains 12 = .ok (.iconst 2, 1) := by decide +kernel
theorem dX11_laysChains_13 : decode cX11_laysChains 13 = .ok (.iaload, 1) := by decide +kernel
theorem dX11_laysChains_14 : decode cX11_laysChains 14 = .ok (.if_icmp .ge 143, 3) := by decide +kernel
theorem dX11_laysChains_17 : decode cX11_laysChains 17 = .ok (.aload_n 0, 1) := by decide +kernel
theorem dX11_laysChains_18 : decode cX11_laysChains 18 = .ok (.getfield 62, 3) := by decide +kernel
theorem dX11_laysChains_21 : decode cX11_laysChains 21 = .ok (.iload_n 1, 1) := by decide +kernel
theorem dX11_laysChains_22 : decode cX11_laysChains 22 = .ok (.aload_n 0, 1) := by decide +kernel
theorem dX11_laysChains_23 : decode cX11_laysChains 23 = .ok (.aload_n 0, 1) := by decide +kernel
theorem dX11_laysChains_24 : decode cX11_laysChains 24 = .ok (.iload_n 1, 1) := by decide +kernel
theorem dX11_laysChains_25 : decode cX11_laysChains 25 = .ok (.invokevirtual 179, 3) := by decide +kernel
theorem dX11_laysChains_28 : decode cX11_laysChains 28 = .ok (.invokevirtual 406, 3) := by decide +kernel
theorem dX11_laysChains_31 : decode cX11_laysChains 31 = .ok (.iastore, 1) := by decide +kernel
theorem dX11_laysChains_32 : decode cX11_laysChains 32 = .ok (.aload_n 0, 1) := by decide +kernel
theorem dX11_laysChains_33 : decode cX11_laysChains 33 = .ok (.getfield 53, 3) := by decide +kernel
theorem dX11_laysChains_36 : decode cX11_laysChains 36 = .ok (.iload_n 1, 1) := by decide +kernel
theorem dX11_laysChains_37 : decode cX11_laysChains 37 = .ok (.iconst 0, 1) := by decide +kernel
theorem dX11_laysChains_38 : decode cX11_laysChains 38 = .ok (.iastore, 1) := by decide +kernel
theorem dX11_laysChains_39 : decode cX11_laysChains 39 = .ok (.aload_n 0, 1) := by decide +kernel
theorem dX11_laysChains_40 : decode cX11_laysChains 40 = .ok (.getfield 56, 3) := by decide +kernel
theorem dX11_laysChains_43 : decode cX11_laysChains 43 = .ok (.iload_n 1, 1) := by decide +kernel
theorem dX11_laysChains_44 : decode cX11_laysChains 44 = .ok (.iconst 0, 1) := by decide +kernel
theorem dX11_laysChains_45 : decode cX11_laysChains 45 = .ok (.iastore, 1) := by decide +kernel
theorem dX11_laysChains_46 : decode cX11_laysChains 46 = .ok (.iconst 0, 1) := by decide +kernel
theorem dX11_laysChains_47 : decode cX11_laysChains 47 = .ok (.istore_n 2, 1) := by decide +kernel
theorem dX11_laysChains_48 : decode cX11_laysChains 48 = .ok (.iload_n 2, 1) := by decide +kernel
theorem dX11_laysChains_49 : decode cX11_laysChains 49 = .ok (.iload_n 1, 1) := by decide +kernel
theorem dX11_laysChains_50 : decode cX11_laysChains 50 = .ok (.if_icmp .ge 77, 3) := by decide +kernel
theorem dX11_laysChains_53 : decode cX11_laysChains 53 = .ok (.aload_n 0, 1) := by decide +kernel
theorem dX11_laysChains_54 : decode cX11_laysChains 54 = .ok (.aload_n 0, 1) := by decide +kernel
theorem dX11_laysChains_55 : decode cX11_laysChains 55 = .ok (.iload_n 2, 1) := by decide +kernel
theorem dX11_laysChains_56 : decode cX11_laysChains 56 = .ok (.invokevirtual 179, 3) := by decide +kernel
theorem dX11_laysChains_59 : decode cX11_laysChains 59 = .ok (.aload_n 0, 1) := by decide +kernel
theorem dX11_laysChains_60 : decode cX11_laysChains 60 = .ok (.iload_n 1, 1) := by decide +kernel
theorem dX11_laysChains_61 : decode cX11_laysChains 61 = .ok (.invokevirtual 179, 3) := by decide +kernel
theorem dX11_laysChains_64 : decode cX11_laysChains 64 = .ok (.invokevirtual 194, 3) := by decide +kernel
theorem dX11_laysChains_67 : decode cX11_laysChains 67 = .ok (.ifCond .eq 54, 3) := by decide +kernel
theorem dX11_laysChains_70 : decode cX11_laysChains 70 = .ok (.aload_n 0, 1) := by decide +kernel
theorem dX11_laysChains_71 : decode cX11_laysChains 71 = .ok (.getfield 53, 3) := by decide +kernel
theorem dX11_laysChains_74 : decode cX11_laysChains 74 = .ok (.iload_n 1, 1) := by decide +kernel
theorem dX11_laysChains_75 : decode cX11_laysChains 75 = .ok (.aload_n 0, 1) := by decide +kernel
theorem dX11_laysChains_76 : decode cX11_laysChains 76 = .ok (.getfield 53, 3) := by decide +kernel
theorem dX11_laysChains_79 : decode cX11_laysChains 79 = .ok (.iload_n 1, 1) := by decide +kernel
theorem dX11_laysChains_80 : decode cX11_laysChains 80 = .ok (.iaload, 1) := by decide +kernel
theorem dX11_laysChains_81 : decode cX11_laysChains 81 = .ok (.aload_n 0, 1) := by decide +kernel
theorem dX11_laysChains_82 : decode cX11_laysChains 82 = .ok (.getfield 53, 3) := by decide +kernel
theorem dX11_laysChains_85 : decode cX11_laysChains 85 = .ok (.iload_n 2, 1) := by decide +kernel
theorem dX11_laysChains_86 : decode cX11_laysChains 86 = .ok (.iaload, 1) := by decide +kernel
theorem dX11_laysChains_87 : decode cX11_laysChains 87 = .ok (.iconst 1, 1) := by decide +kernel
theorem dX11_laysChains_88 : decode cX11_laysChains 88 = .ok (.iadd, 1) := by decide +kernel
theorem dX11_laysChains_89 : decode cX11_laysChains 89 = .ok (.invokestatic 377, 3) := by decide +kernel
theorem dX11_laysChains_92 : decode cX11_laysChains 92 = .ok (.iastore, 1) := by decide +kernel
theorem dX11_laysChains_93 : decode cX11_laysChains 93 = .ok (.aload_n 0, 1) := by decide +kernel
theorem dX11_laysChains_94 : decode cX11_laysChains 94 = .ok (.getfield 56, 3) := by decide +kernel
theorem dX11_laysChains_97 : decode cX11_laysChains 97 = .ok (.iload_n 1, 1) := by decide +kernel
theorem dX11_laysChains_98 : decode cX11_laysChains 98 = .ok (.aload_n 0, 1) := by decide +kernel
theorem dX11_laysChains_99 : decode cX11_laysChains 99 = .ok (.getfield 56, 3) := by decide +kernel
theorem dX11_laysChains_102 : decode cX11_laysChains 102 = .ok (.iload_n 1, 1) := by decide +kernel
theorem dX11_laysChains_103 : decode cX11_laysChains 103 = .ok (.iaload, 1) := by decide +kernel
theorem dX11_laysChains_104 : decode cX11_laysChains 104 = .ok (.aload_n 0, 1) := by decide +kernel
theorem dX11_laysChains_105 : decode cX11_laysChains 105 = .ok (.getfield 56, 3) := by decide +kernel
theorem dX11_laysChains_108 : decode cX11_laysChains 108 = .ok (.iload_n 2, 1) := by decide +kernel
theorem dX11_laysChains_109 : decode cX11_laysChains 109 = .ok (.iaload, 1) := by decide +kernel
theorem dX11_laysChains_110 : decode cX11_laysChains 110 = .ok (.aload_n 0, 1) := by decide +kernel
theorem dX11_laysChains_111 : decode cX11_laysChains 111 = .ok (.getfield 62, 3) := by decide +kernel
theorem dX11_laysChains_114 : decode cX11_laysChains 114 = .ok (.iload_n 2, 1) := by decide +kernel
theorem dX11_laysChains_115 : decode cX11_laysChains 115 = .ok (.iaload, 1) := by decide +kernel
theorem dX11_laysChains_116 : decode cX11_laysChains 116 = .ok (.iadd, 1) := by decide +kernel
theorem dX11_laysChains_117 : decode cX11_laysChains 117 = .ok (.invokestatic 377, 3) := by decide +kernel
theorem dX11_laysChains_120 : decode cX11_laysChains 120 = .ok (.iastore, 1) := by decide +kernel
theorem dX11_laysChains_121 : decode cX11_laysChains 121 = .ok (.iinc 2 1, 3) := by decide +kernel
theorem dX11_laysChains_124 : decode cX11_laysChains 124 = .ok (.goto (-76), 3) := by decide +kernel
theorem dX11_laysChains_127 : decode cX11_laysChains 127 = .ok (.aload_n 0, 1) := by decide +kernel
theorem dX11_laysChains_128 : decode cX11_laysChains 128 = .ok (.aload_n 0, 1) := by decide +kernel
theorem dX11_laysChains_129 : decode cX11_laysChains 129 = .ok (.getfield 403, 3) := by decide +kernel
theorem dX11_laysChains_132 : decode cX11_laysChains 132 = .ok (.aload_n 0, 1) := by decide +kernel
theorem dX11_laysChains_133 : decode cX11_laysChains 133 = .ok (.getfield 56, 3) := by decide +kernel
theorem dX11_laysChains_136 : decode cX11_laysChains 136 = .ok (.iload_n 1, 1) := by decide +kernel
theorem dX11_laysChains_137 : decode cX11_laysChains 137 = .ok (.iaload, 1) := by decide +kernel
theorem dX11_laysChains_138 : decode cX11_laysChains 138 = .ok (.aload_n 0, 1) := by decide +kernel
theorem dX11_laysChains_139 : decode cX11_laysChains 139 = .ok (.getfield 62, 3) := by decide +kernel
theorem dX11_laysChains_142 : decode cX11_laysChains 142 = .ok (.iload_n 1, 1) := by decide +kernel
theorem dX11_laysChains_143 : decode cX11_laysChains 143 = .ok (.iaload, 1) := by decide +kernel
theorem dX11_laysChains_144 : decode cX11_laysChains 144 = .ok (.iadd, 1) := by decide +kernel
theorem dX11_laysChains_145 : decode cX11_laysChains 145 = .ok (.invokestatic 377, 3) := by decide +kernel
theorem dX11_laysChains_148 : decode cX11_laysChains 148 = .ok (.putfield 403, 3) := by decide +kernel
theorem dX11_laysChains_151 : decode cX11_laysChains 151 = .ok (.iinc 1 1, 3) := by decide +kernel
theorem dX11_laysChains_154 : decode cX11_laysChains 154 = .ok (.goto (-147), 3) := by decide +kernel
theorem dX11_laysChains_157 : decode cX11_laysChains 157 = .ok (.aload_n 0, 1) := by decide +kernel
theorem dX11_laysChains_158 : decode cX11_laysChains 158 = .ok (.getfield 9, 3) := by decide +kernel
theorem dX11_laysChains_161 : decode cX11_laysChains 161 = .ok (.iconst 2, 1) := by decide +kernel
theorem dX11_laysChains_162 : decode cX11_laysChains 162 = .ok (.iaload, 1) := by decide +kernel
theorem dX11_laysChains_163 : decode cX11_laysChains 163 = .ok (.iconst 1, 1) := by decide +kernel
theorem dX11_laysChains_164 : decode cX11_laysChains 164 = .ok (.isub, 1) := by decide +kernel
theorem dX11_laysChains_165 : decode cX11_laysChains 165 = .ok (.istore_n 1, 1) := by decide +kernel
theorem dX11_laysChains_166 : decode cX11_laysChains 166 = .ok (.iload_n 1, 1) := by decide +kernel
theorem dX11_laysChains_167 : decode cX11_laysChains 167 = .ok (.ifCond .lt 81, 3) := by decide +kernel
theorem dX11_laysChains_170 : decode cX11_laysChains 170 = .ok (.aload_n 0, 1) := by decide +kernel
theorem dX11_laysChains_171 : decode cX11_laysChains 171 = .ok (.getfield 59, 3) := by decide +kernel
theorem dX11_laysChains_174 : decode cX11_laysChains 174 = .ok (.iload_n 1, 1) := by decide +kernel
theorem dX11_laysChains_175 : decode cX11_laysChains 175 = .ok (.iconst 0, 1) := by decide +kernel
theorem dX11_laysChains_176 : decode cX11_laysChains 176 = .ok (.iastore, 1) := by decide +kernel
theorem dX11_laysChains_177 : decode cX11_laysChains 177 = .ok (.iload_n 1, 1) := by decide +kernel
theorem dX11_laysChains_178 : decode cX11_laysChains 178 = .ok (.iconst 1, 1) := by decide +kernel
theorem dX11_laysChains_179 : decode cX11_laysChains 179 = .ok (.iadd, 1) := by decide +kernel
theorem dX11_laysChains_180 : decode cX11_laysChains 180 = .ok (.istore_n 2, 1) := by decide +kernel
theorem dX11_laysChains_181 : decode cX11_laysChains 181 = .ok (.iload_n 2, 1) := by decide +kernel
theorem dX11_laysChains_182 : decode cX11_laysChains 182 = .ok (.aload_n 0, 1) := by decide +kernel
theorem dX11_laysChains_183 : decode cX11_laysChains 183 = .ok (.getfield 9, 3) := by decide +kernel
theorem dX11_laysChains_186 : decode cX11_laysChains 186 = .ok (.iconst 2, 1) := by decide +kernel
theorem dX11_laysChains_187 : decode cX11_laysChains 187 = .ok (.iaload, 1) := by decide +kernel
theorem dX11_laysChains_188 : decode cX11_laysChains 188 = .ok (.if_icmp .ge 54, 3) := by decide +kernel
theorem dX11_laysChains_191 : decode cX11_laysChains 191 = .ok (.aload_n 0, 1) := by decide +kernel
theorem dX11_laysChains_192 : decode cX11_laysChains 192 = .ok (.aload_n 0, 1) := by decide +kernel
theorem dX11_laysChains_193 : decode cX11_laysChains 193 = .ok (.iload_n 1, 1) := by decide +kernel
theorem dX11_laysChains_194 : decode cX11_laysChains 194 = .ok (.invokevirtual 179, 3) := by decide +kernel
theorem dX11_laysChains_197 : decode cX11_laysChains 197 = .ok (.aload_n 0, 1) := by decide +kernel
theorem dX11_laysChains_198 : decode cX11_laysChains 198 = .ok (.iload_n 2, 1) := by decide +kernel
theorem dX11_laysChains_199 : decode cX11_laysChains 199 = .ok (.invokevirtual 179, 3) := by decide +kernel
theorem dX11_laysChains_202 : decode cX11_laysChains 202 = .ok (.invokevirtual 194, 3) := by decide +kernel
theorem dX11_laysChains_205 : decode cX11_laysChains 205 = .ok (.ifCond .eq 31, 3) := by decide +kernel
theorem dX11_laysChains_208 : decode cX11_laysChains 208 = .ok (.aload_n 0, 1) := by decide +kernel
theorem dX11_laysChains_209 : decode cX11_laysChains 209 = .ok (.getfield 59, 3) := by decide +kernel
theorem dX11_laysChains_212 : decode cX11_laysChains 212 = .ok (.iload_n 1, 1) := by decide +kernel
theorem dX11_laysChains_213 : decode cX11_laysChains 213 = .ok (.aload_n 0, 1) := by decide +kernel
theorem dX11_laysChains_214 : decode cX11_laysChains 214 = .ok (.getfield 59, 3) := by decide +kernel
theorem dX11_laysChains_217 : decode cX11_laysChains 217 = .ok (.iload_n 1, 1) := by decide +kernel
theorem dX11_laysChains_218 : decode cX11_laysChains 218 = .ok (.iaload, 1) := by decide +kernel
theorem dX11_laysChains_219 : decode cX11_laysChains 219 = .ok (.aload_n 0, 1) := by decide +kernel
theorem dX11_laysChains_220 : decode cX11_laysChains 220 = .ok (.getfield 59, 3) := by decide +kernel
theorem dX11_laysChains_223 : decode cX11_laysChains 223 = .ok (.iload_n 2, 1) := by decide +kernel
theorem dX11_laysChains_224 : decode cX11_laysChains 224 = .ok (.iaload, 1) := by decide +kernel
theorem dX11_laysChains_225 : decode cX11_laysChains 225 = .ok (.aload_n 0, 1) := by decide +kernel
theorem dX11_laysChains_226 : decode cX11_laysChains 226 = .ok (.getfield 62, 3) := by decide +kernel
theorem dX11_laysChains_229 : decode cX11_laysChains 229 = .ok (.iload_n 2, 1) := by decide +kernel
theorem dX11_laysChains_230 : decode cX11_laysChains 230 = .ok (.iaload, 1) := by decide +kernel
theorem dX11_laysChains_231 : decode cX11_laysChains 231 = .ok (.iadd, 1) := by decide +kernel
theorem dX11_laysChains_232 : decode cX11_laysChains 232 = .ok (.invokestatic 377, 3) := by decide +kernel
theorem dX11_laysChains_235 : decode cX11_laysChains 235 = .ok (.iastore, 1) := by decide +kernel
theorem dX11_laysChains_236 : decode cX11_laysChains 236 = .ok (.iinc 2 1, 3) := by decide +kernel
theorem dX11_laysChains_239 : decode cX11_laysChains 239 = .ok (.goto (-58), 3) := by decide +kernel
theorem dX11_laysChains_242 : decode cX11_laysChains 242 = .ok (.iinc 1 (-1), 3) := by decide +kernel
theorem dX11_laysChains_245 : decode cX11_laysChains 245 = .ok (.goto (-79), 3) := by decide +kernel
theorem dX11_laysChains_248 : decode cX11_laysChains 248 = .ok (.return_, 1) := by decide +kernel
abbrev rX11_laysChains : Room := { frames := 3, cells := 0, slots := 0, locals := 66 }
abbrev mX11_laysChains : gY := (cX11_laysChains, RX11, 3, rX11_laysChains)
def fX11_laysChains_b121 (x1 : Int32) (x2 : Int32) (M0 : gMem) : Option ((Int32 × gMem) ⊕ gMem) :=
  some (.inl (x2 + (1 : Int32), M0))
set_option maxRecDepth 20000 in
theorem tX11_laysChains_b121 {X : gX} {V : gEnv} {x1 : Int32} {x2 : Int32} {M0 : gMem}  {o : ((Int32 × gMem) ⊕ gMem)} (h : fX11_laysChains_b121 x1 x2 M0 = some o) (Kc : ∀ s9, o = .inl s9 → gG X V mX11_laysChains gShM s9.2 0 0 48 [(0, .ref (gAd V 0)), (1, .int x1), (2, .int s9.1)] []) (Kx : ∀ e9, o = .inr e9 → gG X V mX11_laysChains gShM e9 0 0 127 [(0, .ref (gAd V 0)), (1, .int x1)] []) : gG X V mX11_laysChains gShM M0 0 0 121 [(0, .ref (gAd V 0)), (1, .int x1), (2, .int x2)] [] := by
  unfold fX11_laysChains_b121 at h
  refine g_iinc (j := 2) (v := x2 + (1 : Int32)) (ls' := [(2, .int (x2 + (1 : Int32))), (0, .ref (gAd V 0)), (1, .int x1)]) rfl rfl (Nat.le_of_ble_eq_true rfl) rfl dX11_laysChains_121 ?_
  refine g_goto (tgt := 48) rfl dX11_laysChains_124 ?_
  cases h
  refine g_sub [1, 2, 0] rfl ?_
  exact Kc (x2 + (1 : Int32), M0) rfl
def fX11_laysChains_l48 (x1 : Int32) (x2 : Int32) (M0 : gMem) : Option ((Int32 × gMem) ⊕ gMem) :=
  if x1 ≤ x2 then (some (.inr M0)) else (fX11_membersAt x2 M0).bind fun v10 => (fX11_membersAt x1 M0).bind fun v11 => (fX11_leads v10 v11 M0).bind fun v12 => if v12 = 0 then (fX11_laysChains_b121 x1 x2 M0) else (rI M0 14 24 x1).bind fun v14 => (rI M0 14 24 x2).bind fun v15 => (wI M0 14 24 x1 (if v14 < (v15 + (1 : Int32)) then (v15 + (1 : Int32)) else v14)).bind fun M16 => (rI M16 15 24 x1).bind fun v17 => (rI M16 15 24 x2).bind fun v18 => (rI M16 17 24 x2).bind fun v19 => (wI M16 15 24 x1 (if v17 < (v18 + v19) then (v18 + v19) else v17)).bind fun M20 => fX11_laysChains_b121 x1 x2 M20
set_option maxRecDepth 20000 in
theorem tX11_laysChains_l48 {X : gX} {V : gEnv} {x1 : Int32} {x2 : Int32} {M0 : gMem}  {o : ((Int32 × gMem) ⊕ gMem)} (h : fX11_laysChains_l48 x1 x2 M0 = some o) (Kc : ∀ s9, o = .inl s9 → gG X V mX11_laysChains gShM s9.2 0 0 48 [(0, .ref (gAd V 0)), (1, .int x1), (2, .int s9.1)] []) (Kx : ∀ e9, o = .inr e9 → gG X V mX11_laysChains gShM e9 0 0 127 [(0, .ref (gAd V 0)), (1, .int x1)] []) : gG X V mX11_laysChains gShM M0 0 0 48 [(0, .ref (gAd V 0)), (1, .int x1), (2, .int x2)] [] := by
  unfold fX11_laysChains_l48 at h
  refine g_iload_n 2 rfl rfl dX11_laysChains_48 ?_
  refine g_iload_n 1 rfl rfl dX11_laysChains_49 ?_
  rcases g_ite h with ⟨c9, h⟩ | ⟨c9, h⟩
  · refine g_icmp_ge_t c9 (tgt := 127) rfl dX11_laysChains_50 ?_
    cases h
    refine g_sub [0, 1] rfl ?_
    exact Kx M0 rfl
  · refine g_icmp_ge_f c9 (tgt := 127) rfl dX11_laysChains_50 ?_
    refine g_aload_n 0 rfl rfl dX11_laysChains_53 ?_
    refine g_aload_n 0 rfl rfl dX11_laysChains_54 ?_
    refine g_iload_n 2 rfl rfl dX11_laysChains_55 ?_
    obtain ⟨v10, ev10, h⟩ := g_bnd h
    refine g_callV LX11_179 sM_0 rfl (kX11_membersAt ev10) rfl rfl (Nat.le_of_ble_eq_true rfl) ⟨Nat.le_of_ble_eq_true rfl, Nat.le_of_ble_eq_true rfl⟩ ⟨Nat.le_of_ble_eq_true rfl, Nat.le_of_ble_eq_true rfl⟩ dX11_laysChains_56 rfl ?_
    refine g_aload_n 0 rfl rfl dX11_laysChains_59 ?_
    refine g_iload_n 1 rfl rfl dX11_laysChains_60 ?_
    obtain ⟨v11, ev11, h⟩ := g_bnd h
    refine g_callV LX11_179 sM_0 rfl (kX11_membersAt ev11) rfl rfl (Nat.le_of_ble_eq_true rfl) ⟨Nat.le_of_ble_eq_true rfl, Nat.le_of_ble_eq_true rfl⟩ ⟨Nat.le_of_ble_eq_true rfl, Nat.le_of_ble_eq_true rfl⟩ dX11_laysChains_61 rfl ?_
    obtain ⟨v12, ev12, h⟩ := g_bnd h
    refine g_callV LX11_194 sM_0 rfl (kX11_leads ev12) rfl rfl (Nat.le_of_ble_eq_true rfl) ⟨Nat.le_of_ble_eq_true rfl, Nat.le_of_ble_eq_true rfl⟩ ⟨Nat.le_of_ble_eq_true rfl, Nat.le_of_ble_eq_true rfl⟩ dX11_laysChains_64 rfl ?_
    rcases g_ite h with ⟨c13, h⟩ | ⟨c13, h⟩
    · refine g_if_eq_t c13 (tgt := 121) rfl dX11_laysChains_67 ?_
      exact tX11_laysChains_b121  h Kc Kx
    · refine g_if_eq_f c13 (tgt := 121) rfl dX11_laysChains_67 ?_
      refine g_aload_n 0 rfl rfl dX11_laysChains_70 ?_
      refine g_getR FX11_53 sM_0 rfl dX11_laysChains_71 ?_
      refine g_iload_n 1 rfl rfl dX11_laysChains_74 ?_
      refine g_aload_n 0 rfl rfl dX11_laysChains_75 ?_
      refine g_getR FX11_53 sM_0 rfl dX11_laysChains_76 ?_
      refine g_iload_n 1 rfl rfl dX11_laysChains_79 ?_
      obtain ⟨v14, ev14, h⟩ := g_bnd h
      refine g_iald' ev14 sM_14 dX11_laysChains_80 ?_
      refine g_aload_n 0 rfl rfl dX11_laysChains_81 ?_
      refine g_getR FX11_53 sM_0 rfl dX11_laysChains_82 ?_
      refine g_iload_n 2 rfl rfl dX11_laysChains_85 ?_
      obtain ⟨v15, ev15, h⟩ := g_bnd h
      refine g_iald' ev15 sM_14 dX11_laysChains_86 ?_
      refine g_iconst (v := 1) rfl dX11_laysChains_87 ?_
      refine g_iadd dX11_laysChains_88 ?_
      refine g_max ZmaxX11_377 Zmax_s Zm_i Zmax_c ⟨Nat.le_of_ble_eq_true rfl, Nat.le_of_ble_eq_true rfl⟩ ⟨Nat.le_of_ble_eq_true rfl, Nat.le_of_ble_eq_true rfl⟩ dX11_laysChains_89 ?_
      obtain ⟨M16, eM16, h⟩ := g_bnd h
      refine g_iast' eM16 sM_14 dX11_laysChains_92 ?_
      refine g_aload_n 0 rfl rfl dX11_laysChains_93 ?_
      refine g_getR FX11_56 sM_0 rfl dX11_laysChains_94 ?_
      refine g_iload_n 1 rfl rfl dX11_laysChains_97 ?_
      refine g_aload_n 0 rfl rfl dX11_laysChains_98 ?_
      refine g_getR FX11_56 sM_0 rfl dX11_laysChains_99 ?_
      refine g_iload_n 1 rfl rfl dX11_laysChains_102 ?_
      obtain ⟨v17, ev17, h⟩ := g_bnd h
      refine g_iald' ev17 sM_15 dX11_laysChains_103 ?_
      refine g_aload_n 0 rfl rfl dX11_laysChains_104 ?_
      refine g_getR FX11_56 sM_0 rfl dX11_laysChains_105 ?_
      refine g_iload_n 2 rfl rfl dX11_laysChains_108 ?_
      obtain ⟨v18, ev18, h⟩ := g_bnd h
      refine g_iald' ev18 sM_15 dX11_laysChains_109 ?_
      refine g_aload_n 0 rfl rfl dX11_laysChains_110 ?_
      refine g_getR FX11_62 sM_0 rfl dX11_laysChains_111 ?_
      refine g_iload_n 2 rfl rfl dX11_laysChains_114 ?_
      obtain ⟨v19, ev19, h⟩ := g_bnd h
      refine g_iald' ev19 sM_17 dX11_laysChains_115 ?_
      refine g_iadd dX11_laysChains_116 ?_
      refine g_max ZmaxX11_377 Zmax_s Zm_i Zmax_c ⟨Nat.le_of_ble_eq_true rfl, Nat.le_of_ble_eq_true rfl⟩ ⟨Nat.le_of_ble_eq_true rfl, Nat.le_of_ble_eq_true rfl⟩ dX11_laysChains_117 ?_
      obtain ⟨M20, eM20, h⟩ := g_bnd h
      refine g_iast' eM20 sM_15 dX11_laysChains_120 ?_
      exact tX11_laysChains_b121  h Kc Kx
def fX11_laysChains_l7 (x1 : Int32) (M0 : gMem) : Option ((Int32 × gMem) ⊕ gMem) :=
  (rI M0 1 374 (2 : Int32)).bind fun v2 => if v2 ≤ x1 then (some (.inr M0)) else (fX11_membersAt x1 M0).bind fun v4 => (fX11_hoursOf v4 M0).bind fun v5 => (wI M0 17 24 x1 v5).bind fun M6 => (wI M6 14 24 x1 (0 : Int32)).bind fun M7 => (wI M7 15 24 x1 (0 : Int32)).bind fun M8 => (gLoop (fun z9 => fX11_laysChains_l48 x1 z9.1 z9.2) gFu ((0 : Int32), M8)).bind fun w21 => (rI w21 15 24 x1).bind fun v22 => (rI w21 17 24 x1).bind fun v23 => (wF w21 0 38 (if (w21.1 0 38) < (v22 + v23) then (v22 + v23) else (w21.1 0 38))).bind fun M24 => some (.inl (x1 + (1 : Int32), M24))
set_option maxRecDepth 20000 in
theorem tX11_laysChains_l7 {X : gX} {V : gEnv} {x1 : Int32} {M0 : gMem}  {o : ((Int32 × gMem) ⊕ gMem)} (h : fX11_laysChains_l7 x1 M0 = some o) (Kc : ∀ s9, o = .inl s9 → gG X V mX11_laysChains gShM s9.2 0 0 7 [(0, .ref (gAd V 0)), (1, .int s9.1)] []) (Kx : ∀ e9, o = .inr e9 → gG X V mX11_laysChains gShM e9 0 0 157 [(0, .ref (gAd V 0))] []) : gG X V mX11_laysChains gShM M0 0 0 7 [(0, .ref (gAd V 0)), (1, .int x1)] [] := by
  unfold fX11_laysChains_l7 at h
  refine g_iload_n 1 rfl rfl dX11_laysChains_7 ?_
  refine g_aload_n 0 rfl rfl dX11_laysChains_8 ?_
  refine g_getR FX11_9 sM_0 rfl dX11_laysChains_9 ?_
  refine g_iconst (v := 2) rfl dX11_laysChains_12 ?_
  obtain ⟨v2, ev2, h⟩ := g_bnd h
  refine g_iald' ev2 sM_1 dX11_laysChains_13 ?_
  rcases g_ite h with ⟨c3, h⟩ | ⟨c3, h⟩
  · refine g_icmp_ge_t c3 (tgt := 157) rfl dX11_laysChains_14 ?_
    cases h
    refine g_sub [0] rfl ?_
    exact Kx M0 rfl
  · refine g_icmp_ge_f c3 (tgt := 157) rfl dX11_laysChains_14 ?_
    refine g_aload_n 0 rfl rfl dX11_laysChains_17 ?_
    refine g_getR FX11_62 sM_0 rfl dX11_laysChains_18 ?_
    refine g_iload_n 1 rfl rfl dX11_laysChains_21 ?_
    refine g_aload_n 0 rfl rfl dX11_laysChains_22 ?_
    refine g_aload_n 0 rfl rfl dX11_laysChains_23 ?_
    refine g_iload_n 1 rfl rfl dX11_laysChains_24 ?_
    obtain ⟨v4, ev4, h⟩ := g_bnd h
    refine g_callV LX11_179 sM_0 rfl (kX11_membersAt ev4) rfl rfl (Nat.le_of_ble_eq_true rfl) ⟨Nat.le_of_ble_eq_true rfl, Nat.le_of_ble_eq_true rfl⟩ ⟨Nat.le_of_ble_eq_true rfl, Nat.le_of_ble_eq_true rfl⟩ dX11_laysChains_25 rfl ?_
    obtain ⟨v5, ev5, h⟩ := g_bnd h
    refine g_callV LX11_406 sM_0 rfl (kX11_hoursOf ev5) rfl rfl (Nat.le_of_ble_eq_true rfl) ⟨Nat.le_of_ble_eq_true rfl, Nat.le_of_ble_eq_true rfl⟩ ⟨Nat.le_of_ble_eq_true rfl, Nat.le_of_ble_eq_true rfl⟩ dX11_laysChains_28 rfl ?_
    obtain ⟨M6, eM6, h⟩ := g_bnd h
    refine g_iast' eM6 sM_17 dX11_laysChains_31 ?_
    refine g_aload_n 0 rfl rfl dX11_laysChains_32 ?_
    refine g_getR FX11_53 sM_0 rfl dX11_laysChains_33 ?_
    refine g_iload_n 1 rfl rfl dX11_laysChains_36 ?_
    refine g_iconst (v := 0) rfl dX11_laysChains_37 ?_
    obtain ⟨M7, eM7, h⟩ := g_bnd h
    refine g_iast' eM7 sM_14 dX11_laysChains_38 ?_
    refine g_aload_n 0 rfl rfl dX11_laysChains_39 ?_
    refine g_getR FX11_56 sM_0 rfl dX11_laysChains_40 ?_
    refine g_iload_n 1 rfl rfl dX11_laysChains_43 ?_
    refine g_iconst (v := 0) rfl dX11_laysChains_44 ?_
    obtain ⟨M8, eM8, h⟩ := g_bnd h
    refine g_iast' eM8 sM_15 dX11_laysChains_45 ?_
    refine g_iconst (v := 0) rfl dX11_laysChains_46 ?_
    refine g_istore_n (ls' := [(2, .int (0 : Int32)), (0, .ref (gAd V 0)), (1, .int x1)]) rfl (Nat.le_of_ble_eq_true rfl) rfl dX11_laysChains_47 ?_
    obtain ⟨w21, ew21, h⟩ := g_bnd h
    refine g_sub [1, 2, 0] rfl ?_
    have KX : gG X V mX11_laysChains gShM w21 0 0 127 [(0, .ref (gAd V 0)), (1, .int x1)] [] := by
      refine g_aload_n 0 rfl rfl dX11_laysChains_127 ?_
      refine g_aload_n 0 rfl rfl dX11_laysChains_128 ?_
      refine g_getI FX11_403 sM_0 rfl dX11_laysChains_129 ?_
      refine g_aload_n 0 rfl rfl dX11_laysChains_132 ?_
      refine g_getR FX11_56 sM_0 rfl dX11_laysChains_133 ?_
      refine g_iload_n 1 rfl rfl dX11_laysChains_136 ?_
      obtain ⟨v22, ev22, h⟩ := g_bnd h
      refine g_iald' ev22 sM_15 dX11_laysChains_137 ?_
      refine g_aload_n 0 rfl rfl dX11_laysChains_138 ?_
      refine g_getR FX11_62 sM_0 rfl dX11_laysChains_139 ?_
      refine g_iload_n 1 rfl rfl dX11_laysChains_142 ?_
      obtain ⟨v23, ev23, h⟩ := g_bnd h
      refine g_iald' ev23 sM_17 dX11_laysChains_143 ?_
      refine g_iadd dX11_laysChains_144 ?_
      refine g_max ZmaxX11_377 Zmax_s Zm_i Zmax_c ⟨Nat.le_of_ble_eq_true rfl, Nat.le_of_ble_eq_true rfl⟩ ⟨Nat.le_of_ble_eq_true rfl, Nat.le_of_ble_eq_true rfl⟩ dX11_laysChains_145 ?_
      obtain ⟨M24, eM24, h⟩ := g_bnd h
      refine g_putI' eM24 FX11_403 jX11 sM_0 rfl rfl rfl dX11_laysChains_148 ?_
      refine g_iinc (j := 1) (v := x1 + (1 : Int32)) (ls' := [(1, .int (x1 + (1 : Int32))), (0, .ref (gAd V 0))]) rfl rfl (Nat.le_of_ble_eq_true rfl) rfl dX11_laysChains_151 ?_
      refine g_goto (tgt := 7) rfl dX11_laysChains_154 ?_
      cases h
      refine g_sub [1, 0] rfl ?_
      exact Kc (x1 + (1 : Int32), M24) rfl
    exact gLoop_Q ew21 (fun z9 => gG X V mX11_laysChains gShM z9.2 0 0 48 [(0, .ref (gAd V 0)), (1, .int x1), (2, .int z9.1)] []) (fun s9 o9 hb9 hc9 hx9 => tX11_laysChains_l48  hb9 hc9 (fun e9 he9 => by cases hx9 _ he9; exact KX))
def fX11_laysChains_b236 (x1 : Int32) (x2 : Int32) (M0 : gMem) : Option ((Int32 × gMem) ⊕ gMem) :=
  some (.inl (x2 + (1 : Int32), M0))
set_option maxRecDepth 20000 in
theorem tX11_laysChains_b236 {X : gX} {V : gEnv} {x1 : Int32} {x2 : Int32} {M0 : gMem}  {o : ((Int32 × gMem) ⊕ gMem)} (h : fX11_laysChains_b236 x1 x2 M0 = some o) (Kc : ∀ s9, o = .inl s9 → gG X V mX11_laysChains gShM s9.2 0 0 181 [(0, .ref (gAd V 0)), (1, .int x1), (2, .int s9.1)] []) (Kx : ∀ e9, o = .inr e9 → gG X V mX11_laysChains gShM e9 0 0 242 [(0, .ref (gAd V 0)), (1, .int x1)] []) : gG X V mX11_laysChains gShM M0 0 0 236 [(0, .ref (gAd V 0)), (1, .int x1), (2, .int x2)] [] := by
  unfold fX11_laysChains_b236 at h
  refine g_iinc (j := 2) (v := x2 + (1 : Int32)) (ls' := [(2, .int (x2 + (1 : Int32))), (0, .ref (gAd V 0)), (1, .int x1)]) rfl rfl (Nat.le_of_ble_eq_true rfl) rfl dX11_laysChains_236 ?_
  refine g_goto (tgt := 181) rfl dX11_laysChains_239 ?_
  cases h
  refine g_sub [1, 2, 0] rfl ?_
  exact Kc (x2 + (1 : Int32), M0) rfl
def fX11_laysChains_l181 (x1 : Int32) (x2 : Int32) (M0 : gMem) : Option ((Int32 × gMem) ⊕ gMem) :=
  (rI M0 1 374 (2 : Int32)).bind fun v31 => if v31 ≤ x2 then (some (.inr M0)) else (fX11_membersAt x1 M0).bind fun v33 => (fX11_membersAt x2 M0).bind fun v34 => (fX11_leads v33 v34 M0).bind fun v35 => if v35 = 0 then (fX11_laysChains_b236 x1 x2 M0) else (rI M0 16 24 x1).bind fun v37 => (rI M0 16 24 x2).bind fun v38 => (rI M0 17 24 x2).bind fun v39 => (wI M0 16 24 x1 (if v37 < (v38 + v39) then (v38 + v39) else v37)).bind fun M40 => fX11_laysChains_b236 x1 x2 M40
set_option maxRecDepth 20000 in
theorem tX11_laysChains_l181 {X : gX} {V : gEnv} {x1 : Int32} {x2 : Int32} {M0 : gMem}  {o : ((Int32 × gMem) ⊕ gMem)} (h : fX11_laysChains_l181 x1 x2 M0 = some o) (Kc : ∀ s9, o = .inl s9 → gG X V mX11_laysChains gShM s9.2 0 0 181 [(0, .ref (gAd V 0)), (1, .int x1), (2, .int s9.1)] []) (Kx : ∀ e9, o = .inr e9 → gG X V mX11_laysChains gShM e9 0 0 242 [(0, .ref (gAd V 0)), (1, .int x1)] []) : gG X V mX11_laysChains gShM M0 0 0 181 [(0, .ref (gAd V 0)), (1, .int x1), (2, .int x2)] [] := by
  unfold fX11_laysChains_l181 at h
  refine g_iload_n 2 rfl rfl dX11_laysChains_181 ?_
  refine g_aload_n 0 rfl rfl dX11_laysChains_182 ?_
  refine g_getR FX11_9 sM_0 rfl dX11_laysChains_183 ?_
  refine g_iconst (v := 2) rfl dX11_laysChains_186 ?_
  obtain ⟨v31, ev31, h⟩ := g_bnd h
  refine g_iald' ev31 sM_1 dX11_laysChains_187 ?_
  rcases g_ite h with ⟨c32, h⟩ | ⟨c32, h⟩
  · refine g_icmp_ge_t c32 (tgt := 242) rfl dX11_laysChains_188 ?_
    cases h
    refine g_sub [0, 1] rfl ?_
    exact Kx M0 rfl
  · refine g_icmp_ge_f c32 (tgt := 242) rfl dX11_laysChains_188 ?_
    refine g_aload_n 0 rfl rfl dX11_laysChains_191 ?_
    refine g_aload_n 0 rfl rfl dX11_laysChains_192 ?_
    refine g_iload_n 1 rfl rfl dX11_laysChains_193 ?_
    obtain ⟨v33, ev33, h⟩ := g_bnd h
    refine g_callV LX11_179 sM_0 rfl (kX11_membersAt ev33) rfl rfl (Nat.le_of_ble_eq_true rfl) ⟨Nat.le_of_ble_eq_true rfl, Nat.le_of_ble_eq_true rfl⟩ ⟨Nat.le_of_ble_eq_true rfl, Nat.le_of_ble_eq_true rfl⟩ dX11_laysChains_194 rfl ?_
    refine g_aload_n 0 rfl rfl dX11_laysChains_197 ?_
    refine g_iload_n 2 rfl rfl dX11_laysChains_198 ?_
    obtain ⟨v34, ev34, h⟩ := g_bnd h
    refine g_callV LX11_179 sM_0 rfl (kX11_membersAt ev34) rfl rfl (Nat.le_of_ble_eq_true rfl) ⟨Nat.le_of_ble_eq_true rfl, Nat.le_of_ble_eq_true rfl⟩ ⟨Nat.le_of_ble_eq_true rfl, Nat.le_of_ble_eq_true rfl⟩ dX11_laysChains_199 rfl ?_
    obtain ⟨v35, ev35, h⟩ := g_bnd h
    refine g_callV LX11_194 sM_0 rfl (kX11_leads ev35) rfl rfl (Nat.le_of_ble_eq_true rfl) ⟨Nat.le_of_ble_eq_true rfl, Nat.le_of_ble_eq_true rfl⟩ ⟨Nat.le_of_ble_eq_true rfl, Nat.le_of_ble_eq_true rfl⟩ dX11_laysChains_202 rfl ?_
    rcases g_ite h with ⟨c36, h⟩ | ⟨c36, h⟩
    · refine g_if_eq_t c36 (tgt := 236) rfl dX11_laysChains_205 ?_
      exact tX11_laysChains_b236  h Kc Kx
    · refine g_if_eq_f c36 (tgt := 236) rfl dX11_laysChains_205 ?_
      refine g_aload_n 0 rfl rfl dX11_laysChains_208 ?_
      refine g_getR FX11_59 sM_0 rfl dX11_laysChains_209 ?_
      refine g_iload_n 1 rfl rfl dX11_laysChains_212 ?_
      refine g_aload_n 0 rfl rfl dX11_laysChains_213 ?_
      refine g_getR FX11_59 sM_0 rfl dX11_laysChains_214 ?_
      refine g_iload_n 1 rfl rfl dX11_laysChains_217 ?_
      obtain ⟨v37, ev37, h⟩ := g_bnd h
      refine g_iald' ev37 sM_16 dX11_laysChains_218 ?_
      refine g_aload_n 0 rfl rfl dX11_laysChains_219 ?_
      refine g_getR FX11_59 sM_0 rfl dX11_laysChains_220 ?_
      refine g_iload_n 2 rfl rfl dX11_laysChains_223 ?_
      obtain ⟨v38, ev38, h⟩ := g_bnd h
      refine g_iald' ev38 sM_16 dX11_laysChains_224 ?_
      refine g_aload_n 0 rfl rfl dX11_laysChains_225 ?_
      refine g_getR FX11_62 sM_0 rfl dX11_laysChains_226 ?_
      refine g_iload_n 2 rfl rfl dX11_laysChains_229 ?_
      obtain ⟨v39, ev39, h⟩ := g_bnd h
      refine g_iald' ev39 sM_17 dX11_laysChains_230 ?_
      refine g_iadd dX11_laysChains_231 ?_
      refine g_max ZmaxX11_377 Zmax_s Zm_i Zmax_c ⟨Nat.le_of_ble_eq_true rfl, Nat.le_of_ble_eq_true rfl⟩ ⟨Nat.le_of_ble_eq_true rfl, Nat.le_of_ble_eq_true rfl⟩ dX11_laysChains_232 ?_
      obtain ⟨M40, eM40, h⟩ := g_bnd h
      refine g_iast' eM40 sM_16 dX11_laysChains_235 ?_
      exact tX11_laysChains_b236  h Kc Kx
def fX11_laysChains_l166 (x1 : Int32) (M0 : gMem) : Option ((Int32 × gMem) ⊕ gMem) :=
  if x1 < 0 then (some (.inr M0)) else (wI M0 16 24 x1 (0 : Int32)).bind fun M29 => (nm (x1 + (1 : Int32))).bind fun v30 => (gLoop (fun z9 => fX11_laysChains_l181 x1 z9.1 z9.2) gFu (v30, M29)).bind fun w41 => some (.inl (x1 + (-1 : Int32), w41))
set_option maxRecDepth 20000 in
theorem tX11_laysChains_l166 {X : gX} {V : gEnv} {x1 : Int32} {M0 : gMem}  {o : ((Int32 × gMem) ⊕ gMem)} (h : fX11_laysChains_l166 x1 M0 = some o) (Kc : ∀ s9, o = .inl s9 → gG X V mX11_laysChains gShM s9.2 0 0 166 [(0, .ref (gAd V 0)), (1, .int s9.1)] []) (Kx : ∀ e9, o = .inr e9 → gG X V mX11_laysChains gShM e9 0 0 248 [] []) : gG X V mX11_laysChains gShM M0 0 0 166 [(0, .ref (gAd V 0)), (1, .int x1)] [] := by
  unfold fX11_laysChains_l166 at h
  refine g_iload_n 1 rfl rfl dX11_laysChains_166 ?_
  rcases g_ite h with ⟨c28, h⟩ | ⟨c28, h⟩
  · refine g_if_lt_t c28 (tgt := 248) rfl dX11_laysChains_167 ?_
    cases h
    refine g_sub [] rfl ?_
    exact Kx M0 rfl
  · refine g_if_lt_f c28 (tgt := 248) rfl dX11_laysChains_167 ?_
    refine g_aload_n 0 rfl rfl dX11_laysChains_170 ?_
    refine g_getR FX11_59 sM_0 rfl dX11_laysChains_171 ?_
    refine g_iload_n 1 rfl rfl dX11_laysChains_174 ?_
    refine g_iconst (v := 0) rfl dX11_laysChains_175 ?_
    obtain ⟨M29, eM29, h⟩ := g_bnd h
    refine g_iast' eM29 sM_16 dX11_laysChains_176 ?_
    refine g_iload_n 1 rfl rfl dX11_laysChains_177 ?_
    refine g_iconst (v := 1) rfl dX11_laysChains_178 ?_
    refine g_iadd dX11_laysChains_179 ?_
    obtain ⟨v30, ev30, h⟩ := g_bnd h
    refine g_nmI ev30 ?_
    refine g_istore_n (ls' := [(2, .int v30), (0, .ref (gAd V 0)), (1, .int x1)]) rfl (Nat.le_of_ble_eq_true rfl) rfl dX11_laysChains_180 ?_
    obtain ⟨w41, ew41, h⟩ := g_bnd h
    refine g_sub [1, 2, 0] rfl ?_
    have KX : gG X V mX11_laysChains gShM w41 0 0 242 [(0, .ref (gAd V 0)), (1, .int x1)] [] := by
      refine g_iinc (j := 1) (v := x1 + (-1 : Int32)) (ls' := [(1, .int (x1 + (-1 : Int32))), (0, .ref (gAd V 0))]) rfl (congrArg (fun z => x1 + z) (by decide)) (Nat.le_of_ble_eq_true rfl) rfl dX11_laysChains_242 ?_
      refine g_goto (tgt := 166) rfl dX11_laysChains_245 ?_
      cases h
      refine g_sub [1, 0] rfl ?_
      exact Kc (x1 + (-1 : Int32), w41) rfl
    exact gLoop_Q ew41 (fun z9 => gG X V mX11_laysChains gShM z9.2 0 0 181 [(0, .ref (gAd V 0)), (1, .int x1), (2, .int z9.1)] []) (fun s9 o9 hb9 hc9 hx9 => tX11_laysChains_l181  hb9 hc9 (fun e9 he9 => by cases hx9 _ he9; exact KX))
def fX11_laysChains (M0 : gMem) : Option gMem :=
  (wF M0 0 38 (0 : Int32)).bind fun M1 => (gLoop (fun z9 => fX11_laysChains_l7 z9.1 z9.2) gFu ((0 : Int32), M1)).bind fun w25 => (rI w25 1 374 (2 : Int32)).bind fun v26 => (nm (v26 - (1 : Int32))).bind fun v27 => (gLoop (fun z9 => fX11_laysChains_l166 z9.1 z9.2) gFu (v27, w25)).bind fun w42 => some w42
set_option maxRecDepth 20000 in
theorem tX11_laysChains {X : gX} {V : gEnv} {M0 : gMem}  {o : gMem} (h : fX11_laysChains M0 = some o) (O : gO X V mX11_laysChains gShM none none o) : gG X V mX11_laysChains gShM M0 0 0 0 [(0, .ref (gAd V 0))] [] := by
  unfold fX11_laysChains at h
  refine g_aload_n 0 rfl rfl dX11_laysChains_0 ?_
  refine g_iconst (v := 0) rfl dX11_laysChains_1 ?_
  obtain ⟨M1, eM1, h⟩ := g_bnd h
  refine g_putI' eM1 FX11_403 jX11 sM_0 rfl rfl rfl dX11_laysChains_2 ?_
  refine g_iconst (v := 0) rfl dX11_laysChains_5 ?_
  refine g_istore_n (ls' := [(1, .int (0 : Int32)), (0, .ref (gAd V 0))]) rfl (Nat.le_of_ble_eq_true rfl) rfl dX11_laysChains_6 ?_
  obtain ⟨w25, ew25, h⟩ := g_bnd h
  refine g_sub [1, 0] rfl ?_
  have KX : gG X V mX11_laysChains gShM w25 0 0 157 [(0, .ref (gAd V 0))] [] := by
    refine g_aload_n 0 rfl rfl dX11_laysChains_157 ?_
    refine g_getR FX11_9 sM_0 rfl dX11_laysChains_158 ?_
    refine g_iconst (v := 2) rfl dX11_laysChains_161 ?_
    obtain ⟨v26, ev26, h⟩ := g_bnd h
    refine g_iald' ev26 sM_1 dX11_laysChains_162 ?_
    refine g_iconst (v := 1) rfl dX11_laysChains_163 ?_
    refine g_isub dX11_laysChains_164 ?_
    obtain ⟨v27, ev27, h⟩ := g_bnd h
    refine g_nmI ev27 ?_
    refine g_istore_n (ls' := [(1, .int v27), (0, .ref (gAd V 0))]) rfl (Nat.le_of_ble_eq_true rfl) rfl dX11_laysChains_165 ?_
    obtain ⟨w42, ew42, h⟩ := g_bnd h
    refine g_sub [1, 0] rfl ?_
    have KX : gG X V mX11_laysChains gShM w42 0 0 248 [] [] := by
      cases h
      exact g_vret O ⟨Nat.le_of_ble_eq_true rfl, Nat.le_of_ble_eq_true rfl⟩ dX11_laysChains_248
    exact gLoop_Q ew42 (fun z9 => gG X V mX11_laysChains gShM z9.2 0 0 166 [(0, .ref (gAd V 0)), (1, .int z9.1)] []) (fun s9 o9 hb9 hc9 hx9 => tX11_laysChains_l166  hb9 hc9 (fun e9 he9 => by cases hx9 _ he9; exact KX))
  exact gLoop_Q ew25 (fun z9 => gG X V mX11_laysChains gShM z9.2 0 0 7 [(0, .ref (gAd V 0)), (1, .int z9.1)] []) (fun s9 o9 hb9 hc9 hx9 => tX11_laysChains_l7  hb9 hc9 (fun e9 he9 => by cases hx9 _ he9; exact KX))
theorem kX11_laysChains {l : Launch} {V : gEnv} {M0 : gMem}   {o : gMem} (h : fX11_laysChains M0 = some o) : gM l yX11_laysChains cX11_laysChains 3 none rX11_laysChains V gShM [.ref (gAd V 0)] M0 none o :=
  gM.of (by decide) (Nat.le_of_ble_eq_true rfl) rfl (fun X _ O => tX11_laysChains  h O)
theorem dX11_slack_0 : decode cX11_slack 0 = .ok (.aload_n 0, 1) := by decide +kernel
theorem dX11_slack_1 : decode cX11_slack 1 = .ok (.getfield 403, 3) := by decide +kernel
theorem dX11_slack_4 : decode cX11_slack 4 = .ok (.aload_n 0, 1) := by decide +kernel
theorem dX11_slack_5 : decode cX11_slack 5 = .ok (.getfield 56, 3) := by decide +kernel
theorem dX11_slack_8 : decode cX11_slack 8 = .ok (.iload_n 1, 1) := by decide +kernel
theorem dX11_slack_9 : decode cX11_slack 9 = .ok (.iaload, 1) := by decide +kernel
theorem dX11_slack_10 : decode cX11_slack 10 = .ok (.isub, 1) := by decide +kernel
theorem dX11_slack_11 : decode cX11_slack 11 = .ok (.aload_n 0, 1) := by decide +kernel
theorem dX11_slack_12 : decode cX11_slack 12 = .ok (.getfield 62, 3) := by decide +kernel
theorem dX11_slack_15 : decode cX11_slack 15 = .ok (.iload_n 1, 1) := by decide +kernel
theorem dX11_slack_16 : decode cX11_slack 16 = .ok (.iaload, 1) := by decide +kernel
theorem dX11_slack_17 : decode cX11_slack 17 = .ok (.isub, 1) := by decide +kernel
theorem dX11_slack_18 : decode cX11_slack 18 = .ok (.aload_n 0, 1) := by decide +kernel
theorem dX11_slack_19 : decode cX11_slack 19 = .ok (.getfield 59, 3) := by decide +kernel
theorem dX11_slack_22 : decode cX11_slack 22 = .ok (.iload_n 1, 1) := by decide +kernel
theorem dX11_slack_23 : decode cX11_slack 23 = .ok (.iaload, 1) := by decide +kernel
theorem dX11_slack_24 : decode cX11_slack 24 = .ok (.isub, 1) := by decide +kernel
theorem dX11_slack_25 : decode cX11_slack 25 = .ok (.ireturn, 1) := by decide +kernel
abbrev rX11_slack : Room := { frames := 0, cells := 0, slots := 0, locals := 0 }
abbrev mX11_slack : gY := (cX11_slack, RX11, 2, rX11_slack)
def fX11_slack (x1 : Int32) (M0 : gMem) : Option Int32 :=
  (rI M0 15 24 x1).bind fun v1 => (rI M0 17 24 x1).bind fun v2 => (rI M0 16 24 x1).bind fun v3 => some ((((M0.1 0 38) - v1) - v2) - v3)
set_option maxRecDepth 20000 in
theorem tX11_slack {X : gX} {V : gEnv} {x1 : Int32} {M0 : gMem}  {o : Int32} (h : fX11_slack x1 M0 = some o) (O : gO X V mX11_slack gShM (some .int) (some (.int o)) M0) : gG X V mX11_slack gShM M0 0 0 0 [(0, .ref (gAd V 0)), (1, .int x1)] [] := by
  unfold fX11_slack at h
  refine g_aload_n 0 rfl rfl dX11_slack_0 ?_
  refine g_getI FX11_403 sM_0 rfl dX11_slack_1 ?_
  refine g_aload_n 0 rfl rfl dX11_slack_4 ?_
  refine g_getR FX11_56 sM_0 rfl dX11_slack_5 ?_
  refine g_iload_n 1 rfl rfl dX11_slack_8 ?_
  obtain ⟨v1, ev1, h⟩ := g_bnd h
  refine g_iald' ev1 sM_15 dX11_slack_9 ?_
  refine g_isub dX11_slack_10 ?_
  refine g_aload_n 0 rfl rfl dX11_slack_11 ?_
  refine g_getR FX11_62 sM_0 rfl dX11_slack_12 ?_
  refine g_iload_n 1 rfl rfl dX11_slack_15 ?_
  obtain ⟨v2, ev2, h⟩ := g_bnd h
  refine g_iald' ev2 sM_17 dX11_slack_16 ?_
  refine g_isub dX11_slack_17 ?_
  refine g_aload_n 0 rfl rfl dX11_slack_18 ?_
  refine g_getR FX11_59 sM_0 rfl dX11_slack_19 ?_
  refine g_iload_n 1 rfl rfl dX11_slack_22 ?_
  obtain ⟨v3, ev3, h⟩ := g_bnd h
  refine g_iald' ev3 sM_16 dX11_slack_23 ?_
  refine g_isub dX11_slack_24 ?_
  cases h
  exact g_iret O ⟨Nat.le_of_ble_eq_true rfl, Nat.le_of_ble_eq_true rfl⟩ rfl dX11_slack_25
theorem kX11_slack {l : Launch} {V : gEnv} {M0 : gMem} {x1 : Int32}  {o : Int32} (h : fX11_slack x1 M0 = some o) : gM l yX11_slack cX11_slack 2 (some .int) rX11_slack V gShM [.ref (gAd V 0), .int x1] M0 (some (.int o)) M0 :=
  gM.of (by decide) (Nat.le_of_ble_eq_true rfl) rfl (fun X _ O => tX11_slack  h O)
theorem dX11_noPlace_0 : decode cX11_noPlace 0 = .ok (.aload_n 0, 1) := by decide +kernel
theorem dX11_noPlace_1 : decode cX11_noPlace 1 = .ok (.iload_n 1, 1) := by decide +kernel
theorem dX11_noPlace_2 : decode cX11_noPlace 2 = .ok (.iconst 0, 1) := by decide +kernel
theorem dX11_noPlace_3 : decode cX11_noPlace 3 = .ok (.aload_n 0, 1) := by decide +kernel
theorem dX11_noPlace_4 : decode cX11_noPlace 4 = .ok (.getfield 9, 3) := by decide +kernel
theorem dX11_noPlace_7 : decode cX11_noPlace 7 = .ok (.iconst 2, 1) := by decide +kernel
theorem dX11_noPlace_8 : decode cX11_noPlace 8 = .ok (.iaload, 1) := by decide +kernel
theorem dX11_noPlace_9 : decode cX11_noPlace 9 = .ok (.iconst 1, 1) := by decide +kernel
theorem dX11_noPlace_10 : decode cX11_noPlace 10 = .ok (.isub, 1) := by decide +kernel
theorem dX11_noPlace_11 : decode cX11_noPlace 11 = .ok (.invokestatic 172, 3) := by decide +kernel
theorem dX11_noPlace_14 : decode cX11_noPlace 14 = .ok (.ifCond .ne 7, 3) := by decide +kernel
theorem dX11_noPlace_17 : decode cX11_noPlace 17 = .ok (.iconst 1, 1) := by decide +kernel
theorem dX11_noPlace_18 : decode cX11_noPlace 18 = .ok (.goto 4, 3) := by decide +kernel
theorem dX11_noPlace_21 : decode cX11_noPlace 21 = .ok (.iconst 0, 1) := by decide +kernel
theorem dX11_noPlace_22 : decode cX11_noPlace 22 = .ok (.invokevirtual 212, 3) := by decide +kernel
theorem dX11_noPlace_25 : decode cX11_noPlace 25 = .ok (.ireturn, 1) := by decide +kernel
abbrev rX11_noPlace : Room := { frames := 1, cells := 0, slots := 0, locals := 22 }
abbrev mX11_noPlace : gY := (cX11_noPlace, RX11, 2, rX11_noPlace)
def fX11_noPlace (x1 : Int32) (M0 : gMem) : Option (Int32 × gMem) :=
  (rI M0 1 374 (2 : Int32)).bind fun v1 => (fX11_in x1 (0 : Int32) (v1 - (1 : Int32))).bind fun v2 => (fX11_wrong (if v2 = 0 then (1 : Int32) else (0 : Int32)) M0).bind fun v4 => (zv v4.1).bind fun v5 => some (v5, v4.2)
set_option maxRecDepth 20000 in
theorem tX11_noPlace {X : gX} {V : gEnv} {x1 : Int32} {M0 : gMem}  {o : (Int32 × gMem)} (h : fX11_noPlace x1 M0 = some o) (O : gO X V mX11_noPlace gShM (some .boolean) (some (.int o.1)) o.2) : gG X V mX11_noPlace gShM M0 0 0 0 [(0, .ref (gAd V 0)), (1, .int x1)] [] := by
  unfold fX11_noPlace at h
  refine g_aload_n 0 rfl rfl dX11_noPlace_0 ?_
  refine g_iload_n 1 rfl rfl dX11_noPlace_1 ?_
  refine g_iconst (v := 0) rfl dX11_noPlace_2 ?_
  refine g_aload_n 0 rfl rfl dX11_noPlace_3 ?_
  refine g_getR FX11_9 sM_0 rfl dX11_noPlace_4 ?_
  refine g_iconst (v := 2) rfl dX11_noPlace_7 ?_
  obtain ⟨v1, ev1, h⟩ := g_bnd h
  refine g_iald' ev1 sM_1 dX11_noPlace_8 ?_
  refine g_iconst (v := 1) rfl dX11_noPlace_9 ?_
  refine g_isub dX11_noPlace_10 ?_
  obtain ⟨v2, ev2, h⟩ := g_bnd h
  refine g_callS LX11_172 (kX11_in ev2) rfl rfl (Nat.le_of_ble_eq_true rfl) ⟨Nat.le_of_ble_eq_true rfl, Nat.le_of_ble_eq_true rfl⟩ ⟨Nat.le_of_ble_eq_true rfl, Nat.le_of_ble_eq_true rfl⟩ dX11_noPlace_11 rfl ?_
  have KJ : gG X V mX11_noPlace gShM M0 0 0 22 [(0, .ref (gAd V 0)), (1, .int x1)] [.int (if v2 = 0 then (1 : Int32) else (0 : Int32)), .ref (gAd V 0)] := by
    obtain ⟨v4, ev4, h⟩ := g_bnd h
    refine g_callV LX11_212 sM_0 rfl (kX11_wrong ev4) rfl rfl (Nat.le_of_ble_eq_true rfl) ⟨Nat.le_of_ble_eq_true rfl, Nat.le_of_ble_eq_true rfl⟩ ⟨Nat.le_of_ble_eq_true rfl, Nat.le_of_ble_eq_true rfl⟩ dX11_noPlace_22 rfl ?_
    obtain ⟨v5, ev5, h⟩ := g_bnd h
    refine g_zv ev5 ?_
    cases h
    exact g_iret O ⟨Nat.le_of_ble_eq_true rfl, Nat.le_of_ble_eq_true rfl⟩ (g_nz (zv_ok ev5)) dX11_noPlace_25
  by_cases c3 : v2 = 0
  · rw [if_pos c3] at KJ
    refine g_if_ne_f c3 (tgt := 21) rfl dX11_noPlace_14 ?_
    refine g_iconst (v := 1) rfl dX11_noPlace_17 ?_
    refine g_goto (tgt := 22) rfl dX11_noPlace_18 ?_
    exact KJ
  · rw [if_neg c3] at KJ
    refine g_if_ne_t c3 (tgt := 21) rfl dX11_noPlace_14 ?_
    refine g_iconst (v := 0) rfl dX11_noPlace_21 ?_
    exact KJ
theorem kX11_noPlace {l : Launch} {V : gEnv} {M0 : gMem} {x1 : Int32}  {o : (Int32 × gMem)} (h : fX11_noPlace x1 M0 = some o) : gM l yX11_noPlace cX11_noPlace 2 (some .boolean) rX11_noPlace V gShM [.ref (gAd V 0), .int x1] M0 (some (.int o.1)) o.2 :=
  gM.of (by decide) (Nat.le_of_ble_eq_true rfl) rfl (fun X _ O => tX11_noPlace  h O)
theorem dX11_innersOf_0 : decode cX11_innersOf 0 = .ok (.iconst 0, 1) := by decide +kernel
theorem dX11_innersOf_1 : decode cX11_innersOf 1 = .ok (.istore_n 2, 1) := by decide +kernel
theorem dX11_innersOf_2 : decode cX11_innersOf 2 = .ok (.iconst 0, 1) := by decide +kernel
theorem dX11_innersOf_3 : decode cX11_innersOf 3 = .ok (.istore_n 3, 1) := by decide +kernel
theorem dX11_innersOf_4 : decode cX11_innersOf 4 = .ok (.iload_n 3, 1) := by decide +kernel
theorem dX11_innersOf_5 : decode cX11_innersOf 5 = .ok (.aload_n 0, 1) := by decide +kernel
theorem dX11_innersOf_6 : decode cX11_innersOf 6 = .ok (.getfield 9, 3) := by decide +kernel
theorem dX11_innersOf_9 : decode cX11_innersOf 9 = .ok (.iconst 1, 1) := by decide +kernel
theorem dX11_innersOf_10 : decode cX11_innersOf 10 = .ok (.iaload, 1) := by decide +kernel
theorem dX11_innersOf_11 : decode cX11_innersOf 11 = .ok (.if_icmp .ge 43, 3) := by decide +kernel
theorem dX11_innersOf_14 : decode cX11_innersOf 14 = .ok (.iload_n 2, 1) := by decide +kernel
theorem dX11_innersOf_15 : decode cX11_innersOf 15 = .ok (.aload_n 0, 1) := by decide +kernel
theorem dX11_innersOf_16 : decode cX11_innersOf 16 = .ok (.iload_n 3, 1) := by decide +kernel
theorem dX11_innersOf_17 : decode cX11_innersOf 17 = .ok (.invokevirtual 97, 3) := by decide +kernel
theorem dX11_innersOf_20 : decode cX11_innersOf 20 = .ok (.ifCond .eq 25, 3) := by decide +kernel
theorem dX11_innersOf_23 : decode cX11_innersOf 23 = .ok (.aload_n 0, 1) := by decide +kernel
theorem dX11_innersOf_24 : decode cX11_innersOf 24 = .ok (.aload_n 0, 1) := by decide +kernel
theorem dX11_innersOf_25 : decode cX11_innersOf 25 = .ok (.getfield 9, 3) := by decide +kernel
theorem dX11_innersOf_28 : decode cX11_innersOf 28 = .ok (.bipush 38, 2) := by decide +kernel
theorem dX11_innersOf_30 : decode cX11_innersOf 30 = .ok (.iload_n 3, 1) := by decide +kernel
theorem dX11_innersOf_31 : decode cX11_innersOf 31 = .ok (.iadd, 1) := by decide +kernel
theorem dX11_innersOf_32 : decode cX11_innersOf 32 = .ok (.iaload, 1) := by decide +kernel
theorem dX11_innersOf_33 : decode cX11_innersOf 33 = .ok (.iconst 1, 1) := by decide +kernel
theorem dX11_innersOf_34 : decode cX11_innersOf 34 = .ok (.invokevirtual 82, 3) := by decide +kernel
theorem dX11_innersOf_37 : decode cX11_innersOf 37 = .ok (.iload_n 1, 1) := by decide +kernel
theorem dX11_innersOf_38 : decode cX11_innersOf 38 = .ok (.if_icmp .ne 7, 3) := by decide +kernel
theorem dX11_innersOf_41 : decode cX11_innersOf 41 = .ok (.iconst 1, 1) := by decide +kernel
theorem dX11_innersOf_42 : decode cX11_innersOf 42 = .ok (.goto 4, 3) := by decide +kernel
theorem dX11_innersOf_45 : decode cX11_innersOf 45 = .ok (.iconst 0, 1) := by decide +kernel
theorem dX11_innersOf_46 : decode cX11_innersOf 46 = .ok (.iadd, 1) := by decide +kernel
theorem dX11_innersOf_47 : decode cX11_innersOf 47 = .ok (.istore_n 2, 1) := by decide +kernel
theorem dX11_innersOf_48 : decode cX11_innersOf 48 = .ok (.iinc 3 1, 3) := by decide +kernel
theorem dX11_innersOf_51 : decode cX11_innersOf 51 = .ok (.goto (-47), 3) := by decide +kernel
theorem dX11_innersOf_54 : decode cX11_innersOf 54 = .ok (.iload_n 2, 1) := by decide +kernel
theorem dX11_innersOf_55 : decode cX11_innersOf 55 = .ok (.ireturn, 1) := by decide +kernel
abbrev rX11_innersOf : Room := { frames := 2, cells := 0, slots := 0, locals := 43 }
abbrev mX11_innersOf : gY := (cX11_innersOf, RX11, 4, rX11_innersOf)
def fX11_innersOf_b46 (x1 : Int32) (x3 : Int32) (s0 : Int32) (s1 : Int32) (M0 : gMem) : Option ((Int32 × Int32) ⊕ Int32) :=
  (nm (s0 + s1)).bind fun v5 => some (.inl (v5, x3 + (1 : Int32)))
set_option maxRecDepth 20000 in
theorem tX11_innersOf_b46 {X : gX} {V : gEnv} {x1 : Int32} {x3 : Int32} {s0 : Int32} {s1 : Int32} {M0 : gMem}  {o : ((Int32 × Int32) ⊕ Int32)} (h : fX11_innersOf_b46 x1 x3 s0 s1 M0 = some o) (Kc : ∀ s9, o = .inl s9 → gG X V mX11_innersOf gShM M0 0 0 4 [(0, .ref (gAd V 0)), (1, .int x1), (2, .int s9.1), (3, .int s9.2)] []) (Kx : ∀ e9, o = .inr e9 → gG X V mX11_innersOf gShM M0 0 0 54 [(2, .int e9)] []) : gG X V mX11_innersOf gShM M0 0 0 46 [(0, .ref (gAd V 0)), (1, .int x1), (3, .int x3)] [.int s1, .int s0] := by
  unfold fX11_innersOf_b46 at h
  refine g_iadd dX11_innersOf_46 ?_
  obtain ⟨v5, ev5, h⟩ := g_bnd h
  refine g_nmI ev5 ?_
  refine g_istore_n (ls' := [(2, .int v5), (0, .ref (gAd V 0)), (1, .int x1), (3, .int x3)]) rfl (Nat.le_of_ble_eq_true rfl) rfl dX11_innersOf_47 ?_
  refine g_iinc (j := 3) (v := x3 + (1 : Int32)) (ls' := [(3, .int (x3 + (1 : Int32))), (2, .int v5), (0, .ref (gAd V 0)), (1, .int x1)]) rfl rfl (Nat.le_of_ble_eq_true rfl) rfl dX11_innersOf_48 ?_
  refine g_goto (tgt := 4) rfl dX11_innersOf_51 ?_
  cases h
  refine g_sub [2, 3, 1, 0] rfl ?_
  exact Kc (v5, x3 + (1 : Int32)) rfl
def fX11_innersOf_b45 (x1 : Int32) (x3 : Int32) (s0 : Int32) (M0 : gMem) : Option ((Int32 × Int32) ⊕ Int32) :=
  fX11_innersOf_b46 x1 x3 s0 (0 : Int32) M0
set_option maxRecDepth 20000 in
theorem tX11_innersOf_b45 {X : gX} {V : gEnv} {x1 : Int32} {x3 : Int32} {s0 : Int32} {M0 : gMem}  {o : ((Int32 × Int32) ⊕ Int32)} (h : fX11_innersOf_b45 x1 x3 s0 M0 = some o) (Kc : ∀ s9, o = .inl s9 → gG X V mX11_innersOf gShM M0 0 0 4 [(0, .ref (gAd V 0)), (1, .int x1), (2, .int s9.1), (3, .int s9.2)] []) (Kx : ∀ e9, o = .inr e9 → gG X V mX11_innersOf gShM M0 0 0 54 [(2, .int e9)] []) : gG X V mX11_innersOf gShM M0 0 0 45 [(0, .ref (gAd V 0)), (1, .int x1), (3, .int x3)] [.int s0] := by
  unfold fX11_innersOf_b45 at h
  refine g_iconst (v := 0) rfl dX11_innersOf_45 ?_
  exact tX11_innersOf_b46  h Kc Kx
def fX11_innersOf_l4 (x1 : Int32) (M0 : gMem) (x2 : Int32) (x3 : Int32) : Option ((Int32 × Int32) ⊕ Int32) :=
  (rI M0 1 374 (1 : Int32)).bind fun v1 => if v1 ≤ x3 then (some (.inr x2)) else (fX11_isInner x3 M0).bind fun v3 => if v3 = 0 then (fX11_innersOf_b45 x1 x3 x2 M0) else (rI M0 1 374 ((38 : Int32) + x3)).bind fun v6 => (fX11_of v6 (1 : Int32) M0).bind fun v7 => if v7 = x1 then (fX11_innersOf_b46 x1 x3 x2 (1 : Int32) M0) else fX11_innersOf_b45 x1 x3 x2 M0
set_option maxRecDepth 20000 in
theorem tX11_innersOf_l4 {X : gX} {V : gEnv} {x1 : Int32} {M0 : gMem} {x2 : Int32} {x3 : Int32}  {o : ((Int32 × Int32) ⊕ Int32)} (h : fX11_innersOf_l4 x1 M0 x2 x3 = some o) (Kc : ∀ s9, o = .inl s9 → gG X V mX11_innersOf gShM M0 0 0 4 [(0, .ref (gAd V 0)), (1, .int x1), (2, .int s9.1), (3, .int s9.2)] []) (Kx : ∀ e9, o = .inr e9 → gG X V mX11_innersOf gShM M0 0 0 54 [(2, .int e9)] []) : gG X V mX11_innersOf gShM M0 0 0 4 [(0, .ref (gAd V 0)), (1, .int x1), (2, .int x2), (3, .int x3)] [] := by
  unfold fX11_innersOf_l4 at h
  refine g_iload_n 3 rfl rfl dX11_innersOf_4 ?_
  refine g_aload_n 0 rfl rfl dX11_innersOf_5 ?_
  refine g_getR FX11_9 sM_0 rfl dX11_innersOf_6 ?_
  refine g_iconst (v := 1) rfl dX11_innersOf_9 ?_
  obtain ⟨v1, ev1, h⟩ := g_bnd h
  refine g_iald' ev1 sM_1 dX11_innersOf_10 ?_
  rcases g_ite h with ⟨c2, h⟩ | ⟨c2, h⟩
  · refine g_icmp_ge_t c2 (tgt := 54) rfl dX11_innersOf_11 ?_
    cases h
    refine g_sub [2] rfl ?_
    exact Kx x2 rfl
  · refine g_icmp_ge_f c2 (tgt := 54) rfl dX11_innersOf_11 ?_
    refine g_iload_n 2 rfl rfl dX11_innersOf_14 ?_
    refine g_aload_n 0 rfl rfl dX11_innersOf_15 ?_
    refine g_iload_n 3 rfl rfl dX11_innersOf_16 ?_
    obtain ⟨v3, ev3, h⟩ := g_bnd h
    refine g_callV LX11_97 sM_0 rfl (kX11_isInner ev3) rfl rfl (Nat.le_of_ble_eq_true rfl) ⟨Nat.le_of_ble_eq_true rfl, Nat.le_of_ble_eq_true rfl⟩ ⟨Nat.le_of_ble_eq_true rfl, Nat.le_of_ble_eq_true rfl⟩ dX11_innersOf_17 rfl ?_
    rcases g_ite h with ⟨c4, h⟩ | ⟨c4, h⟩
    · refine g_if_eq_t c4 (tgt := 45) rfl dX11_innersOf_20 ?_
      refine g_sub [0, 1, 3] rfl ?_
      exact tX11_innersOf_b45  h Kc Kx
    · refine g_if_eq_f c4 (tgt := 45) rfl dX11_innersOf_20 ?_
      refine g_aload_n 0 rfl rfl dX11_innersOf_23 ?_
      refine g_aload_n 0 rfl rfl dX11_innersOf_24 ?_
      refine g_getR FX11_9 sM_0 rfl dX11_innersOf_25 ?_
      refine g_bipush (v := 38) rfl dX11_innersOf_28 ?_
      refine g_iload_n 3 rfl rfl dX11_innersOf_30 ?_
      refine g_iadd dX11_innersOf_31 ?_
      obtain ⟨v6, ev6, h⟩ := g_bnd h
      refine g_iald' ev6 sM_1 dX11_innersOf_32 ?_
      refine g_iconst (v := 1) rfl dX11_innersOf_33 ?_
      obtain ⟨v7, ev7, h⟩ := g_bnd h
      refine g_callV LX11_82 sM_0 rfl (kX11_of ev7) rfl rfl (Nat.le_of_ble_eq_true rfl) ⟨Nat.le_of_ble_eq_true rfl, Nat.le_of_ble_eq_true rfl⟩ ⟨Nat.le_of_ble_eq_true rfl, Nat.le_of_ble_eq_true rfl⟩ dX11_innersOf_34 rfl ?_
      refine g_iload_n 1 rfl rfl dX11_innersOf_37 ?_
      rcases g_ite h with ⟨c8, h⟩ | ⟨c8, h⟩
      · refine g_icmp_ne_f c8 (tgt := 45) rfl dX11_innersOf_38 ?_
        refine g_iconst (v := 1) rfl dX11_innersOf_41 ?_
        refine g_goto (tgt := 46) rfl dX11_innersOf_42 ?_
        refine g_sub [0, 1, 3] rfl ?_
        exact tX11_innersOf_b46  h Kc Kx
      · refine g_icmp_ne_t c8 (tgt := 45) rfl dX11_innersOf_38 ?_
        refine g_sub [0, 1, 3] rfl ?_
        exact tX11_innersOf_b45  h Kc Kx
def fX11_innersOf (x1 : Int32) (M0 : gMem) : Option Int32 :=
  (gLoop (fun z9 => fX11_innersOf_l4 x1 M0 z9.1 z9.2) gFu ((0 : Int32), (0 : Int32))).bind fun w9 => some w9
set_option maxRecDepth 20000 in
theorem tX11_innersOf {X : gX} {V : gEnv} {x1 : Int32} {M0 : gMem}  {o : Int32} (h : fX11_innersOf x1 M0 = some o) (O : gO X V mX11_innersOf gShM (some .int) (some (.int o)) M0) : gG X V mX11_innersOf gShM M0 0 0 0 [(0, .ref (gAd V 0)), (1, .int x1)] [] := by
  unfold fX11_innersOf at h
  refine g_iconst (v := 0) rfl dX11_innersOf_0 ?_
  refine g_istore_n (ls' := [(2, .int (0 : Int32)), (0, .ref (gAd V 0)), (1, .int x1)]) rfl (Nat.le_of_ble_eq_true rfl) rfl dX11_innersOf_1 ?_
  refine g_iconst (v := 0) rfl dX11_innersOf_2 ?_
  refine g_istore_n (ls' := [(3, .int (0 : Int32)), (2, .int (0 : Int32)), (0, .ref (gAd V 0)), (1, .int x1)]) rfl (Nat.le_of_ble_eq_true rfl) rfl dX11_innersOf_3 ?_
  obtain ⟨w9, ew9, h⟩ := g_bnd h
  refine g_sub [2, 3, 1, 0] rfl ?_
  have KX : gG X V mX11_innersOf gShM M0 0 0 54 [(2, .int w9)] [] := by
    refine g_iload_n 0 rfl rfl dX11_innersOf_54 ?_
    cases h
    exact g_iret O ⟨Nat.le_of_ble_eq_true rfl, Nat.le_of_ble_eq_true rfl⟩ rfl dX11_innersOf_55
  exact gLoop_Q ew9 (fun z9 => gG X V mX11_innersOf gShM M0 0 0 4 [(0, .ref (gAd V 0)), (1, .int x1), (2, .int z9.1), (3, .int z9.2)] []) (fun s9 o9 hb9 hc9 hx9 => tX11_innersOf_l4  hb9 hc9 (fun e9 he9 => by cases hx9 _ he9; exact KX))
theorem kX11_innersOf {l : Launch} {V : gEnv} {M0 : gMem} {x1 : Int32}  {o : Int32} (h : fX11_innersOf x1 M0 = some o) : gM l yX11_innersOf cX11_innersOf 4 (some .int) rX11_innersOf V gShM [.ref (gAd V 0), .int x1] M0 (some (.int o)) M0 :=
  gM.of (by decide) (Nat.le_of_ble_eq_true rfl) rfl (fun X _ O => tX11_innersOf  h O)
theorem dX11_group_0 : decode cX11_group 0 = .ok (.aload_n 0, 1) := by decide +kernel
theorem dX11_group_1 : decode cX11_group 1 = .ok (.iload_n 1, 1) := by decide +kernel
theorem dX11_group_2 : decode cX11_group 2 = .ok (.invokevirtual 409, 3) := by decide +kernel
theorem dX11_group_5 : decode cX11_group 5 = .ok (.ifCond .ne 26, 3) := by decide +kernel
theorem dX11_group_8 : decode cX11_group 8 = .ok (.aload_n 0, 1) := by decide +kernel
theorem dX11_group_9 : decode cX11_group 9 = .ok (.iload_n 2, 1) := by decide +kernel
theorem dX11_group_10 : decode cX11_group 10 = .ok (.iconst 0, 1) := by decide +kernel
theorem dX11_group_11 : decode cX11_group 11 = .ok (.bipush 7, 2) := by decide +kernel
theorem dX11_group_13 : decode cX11_group 13 = .ok (.invokestatic 172, 3) := by decide +kernel
theorem dX11_group_16 : decode cX11_group 16 = .ok (.ifCond .ne 7, 3) := by decide +kernel
theorem dX11_group_19 : decode cX11_group 19 = .ok (.iconst 1, 1) := by decide +kernel
theorem dX11_group_20 : decode cX11_group 20 = .ok (.goto 4, 3) := by decide +kernel
theorem dX11_group_23 : decode cX11_group 23 = .ok (.iconst 0, 1) := by decide +kernel
theorem dX11_group_24 : decode cX11_group 24 = .ok (.iconst 2, 1) := by decide +kernel
theorem dX11_group_25 : decode cX11_group 25 = .ok (.invokevirtual 392, 3) := by decide +kernel
theorem dX11_group_28 : decode cX11_group 28 = .ok (.ifCond .eq 5, 3) := by decide +kernel
theorem dX11_group_31 : decode cX11_group 31 = .ok (.iconst 0, 1) := by decide +kernel
theorem dX11_group_32 : decode cX11_group 32 = .ok (.ireturn, 1) := by decide +kernel
theorem dX11_group_33 : decode cX11_group 33 = .ok (.aload_n 0, 1) := by decide +kernel
theorem dX11_group_34 : decode cX11_group 34 = .ok (.invokevirtual 412, 3) := by decide +kernel
theorem dX11_group_37 : decode cX11_group 37 = .ok (.iload_n 2, 1) := by decide +kernel
theorem dX11_group_38 : decode cX11_group 38 = .ok (.tableswitch 102 0 6 #[42, 52, 61, 68, 82, 88, 95], 42) := by decide +kernel
theorem dX11_group_80 : decode cX11_group 80 = .ok (.aload_n 0, 1) := by decide +kernel
theorem dX11_group_81 : decode cX11_group 81 = .ok (.getfield 9, 3) := by decide +kernel
theorem dX11_group_84 : decode cX11_group 84 = .ok (.bipush 14, 2) := by decide +kernel
theorem dX11_group_86 : decode cX11_group 86 = .ok (.iload_n 1, 1) := by decide +kernel
theorem dX11_group_87 : decode cX11_group 87 = .ok (.iadd, 1) := by decide +kernel
theorem dX11_group_88 : decode cX11_group 88 = .ok (.iaload, 1) := by decide +kernel
theorem dX11_group_89 : decode cX11_group 89 = .ok (.ireturn, 1) := by decide +kernel
theorem dX11_group_90 : decode cX11_group 90 = .ok (.aload_n 0, 1) := by decide +kernel
theorem dX11_group_91 : decode cX11_group 91 = .ok (.iload_n 1, 1) := by decide +kernel
theorem dX11_group_92 : decode cX11_group 92 = .ok (.invokevirtual 179, 3) := by decide +kernel
theorem dX11_group_95 : decode cX11_group 95 = .ok (.invokestatic 139, 3) := by decide +kernel
theorem dX11_group_98 : decode cX11_group 98 = .ok (.ireturn, 1) := by decide +kernel
theorem dX11_group_99 : decode cX11_group 99 = .ok (.aload_n 0, 1) := by decide +kernel
theorem dX11_group_100 : decode cX11_group 100 = .ok (.getfield 62, 3) := by decide +kernel
theorem dX11_group_103 : decode cX11_group 103 = .ok (.iload_n 1, 1) := by decide +kernel
theorem dX11_group_104 : decode cX11_group 104 = .ok (.iaload, 1) := by decide +kernel
theorem dX11_group_105 : decode cX11_group 105 = .ok (.ireturn, 1) := by decide +kernel
theorem dX11_group_106 : decode cX11_group 106 = .ok (.aload_n 0, 1) := by decide +kernel
theorem dX11_group_107 : decode cX11_group 107 = .ok (.aload_n 0, 1) := by decide +kernel
theorem dX11_group_108 : decode cX11_group 108 = .ok (.getfield 9, 3) := by decide +kernel
theorem dX11_group_111 : decode cX11_group 111 = .ok (.bipush 14, 2) := by decide +kernel
theorem dX11_group_113 : decode cX11_group 113 = .ok (.iload_n 1, 1) := by decide +kernel
theorem dX11_group_114 : decode cX11_group 114 = .ok (.iadd, 1) := by decide +kernel
theorem dX11_group_115 : decode cX11_group 115 = .ok (.iaload, 1) := by decide +kernel
theorem dX11_group_116 : decode cX11_group 116 = .ok (.invokevirtual 415, 3) := by decide +kernel
theorem dX11_group_119 : decode cX11_group 119 = .ok (.ireturn, 1) := by decide +kernel
theorem dX11_group_120 : decode cX11_group 120 = .ok (.aload_n 0, 1) := by decide +kernel
theorem dX11_group_121 : decode cX11_group 121 = .ok (.iload_n 1, 1) := by decide +kernel
theorem dX11_group_122 : decode cX11_group 122 = .ok (.invokevirtual 179, 3) := by decide +kernel
theorem dX11_group_125 : decode cX11_group 125 = .ok (.ireturn, 1) := by decide +kernel
theorem dX11_group_126 : decode cX11_group 126 = .ok (.aload_n 0, 1) := by decide +kernel
theorem dX11_group_127 : decode cX11_group 127 = .ok (.getfield 53, 3) := by decide +kernel
theorem dX11_group_130 : decode cX11_group 130 = .ok (.iload_n 1, 1) := by decide +kernel
theorem dX11_group_131 : decode cX11_group 131 = .ok (.iaload, 1) := by decide +kernel
theorem dX11_group_132 : decode cX11_group 132 = .ok (.ireturn, 1) := by decide +kernel
theorem dX11_group_133 : decode cX11_group 133 = .ok (.aload_n 0, 1) := by decide +kernel
theorem dX11_group_134 : decode cX11_group 134 = .ok (.getfield 56, 3) := by decide +kernel
theorem dX11_group_137 : decode cX11_group 137 = .ok (.iload_n 1, 1) := by decide +kernel
theorem dX11_group_138 : decode cX11_group 138 = .ok (.iaload, 1) := by decide +kernel
theorem dX11_group_139 : decode cX11_group 139 = .ok (.ireturn, 1) := by decide +kernel
theorem dX11_group_140 : decode cX11_group 140 = .ok (.aload_n 0, 1) := by decide +kernel
theorem dX11_group_141 : decode cX11_group 141 = .ok (.iload_n 1, 1) := by decide +kernel
theorem dX11_group_142 : decode cX11_group 142 = .ok (.invokevirtual 418, 3) := by decide +kernel
theorem dX11_group_145 : decode cX11_group 145 = .ok (.ireturn, 1) := by decide +kernel
abbrev rX11_group : Room := { frames := 4, cells := 0, slots := 0, locals := 88 }
abbrev mX11_group : gY := (cX11_group, RX11, 3, rX11_group)
def fX11_group (x1 : Int32) (x2 : Int32) (M0 : gMem) : Option (Int32 × gMem) :=
  (fX11_noPlace x1 M0).bind fun v1 => if v1.1 = 0 then ((fX11_in x2 (0 : Int32) (7 : Int32)).bind fun v3 => (fX11_throwsIf (if v3 = 0 then (1 : Int32) else (0 : Int32)) (2 : Int32) v1.2).bind fun v5 => if v5.1 = 0 then ((fX11_laysChains v5.2).bind fun v7 => if x2 = (0 : Int32) then ((rI v7 1 374 ((14 : Int32) + x1)).bind fun v9 => some (v9, v7)) else if x2 = (1 : Int32) then ((fX11_membersAt x1 v7).bind fun v11 => (fX11_many v11).bind fun v12 => some (v12, v7)) else if x2 = (2 : Int32) then ((rI v7 17 24 x1).bind fun v14 => some (v14, v7)) else if x2 = (3 : Int32) then ((rI v7 1 374 ((14 : Int32) + x1)).bind fun v16 => (fX11_innersOf v16 v7).bind fun v17 => some (v17, v7)) else if x2 = (4 : Int32) then ((fX11_membersAt x1 v7).bind fun v19 => some (v19, v7)) else if x2 = (5 : Int32) then ((rI v7 14 24 x1).bind fun v21 => some (v21, v7)) else if x2 = (6 : Int32) then ((rI v7 15 24 x1).bind fun v23 => some (v23, v7)) else (fX11_slack x1 v7).bind fun v24 => some (v24, v7)) else some ((0 : Int32), v5.2)) else some ((0 : Int32), v1.2)
set_option maxRecDepth 20000 in
theorem tX11_group {X : gX} {V : gEnv} {x1 : Int32} {x2 : Int32} {M0 : gMem}  {o : (Int32 × gMem)} (h : fX11_group x1 x2 M0 = some o) (O : gO X V mX11_group gShM (some .int) (some (.int o.1)) o.2) : gG X V mX11_group gShM M0 0 0 0 [(0, .ref (gAd V 0)), (1, .int x1), (2, .int x2)] [] := by
  unfold fX11_group at h
  refine g_aload_n 0 rfl rfl dX11_group_0 ?_
  refine g_iload_n 1 rfl rfl dX11_group_1 ?_
  obtain ⟨v1, ev1, h⟩ := g_bnd h
  refine g_callV LX11_409 sM_0 rfl (kX11_noPlace ev1) rfl rfl (Nat.le_of_ble_eq_true rfl) ⟨Nat.le_of_ble_eq_true rfl, Nat.le_of_ble_eq_true rfl⟩ ⟨Nat.le_of_ble_eq_true rfl, Nat.le_of_ble_eq_true rfl⟩ dX11_group_2 rfl ?_
  rcases g_ite h with ⟨c2, h⟩ | ⟨c2, h⟩
  · refine g_if_ne_f c2 (tgt := 31) rfl dX11_group_5 ?_
    refine g_aload_n 0 rfl rfl dX11_group_8 ?_
    refine g_iload_n 2 rfl rfl dX11_group_9 ?_
    refine g_iconst (v := 0) rfl dX11_group_10 ?_
    refine g_bipush (v := 7) rfl dX11_group_11 ?_
    obtain ⟨v3, ev3, h⟩ := g_bnd h
    refine g_callS LX11_172 (kX11_in ev3) rfl rfl (Nat.le_of_ble_eq_true rfl) ⟨Nat.le_of_ble_eq_true rfl, Nat.le_of_ble_eq_true rfl⟩ ⟨Nat.le_of_ble_eq_true rfl, Nat.le_of_ble_eq_true rfl⟩ dX11_group_13 rfl ?_
    have KJ : gG X V mX11_group gShM v1.2 0 0 24 [(0, .ref (gAd V 0)), (1, .int x1), (2, .int x2)] [.int (if v3 = 0 then (1 : Int32) else (0 : Int32)), .ref (gAd V 0)] := by
      refine g_iconst (v := 2) rfl dX11_group_24 ?_
      obtain ⟨v5, ev5, h⟩ := g_bnd h
      refine g_callV LX11_392 sM_0 rfl (kX11_throwsIf ev5) rfl rfl (Nat.le_of_ble_eq_true rfl) ⟨Nat.le_of_ble_eq_true rfl, Nat.le_of_ble_eq_true rfl⟩ ⟨Nat.le_of_ble_eq_true rfl, Nat.le_of_ble_eq_true rfl⟩ dX11_group_25 rfl ?_
      rcases g_ite h with ⟨c6, h⟩ | ⟨c6, h⟩
      · refine g_if_eq_t c6 (tgt := 33) rfl dX11_group_28 ?_
        refine g_aload_n 0 rfl rfl dX11_group_33 ?_
        obtain ⟨v7, ev7, h⟩ := g_bnd h
        refine g_callV LX11_412 sM_0 rfl (kX11_laysChains ev7) rfl rfl (Nat.le_of_ble_eq_true rfl) ⟨Nat.le_of_ble_eq_true rfl, Nat.le_of_ble_eq_true rfl⟩ ⟨Nat.le_of_ble_eq_true rfl, Nat.le_of_ble_eq_true rfl⟩ dX11_group_34 rfl ?_
        refine g_iload_n 2 rfl rfl dX11_group_37 ?_
        rcases g_ite h with ⟨c8, h⟩ | ⟨c8, h⟩
        · refine g_tabIn (off := 42) (tgt := 80) (by rw [c8]; decide) (by rw [c8]; decide) (by rw [c8]; rfl) rfl dX11_group_38 ?_
          refine g_aload_n 0 rfl rfl dX11_group_80 ?_
          refine g_getR FX11_9 sM_0 rfl dX11_group_81 ?_
          refine g_bipush (v := 14) rfl dX11_group_84 ?_
          refine g_iload_n 1 rfl rfl dX11_group_86 ?_
          refine g_iadd dX11_group_87 ?_
          obtain ⟨v9, ev9, h⟩ := g_bnd h
          refine g_iald' ev9 sM_1 dX11_group_88 ?_
          cases h
          exact g_iret O ⟨Nat.le_of_ble_eq_true rfl, Nat.le_of_ble_eq_true rfl⟩ rfl dX11_group_89
        ·
          rcases g_ite h with ⟨c10, h⟩ | ⟨c10, h⟩
          · refine g_tabIn (off := 52) (tgt := 90) (by rw [c10]; decide) (by rw [c10]; decide) (by rw [c10]; rfl) rfl dX11_group_38 ?_
            refine g_aload_n 0 rfl rfl dX11_group_90 ?_
            refine g_iload_n 1 rfl rfl dX11_group_91 ?_
            obtain ⟨v11, ev11, h⟩ := g_bnd h
            refine g_callV LX11_179 sM_0 rfl (kX11_membersAt ev11) rfl rfl (Nat.le_of_ble_eq_true rfl) ⟨Nat.le_of_ble_eq_true rfl, Nat.le_of_ble_eq_true rfl⟩ ⟨Nat.le_of_ble_eq_true rfl, Nat.le_of_ble_eq_true rfl⟩ dX11_group_92 rfl ?_
            obtain ⟨v12, ev12, h⟩ := g_bnd h
            refine g_callS LX11_139 (kX11_many ev12) rfl rfl (Nat.le_of_ble_eq_true rfl) ⟨Nat.le_of_ble_eq_true rfl, Nat.le_of_ble_eq_true rfl⟩ ⟨Nat.le_of_ble_eq_true rfl, Nat.le_of_ble_eq_true rfl⟩ dX11_group_95 rfl ?_
            cases h
            exact g_iret O ⟨Nat.le_of_ble_eq_true rfl, Nat.le_of_ble_eq_true rfl⟩ rfl dX11_group_98
          ·
            rcases g_ite h with ⟨c13, h⟩ | ⟨c13, h⟩
            · refine g_tabIn (off := 61) (tgt := 99) (by rw [c13]; decide) (by rw [c13]; decide) (by rw [c13]; rfl) rfl dX11_group_38 ?_
              refine g_aload_n 0 rfl rfl dX11_group_99 ?_
              refine g_getR FX11_62 sM_0 rfl dX11_group_100 ?_
              refine g_iload_n 1 rfl rfl dX11_group_103 ?_
              obtain ⟨v14, ev14, h⟩ := g_bnd h
              refine g_iald' ev14 sM_17 dX11_group_104 ?_
              cases h
              exact g_iret O ⟨Nat.le_of_ble_eq_true rfl, Nat.le_of_ble_eq_true rfl⟩ rfl dX11_group_105
            ·
              rcases g_ite h with ⟨c15, h⟩ | ⟨c15, h⟩
              · refine g_tabIn (off := 68) (tgt := 106) (by rw [c15]; decide) (by rw [c15]; decide) (by rw [c15]; rfl) rfl dX11_group_38 ?_
                refine g_aload_n 0 rfl rfl dX11_group_106 ?_
                refine g_aload_n 0 rfl rfl dX11_group_107 ?_
                refine g_getR FX11_9 sM_0 rfl dX11_group_108 ?_
                refine g_bipush (v := 14) rfl dX11_group_111 ?_
                refine g_iload_n 1 rfl rfl dX11_group_113 ?_
                refine g_iadd dX11_group_114 ?_
                obtain ⟨v16, ev16, h⟩ := g_bnd h
                refine g_iald' ev16 sM_1 dX11_group_115 ?_
                obtain ⟨v17, ev17, h⟩ := g_bnd h
                refine g_callV LX11_415 sM_0 rfl (kX11_innersOf ev17) rfl rfl (Nat.le_of_ble_eq_true rfl) ⟨Nat.le_of_ble_eq_true rfl, Nat.le_of_ble_eq_true rfl⟩ ⟨Nat.le_of_ble_eq_true rfl, Nat.le_of_ble_eq_true rfl⟩ dX11_group_116 rfl ?_
                cases h
                exact g_iret O ⟨Nat.le_of_ble_eq_true rfl, Nat.le_of_ble_eq_true rfl⟩ rfl dX11_group_119
              ·
                rcases g_ite h with ⟨c18, h⟩ | ⟨c18, h⟩
                · refine g_tabIn (off := 82) (tgt := 120) (by rw [c18]; decide) (by rw [c18]; decide) (by rw [c18]; rfl) rfl dX11_group_38 ?_
                  refine g_aload_n 0 rfl rfl dX11_group_120 ?_
                  refine g_iload_n 1 rfl rfl dX11_group_121 ?_
                  obtain ⟨v19, ev19, h⟩ := g_bnd h
                  refine g_callV LX11_179 sM_0 rfl (kX11_membersAt ev19) rfl rfl (Nat.le_of_ble_eq_true rfl) ⟨Nat.le_of_ble_eq_true rfl, Nat.le_of_ble_eq_true rfl⟩ ⟨Nat.le_of_ble_eq_true rfl, Nat.le_of_ble_eq_true rfl⟩ dX11_group_122 rfl ?_
                  cases h
                  exact g_iret O ⟨Nat.le_of_ble_eq_true rfl, Nat.le_of_ble_eq_true rfl⟩ rfl dX11_group_125
                ·
                  rcases g_ite h with ⟨c20, h⟩ | ⟨c20, h⟩
                  · refine g_tabIn (off := 88) (tgt := 126) (by rw [c20]; decide) (by rw [c20]; decide) (by rw [c20]; rfl) rfl dX11_group_38 ?_
                    refine g_aload_n 0 rfl rfl dX11_group_126 ?_
                    refine g_getR FX11_53 sM_0 rfl dX11_group_127 ?_
                    refine g_iload_n 1 rfl rfl dX11_group_130 ?_
                    obtain ⟨v21, ev21, h⟩ := g_bnd h
                    refine g_iald' ev21 sM_14 dX11_group_131 ?_
                    cases h
                    exact g_iret O ⟨Nat.le_of_ble_eq_true rfl, Nat.le_of_ble_eq_true rfl⟩ rfl dX11_group_132
                  ·
                    rcases g_ite h with ⟨c22, h⟩ | ⟨c22, h⟩
                    · refine g_tabIn (off := 95) (tgt := 133) (by rw [c22]; decide) (by rw [c22]; decide) (by rw [c22]; rfl) rfl dX11_group_38 ?_
                      refine g_aload_n 0 rfl rfl dX11_group_133 ?_
                      refine g_getR FX11_56 sM_0 rfl dX11_group_134 ?_
                      refine g_iload_n 1 rfl rfl dX11_group_137 ?_
                      obtain ⟨v23, ev23, h⟩ := g_bnd h
                      refine g_iald' ev23 sM_15 dX11_group_138 ?_
                      cases h
                      exact g_iret O ⟨Nat.le_of_ble_eq_true rfl, Nat.le_of_ble_eq_true rfl⟩ rfl dX11_group_139
                    ·
                      have nc8 := gne (0 : Int32) (j := 0) rfl c8
                      have nc10 := gne (1 : Int32) (j := 1) rfl c10
                      have nc13 := gne (2 : Int32) (j := 2) rfl c13
                      have nc15 := gne (3 : Int32) (j := 3) rfl c15
                      have nc18 := gne (4 : Int32) (j := 4) rfl c18
                      have nc20 := gne (5 : Int32) (j := 5) rfl c20
                      have nc22 := gne (6 : Int32) (j := 6) rfl c22
                      refine g_tabOut (tgt := 140) (by omega) rfl dX11_group_38 ?_
                      refine g_aload_n 0 rfl rfl dX11_group_140 ?_
                      refine g_iload_n 1 rfl rfl dX11_group_141 ?_
                      obtain ⟨v24, ev24, h⟩ := g_bnd h
                      refine g_callV LX11_418 sM_0 rfl (kX11_slack ev24) rfl rfl (Nat.le_of_ble_eq_true rfl) ⟨Nat.le_of_ble_eq_true rfl, Nat.le_of_ble_eq_true rfl⟩ ⟨Nat.le_of_ble_eq_true rfl, Nat.le_of_ble_eq_true rfl⟩ dX11_group_142 rfl ?_
                      cases h
                      exact g_iret O ⟨Nat.le_of_ble_eq_true rfl, Nat.le_of_ble_eq_true rfl⟩ rfl dX11_group_145
      · refine g_if_eq_f c6 (tgt := 33) rfl dX11_group_28 ?_
        refine g_iconst (v := 0) rfl dX11_group_31 ?_
        cases h
        exact g_iret O ⟨Nat.le_of_ble_eq_true rfl, Nat.le_of_ble_eq_true rfl⟩ rfl dX11_group_32
    by_cases c4 : v3 = 0
    · rw [if_pos c4] at KJ
      refine g_if_ne_f c4 (tgt := 23) rfl dX11_group_16 ?_
      refine g_iconst (v := 1) rfl dX11_group_19 ?_
      refine g_goto (tgt := 24) rfl dX11_group_20 ?_
      exact KJ
    · rw [if_neg c4] at KJ
      refine g_if_ne_t c4 (tgt := 23) rfl dX11_group_16 ?_
      refine g_iconst (v := 0) rfl dX11_group_23 ?_
      exact KJ
  · refine g_if_ne_t c2 (tgt := 31) rfl dX11_group_5 ?_
    refine g_iconst (v := 0) rfl dX11_group_31 ?_
    cases h
    exact g_iret O ⟨Nat.le_of_ble_eq_true rfl, Nat.le_of_ble_eq_true rfl⟩ rfl dX11_group_32
theorem kX11_group {l : Launch} {V : gEnv} {M0 : gMem} {x1 : Int32} {x2 : Int32}  {o : (Int32 × gMem)} (h : fX11_group x1 x2 M0 = some o) : gM l yX11_group cX11_group 3 (some .int) rX11_group V gShM [.ref (gAd V 0), .int x1, .int x2] M0 (some (.int o.1)) o.2 :=
  gM.of (by decide) (Nat.le_of_ble_eq_true rfl) rfl (fun X _ O => tX11_group  h O)
theorem dX11_noArrow_0 : decode cX11_noArrow 0 = .ok (.aload_n 0, 1) := by decide +kernel
theorem dX11_noArrow_1 : decode cX11_noArrow 1 = .ok (.iload_n 1, 1) := by decide +kernel
theorem dX11_noArrow_2 : decode cX11_noArrow 2 = .ok (.iconst 0, 1) := by decide +kernel
theorem dX11_noArrow_3 : decode cX11_noArrow 3 = .ok (.aload_n 0, 1) := by decide +kernel
theorem dX11_noArrow_4 : decode cX11_noArrow 4 = .ok (.getfield 9, 3) := by decide +kernel
theorem dX11_noArrow_7 : decode cX11_noArrow 7 = .ok (.iconst 1, 1) := by decide +kernel
theorem dX11_noArrow_8 : decode cX11_noArrow 8 = .ok (.iaload, 1) := by decide +kernel
theorem dX11_noArrow_9 : decode cX11_noArrow 9 = .ok (.iconst 1, 1) := by decide +kernel
theorem dX11_noArrow_10 : decode cX11_noArrow 10 = .ok (.isub, 1) := by decide +kernel
theorem dX11_noArrow_11 : decode cX11_noArrow 11 = .ok (.invokestatic 172, 3) := by decide +kernel
theorem dX11_noArrow_14 : decode cX11_noArrow 14 = .ok (.ifCond .ne 7, 3) := by decide +kernel
theorem dX11_noArrow_17 : decode cX11_noArrow 17 = .ok (.iconst 1, 1) := by decide +kernel
theorem dX11_noArrow_18 : decode cX11_noArrow 18 = .ok (.goto 4, 3) := by decide +kernel
theorem dX11_noArrow_21 : decode cX11_noArrow 21 = .ok (.iconst 0, 1) := by decide +kernel
theorem dX11_noArrow_22 : decode cX11_noArrow 22 = .ok (.invokevirtual 212, 3) := by decide +kernel
theorem dX11_noArrow_25 : decode cX11_noArrow 25 = .ok (.ireturn, 1) := by decide +kernel
abbrev rX11_noArrow : Room := { frames := 1, cells := 0, slots := 0, locals := 22 }
abbrev mX11_noArrow : gY := (cX11_noArrow, RX11, 2, rX11_noArrow)
def fX11_noArrow (x1 : Int32) (M0 : gMem) : Option (Int32 × gMem) :=
  (rI M0 1 374 (1 : Int32)).bind fun v1 => (fX11_in x1 (0 : Int32) (v1 - (1 : Int32))).bind fun v2 => (fX11_wrong (if v2 = 0 then (1 : Int32) else (0 : Int32)) M0).bind fun v4 => (zv v4.1).bind fun v5 => some (v5, v4.2)
set_option maxRecDepth 20000 in
theorem tX11_noArrow {X : gX} {V : gEnv} {x1 : Int32} {M0 : gMem}  {o : (Int32 × gMem)} (h : fX11_noArrow x1 M0 = some o) (O : gO X V mX11_noArrow gShM (some .boolean) (some (.int o.1)) o.2) : gG X V mX11_noArrow gShM M0 0 0 0 [(0, .ref (gAd V 0)), (1, .int x1)] [] := by
  unfold fX11_noArrow at h
  refine g_aload_n 0 rfl rfl dX11_noArrow_0 ?_
  refine g_iload_n 1 rfl rfl dX11_noArrow_1 ?_
  refine g_iconst (v := 0) rfl dX11_noArrow_2 ?_
  refine g_aload_n 0 rfl rfl dX11_noArrow_3 ?_
  refine g_getR FX11_9 sM_0 rfl dX11_noArrow_4 ?_
  refine g_iconst (v := 1) rfl dX11_noArrow_7 ?_
  obtain ⟨v1, ev1, h⟩ := g_bnd h
  refine g_iald' ev1 sM_1 dX11_noArrow_8 ?_
  refine g_iconst (v := 1) rfl dX11_noArrow_9 ?_
  refine g_isub dX11_noArrow_10 ?_
  obtain ⟨v2, ev2, h⟩ := g_bnd h
  refine g_callS LX11_172 (kX11_in ev2) rfl rfl (Nat.le_of_ble_eq_true rfl) ⟨Nat.le_of_ble_eq_true rfl, Nat.le_of_ble_eq_true rfl⟩ ⟨Nat.le_of_ble_eq_true rfl, Nat.le_of_ble_eq_true rfl⟩ dX11_noArrow_11 rfl ?_
  have KJ : gG X V mX11_noArrow gShM M0 0 0 22 [(0, .ref (gAd V 0)), (1, .int x1)] [.int (if v2 = 0 then (1 : Int32) else (0 : Int32)), .ref (gAd V 0)] := by
    obtain ⟨v4, ev4, h⟩ := g_bnd h
    refine g_callV LX11_212 sM_0 rfl (kX11_wrong ev4) rfl rfl (Nat.le_of_ble_eq_true rfl) ⟨Nat.le_of_ble_eq_true rfl, Nat.le_of_ble_eq_true rfl⟩ ⟨Nat.le_of_ble_eq_true rfl, Nat.le_of_ble_eq_true rfl⟩ dX11_noArrow_22 rfl ?_
    obtain ⟨v5, ev5, h⟩ := g_bnd h
    refine g_zv ev5 ?_
    cases h
    exact g_iret O ⟨Nat.le_of_ble_eq_true rfl, Nat.le_of_ble_eq_true rfl⟩ (g_nz (zv_ok ev5)) dX11_noArrow_25
  by_cases c3 : v2 = 0
  · rw [if_pos c3] at KJ
    refine g_if_ne_f c3 (tgt := 21) rfl dX11_noArrow_14 ?_
    refine g_iconst (v := 1) rfl dX11_noArrow_17 ?_
    refine g_goto (tgt := 22) rfl dX11_noArrow_18 ?_
    exact KJ
  · rw [if_neg c3] at KJ
    refine g_if_ne_t c3 (tgt := 21) rfl dX11_noArrow_14 ?_
    refine g_iconst (v := 0) rfl dX11_noArrow_21 ?_
    exact KJ
theorem kX11_noArrow {l : Launch} {V : gEnv} {M0 : gMem} {x1 : Int32}  {o : (Int32 × gMem)} (h : fX11_noArrow x1 M0 = some o) : gM l yX11_noArrow cX11_noArrow 2 (some .boolean) rX11_noArrow V gShM [.ref (gAd V 0), .int x1] M0 (some (.int o.1)) o.2 :=
  gM.of (by decide) (Nat.le_of_ble_eq_true rfl) rfl (fun X _ O => tX11_noArrow  h O)
