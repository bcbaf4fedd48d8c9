/-! THE LAW: its loop, its beginning -/
section ZE
variable {X : gX} {V V2 : gEnv} {b L : Nat} {xs : Nat → Int32} {M N M' N' : gMem} {k n pc : Nat} {ls : List (Nat × Value)} {st : List Value}
theorem zb_tabIn (hC : zL X V V2 b L xs) {dflt lo hi : Int} {offs : Array Int} {len : Nat} {x : Int32} {off : Int} {tgt : Nat} (h1 : ¬ x.toInt < lo) (h2 : ¬ hi < x.toInt) (ho : offs[(x.toInt - lo).toNat]? = some off) (ht : (pc : Int) + off = (tgt : Int)) (d : decode yLw.1 pc = .ok (.tableswitch dflt lo hi offs, len)) (kk : gB X V V2 M N k n tgt ls st) : gB X V V2 M N k n pc ls (.int x :: st) :=
  fun H locs la hP hP2 hS hl => lv_tableIn hC.1.1 hC.1.2.1 d h1 h2 ho ht (kk H locs la hP hP2 hS hl)
theorem zb_tabOut (hC : zL X V V2 b L xs) {dflt lo hi : Int} {offs : Array Int} {len : Nat} {x : Int32} {tgt : Nat} (h : x.toInt < lo ∨ hi < x.toInt) (ht : (pc : Int) + dflt = (tgt : Int)) (d : decode yLw.1 pc = .ok (.tableswitch dflt lo hi offs, len)) (kk : gB X V V2 M N k n tgt ls st) : gB X V V2 M N k n pc ls (.int x :: st) :=
  fun H locs la hP hP2 hS hl => lv_tableOut hC.1.1 hC.1.2.1 d h ht (kk H locs la hP hP2 hS hl)
theorem dE_0 : decode code 0 = .ok (.new 8, 3) := by decide +kernel
theorem dE_3 : decode code 3 = .ok (.dup, 1) := by decide +kernel
theorem dE_4 : decode code 4 = .ok (.invokespecial 106, 3) := by decide +kernel
theorem dE_7 : decode code 7 = .ok (.astore_n 1, 1) := by decide +kernel
theorem dE_8 : decode code 8 = .ok (.new 107, 3) := by decide +kernel
theorem dE_11 : decode code 11 = .ok (.dup, 1) := by decide +kernel
theorem dE_12 : decode code 12 = .ok (.invokespecial 109, 3) := by decide +kernel
theorem dE_15 : decode code 15 = .ok (.astore_n 2, 1) := by decide +kernel
theorem dE_16 : decode code 16 = .ok (.iconst 1, 1) := by decide +kernel
theorem dE_17 : decode code 17 = .ok (.newarray .long, 2) := by decide +kernel
theorem dE_19 : decode code 19 = .ok (.astore_n 3, 1) := by decide +kernel
theorem dE_20 : decode code 20 = .ok (.iconst 0, 1) := by decide +kernel
theorem dE_21 : decode code 21 = .ok (.istore 4, 2) := by decide +kernel
theorem dE_23 : decode code 23 = .ok (.iload 4, 2) := by decide +kernel
theorem dE_25 : decode code 25 = .ok (.aload_n 0, 1) := by decide +kernel
theorem dE_26 : decode code 26 = .ok (.arraylength, 1) := by decide +kernel
theorem dE_27 : decode code 27 = .ok (.bipush 6, 2) := by decide +kernel
theorem dE_29 : decode code 29 = .ok (.isub, 1) := by decide +kernel
theorem dE_30 : decode code 30 = .ok (.if_icmp .gt 2259, 3) := by decide +kernel
theorem dE_33 : decode code 33 = .ok (.aload_n 0, 1) := by decide +kernel
theorem dE_34 : decode code 34 = .ok (.iload 4, 2) := by decide +kernel
theorem dE_36 : decode code 36 = .ok (.iaload, 1) := by decide +kernel
theorem dE_37 : decode code 37 = .ok (.bipush 63, 2) := by decide +kernel
theorem dE_39 : decode code 39 = .ok (.iand, 1) := by decide +kernel
theorem dE_40 : decode code 40 = .ok (.tableswitch 2243 0 42 #[188, 292, 348, 392, 436, 449, 462, 518, 586, 654, 722, 790, 858, 933, 1001, 1081, 1161, 1241, 1309, 1365, 1421, 1477, 1490, 1503, 1516, 1529, 1542, 1555, 1610, 1653, 1694, 1750, 1818, 1874, 1930, 1998, 2066, 2079, 2092, 2148, 2173, 2186, 2199], 188) := by decide +kernel
theorem dE_2283 : decode code 2283 = .ok (.iinc 4 6, 3) := by decide +kernel
theorem dE_2286 : decode code 2286 = .ok (.goto (-2263), 3) := by decide +kernel
theorem dE_2289 : decode code 2289 = .ok (.iconst 1, 1) := by decide +kernel
theorem dE_2290 : decode code 2290 = .ok (.ireturn, 1) := by decide +kernel
/-- the law's end -/
theorem zb_ret (hC : zL X V V2 b L xs) (hQ : gXQ X = lw_Z (gXb X) #[Value.ref b] (gXs X)) (ha : gXa X = #[Value.ref b]) (hr : (gXh X).sig.returnType = ret) (hk : k ≤ 601024 ∧ n ≤ 7293034) (d : decode code pc = .ok (.ireturn, 1)) : gB X V V2 M N k n pc ls [.int 1] := by
  intro H locs la hP hP2 hS hl
  obtain ⟨hx, hb, hml, hown, hts, hlk, hrm⟩ := id hC.1
  unfold gW
  rw [hQ, ha, hrm]
  exact W.widen hk.1 hk.2 (va_forget hS.2.2 (W.base (lw_ret (Drawn.sameBut.refl (gXs X).drawn lw_cs) hx hb hr hlk d)))
theorem zI_sub {a c : Nat} (hc : c ≤ a) (ha : a < 2147483648) : nI a - nI c = nI (a - c) := by
  have e : nI a = nI (a - c) + nI c := by rw [nI_add]; congr 1; omega
  rw [e, Int32.add_sub_cancel]
theorem zI_lt {a c : Nat} (ha : a < 2147483648) (hc : c < 2147483648) : nI a < nI c ↔ a < c := by
  rw [Int32.lt_iff_toInt_lt, nI_toInt (by omega), nI_toInt (by omega)]
  omega
theorem zI_end {a : Nat} (hL : L ≤ 3072) (ha : a ≤ 3072) : nI L - 6 < nI a ↔ L < a + 6 := by
  by_cases h : 6 ≤ L
  · rw [show (6 : Int32) = nI 6 from rfl, zI_sub h (by omega), zI_lt (by omega) (by omega)]
    omega
  · have h1 : L < a + 6 := by omega
    have h2 : nI L - 6 < nI 0 := by
      rcases (show L = 0 ∨ L = 1 ∨ L = 2 ∨ L = 3 ∨ L = 4 ∨ L = 5 by omega) with rfl | rfl | rfl | rfl | rfl | rfl <;> decide
    refine ⟨fun _ => h1, fun _ => ?_⟩
    rw [Int32.lt_iff_toInt_lt] at h2 ⊢
    rw [nI_toInt (by omega)] at h2 ⊢
    omega
theorem zI_and (x : Int32) : ∃ w, w < 64 ∧ x &&& 63 = nI w := by
  obtain ⟨j, h1, h2⟩ := pk_andE x (m := 63) 6 rfl
  exact ⟨j, h1, h2⟩
theorem z_fin (hC : zL X V V2 b L xs) (hL : L ≤ 3072) (hQ : gXQ X = lw_Z (gXb X) #[Value.ref b] (gXs X)) (ha : gXa X = #[Value.ref b]) (hr : (gXh X).sig.returnType = ret) {t : Nat} (h6 : 6 * t ≤ L) (hlt : L < 6 * t + 6) (hk : k ≤ 601024 ∧ n ≤ 7293034) : gB X V V2 M N k n 23 (zLS V V2 b (6 * t)) [] := by
  refine zb_iload hC 0 rfl dE_23 ?_
  refine zb_aload_n hC 1 rfl rfl dE_25 ?_
  refine zb_slen hC dE_26 ?_
  refine zb_bipush hC (v := 6) rfl dE_27 ?_
  refine zb_isub hC dE_29 ?_
  refine zb_icmp_gt_t hC ((zI_end hL (by omega)).mpr hlt) (tgt := 2289) rfl dE_30 ?_
  refine zb_iconst hC (v := 1) rfl dE_2289 ?_
  exact zb_ret hC hQ ha hr hk dE_2290
theorem z_turn (hf : zHF) (hd : HD) (hl : HL) (hC : zL X V V2 b L xs) (hL : L ≤ 3072) {t : Nat} (h : REL t M N) (hi : 6 * t + 6 ≤ L) (hR : k + 4 ≤ 601024 ∧ n + 24 ≤ 7293034) (kk : ∀ M1 N1, REL (t + 1) M1 N1 → gB X V V2 M1 N1 (k + 4) (n + 24) 23 (zLS V V2 b (6 * (t + 1))) []) : gB X V V2 M N k n 23 (zLS V V2 b (6 * t)) [] := by
  have kk1 : ∀ M1 N1, REL (t + 1) M1 N1 → gB X V V2 M1 N1 (k + 4) (n + 24) 2283 (zLS V V2 b (6 * t)) [] := by
    intro M1 N1 hrel
    refine zb_iinc hC (j := 0) rfl (v := nI (6 * (t + 1))) (by rw [show Int32.ofInt 6 = nI 6 from rfl, nI_add]; congr 1) (by decide) rfl dE_2283 ?_
    refine zb_goto hC (tgt := 23) rfl dE_2286 ?_
    exact kk M1 N1 hrel
  refine zb_iload hC 0 rfl dE_23 ?_
  refine zb_aload_n hC 1 rfl rfl dE_25 ?_
  refine zb_slen hC dE_26 ?_
  refine zb_bipush hC (v := 6) rfl dE_27 ?_
  refine zb_isub hC dE_29 ?_
  refine zb_icmp_gt_f hC (fun z => absurd ((zI_end hL (by omega)).mp z) (by omega)) (tgt := 2289) rfl dE_30 ?_
  refine zb_aload_n hC 1 rfl rfl dE_33 ?_
  refine zb_iload hC 0 rfl dE_34 ?_
  refine zb_sld hC (zI_in (by omega) (by omega)) dE_36 ?_
  refine zb_bipush hC (v := 63) rfl dE_37 ?_
  refine zb_iand hC dE_39 ?_
  obtain ⟨q, hq, eq⟩ := zI_and (xs (nI (6 * t)).toNatClampNeg)
  rw [eq]
  have e0 : (nI q).toInt = (q : Int) := nI_toInt (by omega)
  by_cases h43 : 43 ≤ q
  · exact zb_tabOut hC (Or.inr (by rw [e0]; omega)) (tgt := 2283) rfl dE_40 (zb_wid (by omega) (kk1 M N (REL_mono h (Nat.le_succ t))))
  · match q, h43 with
    | 0, _ => exact zb_tabIn hC (x := nI 0) (by decide) (by decide) (off := 188) rfl (tgt := 228) rfl dE_40 (lc_0 hC h hi hL hR kk1)
    | 1, _ => exact zb_tabIn hC (x := nI 1) (by decide) (by decide) (off := 292) rfl (tgt := 332) rfl dE_40 (lc_1 hC h hi hL hR kk1)
    | 2, _ => exact zb_tabIn hC (x := nI 2) (by decide) (by decide) (off := 348) rfl (tgt := 388) rfl dE_40 (lc_2 hC h hi hL hR kk1)
    | 3, _ => exact zb_tabIn hC (x := nI 3) (by decide) (by decide) (off := 392) rfl (tgt := 432) rfl dE_40 (lc_3 hC h hi hL hR kk1)
    | 4, _ => exact zb_tabIn hC (x := nI 4) (by decide) (by decide) (off := 436) rfl (tgt := 476) rfl dE_40 (lc_4 hC h hi hL hR kk1)
    | 5, _ => exact zb_tabIn hC (x := nI 5) (by decide) (by decide) (off := 449) rfl (tgt := 489) rfl dE_40 (lc_5 hC h hi hL hR kk1)
    | 6, _ => exact zb_tabIn hC (x := nI 6) (by decide) (by decide) (off := 462) rfl (tgt := 502) rfl dE_40 (lc_6 hC h hi hL hR kk1)
    | 7, _ => exact zb_tabIn hC (x := nI 7) (by decide) (by decide) (off := 518) rfl (tgt := 558) rfl dE_40 (lc_7 hC h hi hL hR kk1)
    | 8, _ => exact zb_tabIn hC (x := nI 8) (by decide) (by decide) (off := 586) rfl (tgt := 626) rfl dE_40 (lc_8 hC h hi hL hR kk1)
    | 9, _ => exact zb_tabIn hC (x := nI 9) (by decide) (by decide) (off := 654) rfl (tgt := 694) rfl dE_40 (lc_9 hC h hi hL hR kk1)
    | 10, _ => exact zb_tabIn hC (x := nI 10) (by decide) (by decide) (off := 722) rfl (tgt := 762) rfl dE_40 (lc_10 hC h hi hL hR kk1)
    | 11, _ => exact zb_tabIn hC (x := nI 11) (by decide) (by decide) (off := 790) rfl (tgt := 830) rfl dE_40 (lc_11 hC h hi hL hR kk1)
    | 12, _ => exact zb_tabIn hC (x := nI 12) (by decide) (by decide) (off := 858) rfl (tgt := 898) rfl dE_40 (lc_12 hC h hi hL hR kk1)
    | 13, _ => exact zb_tabIn hC (x := nI 13) (by decide) (by decide) (off := 933) rfl (tgt := 973) rfl dE_40 (lc_13 hC h hi hL hR kk1)
    | 14, _ => exact zb_tabIn hC (x := nI 14) (by decide) (by decide) (off := 1001) rfl (tgt := 1041) rfl dE_40 (lc_14 hC h hi hL hR kk1)
    | 15, _ => exact zb_tabIn hC (x := nI 15) (by decide) (by decide) (off := 1081) rfl (tgt := 1121) rfl dE_40 (lc_15 hC h hi hL hR kk1)
    | 16, _ => exact zb_tabIn hC (x := nI 16) (by decide) (by decide) (off := 1161) rfl (tgt := 1201) rfl dE_40 (lc_16 hC h hi hL hR kk1)
    | 17, _ => exact zb_tabIn hC (x := nI 17) (by decide) (by decide) (off := 1241) rfl (tgt := 1281) rfl dE_40 (lc_17 hC h hi hL hR kk1)
    | 18, _ => exact zb_tabIn hC (x := nI 18) (by decide) (by decide) (off := 1309) rfl (tgt := 1349) rfl dE_40 (lc_18 hC h hi hL hR kk1)
    | 19, _ => exact zb_tabIn hC (x := nI 19) (by decide) (by decide) (off := 1365) rfl (tgt := 1405) rfl dE_40 (lc_19 hC h hi hL hR kk1)
    | 20, _ => exact zb_tabIn hC (x := nI 20) (by decide) (by decide) (off := 1421) rfl (tgt := 1461) rfl dE_40 (lc_20 hC h hi hL hR kk1)
    | 21, _ => exact zb_tabIn hC (x := nI 21) (by decide) (by decide) (off := 1477) rfl (tgt := 1517) rfl dE_40 (lc_21 hC h hi hL hR kk1)
    | 22, _ => exact zb_tabIn hC (x := nI 22) (by decide) (by decide) (off := 1490) rfl (tgt := 1530) rfl dE_40 (lc_22 hC h hi hL hR kk1)
    | 23, _ => exact zb_tabIn hC (x := nI 23) (by decide) (by decide) (off := 1503) rfl (tgt := 1543) rfl dE_40 (lc_23 hC h hi hL hR kk1)
    | 24, _ => exact zb_tabIn hC (x := nI 24) (by decide) (by decide) (off := 1516) rfl (tgt := 1556) rfl dE_40 (lc_24 hC h hi hL hR kk1)
    | 25, _ => exact zb_tabIn hC (x := nI 25) (by decide) (by decide) (off := 1529) rfl (tgt := 1569) rfl dE_40 (lc_25 hC h hi hL hR kk1)
    | 26, _ => exact zb_tabIn hC (x := nI 26) (by decide) (by decide) (off := 1542) rfl (tgt := 1582) rfl dE_40 (lc_26 hC h hi hL hR kk1)
    | 27, _ => exact zb_tabIn hC (x := nI 27) (by decide) (by decide) (off := 1555) rfl (tgt := 1595) rfl dE_40 (lc_27 hC h hi hL hR kk1)
    | 28, _ => exact zb_tabIn hC (x := nI 28) (by decide) (by decide) (off := 1610) rfl (tgt := 1650) rfl dE_40 (lc_28 hf hC h hi hL hR kk1)
    | 29, _ => exact zb_tabIn hC (x := nI 29) (by decide) (by decide) (off := 1653) rfl (tgt := 1693) rfl dE_40 (lc_29 hd hl hC h hi hL hR kk1)
    | 30, _ => exact zb_tabIn hC (x := nI 30) (by decide) (by decide) (off := 1694) rfl (tgt := 1734) rfl dE_40 (lc_30 hC h hi hL hR kk1)
    | 31, _ => exact zb_tabIn hC (x := nI 31) (by decide) (by decide) (off := 1750) rfl (tgt := 1790) rfl dE_40 (lc_31 hC h hi hL hR kk1)
    | 32, _ => exact zb_tabIn hC (x := nI 32) (by decide) (by decide) (off := 1818) rfl (tgt := 1858) rfl dE_40 (lc_32 hC h hi hL hR kk1)
    | 33, _ => exact zb_tabIn hC (x := nI 33) (by decide) (by decide) (off := 1874) rfl (tgt := 1914) rfl dE_40 (lc_33 hC h hi hL hR kk1)
    | 34, _ => exact zb_tabIn hC (x := nI 34) (by decide) (by decide) (off := 1930) rfl (tgt := 1970) rfl dE_40 (lc_34 hC h hi hL hR kk1)
    | 35, _ => exact zb_tabIn hC (x := nI 35) (by decide) (by decide) (off := 1998) rfl (tgt := 2038) rfl dE_40 (lc_35 hC h hi hL hR kk1)
    | 36, _ => exact zb_tabIn hC (x := nI 36) (by decide) (by decide) (off := 2066) rfl (tgt := 2106) rfl dE_40 (lc_36 hC h hi hL hR kk1)
    | 37, _ => exact zb_tabIn hC (x := nI 37) (by decide) (by decide) (off := 2079) rfl (tgt := 2119) rfl dE_40 (lc_37 hC h hi hL hR kk1)
    | 38, _ => exact zb_tabIn hC (x := nI 38) (by decide) (by decide) (off := 2092) rfl (tgt := 2132) rfl dE_40 (lc_38 hC h hi hL hR kk1)
    | 39, _ => exact zb_tabIn hC (x := nI 39) (by decide) (by decide) (off := 2148) rfl (tgt := 2188) rfl dE_40 (lc_39 hC h hi hL hR kk1)
    | 40, _ => exact zb_tabIn hC (x := nI 40) (by decide) (by decide) (off := 2173) rfl (tgt := 2213) rfl dE_40 (lc_40 hC h hi hL hR kk1)
    | 41, _ => exact zb_tabIn hC (x := nI 41) (by decide) (by decide) (off := 2186) rfl (tgt := 2226) rfl dE_40 (lc_41 hC h hi hL hR kk1)
    | 42, _ => exact zb_tabIn hC (x := nI 42) (by decide) (by decide) (off := 2199) rfl (tgt := 2239) rfl dE_40 (lc_42 hC h hi hL hR kk1)
    | q + 43, h43 => exact absurd (Nat.le_add_left 43 q) h43
theorem z_loop (hf : zHF) (hd : HD) (hl : HL) (hC : zL X V V2 b L xs) (hL : L ≤ 3072) (hQ : gXQ X = lw_Z (gXb X) #[Value.ref b] (gXs X)) (ha : gXa X = #[Value.ref b]) (hr : (gXh X).sig.returnType = ret) : ∀ (f t k n : Nat) (M N : gMem), REL t M N → 6 * t ≤ L → L < 6 * (t + f) + 6 → k + 4 * f ≤ 601024 → n + 24 * f ≤ 7293034 → gB X V V2 M N k n 23 (zLS V V2 b (6 * t)) [] := by
  intro f
  induction f with
  | zero => intro t k n M N h h6 hlt hk hn; exact z_fin hC hL hQ ha hr h6 (by omega) (by omega)
  | succ f ih =>
    intro t k n M N h h6 hlt hk hn
    by_cases hi : 6 * t + 6 ≤ L
    · exact z_turn hf hd hl hC hL h hi (by omega) (fun M1 N1 h1 => ih (t + 1) (k + 4) (n + 24) M1 N1 h1 (by omega) (by omega) (by omega) (by omega))
    · exact z_fin hC hL hQ ha hr h6 (by omega) (by omega)
end ZE
/-! two objects are made -/
section ZN
variable {X : gX} {V : gEnv} {Y : gY} {ad : Nat → Nat} {k n pc : Nat} {H : Heap} {locs : List Loc} {la : Array Slot} {st : List Value}
theorem z_new {idx ci N : Nat} {C : String} {T : u_T} {fs : List (Nat × Nat)} {ty0 : Nat → FieldType} {ws : va_W} (hci : vwCl[ci]? = some (C, T, N)) (hws : ∀ w ∈ u_ws C T N, w ∈ gBW) (F2 : gFt ty0 T N) (hcl : Cond.classLink Y.2.1 idx C ∈ gBW) (hin : Cond.instantiable C N ∈ gBW) (hini : Cond.initialized C ∈ gBW) (hfl : fs.length = N) (hfs : ((List.range N).all fun j => gBn (ty0 j) (fs.getD j (0, 0)).1) = true) (hs : gSq 0 (.inr (ci, fs)) = true) (hR : k + 1 ≤ Y.2.2.2.cells ∧ n + N ≤ Y.2.2.2.slots) (hC : gC X Y) (hK : gPre V (gXs X)) (hP : va_P (gD V) vwCl ws H) (hD : va_D (fun q : Nat => (gXs X).heap.size ≤ q) ws) (hS : va_S (fun q : Nat => (gXs X).heap.size ≤ q) (gXs X).heap H locs) (d : decode Y.1 pc = .ok (.new idx, 3))
    (kk : ∀ q H1, va_P (gD V) vwCl (ws ++ [(q, gEnt (zSet V fun _ => q) gM0 0 (.inr (ci, fs)))]) H1 → va_D (fun q : Nat => (gXs X).heap.size ≤ q) (ws ++ [(q, gEnt (zSet V fun _ => q) gM0 0 (.inr (ci, fs)))]) → va_S (fun q : Nat => (gXs X).heap.size ≤ q) (gXs X).heap H1 locs → gW X H1 locs (k + 1) (n + N) (F0 (gXm X) (pc + 3) la (.ref q :: st))) : gW X H locs k n (F0 (gXm X) pc la st) := by
  obtain ⟨hx9, hb9, hml, hown, hts, hlk, hrm⟩ := id hC
  rw [← hrm] at hR
  refine va_new (ci := ci) (fs := fs.mapIdx (fun k f => gVal (zSet V fun _ => 0) gM0 0 k f)) (C := C) (T := T) (N := N) hx9 hb9 hts hws ty0 F2.1 hown (hts _ hcl) (hts _ hin) (hts _ hini) hK.1 hP hD hS (fun q h => h) hci (fun j hj => ?_) hR.1 hR.2 d (fun q H1 hP1 hD1 hS1 => ?_)
  · have hj2 : j < fs.length := by omega
    have hq := List.all_eq_true.mp hfs j (List.mem_range.mpr hj)
    rw [List.getD_eq_getElem?_getD, List.getElem?_eq_getElem hj2] at hq
    have e := gBn_ok (V := zSet V fun _ => 0) (M := gM0) (c := 0) (k := j) hq rfl
    rw [e]
    unfold vp_V
    rw [List.getD_eq_getElem?_getD, List.getElem?_mapIdx, List.getElem?_eq_getElem hj2]
    rfl
  · have e : gEnt (zSet V fun _ => q) gM0 0 (.inr (ci, fs)) = .inr (ci, fs.mapIdx (fun k f => gVal (zSet V fun _ => 0) gM0 0 k f)) := gEnt_set (n := 0) (fun c hc => absurd hc (Nat.not_lt_zero c)) hs (fun _ _ => Nat.le_refl _)
    rw [← e] at hP1 hD1
    exact kk q H1 hP1 hD1 hS1
def gL0 (own : String) (idx : Nat) (y : MethodName) (cc : ByteArray) (nL : Nat) : Prop := Cond.code y cc nL none ∈ gBW ∧ Cond.methodLink own idx y ∈ gBW ∧ Cond.instanceMethod y ∈ gBW ∧ Cond.initialized y.cls ∈ gBW ∧ y.cls ≠ "java/lang/invoke/MethodHandle" ∧ y.cls ≠ "java/lang/invoke/VarHandle" ∧ (parseMethodDescriptor y.desc).map (fun d => d.parameters.length) = some 0 ∧ y.name = "<init>"
theorem z_ctor {idx nL : Nat} {y : MethodName} {cc : ByteArray} {rm : Room} {E : State → Prop} {fr : gShp} {T : List gShp} {M' : gMem} (Lw : gL0 Y.2.1 idx y cc nL) (hN : gN0 X.2.1 y cc nL rm E fr T M') (hE : ∀ U : State, (gXs X).WarmedH U.vm → E U) (hEb : ∀ (U : State) (g : JFrame) (mk : MethodId) (a : Array Value), E U → E (U.calling g mk a)) (hw : (st.map fun v => v.category).sum ≤ 8) (hR : rm.frames + 1 ≤ Y.2.2.2.frames ∧ 8 + (nL + 11) + rm.locals ≤ Y.2.2.2.locals) (hf : k + rm.cells ≤ Y.2.2.2.cells ∧ n + rm.slots ≤ Y.2.2.2.slots) (hC : gC X Y) (hK : gPre V (gXs X)) (hZ : gZ V = (gXs X).heap.size) (hI : gInj (zSet V ad) 1) (hP : va_P (gD V) vwCl (gWs (zSet V ad) [fr] gM0) H) (hS : va_S (fun q : Nat => (gXs X).heap.size ≤ q) (gXs X).heap H locs) (hl : la.size = Y.2.2.1) (d : decode Y.1 pc = .ok (.invokespecial idx, 3))
    (kk : ∀ ad' H1 locs1, gExt ad ad' 1 T.length H.size → gInj (zSet V ad') T.length → va_P (gD V) vwCl (gWs (zSet V ad') T M') H1 → (∀ q, q < H.size → q ≠ ad 0 → H1[q]? = H[q]?) → va_S (fun q : Nat => (gXs X).heap.size ≤ q) (gXs X).heap H1 locs1 → gW X H1 locs1 (k + rm.cells) (n + rm.slots) (F0 (gXm X) (pc + 3) la st)) : gW X H locs k n (F0 (gXm X) pc la (.ref (ad 0) :: st)) := by
  obtain ⟨hx, hb, hml, hown, hts, hlk, hrm⟩ := id hC
  obtain ⟨l1, l2, l3, l5, l6, l7, l8, l9⟩ := Lw
  rw [← hrm] at hR hf
  have h0 : (gXs X).heap.size ≤ ad 0 := by rw [← hZ]; exact hI.2 0 (by decide)
  have hbl : FrameBlind (gPc0 V E fr ad H.size) := by
    intro a U g mk h
    obtain ⟨h0, ⟨h1, h2, h3, h4⟩, h5⟩ := h
    exact ⟨h0, ⟨h1, h2.calling g mk a, h3, h4⟩, hEb U g mk a h5⟩
  have hat : ∀ U : State, U.heap = H → (gXs X).WarmedH U.vm → gPc0 V E fr ad H.size [Value.ref (ad 0)].toArray U := by
    intro U hU hW
    refine ⟨rfl, ⟨by rw [hU], gPre.warm (V := V) hK hW (by rw [hU]; exact hS.1) (fun a h1 h2 => ?_), hI, by rw [hU]; exact hP⟩, hE U hW⟩
    rw [hU]
    exact hS.2.1 a h1 (Nat.not_le.mpr h1)
  have hrun := va_runI (As := []) (rest := st) (b := ad 0) (g := F0 (gXm X) pc la (.ref (ad 0) :: st)) (H := H) (locs := locs) (cells := k) (slots := n) (e := X.2.2.1) (below := gXb X) (R := gXR X) (meth := gXh X) ⟨hx, hb, hml, hown, hts⟩ (hN V ad H.size) (cwI 0 hts (gBW_code l1) rfl rfl rfl (hts _ l5) (hts _ l2) (hts _ l3) l9 ⟨l6, l7, l8⟩ hR) ⟨hbl, hat⟩ rfl rfl hl rfl (lv_room hw) d hf
  intro T9 hT Z
  obtain ⟨v, st₀, t, T', L, h9, Z', hL, e1, e2, ⟨⟨hv, ad', hE', hI', hp⟩, hz9, hk⟩, stp⟩ := hrun T9 hT Z
  cases hv
  rw [h9] at hz9 hk
  have hA : ∀ q, gA (zSet V ad) 1 H.size q → (gXs X).heap.size ≤ q := by
    intro q hq
    rcases hq with ⟨c, hc, rfl⟩ | hq
    · rw [show c = 0 by omega]; exact h0
    · exact Nat.le_trans hS.1 hq
  have hk' : ∀ q, q < H.size → q ≠ ad 0 → T'.heap[q]? = H[q]? := by
    intro q h1 h2
    rw [e1]
    refine hk q h1 (fun z => ?_)
    rcases z with ⟨c, hc, e⟩ | z
    · have hc : c < 1 := hc
      rw [show c = 0 by omega] at e; exact h2 e
    · omega
  rw [show ([] : List gShp).length + T.length = T.length from Nat.zero_add _] at hE' hI'
  obtain ⟨t2, a1, b1⟩ := kk ad' T'.heap (locs ++ L) hE' hI' (by rw [e1]; exact hp) hk'
    ⟨Nat.le_trans hS.1 (by rw [e1]; exact hz9), fun q h1 h2 => by rw [hk' q (Nat.lt_of_lt_of_le h1 hS.1) (fun e => h2 (by rw [e]; exact h0))]; exact hS.2.1 q h1 h2, fun q hq => by
      rcases List.mem_append.mp hq with h | h
      · exact hS.2.2 q h
      · exact hA _ (hL q h)⟩ T' rfl Z'
  exact ⟨t2, stp t2 a1, b1⟩
end ZN
theorem L0_106 : gL0 RL 106 yX10_init cX10_init 2 := ⟨gT1 31 rfl rfl, gT1 29 rfl rfl, gT1 30 rfl rfl, gT1 1 rfl rfl, by decide, by decide, by decide +kernel, rfl⟩
theorem L0_109 : gL0 RL 109 yX11_init cX11_init 1 := ⟨gT6 50 rfl rfl, gT6 48 rfl rfl, gT6 49 rfl rfl, gT1 12 rfl rfl, by decide, by decide, by decide +kernel, rfl⟩
/-- the addresses of a world's cells may change where no cell of it leads -/
theorem gWs_ad2 {V : gEnv} {ad ad' : Nat → Nat} {M : gMem} {Sh : List gShp} {n : Nat} (h : ∀ c, c < n → ad' c = ad c) (hn : Sh.length ≤ n) (hs : ∀ sh ∈ Sh, gSq n sh = true) (hk : ∀ c k m, Sh[c]? = some (.inl (k, m)) → k < 3 ∨ ∀ i, M.2.2 c i ≤ n) : gWs (zSet V ad') Sh M = gWs (zSet V ad) Sh M := by
  apply List.ext_getElem?
  intro j
  unfold gWs
  rw [List.getElem?_mapIdx, List.getElem?_mapIdx]
  cases hj : Sh[j]? with
  | none => rfl
  | some sh =>
    show some (ad' j, gEnt (zSet V ad') M j sh) = some (ad j, gEnt (zSet V ad) M j sh)
    have hjl : j < Sh.length := (List.getElem?_eq_some_iff.mp hj).1
    rw [h j (by omega)]
    congr 2
    cases sh with
    | inr p =>
      have := gEnt_set (V := V) (ad := ad) (ad' := ad') (M := (M.1, M.2.1, fun _ _ => 0)) (c := j) (n := n) (sh := .inr p) h (hs _ (List.mem_of_getElem? hj)) (fun _ _ => Nat.zero_le _)
      exact this
    | inl p =>
      obtain ⟨k, m⟩ := p
      rcases hk j k m hj with z | z
      · match k, z with
        | 0, _ => rfl
        | 1, _ => rfl
        | 2, _ => rfl
      · have := gEnt_set (V := V) (ad := ad) (ad' := ad') (M := (M.1, M.2.1, fun _ i => M.2.2 j i)) (c := j) (n := n) (sh := .inl (k, m)) h (hs _ (List.mem_of_getElem? hj)) (fun _ i => z i)
        exact this
theorem va_Pl {D : va_G} {cl : List vw_C} {a c : va_W} {H : Heap} (h : va_P D cl (a ++ c) H) : va_P D cl a H := fun k q hk => h k q (by rw [List.getElem?_append_left (List.getElem?_eq_some_iff.mp hk).1]; exact hk)
theorem va_Pr {D : va_G} {cl : List vw_C} {a c : va_W} {H : Heap} (h : va_P D cl (a ++ c) H) : va_P D cl c H := fun k q hk => h (a.length + k) q (by rw [List.getElem?_append_right (by omega), Nat.add_sub_cancel_left]; exact hk)
theorem gWs_one {V : gEnv} {M : gMem} {sh : gShp} : gWs V [sh] M = [(gAd V 0, gEnt V M 0 sh)] := by
  unfold gWs
  rw [List.mapIdx_cons, List.mapIdx_nil]
theorem gWs_len {V : gEnv} {M : gMem} {Sh : List gShp} : (gWs V Sh M).length = Sh.length := by unfold gWs; rw [List.length_mapIdx]
theorem gShD_n : gShD.length = 137 := by decide +kernel
theorem gShM_n : gShM.length = 19 := by decide +kernel
set_option maxRecDepth 20000 in
theorem gShC_D : gShC = gShD ++ [.inl (1, 1)] := rfl
theorem gShC_n : gShC.length = 138 := by decide +kernel
theorem gShD_s : ∀ sh ∈ gShD, gSq 137 sh = true := by
  have h : (gShD.all fun sh => gSq 137 sh) = true := by decide +kernel
  exact fun sh hs => List.all_eq_true.mp h sh hs
def zK3 (c : Nat) : gShp → Bool
  | .inl (k, _) => decide (k < 3) || decide (c = 31)
  | .inr _ => true
theorem gShD_k {c k m : Nat} (h : gShD[c]? = some (.inl (k, m))) : k < 3 ∨ c = 31 := by
  have h1 : ((List.range 137).all fun c => zK3 c (gShD.getD c (.inl (0, 0)))) = true := by decide +kernel
  have hc : c < 137 := by rw [← gShD_n]; exact (List.getElem?_eq_some_iff.mp h).1
  have h2 := List.all_eq_true.mp h1 c (List.mem_range.mpr hc)
  rw [List.getD_eq_getElem?_getD, h] at h2
  have h2 : (decide (k < 3) || decide (c = 31)) = true := h2
  simpa using h2
theorem z_rel : ∃ MC NC, fX2_addTask 1 (97 : Int64) (1 : Int32) (zMB 8) = some MC ∧ fX11_joins (0 : Int32) (1 : Int32) (1 : Int32) zNB = some (nI 0, NC) ∧ REL 0 MC NC ∧ (∀ i, MC.2.2 31 i ≤ 137) ∧ MC.2.1 137 = fun _ => 0 := by
  obtain ⟨MC, eM, fM, cM⟩ := i_class (M := zMB 8) rfl rfl rfl rfl rfl (fun a ha => rfl)
  obtain ⟨NC, eN, fN, cN⟩ := i_ref2 (N := zNB) (fun k hk => rfl) rfl
  have d1 : ∀ c k, c ≠ 1 → (c < 2 ∨ 9 < c) → ¬ Dnw 1 c k := by
    intro c k h1 h2 h
    unfold Dnw at h
    omega
  have d2 : ∀ c k : Nat, c ≠ 1 → ¬ (fun (c _ : Nat) => c = 1) c k := fun c k h1 h => h1 h
  refine ⟨MC, NC, eM, eN, i_rel cM cN ?_ (fun j hj => ?_) ?_ ?_ ?_ ?_ ?_ ?_ ?_ ?_ ?_, fun i => ?_, ?_⟩
  · exact ((fM 0 5 (d1 _ _ (by decide) (by decide))).1).trans rfl
  · refine ((fM 31 j (d1 _ _ (by decide) (by decide))).2.2).trans ?_
    rcases (show j = 0 ∨ j = 1 ∨ j = 2 ∨ j = 3 ∨ j = 4 ∨ j = 5 ∨ j = 6 ∨ j = 7 by omega) with rfl | rfl | rfl | rfl | rfl | rfl | rfl | rfl <;> rfl
  · exact ((fN 0 6 (d2 0 6 (by decide))).1).trans rfl
  · exact ((fM 0 3 (d1 _ _ (by decide) (by decide))).1).trans rfl
  · exact ((fN 0 7 (d2 0 7 (by decide))).1).trans rfl
  · exact ((fM 32 1 (d1 _ _ (by decide) (by decide))).1).trans rfl
  · exact ((fN 0 21 (d2 0 21 (by decide))).1).trans rfl
  · exact ((fM 32 4 (d1 _ _ (by decide) (by decide))).1).trans (((fN 0 28 (d2 0 28 (by decide))).1).trans rfl).symm
  · exact ((fM 32 5 (d1 _ _ (by decide) (by decide))).1).trans (((fN 0 29 (d2 0 29 (by decide))).1).trans rfl).symm
  · exact ((fM 34 1 (d1 _ _ (by decide) (by decide))).1).trans rfl
  · exact ((fN 0 40 (d2 0 40 (by decide))).1).trans rfl
  · rw [(fM 31 i (d1 _ _ (by decide) (by decide))).2.2]
    exact zMB_le 8 137 (by decide) 31 i
  · funext i
    rw [(fM 137 i (d1 _ _ (by decide) (by decide))).2.1]
    exact ((zMB_ze 8 57 (by decide)) 137 (by decide)).2.1 i
theorem z_run {X : gX} {V : gEnv} {b L : Nat} {xs : Nat → Int32} (hf : zHF) (hd : HD) (hl : HL) (hC : gC X yLw) (hK : gPre V (gXs X)) (hZ : gZ V = (gXs X).heap.size) (hX : va_X b L xs (gXs X) (gXs X).heap) (hbl : b < (gXs X).heap.size) (htr : X.2.1.stackTraces = false) (hAO : va_AO "RingFreeOrder$Net" (gXs X)) (hL : L ≤ 3072) (hQ : gXQ X = lw_Z (gXb X) #[Value.ref b] (gXs X)) (ha : gXa X = #[Value.ref b]) (hr : (gXh X).sig.returnType = ret) {la : Array Slot} (hla : lv_has la 9 [(0, .ref b)]) : gW X (gXs X).heap [] 0 0 (F0 (gXm X) 0 la []) := by
  obtain ⟨hx, hb, hml, hown, hts, hlk, hrm⟩ := id hC
  obtain ⟨MC, NC, eM, eN, hrel, h31, h137⟩ := z_rel
  have hP0 : va_P (gD V) vwCl [] (gXs X).heap := fun k q h => by simp at h
  have hD0 : va_D (fun q : Nat => (gXs X).heap.size ≤ q) [] := ⟨(fun i j p q h => by simp at h), (fun k q h => by simp at h)⟩
  refine z_new (Y := yLw) (V := V) (ws := []) (ci := 10) (fs := frX10) rfl iX10 jX10 wCL_8 wNX10 wIX10 rfl (by decide +kernel) rfl ⟨Nat.le_of_ble_eq_true rfl, Nat.le_of_ble_eq_true rfl⟩ hC hK hP0 hD0 va_S.rf dE_0 (fun q1 H1 hP1 hD1 hS1 => ?_)
  have g1 : (gXs X).heap.size ≤ q1 := hD1.2 0 _ rfl
  refine lv_dup hx hb dE_3 rfl ?_
  refine z_ctor (Y := yLw) (V := V) (ad := fun _ => q1) L0_106 (nX10 _ eM) (fun U hW => va_AO.moved hW.alike hAO) (fun U g mk a h => va_AO.moved (Vm.Alike.refl _) h) (Nat.le_of_ble_eq_true rfl) ⟨Nat.le_of_ble_eq_true rfl, Nat.le_of_ble_eq_true rfl⟩ ⟨Nat.le_of_ble_eq_true rfl, Nat.le_of_ble_eq_true rfl⟩ hC hK hZ ⟨fun i j hi hj _ => by omega, fun i hi => by show gZ V ≤ q1; omega⟩ (by rw [gWs_one]; exact hP1) hS1 hla.1 dE_4 (fun ad1 H2 locs2 hE1 hI2 hP2 _ hS2 => ?_)
  refine lv_astore_n (lv' := [(1, .ref q1), (0, .ref b)]) hx hb dE_7 rfl hla (by decide) rfl (fun la hla => ?_)
  have hDD : va_D (fun q : Nat => (gXs X).heap.size ≤ q) (gWs (zSet V ad1) gShD MC) := (gWs_D hI2 (sz := (gXs X).heap.size)).weaken (fun k q _ h => by rw [← hZ]; exact gA_z (V := zSet V ad1) hI2 (Nat.le_of_eq hZ) h)
  refine z_new (Y := yLw) (V := V) (ws := gWs (zSet V ad1) gShD MC) (ci := 11) (fs := frX11) rfl iX11 jX11 wCL_107 wNX11 wIX11 rfl (by decide +kernel) rfl ⟨Nat.le_of_ble_eq_true rfl, Nat.le_of_ble_eq_true rfl⟩ hC hK hP2 hDD hS2 dE_8 (fun q2 H3 hP3 hD3 hS3 => ?_)
  have n1 : (gWs (zSet V ad1) gShD MC).length = 137 := by rw [gWs_len]; exact gShD_n
  have g2 : (gXs X).heap.size ≤ q2 := hD3.2 137 (q2, _) (by rw [List.getElem?_append_right (by omega), n1]; rfl)
  refine lv_dup hx hb dE_11 rfl ?_
  refine z_ctor (Y := yLw) (V := V) (ad := fun _ => q2) L0_109 (nX11 _ eN) (fun _ _ => trivial) (fun _ _ _ _ _ => trivial) (Nat.le_of_ble_eq_true rfl) ⟨Nat.le_of_ble_eq_true rfl, Nat.le_of_ble_eq_true rfl⟩ ⟨Nat.le_of_ble_eq_true rfl, Nat.le_of_ble_eq_true rfl⟩ hC hK hZ ⟨fun i j hi hj _ => by omega, fun i hi => by show gZ V ≤ q2; omega⟩ (by rw [gWs_one]; exact va_Pr hP3) hS3 hla.1 dE_12 (fun ad2 H4 locs4 hE2 hI4 hP4 hk4 hS4 => ?_)
  refine lv_astore_n (lv' := [(2, .ref q2), (1, .ref q1), (0, .ref b)]) hx hb dE_15 rfl hla (by decide) rfl (fun la hla => ?_)
  refine lv_iconst (v := 1) hx hb dE_16 rfl ?_
  have n2 : (gWs (zSet V ad2) gShM NC).length = 19 := by rw [gWs_len]; exact gShM_n
  have at1 : ∀ i, i < 137 → ∃ x, (gWs (zSet V ad1) gShD MC)[i]? = some (ad1 i, x) := fun i hi => ⟨_, gWs_at (List.getElem?_eq_getElem (by rw [gShD_n]; exact hi))⟩
  have hne : ∀ (k : Nat) (q : Nat × va_E), (gWs (zSet V ad1) gShD MC)[k]? = some q → q.1 ≠ q2 := by
    intro k q hq e
    have hlt : k < 137 := by rw [← n1]; exact (List.getElem?_eq_some_iff.mp hq).1
    have := hD3.1 k 137 q (q2, _) (by rw [List.getElem?_append_left (by omega)]; exact hq) (by rw [List.getElem?_append_right (by omega), n1]; rfl) e
    omega
  have hP1k : va_P (gD V) vwCl (gWs (zSet V ad1) gShD MC) H4 := (va_Pl hP3).kept (fun k q hq => hk4 q.1 (((va_Pl hP3) k q hq).lt) (hne k q hq))
  have hD2 : va_D (fun q : Nat => (gXs X).heap.size ≤ q) (gWs (zSet V ad2) gShM NC) := (gWs_D hI4 (sz := (gXs X).heap.size)).weaken (fun k q _ h => by rw [← hZ]; exact gA_z (V := zSet V ad2) hI4 (Nat.le_of_eq hZ) h)
  have hDx : va_D (fun q : Nat => (gXs X).heap.size ≤ q) (gWs (zSet V ad1) gShD MC ++ gWs (zSet V ad2) gShM NC) := va_D.app hDD hD2 (fun i j p q hp hq e => by
    have hlt := ((va_Pl hP3) i p hp).lt
    obtain ⟨sh, hsh, rfl⟩ := gWs_of hq
    have e : p.1 = ad2 j := e
    have hj : j < gShM.length := (List.getElem?_eq_some_iff.mp hsh).1
    by_cases h0 : j = 0
    · subst h0
      rw [hE2.1 0 (by decide)] at e
      exact hne i p hp e
    · have := hE2.2 j (by omega) hj
      omega)
  refine va_newa (atype := .long) (ty := .long) (N' := 1) (a0 := (1, .inr (.inl (fun _ => 0)))) hx hb (hts _ zAl) rfl hK.1 (va_P.app hP1k hP4) hDx hS4 (fun q h => h) (fun cA => rfl) (by decide) rfl (by decide) (by rw [hrm]; exact Nat.le_of_ble_eq_true rfl) (by rw [hrm]; exact Nat.le_of_ble_eq_true rfl) dE_17 (fun q3 cA H5 hK5 hP5 hD5 hS5 => ?_)
  have f1 := va_nm_long (hK5.2 4 (cA, .long) rfl).2
  have f2 := va_nm_long (hK.1.2 1 (gCa V 1, .long) rfl).2
  have e0 : cA = gCa V 1 := Option.some.inj (f1.symm.trans f2)
  subst e0
  refine lv_astore_n (lv' := [(3, .ref q3), (2, .ref q2), (1, .ref q1), (0, .ref b)]) hx hb dE_19 rfl hla (by decide) rfl (fun la hla => ?_)
  refine lv_iconst (v := 0) hx hb dE_20 rfl ?_
  refine lv_istore (lv' := [(4, .int 0), (3, .ref q3), (2, .ref q2), (1, .ref q1), (0, .ref b)]) hx hb dE_21 hla (by decide) rfl (fun la hla => ?_)
  obtain ⟨ad3, a3, a3'⟩ : ∃ ad3 : Nat → Nat, ad3 137 = q3 ∧ ∀ c, c < 137 → ad3 c = ad1 c := ⟨fun c => if c = 137 then q3 else ad1 c, if_pos rfl, fun c hc => if_neg (by omega)⟩
  have hw : gWs (zSet V ad3) gShC MC = gWs (zSet V ad1) gShD MC ++ [(q3, .inl (gCa V 1, 1, .inr (.inl (fun _ => 0))))] := by
    rw [gShC_D, gWs_push, gWs_ad2 (n := 137) a3' (Nat.le_of_eq gShD_n) gShD_s (fun c k m hc => (gShD_k hc).imp id (fun e i => by subst e; exact h31 i)), gShD_n]
    have e9 : ((gAd (zSet V ad3) 137, gEnt (zSet V ad3) MC 137 (.inl (1, 1))) : Nat × va_E) = (q3, .inl (gCa V 1, 1, .inr (.inl (fun _ => 0)))) := by
      show (ad3 137, (Sum.inl (gCa V 1, 1, .inr (.inl (MC.2.1 137))) : va_E)) = _
      rw [a3, h137]
    rw [e9]
  have b1 : ∀ i, i < 138 → ∃ k x, (gWs (zSet V ad1) gShD MC ++ gWs (zSet V ad2) gShM NC ++ [(q3, Sum.inl (gCa V 1, 1, Sum.inr (Sum.inl (fun _ => 0))))])[k]? = some (ad3 i, x) ∧ (i < 137 ∧ k = i ∨ i = 137 ∧ k = 156) := by
    intro i hi
    by_cases h : i < 137
    · obtain ⟨x, hx1⟩ := at1 i h
      refine ⟨i, x, ?_, Or.inl ⟨h, rfl⟩⟩
      rw [List.getElem?_append_left (by rw [List.length_append]; omega), List.getElem?_append_left (by omega), a3' i h]
      exact hx1
    · have h : i = 137 := by omega
      subst h
      refine ⟨156, Sum.inl (gCa V 1, 1, Sum.inr (Sum.inl (fun _ => 0))), ?_, Or.inr ⟨rfl, rfl⟩⟩
      rw [List.getElem?_append_right (by rw [List.length_append]; omega), List.length_append, n1, n2, a3]
      rfl
  have b2 : ∀ j, j < 19 → ∃ x, (gWs (zSet V ad1) gShD MC ++ gWs (zSet V ad2) gShM NC ++ [(q3, Sum.inl (gCa V 1, 1, Sum.inr (Sum.inl (fun _ => 0))))])[137 + j]? = some (ad2 j, x) := by
    intro j hj
    have hj' : j < gShM.length := by rw [gShM_n]; exact hj
    have h := gWs_at (V := zSet V ad2) (M := NC) (List.getElem?_eq_getElem hj')
    refine ⟨gEnt (zSet V ad2) NC j gShM[j], ?_⟩
    rw [List.getElem?_append_left (by rw [List.length_append]; omega), List.getElem?_append_right (by omega), n1, Nat.add_sub_cancel_left]
    exact h
  have hzl : zL X (zSet V ad3) (zSet V ad2) b L xs := by
    refine ⟨hC, hK, hK, ⟨fun i j hi hj e => ?_, fun i hi => ?_⟩, hI4, fun i j hi hj e => ?_, hZ, hZ, hX, hbl, htr⟩
    · rw [gShC_n] at hi hj
      obtain ⟨k, x, k1, k2⟩ := b1 i hi
      obtain ⟨k', x', k1', k2'⟩ := b1 j hj
      have := hD5.1 k k' _ _ k1 k1' e
      omega
    · rw [gShC_n] at hi
      obtain ⟨k, x, k1, k2⟩ := b1 i hi
      exact Nat.le_trans (Nat.le_of_eq hZ) (hD5.2 k _ k1)
    · rw [gShC_n] at hi
      rw [gShM_n] at hj
      obtain ⟨k, x, k1, k2⟩ := b1 i hi
      obtain ⟨x', k1'⟩ := b2 j hj
      have := hD5.1 k (137 + j) _ _ k1 k1' e
      omega
  have hla : lv_has la 9 (zLS (zSet V ad3) (zSet V ad2) b (6 * 0)) := by
    have e1 : ad3 0 = q1 := (a3' 0 (by decide)).trans (hE1.1 0 (by decide))
    have e2 : ad2 0 = q2 := hE2.1 0 (by decide)
    have e : zLS (zSet V ad3) (zSet V ad2) b (6 * 0) = [(4, .int 0), (0, .ref b), (1, .ref q1), (2, .ref q2), (3, .ref q3)] := by
      show [(4, Value.int (nI 0)), (0, .ref b), (1, .ref (ad3 0)), (2, .ref (ad2 0)), (3, .ref (ad3 137))] = _
      rw [e1, e2, a3]
      rfl
    rw [e]
    exact lv_sub hla [0, 4, 3, 2, 1] rfl
  exact z_loop hf hd hl hzl hL hQ ha hr 512 0 157 11060 MC NC hrel (Nat.zero_le _) (by omega) (by omega) (by omega) H5 locs4 la (by rw [hw]; exact va_P.app (va_Pl (va_Pl hP5)) (va_Pr hP5)) (va_Pr (va_Pl hP5)) hS5 hla
theorem z_start (hf : zHF) (hd : HD) (hl : HL) {p : Program} {e : Env} {s : State} {m : MethodId} {below : List Frame} {meth : Method} {c : Code} (l : Launch) (hflags : l.flags = flags0) {b L : Nat} {xs : Nat → Int32} (hL : L ≤ 3072) (C0 : lw_At p s m meth c b L xs) : W p l e room_1 s m #[Value.ref b] below meth c s.heap [] 0 0 (lw_Z below #[Value.ref b] s) (entryFrame m ([Value.ref b] : List Value).toArray 9) := by
  obtain ⟨hx, hb, hr, hml, hown, hts, hX, hbl, hlocks, hgv⟩ := id C0
  obtain ⟨V, hK, hZ⟩ := z_env hts hgv
  have hla := lv_entry ([.ref b]) (n := 9) (Nat.le_of_ble_eq_true rfl)
  rw [lg_entry_eq]
  generalize (lg_sl ([.ref b]) ++ List.replicate (9 - (lg_sl ([.ref b])).length) Slot.unset).toArray = la at hla ⊢
  have hla : lv_has la 9 [(0, .ref b)] := hla
  have htr : l.stackTraces = false := by
    show (!l.flags.contains noTraceFlag) = false
    rw [hflags]
    decide +kernel
  have hbw : ∀ w ∈ gBW, w.before #[Value.ref b] s = true := fun w h => hts w (List.mem_filter.mp h).1
  exact z_run (X := (p, l, e, room_1, s, m, #[Value.ref b], below, meth, c, lw_Z below #[Value.ref b] s)) hf hd hl ⟨hx, hb, hml, hown, hbw, hlocks, rfl⟩ hK hZ hX hbl htr (va_AO.of (hts _ (zT1 138 rfl))) hL rfl rfl hr hla
