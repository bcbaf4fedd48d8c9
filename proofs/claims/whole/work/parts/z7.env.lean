/-! THE START: the tables and the texts, as the rows want them -/
theorem zT1 {w : Cond} (i : Nat) (h : tables_1_1[i]? = some w) : w ∈ lw_tbl := List.mem_append_right _ (by unfold tables_1; simp only [List.mem_append]; exact (Or.inl (List.mem_of_getElem? h)))
theorem zT2 {w : Cond} (i : Nat) (h : tables_1_2[i]? = some w) : w ∈ lw_tbl := List.mem_append_right _ (by unfold tables_1; simp only [List.mem_append]; exact (Or.inr (Or.inl (List.mem_of_getElem? h))))
theorem zT3 {w : Cond} (i : Nat) (h : tables_1_3[i]? = some w) : w ∈ lw_tbl := List.mem_append_right _ (by unfold tables_1; simp only [List.mem_append]; exact (Or.inr (Or.inr (Or.inl (List.mem_of_getElem? h)))))
theorem zT4 {w : Cond} (i : Nat) (h : tables_1_4[i]? = some w) : w ∈ lw_tbl := List.mem_append_right _ (by unfold tables_1; simp only [List.mem_append]; exact (Or.inr (Or.inr (Or.inr (Or.inl (List.mem_of_getElem? h))))))
theorem zT5 {w : Cond} (i : Nat) (h : tables_1_5[i]? = some w) : w ∈ lw_tbl := List.mem_append_right _ (by unfold tables_1; simp only [List.mem_append]; exact (Or.inr (Or.inr (Or.inr (Or.inr (Or.inl (List.mem_of_getElem? h)))))))
theorem zT6 {w : Cond} (i : Nat) (h : tables_1_6[i]? = some w) : w ∈ lw_tbl := List.mem_append_right _ (by unfold tables_1; simp only [List.mem_append]; exact (Or.inr (Or.inr (Or.inr (Or.inr (Or.inr (Or.inl (List.mem_of_getElem? h))))))))
theorem zT7 {w : Cond} (i : Nat) (h : tables_1_7[i]? = some w) : w ∈ lw_tbl := List.mem_append_right _ (by unfold tables_1; simp only [List.mem_append]; exact (Or.inr (Or.inr (Or.inr (Or.inr (Or.inr (Or.inr (Or.inl (List.mem_of_getElem? h)))))))))
theorem zT8 {w : Cond} (i : Nat) (h : tables_1_8[i]? = some w) : w ∈ lw_tbl := List.mem_append_right _ (by unfold tables_1; simp only [List.mem_append]; exact (Or.inr (Or.inr (Or.inr (Or.inr (Or.inr (Or.inr (Or.inr (Or.inl (List.mem_of_getElem? h))))))))))
theorem zT9 {w : Cond} (i : Nat) (h : tables_1_9[i]? = some w) : w ∈ lw_tbl := List.mem_append_right _ (by unfold tables_1; simp only [List.mem_append]; exact (Or.inr (Or.inr (Or.inr (Or.inr (Or.inr (Or.inr (Or.inr (Or.inr (List.mem_of_getElem? h))))))))))
theorem z_flat {b : Addr} {s : State} (hgv : (Jvm.Cond.and given_1 narrow_1).before #[Value.ref b] s = true) (i : Nat) {w : Cond} (h : (flatC (Jvm.Cond.and given_1 narrow_1))[i]? = some w) : w.before #[Value.ref b] s = true := flat_of_before _ hgv w (List.mem_of_getElem? h)
theorem z_same {aK aV aV' n n' : Nat} {f f' : Nat → Value} {A : Nat → Prop} {s : State} (h1 : va_OF "java/lang/String" "value" "[B" (.ref aV) aK A s s.heap) (h2 : va_OF "java/lang/String" "value" "[B" (.ref aV') aK A s s.heap) (t1 : va_T .byte aV n f A s s.heap) (t2 : va_T .byte aV' n' f' A s s.heap) (hn : 0 < n) (hn' : 0 < n') (hl : n < 100) (hl' : n' < 100) : n = n' ∧ f 0 = f' 0 := by
  obtain ⟨cf, k, i, fd, cell, a1, a2, a3, a4, a5, a6⟩ := h1
  obtain ⟨cf', k', i', fd', cell', b1, b2, b3, b4, b5, b6⟩ := h2
  cases a1.symm.trans b1
  cases a3.symm.trans b3
  cases a5.symm.trans b5
  obtain ⟨c1, p1, p2, p3, p4, p5, p6, p7⟩ := t1
  obtain ⟨c2, q1, q2, q3, q4, q5, q6, q7⟩ := t2
  cases p1.symm.trans q1
  refine ⟨?_, Option.some.inj ((p6 0 hn).symm.trans (q6 0 hn'))⟩
  have e : nI n = nI n' := p5.symm.trans q5
  exact (nI_eq (by omega) (by omega)).mp e
theorem z_str {args : Array Value} {s : State} {A : Nat → Prop} (tm : Term) (n : Nat) (bs : List Int32) (hn : n < 100) (hex : (Cond.exactly tm "java/lang/String").before args s = true) (hco : (Cond.eq (.field tm "java/lang/String" "coder" "B") (.int 0)).before args s = true)
    (har : (Cond.arrayOf (.field tm "java/lang/String" "value" "[B") .byte).before args s = true) (hle : (Cond.eq (.length (.field tm "java/lang/String" "value" "[B")) (.int (Int32.ofNat n))).before args s = true)
    (hel : ∀ j : Nat, j < n → (Cond.eq (.elem (.field tm "java/lang/String" "value" "[B") (.int (Int32.ofNat j))) (.int (bs.getD j 0))).before args s = true) (hA : ∀ a : Nat, a < s.heap.size → ¬ A a) :
    ∃ aK aV : Nat, (va_O "java/lang/String" aK A s s.heap ∧ va_OF "java/lang/String" "coder" "B" (.int 0) aK A s s.heap ∧ va_OF "java/lang/String" "value" "[B" (.ref aV) aK A s s.heap ∧ va_T .byte aV n (fun j => .int (bs.getD j 0)) A s s.heap) ∧ tm.eval args s none [] s = some (.ref aK) := by
  obtain ⟨adK, adV, h1, h2⟩ := vk_Sof (N := 1) (tm := fun _ => tm) (len := [n]) (byt := [bs]) (A := A) (args := args) (s := s) (fun i hi => by
      have h0 : i = 0 := by omega
      subst h0
      show n < _
      omega) (fun _ _ => hex) (fun _ _ => hco) (fun _ _ => har) (fun i hi => by
      have h0 : i = 0 := by omega
      subst h0
      exact hle) (fun i hi j hj => by
      have h0 : i = 0 := by omega
      subst h0
      exact hel j hj) (fun i j hi hj h => absurd (show i = j by omega) h) hA
  exact ⟨adK 0, adV 0, h1.1 0 (by omega), h2 0 (by omega)⟩
theorem z_ref {args : Array Value} {s : State} (tm : Term) (hex : (Cond.exactly tm "java/lang/String").before args s = true) : ∃ a : Nat, tm.eval args s none [] s = some (.ref a) := by
  obtain ⟨a, c, cA, kA, q1, -⟩ := Cond.exactly_spec (args := args) (first := s) (o := none) (s := s) (idx := []) (t := tm) (cls := "java/lang/String") hex
  exact ⟨a, q1⟩
theorem z_eqr {args : Array Value} {s : State} {t t' : Term} {a : Nat} (h : (Cond.eq t t').before args s = true) (e : t.eval args s none [] s = some (.ref a)) : t'.eval args s none [] s = some (.ref a) := by
  obtain ⟨y, h1, h2⟩ := Cond.eq_one (first := s) (o := none) (s := s) (idx := []) h
  cases h1.symm.trans e
  exact h2
set_option maxHeartbeats 4000000 in
set_option maxRecDepth 20000 in
theorem z_env {b : Addr} {s : State} (hts : ∀ w ∈ lw_tbl, w.before #[Value.ref b] s = true) (hgv : (Jvm.Cond.and given_1 narrow_1).before #[Value.ref b] s = true) : ∃ V : gEnv, gPre V s ∧ gZ V = s.heap.size := by
  have hbw : ∀ w ∈ gBW, w.before #[Value.ref b] s = true := fun w h => hts w (List.mem_filter.mp h).1
  have hA : ∀ a : Nat, a < s.heap.size → ¬ (fun a : Nat => s.heap.size ≤ a) a := fun a h => Nat.not_le.mpr h
  obtain ⟨c0, j0, hk0⟩ := u_known (C := RX0) (T := TX0) (N := 5) (n := 5) hbw iX0 (hbw _ wNX0)
  obtain ⟨c1, j1, hk1⟩ := u_known (C := RX1) (T := TX1) (N := 2) (n := 2) hbw iX1 (hbw _ wNX1)
  obtain ⟨c2, j2, hk2⟩ := u_known (C := RX2) (T := TX2) (N := 14) (n := 14) hbw iX2 (hbw _ wNX2)
  obtain ⟨c3, j3, hk3⟩ := u_known (C := RX3) (T := TX3) (N := 4) (n := 4) hbw iX3 (hbw _ wNX3)
  obtain ⟨c4, j4, hk4⟩ := u_known (C := RX4) (T := TX4) (N := 2) (n := 2) hbw iX4 (hbw _ wNX4)
  obtain ⟨c5, j5, hk5⟩ := u_known (C := RX5) (T := TX5) (N := 6) (n := 6) hbw iX5 (hbw _ wNX5)
  obtain ⟨c6, j6, hk6⟩ := u_known (C := RX6) (T := TX6) (N := 7) (n := 7) hbw iX6 (hbw _ wNX6)
  obtain ⟨c7, j7, hk7⟩ := u_known (C := RX7) (T := TX7) (N := 2) (n := 2) hbw iX7 (hbw _ wNX7)
  obtain ⟨c8, j8, hk8⟩ := u_known (C := RX8) (T := TX8) (N := 4) (n := 4) hbw iX8 (hbw _ wNX8)
  obtain ⟨c9, j9, hk9⟩ := u_known (C := RX9) (T := TX9) (N := 1) (n := 1) hbw iX9 (hbw _ wNX9)
  obtain ⟨c10, j10, hk10⟩ := u_known (C := RX10) (T := TX10) (N := 14) (n := 14) hbw iX10 (hbw _ wNX10)
  obtain ⟨c11, j11, hk11⟩ := u_known (C := RX11) (T := TX11) (N := 41) (n := 41) hbw iX11 (hbw _ wNX11)
  obtain ⟨ai, ki, mi, fi1, fi2, fi3⟩ := Cond.arrayClass_spec (hbw _ zAi)
  obtain ⟨al, kl, ml, fl1, fl2, fl3⟩ := Cond.arrayClass_spec (hbw _ zAl)
  obtain ⟨ab, kb, mb, fb1, fb2, fb3⟩ := Cond.arrayClass_spec (hbw _ zAb)
  obtain ⟨mn, an, kn, gn1, gn2, gn3, gn4, gn5⟩ := Cond.arrayOver_spec (hts _ (zT1 138 rfl))
  obtain ⟨aK0, aV0, ho0, he0⟩ := z_str (args := #[Value.ref b]) (s := s) (A := fun a : Nat => s.heap.size ≤ a) (Jvm.Term.string "RingFreeOrder$Description" (48 : Nat)) 4 [116, 97, 115, 107] (by decide) (z_flat hgv 114 (by decide +kernel)) (z_flat hgv 115 (by decide +kernel)) (z_flat hgv 116 (by decide +kernel)) (z_flat hgv 117 (by decide +kernel)) (fun j hj => by
    rcases (show j = 0 ∨ j = 1 ∨ j = 2 ∨ j = 3 by omega) with rfl | rfl | rfl | rfl
    · exact (z_flat hgv 118 (by decide +kernel))
    · exact (z_flat hgv 119 (by decide +kernel))
    · exact (z_flat hgv 120 (by decide +kernel))
    · exact (z_flat hgv 121 (by decide +kernel))) hA
  obtain ⟨aK1, aV1, ho1, he1⟩ := z_str (args := #[Value.ref b]) (s := s) (A := fun a : Nat => s.heap.size ≤ a) (Jvm.Term.string "RingFreeOrder$Description" (69 : Nat)) 5 [97, 114, 114, 111, 119] (by decide) (z_flat hgv 122 (by decide +kernel)) (z_flat hgv 123 (by decide +kernel)) (z_flat hgv 124 (by decide +kernel)) (z_flat hgv 125 (by decide +kernel)) (fun j hj => by
    rcases (show j = 0 ∨ j = 1 ∨ j = 2 ∨ j = 3 ∨ j = 4 by omega) with rfl | rfl | rfl | rfl | rfl
    · exact (z_flat hgv 126 (by decide +kernel))
    · exact (z_flat hgv 127 (by decide +kernel))
    · exact (z_flat hgv 128 (by decide +kernel))
    · exact (z_flat hgv 129 (by decide +kernel))
    · exact (z_flat hgv 130 (by decide +kernel))) hA
  obtain ⟨aK2, aV2, ho2, he2⟩ := z_str (args := #[Value.ref b]) (s := s) (A := fun a : Nat => s.heap.size ≤ a) (Jvm.Term.string "RingFreeOrder$Description" (74 : Nat)) 4 [109, 111, 100, 101] (by decide) (z_flat hgv 131 (by decide +kernel)) (z_flat hgv 132 (by decide +kernel)) (z_flat hgv 133 (by decide +kernel)) (z_flat hgv 134 (by decide +kernel)) (fun j hj => by
    rcases (show j = 0 ∨ j = 1 ∨ j = 2 ∨ j = 3 by omega) with rfl | rfl | rfl | rfl
    · exact (z_flat hgv 135 (by decide +kernel))
    · exact (z_flat hgv 136 (by decide +kernel))
    · exact (z_flat hgv 137 (by decide +kernel))
    · exact (z_flat hgv 138 (by decide +kernel))) hA
  obtain ⟨aK3, aV3, ho3, he3⟩ := z_str (args := #[Value.ref b]) (s := s) (A := fun a : Nat => s.heap.size ≤ a) (Jvm.Term.string "RingFreeOrder$Description" (79 : Nat)) 4 [106, 111, 105, 110] (by decide) (z_flat hgv 139 (by decide +kernel)) (z_flat hgv 140 (by decide +kernel)) (z_flat hgv 141 (by decide +kernel)) (z_flat hgv 142 (by decide +kernel)) (fun j hj => by
    rcases (show j = 0 ∨ j = 1 ∨ j = 2 ∨ j = 3 by omega) with rfl | rfl | rfl | rfl
    · exact (z_flat hgv 143 (by decide +kernel))
    · exact (z_flat hgv 144 (by decide +kernel))
    · exact (z_flat hgv 145 (by decide +kernel))
    · exact (z_flat hgv 146 (by decide +kernel))) hA
  obtain ⟨aK4, aV4, ho4, he4⟩ := z_str (args := #[Value.ref b]) (s := s) (A := fun a : Nat => s.heap.size ≤ a) (Jvm.Term.string "RingFreeOrder$Orders" (72 : Nat)) 3 [99, 117, 116] (by decide) (z_flat hgv 189 (by decide +kernel)) (z_flat hgv 190 (by decide +kernel)) (z_flat hgv 191 (by decide +kernel)) (z_flat hgv 192 (by decide +kernel)) (fun j hj => by
    rcases (show j = 0 ∨ j = 1 ∨ j = 2 by omega) with rfl | rfl | rfl
    · exact (z_flat hgv 193 (by decide +kernel))
    · exact (z_flat hgv 194 (by decide +kernel))
    · exact (z_flat hgv 195 (by decide +kernel))) hA
  obtain ⟨aK5, aV5, ho5, he5⟩ := z_str (args := #[Value.ref b]) (s := s) (A := fun a : Nat => s.heap.size ≤ a) (Jvm.Term.string "RingFreeOrder$Orders" (74 : Nat)) 5 [104, 111, 117, 114, 115] (by decide) (z_flat hgv 196 (by decide +kernel)) (z_flat hgv 197 (by decide +kernel)) (z_flat hgv 198 (by decide +kernel)) (z_flat hgv 199 (by decide +kernel)) (fun j hj => by
    rcases (show j = 0 ∨ j = 1 ∨ j = 2 ∨ j = 3 ∨ j = 4 by omega) with rfl | rfl | rfl | rfl | rfl
    · exact (z_flat hgv 200 (by decide +kernel))
    · exact (z_flat hgv 201 (by decide +kernel))
    · exact (z_flat hgv 202 (by decide +kernel))
    · exact (z_flat hgv 203 (by decide +kernel))
    · exact (z_flat hgv 204 (by decide +kernel))) hA
  obtain ⟨aK6, aV6, ho6, he6⟩ := z_str (args := #[Value.ref b]) (s := s) (A := fun a : Nat => s.heap.size ≤ a) (Jvm.Term.string "RingFreeOrder$Orders" (76 : Nat)) 4 [115, 119, 97, 112] (by decide) (z_flat hgv 205 (by decide +kernel)) (z_flat hgv 206 (by decide +kernel)) (z_flat hgv 207 (by decide +kernel)) (z_flat hgv 208 (by decide +kernel)) (fun j hj => by
    rcases (show j = 0 ∨ j = 1 ∨ j = 2 ∨ j = 3 by omega) with rfl | rfl | rfl | rfl
    · exact (z_flat hgv 209 (by decide +kernel))
    · exact (z_flat hgv 210 (by decide +kernel))
    · exact (z_flat hgv 211 (by decide +kernel))
    · exact (z_flat hgv 212 (by decide +kernel))) hA
  obtain ⟨aK7, aV7, ho7, he7⟩ := z_str (args := #[Value.ref b]) (s := s) (A := fun a : Nat => s.heap.size ≤ a) (Jvm.Term.string "RingFreeOrder$Orders" (82 : Nat)) 7 [114, 101, 102, 114, 101, 115, 104] (by decide) (z_flat hgv 231 (by decide +kernel)) (z_flat hgv 232 (by decide +kernel)) (z_flat hgv 233 (by decide +kernel)) (z_flat hgv 234 (by decide +kernel)) (fun j hj => by
    rcases (show j = 0 ∨ j = 1 ∨ j = 2 ∨ j = 3 ∨ j = 4 ∨ j = 5 ∨ j = 6 by omega) with rfl | rfl | rfl | rfl | rfl | rfl | rfl
    · exact (z_flat hgv 235 (by decide +kernel))
    · exact (z_flat hgv 236 (by decide +kernel))
    · exact (z_flat hgv 237 (by decide +kernel))
    · exact (z_flat hgv 238 (by decide +kernel))
    · exact (z_flat hgv 239 (by decide +kernel))
    · exact (z_flat hgv 240 (by decide +kernel))
    · exact (z_flat hgv 241 (by decide +kernel))) hA
  obtain ⟨aK8, he8⟩ := z_ref (args := #[Value.ref b]) (s := s) (Jvm.Term.string "RingFreeOrder" (396 : Nat)) (z_flat hgv 498 (by decide +kernel))
  obtain ⟨aK9, he9⟩ := z_ref (args := #[Value.ref b]) (s := s) (Jvm.Term.string "RingFreeOrder" (337 : Nat)) (z_flat hgv 479 (by decide +kernel))
  obtain ⟨aK10, he10⟩ := z_ref (args := #[Value.ref b]) (s := s) (Jvm.Term.string "RingFreeOrder" (392 : Nat)) (z_flat hgv 378 (by decide +kernel))
  obtain ⟨aK11, he11⟩ := z_ref (args := #[Value.ref b]) (s := s) (Jvm.Term.string "RingFreeOrder" (112 : Nat)) (z_flat hgv 96 (by decide +kernel))
  obtain ⟨aK12, he12⟩ := z_ref (args := #[Value.ref b]) (s := s) (Jvm.Term.string "RingFreeOrder" (168 : Nat)) (z_flat hgv 270 (by decide +kernel))
  obtain ⟨aK13, he13⟩ := z_ref (args := #[Value.ref b]) (s := s) (Jvm.Term.string "RingFreeOrder" (222 : Nat)) (z_flat hgv 349 (by decide +kernel))
  obtain ⟨aK14, he14⟩ := z_ref (args := #[Value.ref b]) (s := s) (Jvm.Term.string "RingFreeOrder" (212 : Nat)) (z_flat hgv 304 (by decide +kernel))
  obtain ⟨aK15, he15⟩ := z_ref (args := #[Value.ref b]) (s := s) (Jvm.Term.string "RingFreeOrder" (273 : Nat)) (z_flat hgv 425 (by decide +kernel))
  obtain ⟨aK16, he16⟩ := z_ref (args := #[Value.ref b]) (s := s) (Jvm.Term.string "RingFreeOrder" (253 : Nat)) (z_flat hgv 395 (by decide +kernel))
  obtain ⟨aK17, he17⟩ := z_ref (args := #[Value.ref b]) (s := s) (Jvm.Term.string "RingFreeOrder" (365 : Nat)) (z_flat hgv 524 (by decide +kernel))
  obtain ⟨aK18, he18⟩ := z_ref (args := #[Value.ref b]) (s := s) (Jvm.Term.string "RingFreeOrder" (394 : Nat)) (z_flat hgv 332 (by decide +kernel))
  obtain ⟨aK19, he19⟩ := z_ref (args := #[Value.ref b]) (s := s) (Jvm.Term.string "RingFreeOrder" (389 : Nat)) (z_flat hgv 288 (by decide +kernel))
  obtain ⟨aK20, he20⟩ := z_ref (args := #[Value.ref b]) (s := s) (Jvm.Term.string "RingFreeOrder" (385 : Nat)) (z_flat hgv 551 (by decide +kernel))
  obtain ⟨aK21, he21⟩ := z_ref (args := #[Value.ref b]) (s := s) (Jvm.Term.string "RingFreeOrder" (297 : Nat)) (z_flat hgv 454 (by decide +kernel))
  obtain ⟨aK22, he22⟩ := z_ref (args := #[Value.ref b]) (s := s) (Jvm.Term.string "RingFreeOrder" (119 : Nat)) (z_flat hgv 147 (by decide +kernel))
  obtain ⟨aK23, he23⟩ := z_ref (args := #[Value.ref b]) (s := s) (Jvm.Term.string "RingFreeOrder" (101 : Nat)) (z_flat hgv 53 (by decide +kernel))
  obtain ⟨aK24, he24⟩ := z_ref (args := #[Value.ref b]) (s := s) (Jvm.Term.string "RingFreeOrder" (131 : Nat)) (z_flat hgv 242 (by decide +kernel))
  refine ⟨(fun k => [c0, c1, c2, c3, c4, c5, c6, c7, c8, c9, c10, c11].getD k c0, fun k => [j0, j1, j2, j3, j4, j5, j6, j7, j8, j9, j10, j11].getD k j0, fun k => [ai, al, ab, an].getD k ai, fun i => [aK0, aK1, aK2, aK3, aK4, aK5, aK6, aK7, aK8, aK9, aK10, aK11, aK12, aK13, aK14, aK15, aK16, aK17, aK18, aK19, aK20, aK21, aK22, aK23, aK24].getD i 0, fun i => [aV0, aV1, aV2, aV3, aV4, aV5, aV6, aV7].getD i 0, fun _ => 0, s.heap.size), ⟨⟨fun k q hq => ?_, fun k q hq => ?_⟩, ?_, ?_, ⟨fun i hi => ?_, ?_⟩, ?_, ?_, ?_, ?_, ?_, Nat.le_refl _, ?_, ?_⟩, rfl⟩
  · match k, hq with
    | 0, hq => cases hq; exact hk0
    | 1, hq => cases hq; exact hk1
    | 2, hq => cases hq; exact hk2
    | 3, hq => cases hq; exact hk3
    | 4, hq => cases hq; exact hk4
    | 5, hq => cases hq; exact hk5
    | 6, hq => cases hq; exact hk6
    | 7, hq => cases hq; exact hk7
    | 8, hq => cases hq; exact hk8
    | 9, hq => cases hq; exact hk9
    | 10, hq => cases hq; exact hk10
    | 11, hq => cases hq; exact hk11
    | k + 12, hq => exact absurd hq (by simp [vwCl])
  · match k, hq with
    | 0, hq => cases hq; exact ⟨fun n z => ⟨fun k h => (by cases h), ki, fi2, mi, fi3⟩, fi1⟩
    | 1, hq => cases hq; exact ⟨fun n z => ⟨fun k h => (by cases h), kl, fl2, ml, fl3⟩, fl1⟩
    | 2, hq => cases hq; exact ⟨fun n z => ⟨fun k h => (by cases h), kb, fb2, mb, fb3⟩, fb1⟩
    | 3, hq => cases hq; exact ⟨fun n z => ⟨fun k h => (by cases h), kn, gn3, mn, gn4⟩, kn, mn, gn3, gn4, gn1, gn5⟩
    | k + 4, hq => exact absurd hq (by simp)
  · exact (List.forall_mem_cons.mpr ⟨va_Nw.of rfl (hts _ (zT1 37 rfl)), (List.forall_mem_cons.mpr ⟨va_Nw.of rfl (hts _ (zT1 141 rfl)), (List.forall_mem_cons.mpr ⟨va_Nw.of rfl (hts _ (zT1 172 rfl)), (List.forall_mem_cons.mpr ⟨va_Nw.of rfl (hts _ (zT1 187 rfl)), (List.forall_mem_cons.mpr ⟨va_Nw.of rfl (hts _ (zT1 200 rfl)), (List.forall_mem_cons.mpr ⟨va_Nw.of rfl (hts _ (zT1 219 rfl)), (List.forall_mem_cons.mpr ⟨va_Nw.of rfl (hts _ (zT1 225 rfl)), (List.forall_mem_cons.mpr ⟨va_Nw.of rfl (hts _ (zT2 30 rfl)), (List.forall_mem_cons.mpr ⟨va_Nw.of rfl (hts _ (zT2 35 rfl)), (List.forall_mem_cons.mpr ⟨va_Nw.of rfl (hts _ (zT2 52 rfl)), (List.forall_mem_cons.mpr ⟨va_Nw.of rfl (hts _ (zT2 78 rfl)), (List.forall_mem_cons.mpr ⟨va_Nw.of rfl (hts _ (zT2 174 rfl)), (List.forall_mem_cons.mpr ⟨va_Nw.of rfl (hts _ (zT2 229 rfl)), (List.forall_mem_cons.mpr ⟨va_Nw.of rfl (hts _ (zT3 78 rfl)), (List.forall_mem_cons.mpr ⟨va_Nw.of rfl (hts _ (zT3 79 rfl)), (List.forall_mem_cons.mpr ⟨va_Nw.of rfl (hts _ (zT3 84 rfl)), (List.forall_mem_cons.mpr ⟨va_Nw.of rfl (hts _ (zT4 115 rfl)), (List.forall_mem_cons.mpr ⟨va_Nw.of rfl (hts _ (zT5 153 rfl)), (fun _ h => absurd h List.not_mem_nil)⟩)⟩)⟩)⟩)⟩)⟩)⟩)⟩)⟩)⟩)⟩)⟩)⟩)⟩)⟩)⟩)⟩)⟩)
  · exact (List.forall_mem_cons.mpr ⟨vk_R.of (hts _ (zT3 148 rfl)) he23, (List.forall_mem_cons.mpr ⟨vk_R.of (hts _ (zT3 195 rfl)) he11, (List.forall_mem_cons.mpr ⟨vk_R.of (hts _ (zT4 8 rfl)) he0, (List.forall_mem_cons.mpr ⟨vk_R.of (hts _ (zT4 88 rfl)) he1, (List.forall_mem_cons.mpr ⟨vk_R.of (hts _ (zT4 154 rfl)) he2, (List.forall_mem_cons.mpr ⟨vk_R.of (hts _ (zT4 159 rfl)) he3, (List.forall_mem_cons.mpr ⟨vk_R.of (hts _ (zT4 175 rfl)) he22, (List.forall_mem_cons.mpr ⟨vk_R.of (hts _ (zT4 198 rfl)) (z_eqr (z_flat hgv 188 (by decide +kernel)) he1), (List.forall_mem_cons.mpr ⟨vk_R.of (hts _ (zT4 200 rfl)) he4, (List.forall_mem_cons.mpr ⟨vk_R.of (hts _ (zT4 201 rfl)) he5, (List.forall_mem_cons.mpr ⟨vk_R.of (hts _ (zT4 202 rfl)) he6, (List.forall_mem_cons.mpr ⟨vk_R.of (hts _ (zT4 203 rfl)) (z_eqr (z_flat hgv 221 (by decide +kernel)) he2), (List.forall_mem_cons.mpr ⟨vk_R.of (hts _ (zT4 204 rfl)) (z_eqr (z_flat hgv 230 (by decide +kernel)) he3), (List.forall_mem_cons.mpr ⟨vk_R.of (hts _ (zT4 205 rfl)) he7, (List.forall_mem_cons.mpr ⟨vk_R.of (hts _ (zT4 218 rfl)) he24, (List.forall_mem_cons.mpr ⟨vk_R.of (hts _ (zT5 38 rfl)) he12, (List.forall_mem_cons.mpr ⟨vk_R.of (hts _ (zT5 60 rfl)) he19, (List.forall_mem_cons.mpr ⟨vk_R.of (hts _ (zT5 77 rfl)) he14, (List.forall_mem_cons.mpr ⟨vk_R.of (hts _ (zT5 95 rfl)) he18, (List.forall_mem_cons.mpr ⟨vk_R.of (hts _ (zT5 96 rfl)) he13, (List.forall_mem_cons.mpr ⟨vk_R.of (hts _ (zT5 112 rfl)) he10, (List.forall_mem_cons.mpr ⟨vk_R.of (hts _ (zT5 113 rfl)) he16, (List.forall_mem_cons.mpr ⟨vk_R.of (hts _ (zT5 161 rfl)) he15, (List.forall_mem_cons.mpr ⟨vk_R.of (hts _ (zT5 173 rfl)) he21, (List.forall_mem_cons.mpr ⟨vk_R.of (hts _ (zT5 213 rfl)) he9, (List.forall_mem_cons.mpr ⟨vk_R.of (hts _ (zT5 224 rfl)) he8, (List.forall_mem_cons.mpr ⟨vk_R.of (hts _ (zT6 29 rfl)) he17, (List.forall_mem_cons.mpr ⟨vk_R.of (hts _ (zT6 45 rfl)) he20, (List.forall_mem_cons.mpr ⟨vk_R.of (hts _ (zT7 7 rfl)) (z_eqr (z_flat hgv 580 (by decide +kernel)) he0), (List.forall_mem_cons.mpr ⟨vk_R.of (hts _ (zT7 42 rfl)) (z_eqr (z_flat hgv 590 (by decide +kernel)) he1), (List.forall_mem_cons.mpr ⟨vk_R.of (hts _ (zT7 154 rfl)) (z_eqr (z_flat hgv 600 (by decide +kernel)) he2), (List.forall_mem_cons.mpr ⟨vk_R.of (hts _ (zT7 159 rfl)) (z_eqr (z_flat hgv 610 (by decide +kernel)) he3), (List.forall_mem_cons.mpr ⟨vk_R.of (hts _ (zT7 184 rfl)) (z_eqr (z_flat hgv 619 (by decide +kernel)) he4), (List.forall_mem_cons.mpr ⟨vk_R.of (hts _ (zT7 185 rfl)) (z_eqr (z_flat hgv 629 (by decide +kernel)) he5), (List.forall_mem_cons.mpr ⟨vk_R.of (hts _ (zT7 186 rfl)) (z_eqr (z_flat hgv 638 (by decide +kernel)) he6), (List.forall_mem_cons.mpr ⟨vk_R.of (hts _ (zT7 187 rfl)) (z_eqr (z_flat hgv 650 (by decide +kernel)) he7), (fun _ h => absurd h List.not_mem_nil)⟩)⟩)⟩)⟩)⟩)⟩)⟩)⟩)⟩)⟩)⟩)⟩)⟩)⟩)⟩)⟩)⟩)⟩)⟩)⟩)⟩)⟩)⟩)⟩)⟩)⟩)⟩)⟩)⟩)⟩)⟩)⟩)⟩)⟩)⟩)⟩)
  · rcases (show i = 0 ∨ i = 1 ∨ i = 2 ∨ i = 3 ∨ i = 4 ∨ i = 5 ∨ i = 6 ∨ i = 7 by have hi : i < 8 := hi; omega) with rfl | rfl | rfl | rfl | rfl | rfl | rfl | rfl
    · exact ho0
    · exact ho1
    · exact ho2
    · exact ho3
    · exact ho4
    · exact ho5
    · exact ho6
    · exact ho7
  · have key : ∀ i, i < 8 → va_OF "java/lang/String" "value" "[B" (.ref ([aV0, aV1, aV2, aV3, aV4, aV5, aV6, aV7].getD i 0)) ([aK0, aK1, aK2, aK3, aK4, aK5, aK6, aK7, aK8, aK9, aK10, aK11, aK12, aK13, aK14, aK15, aK16, aK17, aK18, aK19, aK20, aK21, aK22, aK23, aK24].getD i 0) (fun a : Nat => s.heap.size ≤ a) s s.heap ∧ va_T .byte ([aV0, aV1, aV2, aV3, aV4, aV5, aV6, aV7].getD i 0) (gSl.getD i 0) (fun j => .int ((gSb.getD i []).getD j 0)) (fun a : Nat => s.heap.size ≤ a) s s.heap := by
      intro i hi
      rcases (show i = 0 ∨ i = 1 ∨ i = 2 ∨ i = 3 ∨ i = 4 ∨ i = 5 ∨ i = 6 ∨ i = 7 by omega) with rfl | rfl | rfl | rfl | rfl | rfl | rfl | rfl
      · exact ho0.2.2
      · exact ho1.2.2
      · exact ho2.2.2
      · exact ho3.2.2
      · exact ho4.2.2
      · exact ho5.2.2
      · exact ho6.2.2
      · exact ho7.2.2
    intro i j hi hj e
    have hi : i < 8 := hi
    have hj : j < 8 := hj
    have hb : ∀ i, i < 8 → 0 < gSl.getD i 0 ∧ gSl.getD i 0 < 100 := by decide
    have h1 := (key i hi).1
    have h2 := (key j hj).1
    have e : [aK0, aK1, aK2, aK3, aK4, aK5, aK6, aK7, aK8, aK9, aK10, aK11, aK12, aK13, aK14, aK15, aK16, aK17, aK18, aK19, aK20, aK21, aK22, aK23, aK24].getD i 0 = [aK0, aK1, aK2, aK3, aK4, aK5, aK6, aK7, aK8, aK9, aK10, aK11, aK12, aK13, aK14, aK15, aK16, aK17, aK18, aK19, aK20, aK21, aK22, aK23, aK24].getD j 0 := by first | exact e | exact e.symm
    rw [e] at h1
    obtain ⟨e1, e2⟩ := z_same h1 h2 (key i hi).2 (key j hj).2 (hb i hi).1 (hb j hj).1 (hb i hi).2 (hb j hj).2
    have e2 := Value.int.inj e2
    have fin : ∀ i, i < 8 → ∀ j, j < 8 → gSl.getD i 0 = gSl.getD j 0 → (gSb.getD i []).getD 0 0 = (gSb.getD j []).getD 0 0 → i = j := by decide
    exact fin i hi j hj e1 e2
  · exact va_Zof (hts _ (zT4 22 rfl)) (hts _ (zT1 19 rfl)) (va_eqt (z_flat hgv 6 (by decide +kernel))) hA
  · exact vx_Zqof (hts _ (zT3 134 rfl)) (hts _ (zT1 13 rfl)) (z_flat hgv 4 (by decide +kernel)) hA
  · exact vx_Zqof (hts _ (zT3 136 rfl)) (hts _ (zT1 13 rfl)) (z_flat hgv 5 (by decide +kernel)) hA
  · exact (List.forall_mem_cons.mpr ⟨va_Nw.of rfl (hts _ (zT3 110 rfl)), (List.forall_mem_cons.mpr ⟨va_Nw.of rfl (hts _ (zT3 111 rfl)), (List.forall_mem_cons.mpr ⟨va_Nw.of rfl (hts _ (zT3 112 rfl)), (List.forall_mem_cons.mpr ⟨va_Nw.of rfl (hts _ (zT3 113 rfl)), (List.forall_mem_cons.mpr ⟨va_Nw.of rfl (hts _ (zT3 114 rfl)), (List.forall_mem_cons.mpr ⟨va_Nw.of rfl (hts _ (zT3 115 rfl)), (fun _ h => absurd h List.not_mem_nil)⟩)⟩)⟩)⟩)⟩)⟩)
  · exact (List.forall_mem_cons.mpr ⟨va_Nw.of rfl (hts _ (zT3 109 rfl)), (List.forall_mem_cons.mpr ⟨va_Nw.of rfl (hts _ (zT3 188 rfl)), (List.forall_mem_cons.mpr ⟨va_Nw.of rfl (hts _ (zT5 53 rfl)), (fun _ h => absurd h List.not_mem_nil)⟩)⟩)⟩)
  · exact va_Zqof (hts _ (zT4 38 rfl)) (hts _ (zT1 21 rfl)) (z_flat hgv 7 (by decide +kernel)) hA
  · exact va_Nc.of (z_flat hgv 52 (by decide +kernel))
