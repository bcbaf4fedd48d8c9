/-! ORDERS are read: both sides -/
section OD
variable {M N : gMem} {B : Nat → Nat} {L i j n : Nat} {S : gS}
/-- an argument is read by both -/
def AR (M N : gMem) (B : Nat → Nat) (L i : Nat) (ok : Nat → Prop) (x y : Option (Int32 × gMem)) : Prop := ∃ M1 N1 v b, x = some (v, M1) ∧ y = some (ib b, N1) ∧ gFr Drd M M1 ∧ gFr Drr N N1 ∧ ((b = false ∧ v = mO 1 ∧ ∃ c p, 1 ≤ c ∧ c ≤ 9 ∧ p ≤ 900 ∧ EC M1 c p ∧ ER N1 c p) ∨ (b = true ∧ ∃ a i', v = nI a ∧ a < 1000 ∧ ok a ∧ i < i' ∧ i' ≤ L ∧ M1.1 32 2 = nI i' ∧ N1.1 0 30 = nI a ∧ RT N1 B L (tSk B L i') ∧ M1.1 32 4 = M.1 32 4 ∧ M1.1 32 5 = M.1 32 5 ∧ N1.1 0 26 = nI 0 ∧ N1.1 0 27 = N.1 0 27))
theorem ar_task (hc : CS M 1 S) (hr : RS N S) (tc : TXc M B L) (tr : TXr N B L) (hi : i ≤ L) (p2 : M.1 32 2 = nI i) (rt : RT N B L (tSk B L i)) (h0 : N.1 0 26 = nI 0) : AR M N B L i (fun a => a < sN S) (fX5_readTask 1 M) (fX11_takesTask N) := by
  have hL := tc.2.1
  have hn := hc.2.1.1
  obtain ⟨b1, b2⟩ := tSk_b (B := B) hi
  obtain ⟨M1, v, e1, F1, y1, y2, y3⟩ := c_readTask hc (by decide) tc p2 hi
  obtain ⟨N1, b, g1, G1, x1, x2, x3⟩ := r_takesTask hr tr rt b2 h0
  refine ⟨M1, N1, v, b, e1, g1, F1, G1, ?_⟩
  generalize tSk B L i = j at *
  by_cases c : tNm B L j
  · by_cases d : nmF S (tW B L j) < sN S
    · obtain ⟨z1, z2, z3, z4, z5⟩ := y3 c d
      obtain ⟨u1, u2, u3, u4, u5⟩ := x3 c d
      have gt := tWe_gt c.1
      exact Or.inr ⟨u1, _, tWe B L j, z1, by omega, d, by omega, (tWe_b b2).2, z3, u2, u5, z4, z5, u3, u4⟩
    · obtain ⟨z1, z2⟩ := y2 c d
      obtain ⟨u1, u2⟩ := x2 c d
      exact Or.inl ⟨u1, z1, 3, j, by omega, by omega, by omega, z2, u2⟩
  · obtain ⟨z1, z2⟩ := y1 c
    obtain ⟨u1, u2⟩ := x1 c
    exact Or.inl ⟨u1, z1, 1, j, by omega, by omega, by omega, z2, u2⟩
theorem ar_num (tc : TXc M B L) (tr : TXr N B L) (hi : i ≤ L) (p2 : M.1 32 2 = nI i) (rt : RT N B L (tSk B L i)) (h0 : N.1 0 26 = nI 0) {lo hh : Nat} (hl : lo < 1000) (hu : hh < 1000) : AR M N B L i (fun a => lo ≤ a ∧ a ≤ hh) (fX5_readNumber (nI lo) (nI hh) M) (fX11_takes (nI lo) (nI hh) N) := by
  have hL := tc.2.1
  obtain ⟨b1, b2⟩ := tSk_b (B := B) hi
  obtain ⟨M1, v, e1, F1, y1, y2, y3⟩ := c_readNumber tc p2 hi hu hl
  obtain ⟨N1, b, g1, G1, x1, x2, x3⟩ := r_takes tr rt b2 h0 hl hu
  refine ⟨M1, N1, v, b, e1, g1, F1, G1, ?_⟩
  generalize tSk B L i = j at *
  by_cases c : tNu B L j
  · by_cases d : lo ≤ tV B L j ∧ tV B L j ≤ hh
    · obtain ⟨z1, z2, z3, z4⟩ := y3 c d
      obtain ⟨u1, u2, u3, u4, u5⟩ := x3 c d
      have gt := tNe_gt c.1
      exact Or.inr ⟨u1, _, tNe B L j, z1, by omega, d, by omega, (tNe_b b2).2, z2, u2, u3, z3, z4, u4, u5⟩
    · obtain ⟨z1, z2⟩ := y2 c d
      obtain ⟨u1, u2⟩ := x2 c d
      exact Or.inl ⟨u1, z1, 2, j, by omega, by omega, by omega, z2, u2⟩
  · obtain ⟨z1, z2⟩ := y1 c
    obtain ⟨u1, u2⟩ := x1 c
    exact Or.inl ⟨u1, z1, 1, j, by omega, by omega, by omega, z2, u2⟩
/-- the kind by the word -/
def kd (B : Nat → Nat) (j n : Nat) : Nat := if tWd B j n 1 = true then 1 else if tWd B j n 4 = true then 2 else if tWd B j n 5 = true then 3 else if tWd B j n 6 = true then 4 else if tWd B j n 2 = true then 5 else if tWd B j n 3 = true then 6 else if tWd B j n 7 = true then 7 else 0
theorem kd_le : kd B j n ≤ 7 := by
  unfold kd
  repeat' split
  all_goals omega
theorem ib_if {b : Bool} {α : Type} {x y : α} : (if ib b = (0 : Int32) then x else y) = if b = true then y else x := by cases b <;> rfl
theorem c_kind (w : ∀ k, fX5_wordIs k M = some (ib (tWd B j n k))) : fX3_kindOf M = some (nI (kd B j n)) := by
  unfold fX3_kindOf kd
  rw [w 1, w 4, w 5, w 6, w 2, w 3, w 7]
  cases tWd B j n 1 <;> cases tWd B j n 4 <;> cases tWd B j n 5 <;> cases tWd B j n 6 <;> cases tWd B j n 2 <;> cases tWd B j n 3 <;> cases tWd B j n 7 <;> rfl
theorem r_kind (w : ∀ k, fX11_says k N = some (ib (tWd B j n k))) : fX11_orderHere N = some (if kd B j n = 0 then mO 1 else nI (kd B j n - 1)) := by
  unfold fX11_orderHere kd
  rw [w 1, w 4, w 5, w 6, w 2, w 3, w 7]
  cases tWd B j n 1 <;> cases tWd B j n 4 <;> cases tWd B j n 5 <;> cases tWd B j n 6 <;> cases tWd B j n 2 <;> cases tWd B j n 3 <;> cases tWd B j n 7 <;> rfl
/-- one order in both tables -/
def ORD (M N : gMem) (m k : Nat) : Prop := ∃ q a b, q ≤ 6 ∧ M.1 38 k = nI (q + 1) ∧ N.1 13 (3 * k) = nI q ∧ (q < 6 → M.1 39 k = nI a ∧ N.1 13 (3 * k + 1) = nI a) ∧ (q < 3 → M.1 40 k = nI b ∧ N.1 13 (3 * k + 2) = nI b) ∧ (q < 3 → a < m) ∧ (q < 2 → b < m) ∧ (q = 2 → 1 ≤ b ∧ b ≤ 9) ∧ (q = 3 → a ≤ 22) ∧ (q = 4 → a ≤ 2) ∧ (q = 5 → a ≤ 1)
def DcO (c k : Nat) : Prop := (c = 32 ∧ 2 ≤ k ∧ k ≤ 5) ∨ (c = 37 ∧ k = 3) ∨ (38 ≤ c ∧ c ≤ 40)
def DrO (c k : Nat) : Prop := (c = 0 ∧ ((22 ≤ k ∧ k ≤ 27) ∨ k = 30 ∨ k = 33)) ∨ c = 13
/-- both stand between orders -/
def SO (M N : gMem) (B : Nat → Nat) (L i n : Nat) (S : gS) : Prop := i ≤ L ∧ M.1 32 2 = nI i ∧ (TXc M B L ∧ TXr N B L) ∧ RT N B L (tSk B L i) ∧ (M.1 32 4 = nI 0 ∧ M.1 32 5 = mO 1) ∧ (N.1 0 26 = nI 0 ∧ N.1 0 27 = mO 1) ∧ (CS M 1 S ∧ RS N S) ∧ (M.1 37 3 = nI n ∧ N.1 0 33 = nI n) ∧ n ≤ 30
/-- what was read before stays -/
def OLD (M N M' N' : gMem) (n : Nat) : Prop := (∀ k, k < n → M'.1 38 k = M.1 38 k ∧ M'.1 39 k = M.1 39 k ∧ M'.1 40 k = M.1 40 k) ∧ ∀ k, k < 3 * n → N'.1 13 k = N.1 13 k
theorem ORD_old {M' N' : gMem} {m k : Nat} (h : ORD M N m k) (o : OLD M N M' N' n) (hk : k < n) : ORD M' N' m k := by
  obtain ⟨q, a, b, h1, h2, h3, h4, h5, h6⟩ := h
  obtain ⟨o1, o2, o3⟩ := o.1 k hk
  exact ⟨q, a, b, h1, o1.trans h2, (o.2 _ (by omega)).trans h3, fun z => ⟨o2.trans (h4 z).1, (o.2 _ (by omega)).trans (h4 z).2⟩, fun z => ⟨o3.trans (h5 z).1, (o.2 _ (by omega)).trans (h5 z).2⟩, h6⟩
/-- the reference's way behind the arguments -/
def tR (N : gMem) : Option (Int32 × gMem) := (wF N 0 33 ((N.1 0 33) + (1 : Int32))).bind fun M16 => if (M16.1 0 25) = (3 : Int32) then ((fX11_goesOn M16).bind fun v18 => some ((1 : Int32), v18)) else (fX11_fails (1 : Int32) M16).bind fun v19 => (zv v19.1).bind fun v20 => some (v20, v19.2)
/-- the front of an order -/
def OF (M N : gMem) (B : Nat → Nat) (L j n : Nat) (S : gS) (x y : Option (Int32 × gMem)) : Prop := ∃ M' N', gFr DcO M M' ∧ gFr DrO N N' ∧ ((x = some (nI 0, M') ∧ y = some (nI 0, N') ∧ ∃ c p, 1 ≤ c ∧ c ≤ 9 ∧ p ≤ 900 ∧ EC M' c p ∧ ER N' c p) ∨ (x = some (nI 1, M') ∧ y = tR N' ∧ ∃ i, j < i ∧ SO M' N' B L i n S ∧ n < 30 ∧ OLD M N M' N' n ∧ ORD M' N' (sN S) n))
theorem Drd_DcO {c k : Nat} (z : Drd c k) : DcO c k := by unfold Drd at z; unfold DcO; omega
theorem Drr_DrO {c k : Nat} (z : Drr c k) : DrO c k := by unfold Drr at z; unfold DrO; omega
theorem Dto_DrO {c k : Nat} (z : Dto c k) : DrO c k := by unfold Dto at z; unfold DrO; omega
end OD
