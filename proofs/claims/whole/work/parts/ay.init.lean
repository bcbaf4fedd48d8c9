/-! THE BEGINNING: both memories behind the constructors are related -/
def sOne : gS := sNew sNil [97] 1
section INI
variable {M N : gMem}
theorem sOne_ok : sNok [97] := ⟨by decide, by decide, fun c hc => by rw [List.mem_singleton] at hc; omega⟩
theorem i_class (h9 : M.1 1 9 = nI 0) (h10 : M.1 1 10 = nI 0) (h11 : M.1 1 11 = nI 0) (h12 : M.1 1 12 = nI 0) (h13 : M.1 1 13 = nI 0) (ha : ∀ a, a < 9 → M.2.1 10 a = lN 0) : ∃ r, fX2_addTask 1 (97 : Int64) (1 : Int32) M = some r ∧ gFr (Dnw 1) M r ∧ CS r 1 sOne := by
  have hc : CS M 1 sNil := ⟨⟨⟨h9, h10, h11, h12, h13⟩, ha, fun i hi => absurd hi (Nat.not_lt_zero i), fun i hi => absurd hi (Nat.not_lt_zero i), fun i hi => absurd hi (Nat.not_lt_zero i)⟩, sNil_W⟩
  exact cs_addTask (h := 1) hc (by decide) sOne_ok (Nat.not_lt_zero _) (by decide) (by decide)
theorem i_ref (h : ∀ k, k < 374 → N.1 1 k = if k = 0 ∨ k = 2 ∨ k = 158 ∨ k = 160 then nI 1 else if k = 161 then nI 97 else nI 0) : RS N sOne := by
  have hw : sW sOne := sNew_W sNil_W (by decide) sOne_ok (Nat.not_lt_zero _) (by decide) (by decide)
  refine ⟨⟨⟨?_, ?_, ?_, ?_, ?_⟩, fun a ha => ?_, fun p hp => ?_, fun i hi => absurd hi (Nat.not_lt_zero i), fun t ht => ?_⟩, hw⟩
  · rw [h 0 (by decide)]; rfl
  · rw [h 1 (by decide)]; rfl
  · rw [h 2 (by decide)]; rfl
  · rw [h 3 (by decide)]; rfl
  · rw [h 4 (by decide)]; rfl
  · rw [h _ (by omega), if_neg (by omega), if_neg (by omega)]; rfl
  · have hp : p < 1 := hp
    have p0 : p = 0 := by omega
    subst p0
    rw [h _ (by omega)]; rfl
  · have ht : t < 1 := ht
    have t0 : t = 0 := by omega
    subst t0
    refine ⟨by rw [h _ (by omega)]; rfl, by rw [h _ (by omega)]; rfl, by rw [h _ (by omega)]; rfl, fun k hk => ?_⟩
    rw [h _ (by omega)]
    rcases (show k = 0 ∨ k = 1 ∨ k = 2 ∨ k = 3 ∨ k = 4 ∨ k = 5 by omega) with rfl | rfl | rfl | rfl | rfl | rfl <;> rfl
theorem i_ref2 (h0 : ∀ k, k < 374 → N.1 1 k = nI 0) (h12 : N.1 12 0 = nI 97) : ∃ r, fX11_joins (0 : Int32) (1 : Int32) (1 : Int32) N = some (nI 0, r) ∧ gFr (fun c _ => c = 1) N r ∧ RS r sOne := by
  have hr : RS N sNil := ⟨rs_nil h0, sNil_W⟩
  exact rs_joins (B := fun _ => 97) (j := 0) (n := 1) (h := 1) hr (by decide) sOne_ok (Nat.not_lt_zero _) (by decide) (by decide) (by decide) (fun k hk => by
    have k0 : k = 0 := by omega
    subst k0; exact h12)
theorem i_rel (hc : CS M 1 sOne) (hr : RS N sOne) (m5 : M.1 0 5 = nI 0) (m31 : ∀ j, j < 8 → M.2.2 31 j = 57 + 10 * j + 1) (n6 : N.1 0 6 = nI 0) (m3 : M.1 0 3 = nI 0) (n7 : N.1 0 7 = nI 0) (m32 : M.1 32 1 = nI 0) (n21 : N.1 0 21 = nI 0) (e4 : M.1 32 4 = N.1 0 28) (e5 : M.1 32 5 = N.1 0 29) (m34 : M.1 34 1 = nI 0) (n40 : N.1 0 40 = nI 0) : REL 0 M N :=
  ⟨sOne, [], ⟨hc, hr, fun a ha => Nat.le_refl _, by decide⟩, ⟨⟨Nat.zero_le _, m5, id, ⟨fun j hj => ⟨m31 j hj, hj⟩, fun i j _ _ e => e⟩, fun j T z => by cases j <;> cases z⟩, ⟨Nat.zero_le _, n6, fun j T z => by cases j <;> cases z⟩, fun T z => by cases z⟩, Or.inl ⟨m3, n7⟩, ⟨fun _ => 0, 0, ⟨m32, by omega, fun i hi => absurd hi (Nat.not_lt_zero i)⟩, ⟨n21, by omega, fun i hi => absurd hi (Nat.not_lt_zero i)⟩⟩, ⟨e4, e5⟩, ⟨0, by omega, m34, n40, fun k hk => absurd hk (Nat.not_lt_zero k)⟩⟩
end INI
