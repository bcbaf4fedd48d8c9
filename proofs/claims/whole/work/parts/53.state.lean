/-! PURE LAYER: the state that both sides hold: numbers, from, to, place, hours, accounts, names -/
abbrev gS : Type := (Nat → Nat) × (Nat → Nat) × (Nat → Nat) × (Nat → Nat) × (Nat → Nat) × (Nat → Nat) × (Nat → List Nat)
def sN (S : gS) : Nat := S.1 0
def sM (S : gS) : Nat := S.1 1
def sG (S : gS) : Nat := S.1 2
def sMo (S : gS) : Nat := S.1 3
def sJo (S : gS) : Nat := S.1 4
def sFr (S : gS) : Nat → Nat := S.2.1
def sTo (S : gS) : Nat → Nat := S.2.2.1
def sPl (S : gS) : Nat → Nat := S.2.2.2.1
def sHr (S : gS) : Nat → Nat := S.2.2.2.2.1
def sAc (S : gS) : Nat → Nat := S.2.2.2.2.2.1
def sNm (S : gS) : Nat → List Nat := S.2.2.2.2.2.2
def sE (S : gS) (u v : Nat) : Prop := ∃ i, i < sM S ∧ sFr S i = u ∧ sTo S i = v
def sR (S : gS) (u v : Nat) : Prop := gRc (sE S) u v
def sHd (S : gS) (p : Nat) : Nat := fa_first (fun t => decide (sPl S t = p)) (sN S)
def sIn (S : gS) (i : Nat) : Bool := decide (sPl S (sFr S i) = sPl S (sTo S i))
def sNok (l : List Nat) : Prop := 1 ≤ l.length ∧ l.length ≤ 6 ∧ ∀ c, c ∈ l → 97 ≤ c ∧ c ≤ 122
/-- sizes -/
def sW0 (S : gS) : Prop := sN S ≤ 24 ∧ sM S ≤ 60 ∧ sG S ≤ sN S ∧ sMo S ≤ 2 ∧ sJo S ≤ 1
/-- arrows -/
def sW1 (S : gS) : Prop := (∀ i, i < sM S → sFr S i < sN S ∧ sTo S i < sN S ∧ sFr S i ≠ sTo S i) ∧ (∀ i j, i < sM S → j < sM S → sFr S i = sFr S j → sTo S i = sTo S j → i = j)
/-- places -/
def sW2 (S : gS) : Prop := (∀ t, t < sN S → sPl S t < sG S) ∧ (∀ p, p < sG S → ∃ t, t < sN S ∧ sPl S t = p)
/-- the order, the groups -/
def sW3 (S : gS) : Prop := (∀ i, i < sM S → sPl S (sFr S i) ≤ sPl S (sTo S i)) ∧ (∀ t u, t < sN S → u < sN S → sPl S t = sPl S u → sR S t u)
/-- hours, names -/
def sW4 (S : gS) : Prop := (∀ t, t < sN S → 1 ≤ sHr S t ∧ sHr S t ≤ 9) ∧ (∀ t, t < sN S → sNok (sNm S t)) ∧ (∀ t u, t < sN S → u < sN S → sNm S t = sNm S u → t = u)
def sW (S : gS) : Prop := sW0 S ∧ sW1 S ∧ sW2 S ∧ sW3 S ∧ sW4 S
/-- accounts are small -/
def sB (S : gS) (b : Nat) : Prop := ∀ a, a < 9 → sAc S a ≤ b
section ST
variable {S : gS}
theorem sW.p (h : sW S) {t : Nat} (ht : t < sN S) : sPl S t < sG S := h.2.2.1.1 t ht
theorem sHd_ok (h : sW2 S) {p : Nat} (hp : p < sG S) : sHd S p < sN S ∧ sPl S (sHd S p) = p := by
  obtain ⟨t, h1, h2⟩ := h.2 p hp
  have h3 : sHd S p < sN S := by
    refine Classical.byContradiction fun q => ?_
    have := fa_first_no (fun t => decide (sPl S t = p)) (sN S) t (show t < sHd S p by omega)
    simp [h2] at this
  exact ⟨h3, of_decide_eq_true (fa_first_yes (fun t => decide (sPl S t = p)) (sN S) h3)⟩
theorem sHd_le {p t : Nat} (ht : t < sN S) (hp : sPl S t = p) : sHd S p ≤ t := by
  refine Classical.byContradiction fun q => ?_
  have := fa_first_no (fun t => decide (sPl S t = p)) (sN S) t (show t < sHd S p by omega)
  simp [hp] at this
theorem sHd_inj (h : sW2 S) {p q : Nat} (hp : p < sG S) (hq : q < sG S) (e : sHd S p = sHd S q) : p = q := by
  rw [← (sHd_ok h hp).2, ← (sHd_ok h hq).2, e]
/-- the HEAD, told otherwise -/
theorem sHd_of {p t : Nat} (ht : t < sN S) (hp : sPl S t = p) (hl : ∀ u, u < t → sPl S u ≠ p) : sHd S p = t := by
  have h1 := sHd_le ht hp
  have h2 : sPl S (sHd S p) = p := of_decide_eq_true (fa_first_yes (fun t => decide (sPl S t = p)) (sN S) (show sHd S p < sN S by omega))
  rcases Nat.lt_or_ge (sHd S p) t with q | q
  · exact absurd h2 (hl _ q)
  · omega
theorem sE.lt (h : sW1 S) {u v : Nat} (e : sE S u v) : u < sN S ∧ v < sN S := by
  obtain ⟨i, h1, rfl, rfl⟩ := e
  exact ⟨(h.1 i h1).1, (h.1 i h1).2.1⟩
theorem sR.lt (h : sW1 S) {u v : Nat} (hr : sR S u v) (hu : u < sN S) : v < sN S := gRc.lt (fun _ _ e => (sE.lt h e).2) hr hu
theorem sR.lt' (h : sW1 S) {u v : Nat} (hr : sR S u v) (hv : v < sN S) : u < sN S := gRc.ind (fun x => x < sN S) hv (fun _ _ e _ _ => (sE.lt h e).1) hr
theorem sE.pl (h : sW3 S) {u v : Nat} (e : sE S u v) : sPl S u ≤ sPl S v := by
  obtain ⟨i, h1, rfl, rfl⟩ := e
  exact h.1 i h1
theorem sR.pl (h : sW3 S) {u v : Nat} (hr : sR S u v) : sPl S u ≤ sPl S v := gRc.ind (fun x => sPl S x ≤ sPl S v) (Nat.le_refl _) (fun _ _ e _ ih => Nat.le_trans (sE.pl h e) ih) hr
theorem sR.same (h : sW3 S) {u v : Nat} (hu : u < sN S) (hv : v < sN S) : sPl S u = sPl S v ↔ sR S u v ∧ sR S v u :=
  ⟨fun e => ⟨h.2 u v hu hv e, h.2 v u hv hu e.symm⟩, fun q => Nat.le_antisymm (q.1.pl h) (q.2.pl h)⟩
end ST
/-- the reference's row holds the state -/
def RR (w : Nat → Int32) (S : gS) : Prop :=
  (w 0 = nI (sN S) ∧ w 1 = nI (sM S) ∧ w 2 = nI (sG S) ∧ w 3 = nI (sMo S) ∧ w 4 = nI (sJo S)) ∧ (∀ a, a < 9 → w (5 + a) = nI (sAc S a)) ∧ (∀ p, p < sG S → w (14 + p) = nI (sHd S p)) ∧
  (∀ i, i < sM S → w (38 + i) = nI (sFr S i) ∧ w (98 + i) = nI (sTo S i)) ∧
  (∀ t, t < sN S → w (158 + 9 * t) = nI (sHr S t) ∧ w (158 + 9 * t + 1) = nI (sHd S (sPl S t)) ∧ w (158 + 9 * t + 2) = nI (sNm S t).length ∧ ∀ k, k < 6 → w (158 + 9 * t + (3 + k)) = nI ((sNm S t).getD k 0))
/-- a NAME as a number: its first letter lowest -/
def gPk : List Nat → Nat
  | [] => 0
  | c :: l => c + 256 * gPk l
/-- the class's net t holds the state -/
def CR (M : gMem) (t : Nat) (S : gS) : Prop :=
  (M.1 t 9 = nI (sN S) ∧ M.1 t 10 = nI (sM S) ∧ M.1 t 11 = nI (sG S) ∧ M.1 t 12 = nI (sMo S) ∧ M.1 t 13 = nI (sJo S)) ∧ (∀ a, a < 9 → M.2.1 (t + 9) a = lN (sAc S a)) ∧
  (∀ p, p < sG S → ∀ v, v < 32 → (bt (M.1 (t + 7) p) v = true ↔ v < sN S ∧ sPl S v = p)) ∧
  (∀ i, i < sM S → M.1 (t + 3) i = nI (sFr S i) ∧ M.1 (t + 4) i = nI (sTo S i)) ∧
  (∀ u, u < sN S → M.1 (t + 2) u = nI (sHr S u) ∧ M.1 (t + 8) u = nI (sPl S u) ∧ M.2.1 (t + 1) u = lN (gPk (sNm S u)) ∧ (∀ v, v < 32 → (bt (M.1 (t + 5) u) v = true ↔ sE S u v)) ∧ (∀ v, v < 32 → (bt (M.1 (t + 6) u) v = true ↔ sR S u v)))
