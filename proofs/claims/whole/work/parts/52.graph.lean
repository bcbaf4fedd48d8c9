/-! PURE LAYER: ways in a graph; Warshall's rows; one arrow more, one less -/
def gSt (E : Nat → Nat → Prop) : Nat → Nat → Nat → Prop
  | 0, u, v => u = v
  | k + 1, u, v => ∃ w, E u w ∧ gSt E k w v
/-- u reaches v -/
def gRc (E : Nat → Nat → Prop) (u v : Nat) : Prop := ∃ k, gSt E k u v
section GR
variable {E E' : Nat → Nat → Prop} {u v w a b : Nat}
theorem gRc.rf : gRc E u u := ⟨0, rfl⟩
theorem gRc.cons (h : E u w) (h2 : gRc E w v) : gRc E u v := by obtain ⟨k, hk⟩ := h2; exact ⟨k + 1, w, h, hk⟩
theorem gRc.one (h : E u v) : gRc E u v := gRc.cons h gRc.rf
/-- from the head: what holds of the end and goes back over arrows -/
theorem gRc.ind (P : Nat → Prop) (h0 : P v) (hs : ∀ a b, E a b → gRc E b v → P b → P a) (h : gRc E u v) : P u := by
  obtain ⟨k, hk⟩ := h
  induction k generalizing u with
  | zero => exact hk ▸ h0
  | succ k ih => obtain ⟨w, h1, h2⟩ := hk; exact hs u w h1 ⟨k, h2⟩ (ih h2)
/-- what goes on over arrows -/
theorem gRc.fwd (P : Nat → Prop) (hs : ∀ a b, E a b → P a → P b) (h : gRc E u v) (h0 : P u) : P v :=
  gRc.ind (E := E) (v := v) (fun x => P x → P v) id (fun a b hE _ ih hP => ih (hs a b hE hP)) h h0
theorem gRc.tr (h : gRc E u w) (h2 : gRc E w v) : gRc E u v := gRc.ind (fun x => gRc E x v) h2 (fun _ _ hE _ ih => gRc.cons hE ih) h
theorem gRc.snoc (h : gRc E u w) (h2 : E w v) : gRc E u v := h.tr (gRc.one h2)
theorem gRc.mono (hE : ∀ a b, E a b → E' a b) (h : gRc E u v) : gRc E' u v := gRc.ind (fun x => gRc E' x v) gRc.rf (fun _ _ h1 _ ih => gRc.cons (hE _ _ h1) ih) h
theorem gRc.cong (hE : ∀ a b, E a b ↔ E' a b) : gRc E u v ↔ gRc E' u v := ⟨gRc.mono (fun a b => (hE a b).mp), gRc.mono (fun a b => (hE a b).mpr)⟩
/-- one arrow more -/
theorem gRc.add (hE : ∀ x y, E' x y ↔ E x y ∨ (x = a ∧ y = b)) : gRc E' u v ↔ gRc E u v ∨ (gRc E u a ∧ gRc E b v) := by
  constructor
  · intro h
    refine gRc.ind (fun x => gRc E x v ∨ (gRc E x a ∧ gRc E b v)) (Or.inl gRc.rf) (fun x y h1 _ ih => ?_) h
    rcases (hE x y).mp h1 with h2 | ⟨rfl, rfl⟩
    · exact ih.elim (fun q => Or.inl (gRc.cons h2 q)) (fun q => Or.inr ⟨gRc.cons h2 q.1, q.2⟩)
    · exact ih.elim (fun q => Or.inr ⟨gRc.rf, q⟩) (fun q => Or.inr ⟨gRc.rf, q.2⟩)
  · have hm : ∀ {x y}, gRc E x y → gRc E' x y := fun h => gRc.mono (fun x y h => (hE x y).mpr (Or.inl h)) h
    rintro (h | ⟨h1, h2⟩)
    · exact hm h
    · exact (hm h1).tr (gRc.cons ((hE a b).mpr (Or.inr ⟨rfl, rfl⟩)) (hm h2))
/-- Warshall: one turn, all turns -/
def gWk (k : Nat) (r : Nat → Nat → Prop) (t v : Nat) : Prop := r t v ∨ (r t k ∧ r k v)
def gWa (r : Nat → Nat → Prop) : Nat → Nat → Nat → Prop
  | 0 => r
  | k + 1 => gWk k (gWa r k)
theorem gWk_self {k : Nat} {r : Nat → Nat → Prop} : gWk k r k v ↔ r k v := ⟨fun h => h.elim id (fun q => q.2), Or.inl⟩
theorem gWk_col {k : Nat} {r : Nat → Nat → Prop} : gWk k r u k ↔ r u k := ⟨fun h => h.elim id (fun q => q.1), Or.inl⟩
theorem gWa_mono {r : Nat → Nat → Prop} : ∀ n, r u v → gWa r n u v
  | 0, h => h
  | n + 1, h => Or.inl (gWa_mono n h)
theorem gWa_trans {r : Nat → Nat → Prop} : ∀ (n k t v : Nat), k < n → gWa r n t k → gWa r n k v → gWa r n t v
  | 0, k, _, _, h, _, _ => absurd h (Nat.not_lt_zero k)
  | n + 1, k, t, v, h, h1, h2 => by
    have ih := gWa_trans (r := r) n
    rcases Nat.lt_or_ge k n with q | q
    · rcases h1 with h1 | ⟨h1, h3⟩
      · rcases h2 with h2 | ⟨h2, h4⟩
        · exact Or.inl (ih k t v q h1 h2)
        · exact Or.inr ⟨ih k t n q h1 h2, h4⟩
      · rcases h2 with h2 | ⟨h2, h4⟩
        · exact Or.inr ⟨h1, ih k n v q h3 h2⟩
        · exact Or.inr ⟨h1, h4⟩
    · have e : k = n := by omega
      subst e
      exact Or.inr ⟨gWk_col.mp h1, gWk_self.mp h2⟩
theorem gWa_sound {r : Nat → Nat → Prop} (hr : ∀ t v, r t v → gRc E t v) : ∀ (n t v : Nat), gWa r n t v → gRc E t v
  | 0, t, v, h => hr t v h
  | n + 1, t, v, h => h.elim (gWa_sound hr n t v) (fun q => (gWa_sound hr n t n q.1).tr (gWa_sound hr n n v q.2))
theorem gWa_spec {r : Nat → Nat → Prop} {n : Nat} (hE : ∀ x y, E x y → y < n) (hr : ∀ t v, r t v ↔ t = v ∨ E t v) (t v : Nat) : gWa r n t v ↔ gRc E t v := by
  constructor
  · exact gWa_sound (fun t v h => ((hr t v).mp h).elim (fun e => e ▸ gRc.rf) gRc.one) n t v
  · intro h
    refine gRc.ind (fun x => gWa r n x v) (gWa_mono n ((hr v v).mpr (Or.inl rfl))) (fun x y h1 _ ih => ?_) h
    exact gWa_trans n y x v (hE x y h1) (gWa_mono n ((hr x y).mpr (Or.inr h1))) ih
theorem gRc.lt {n : Nat} (hE : ∀ x y, E x y → y < n) (h : gRc E u v) (hu : u < n) : v < n := gRc.fwd (fun x => x < n) (fun a b h1 _ => hE a b h1) h hu
end GR
