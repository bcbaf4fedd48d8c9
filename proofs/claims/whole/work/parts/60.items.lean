/-! AN ARROW COMES: the repaired part as a row of items (some k: the group at the k-th place of it; none: the joined one) -/
section IT
variable (A B : Nat → Bool) (len : Nat)
def iA (k : Nat) : Bool := A k && !B k
def iB (k : Nat) : Bool := B k && !A k
def iJ (k : Nat) : Bool := A k && B k
def iU (k : Nat) : Bool := A k || B k
def gNth (f : Nat → Bool) (j n : Nat) : Nat := fa_first (fun k => f k && decide (fb_ct f k = j)) n
theorem gNth_ok {f : Nat → Bool} {j n : Nat} (h : j < fb_ct f n) : gNth f j n < n ∧ f (gNth f j n) = true ∧ fb_ct f (gNth f j n) = j := by
  obtain ⟨i, h1, h2, h3⟩ := fb_ct_kth h
  have h4 : gNth f j n < n := by
    refine Classical.byContradiction fun q => ?_
    have := fa_first_no (fun k => f k && decide (fb_ct f k = j)) n i (show i < gNth f j n by omega)
    simp [h2, h3] at this
  have h5 := fa_first_yes (fun k => f k && decide (fb_ct f k = j)) n h4
  rw [Bool.and_eq_true, decide_eq_true_eq] at h5
  exact ⟨h4, h5⟩
theorem gNth_of {f : Nat → Bool} {i n : Nat} (hi : i < n) (h : f i = true) : gNth f (fb_ct f i) n = i := by
  have h1 : fb_ct f i < fb_ct f n := by
    have := fb_ct_mono f (show i + 1 ≤ n from hi)
    rw [fb_ct_succ, h] at this
    simp at this; omega
  obtain ⟨a, b, c⟩ := gNth_ok h1
  exact fb_ct_kth_one b h c
theorem i_sum : ∀ n, fb_ct (iU A B) n = fb_ct (iA A B) n + fb_ct (iB A B) n + fb_ct (iJ A B) n
  | 0 => rfl
  | n + 1 => by
    have ih := i_sum n
    rw [fb_ct_succ, fb_ct_succ, fb_ct_succ, fb_ct_succ, ih]
    unfold iA iB iJ iU
    cases A n <;> cases B n <;> simp <;> omega
def i0 (s : Nat) : Option (Option Nat) :=
  if iU A B s = false then some (some s)
  else if fb_ct (iU A B) s < fb_ct (iA A B) len then some (some (gNth (iA A B) (fb_ct (iU A B) s) len))
  else if fb_ct (iU A B) s = fb_ct (iA A B) len ∧ 0 < fb_ct (iJ A B) len then some none
  else if fb_ct (iU A B) len ≤ fb_ct (iU A B) s + fb_ct (iB A B) len then some (some (gNth (iB A B) (fb_ct (iU A B) s + fb_ct (iB A B) len - fb_ct (iU A B) len) len))
  else none
def iN : List (Option Nat) := if 0 < fb_ct (iJ A B) len then [none] else []
def itL (mode : Nat) : List (Option Nat) :=
  if mode = 0 then (List.range len).filterMap (i0 A B len)
  else if mode = 1 then ((List.range len).filter (fun k => !B k)).map some ++ iN A B len ++ ((List.range len).filter (iB A B)).map some
  else ((List.range len).filter (iA A B)).map some ++ iN A B len ++ ((List.range len).filter (fun k => !A k)).map some
variable {A B len}
theorem iU_step {s s' : Nat} (h : s < s') (hu : iU A B s = true) : fb_ct (iU A B) s < fb_ct (iU A B) s' := by
  have := fb_ct_mono (iU A B) (show s + 1 ≤ s' from h)
  rw [fb_ct_succ, hu] at this
  simp at this; omega
theorem iA_of {k : Nat} (h : iA A B k = true) : A k = true ∧ B k = false := by
  unfold iA at h; simpa using h
theorem iB_of {k : Nat} (h : iB A B k = true) : B k = true ∧ A k = false := by
  unfold iB at h; simpa using h
theorem iU_no {k : Nat} (h : iU A B k = false) : A k = false ∧ B k = false := by
  unfold iU at h; simpa using h
theorem iA_U {k : Nat} (h : iA A B k = true) : iU A B k = true := by unfold iU; rw [(iA_of h).1]; rfl
theorem iB_U {k : Nat} (h : iB A B k = true) : iU A B k = true := by unfold iU; rw [(iB_of h).1]; simp
theorem i0_some {s : Nat} {x : Option Nat} (hs : s < len) (h : i0 A B len s = some x) :
    (iU A B s = false ∧ x = some s) ∨
    (iU A B s = true ∧ ∃ p, x = some p ∧ p < len ∧ iA A B p = true ∧ fb_ct (iA A B) p = fb_ct (iU A B) s ∧ fb_ct (iU A B) s < fb_ct (iA A B) len ∧ s ≤ p) ∨
    (iU A B s = true ∧ x = none ∧ fb_ct (iU A B) s = fb_ct (iA A B) len ∧ 0 < fb_ct (iJ A B) len) ∨
    (iU A B s = true ∧ ∃ p, x = some p ∧ p < len ∧ iB A B p = true ∧ fb_ct (iB A B) p + fb_ct (iU A B) len = fb_ct (iU A B) s + fb_ct (iB A B) len ∧ fb_ct (iA A B) len ≤ fb_ct (iU A B) s ∧ p ≤ s) := by
  have hlen := i_sum A B len
  unfold i0 at h
  split at h
  · rename_i h1; exact Or.inl ⟨h1, (Option.some.inj h).symm⟩
  · rename_i h1
    rw [Bool.not_eq_false] at h1
    have hus := iU_step hs h1
    split at h
    · rename_i h2
      obtain ⟨a1, a2, a3⟩ := gNth_ok h2
      refine Or.inr (Or.inl ⟨h1, _, (Option.some.inj h).symm, a1, a2, a3, h2, ?_⟩)
      refine Classical.byContradiction fun q => ?_
      have hu := iA_U a2
      have := iU_step (show gNth (iA A B) (fb_ct (iU A B) s) len < s by omega) hu
      have := i_sum A B (gNth (iA A B) (fb_ct (iU A B) s) len)
      omega
    · rename_i h2
      split at h
      · rename_i h3; exact Or.inr (Or.inr (Or.inl ⟨h1, (Option.some.inj h).symm, h3⟩))
      · split at h
        · rename_i h3 h4
          have h5 : fb_ct (iU A B) s + fb_ct (iB A B) len - fb_ct (iU A B) len < fb_ct (iB A B) len := by omega
          obtain ⟨a1, a2, a3⟩ := gNth_ok h5
          refine Or.inr (Or.inr (Or.inr ⟨h1, _, (Option.some.inj h).symm, a1, a2, by omega, by omega, ?_⟩))
          generalize gNth (iB A B) (fb_ct (iU A B) s + fb_ct (iB A B) len - fb_ct (iU A B) len) len = p at a1 a2 a3
          refine Classical.byContradiction fun q => ?_
          have h6 := iU_step (show s < p by omega) h1
          have h7 := i_sum A B p
          have h8 := fb_ct_mono (iA A B) (Nat.le_of_lt a1)
          have h9 := fb_ct_mono (iB A B) (Nat.le_of_lt a1)
          have h10 := fb_ct_mono (iJ A B) (Nat.le_of_lt a1)
          omega
        · cases h
theorem rg_pw {R : Nat → Nat → Prop} {n : Nat} (h : ∀ p q, p < q → q < n → R p q) : (List.range n).Pairwise R :=
  List.Pairwise.imp_of_mem (fun {a b} _ hb hab => h a b hab (List.mem_range.mp hb)) List.pairwise_lt_range
theorem mem_iN {x : Option Nat} : x ∈ iN A B len ↔ x = none ∧ 0 < fb_ct (iJ A B) len := by
  unfold iN
  split
  · rename_i h; simp [h]
  · rename_i h; simp [h]
theorem iN_pw {R : Option Nat → Option Nat → Prop} : (iN A B len).Pairwise R := by
  unfold iN; split <;> simp
/-- no arrow leads back -/
theorem itL_pw {ar : Option Nat → Option Nat → Prop} (T : ∀ p q, p < len → q < len → ar (some p) (some q) → p ≤ q ∨ (iA A B p = true ∧ iB A B q = true))
    (C1 : ∀ p q, p < len → q < len → ar (some p) (some q) → B p = true → B q = true) (C2 : ∀ p q, p < len → q < len → ar (some p) (some q) → A q = true → A p = true)
    (C3 : ∀ q, q < len → ar none (some q) → B q = true) (C4 : ∀ p, p < len → ar (some p) none → A p = true) (mode : Nat) : (itL A B len mode).Pairwise (fun x y => ¬ ar y x) := by
  unfold itL
  split
  · rw [List.pairwise_filterMap]
    refine rg_pw fun s s' hss hs' x hx y hy har => ?_
    have hs : s < len := by omega
    rcases i0_some hs hx with ⟨u1, rfl⟩ | ⟨u1, p, rfl, p1, p2, p3, p4, p5⟩ | ⟨u1, rfl, p3, p4⟩ | ⟨u1, p, rfl, p1, p2, p3, p4, p5⟩ <;>
      rcases i0_some hs' hy with ⟨v1, rfl⟩ | ⟨v1, q, rfl, q1, q2, q3, q4, q5⟩ | ⟨v1, rfl, q3, q4⟩ | ⟨v1, q, rfl, q1, q2, q3, q4, q5⟩
    · have := T s' s hs' hs har
      rcases this with h | ⟨h, -⟩
      · omega
      · have := iA_of h; rw [(iU_no v1).1] at this; cases this.1
    · rcases T q s q1 hs har with h | ⟨-, h⟩
      · omega
      · have := iB_of h; rw [(iU_no u1).2] at this; cases this.1
    · have := C3 s hs har; rw [(iU_no u1).2] at this; cases this
    · have := C1 q s q1 hs har (iB_of q2).1; rw [(iU_no u1).2] at this; cases this
    · have := C2 s' p hs' p1 har (iA_of p2).1; rw [(iU_no v1).1] at this; cases this
    · rcases T q p q1 p1 har with h | ⟨-, h⟩
      · have h1 := iU_step hss u1
        have h2 := fb_ct_mono (iA A B) h
        omega
      · have := iB_of h; rw [(iA_of p2).2] at this; cases this.1
    · have := C3 p p1 har; rw [(iA_of p2).2] at this; cases this
    · have := C1 q p q1 p1 har (iB_of q2).1; rw [(iA_of p2).2] at this; cases this
    · have := C4 s' hs' har; rw [(iU_no v1).1] at this; cases this
    · have := iU_step hss u1; omega
    · have := iU_step hss u1; omega
    · have := C4 q q1 har; rw [(iB_of q2).2] at this; cases this
    · rcases T s' p hs' p1 har with h | ⟨h, -⟩
      · omega
      · have := iA_of h; rw [(iU_no v1).1] at this; cases this.1
    · have := iU_step hss u1; omega
    · have := iU_step hss u1; omega
    · rcases T q p q1 p1 har with h | ⟨h, -⟩
      · have h1 := iU_step hss u1
        have h2 := fb_ct_mono (iB A B) h
        omega
      · have := iA_of h; rw [(iB_of q2).2] at this; cases this.1
  · split
    · rw [List.pairwise_append, List.pairwise_append]
      refine ⟨⟨?_, iN_pw, ?_⟩, ?_, ?_⟩
      · rw [List.pairwise_map, List.pairwise_filter]
        refine rg_pw fun p q hpq hq h1 h2 har => ?_
        rcases T q p hq (by omega) har with h | ⟨-, h⟩
        · omega
        · have := iB_of h; rw [this.1] at h1; cases h1
      · intro x hx y hy har
        obtain ⟨p, hp, rfl⟩ := List.mem_map.mp hx
        obtain ⟨hp1, hp2⟩ := List.mem_filter.mp hp
        obtain ⟨rfl, -⟩ := mem_iN.mp hy
        have := C3 p (List.mem_range.mp hp1) har
        rw [this] at hp2; cases hp2
      · rw [List.pairwise_map, List.pairwise_filter]
        refine rg_pw fun p q hpq hq h1 h2 har => ?_
        rcases T q p hq (by omega) har with h | ⟨h, -⟩
        · omega
        · have := iA_of h; rw [(iB_of h2).2] at this; cases this.1
      · intro x hx y hy har
        obtain ⟨q, hq, rfl⟩ := List.mem_map.mp hy
        obtain ⟨hq1, hq2⟩ := List.mem_filter.mp hq
        rcases List.mem_append.mp hx with hx | hx
        · obtain ⟨p, hp, rfl⟩ := List.mem_map.mp hx
          obtain ⟨hp1, hp2⟩ := List.mem_filter.mp hp
          have := C1 q p (List.mem_range.mp hq1) (List.mem_range.mp hp1) har (iB_of hq2).1
          rw [this] at hp2; cases hp2
        · obtain ⟨rfl, -⟩ := mem_iN.mp hx
          have := C4 q (List.mem_range.mp hq1) har
          rw [(iB_of hq2).2] at this; cases this
    · rw [List.pairwise_append, List.pairwise_append]
      refine ⟨⟨?_, iN_pw, ?_⟩, ?_, ?_⟩
      · rw [List.pairwise_map, List.pairwise_filter]
        refine rg_pw fun p q hpq hq h1 h2 har => ?_
        rcases T q p hq (by omega) har with h | ⟨-, h⟩
        · omega
        · have := iB_of h; rw [(iA_of h1).2] at this; cases this.1
      · intro x hx y hy har
        obtain ⟨p, hp, rfl⟩ := List.mem_map.mp hx
        obtain ⟨hp1, hp2⟩ := List.mem_filter.mp hp
        obtain ⟨rfl, -⟩ := mem_iN.mp hy
        have := C3 p (List.mem_range.mp hp1) har
        rw [(iA_of hp2).2] at this; cases this
      · rw [List.pairwise_map, List.pairwise_filter]
        refine rg_pw fun p q hpq hq h1 h2 har => ?_
        rcases T q p hq (by omega) har with h | ⟨h, -⟩
        · omega
        · have := iA_of h; rw [this.1] at h2; cases h2
      · intro x hx y hy har
        obtain ⟨q, hq, rfl⟩ := List.mem_map.mp hy
        obtain ⟨hq1, hq2⟩ := List.mem_filter.mp hq
        rcases List.mem_append.mp hx with hx | hx
        · obtain ⟨p, hp, rfl⟩ := List.mem_map.mp hx
          obtain ⟨hp1, hp2⟩ := List.mem_filter.mp hp
          have := C2 q p (List.mem_range.mp hq1) (List.mem_range.mp hp1) har (iA_of hp2).1
          rw [this] at hq2; cases hq2
        · obtain ⟨rfl, -⟩ := mem_iN.mp hx
          have := C4 q (List.mem_range.mp hq1) har
          rw [this] at hq2; cases hq2
/-- the slots of mode 0 -/
theorem i0_A {p : Nat} (hp : p < len) (h : iA A B p = true) : ∃ s, s < len ∧ i0 A B len s = some (some p) := by
  have h1 : fb_ct (iA A B) p < fb_ct (iA A B) len := by
    have := fb_ct_mono (iA A B) (show p + 1 ≤ len from hp)
    rw [fb_ct_succ, h] at this; simp at this; omega
  have h2 := i_sum A B len
  obtain ⟨s, s1, s2, s3⟩ := fb_ct_kth (p := iU A B) (n := len) (k := fb_ct (iA A B) p) (by omega)
  refine ⟨s, s1, ?_⟩
  unfold i0
  rw [if_neg (by rw [s2]; decide), if_pos (by omega), s3, gNth_of hp h]
theorem i0_B {p : Nat} (hp : p < len) (h : iB A B p = true) : ∃ s, s < len ∧ i0 A B len s = some (some p) := by
  have h1 : fb_ct (iB A B) p < fb_ct (iB A B) len := by
    have := fb_ct_mono (iB A B) (show p + 1 ≤ len from hp)
    rw [fb_ct_succ, h] at this; simp at this; omega
  have h2 := i_sum A B len
  obtain ⟨s, s1, s2, s3⟩ := fb_ct_kth (p := iU A B) (n := len) (k := fb_ct (iU A B) len - fb_ct (iB A B) len + fb_ct (iB A B) p) (by omega)
  refine ⟨s, s1, ?_⟩
  unfold i0
  rw [if_neg (by rw [s2]; decide), if_neg (by omega), if_neg (by omega), if_pos (by omega), s3, show fb_ct (iU A B) len - fb_ct (iB A B) len + fb_ct (iB A B) p + fb_ct (iB A B) len - fb_ct (iU A B) len = fb_ct (iB A B) p by omega, gNth_of hp h]
theorem i0_J (h : 0 < fb_ct (iJ A B) len) : ∃ s, s < len ∧ i0 A B len s = some none := by
  have h2 := i_sum A B len
  obtain ⟨s, s1, s2, s3⟩ := fb_ct_kth (p := iU A B) (n := len) (k := fb_ct (iA A B) len) (by omega)
  refine ⟨s, s1, ?_⟩
  unfold i0
  rw [if_neg (by rw [s2]; decide), if_neg (by omega), if_pos ⟨s3, h⟩]
theorem i_four (k : Nat) : iU A B k = false ∨ iA A B k = true ∨ iB A B k = true ∨ iJ A B k = true := by
  unfold iU iA iB iJ; cases A k <;> cases B k <;> simp
theorem iJ_no {k : Nat} : iJ A B k = false ↔ iU A B k = false ∨ iA A B k = true ∨ iB A B k = true := by
  unfold iU iA iB iJ; cases A k <;> cases B k <;> simp
theorem mem_itL_some {k mode : Nat} : some k ∈ itL A B len mode ↔ k < len ∧ iJ A B k = false := by
  unfold itL
  split
  · rw [List.mem_filterMap]
    constructor
    · intro ⟨s, hs, h⟩
      rcases i0_some (List.mem_range.mp hs) h with ⟨u1, e⟩ | ⟨u1, p, e, p1, p2, -⟩ | ⟨u1, e, -⟩ | ⟨u1, p, e, p1, p2, -⟩
      · cases e; exact ⟨List.mem_range.mp hs, iJ_no.mpr (Or.inl u1)⟩
      · cases e; exact ⟨p1, iJ_no.mpr (Or.inr (Or.inl p2))⟩
      · cases e
      · cases e; exact ⟨p1, iJ_no.mpr (Or.inr (Or.inr p2))⟩
    · intro ⟨h1, h2⟩
      rcases iJ_no.mp h2 with h | h | h
      · exact ⟨k, List.mem_range.mpr h1, by unfold i0; rw [if_pos h]⟩
      · obtain ⟨s, a, b⟩ := i0_A h1 h; exact ⟨s, List.mem_range.mpr a, b⟩
      · obtain ⟨s, a, b⟩ := i0_B h1 h; exact ⟨s, List.mem_range.mpr a, b⟩
  · split
    · rw [List.mem_append, List.mem_append, mem_iN]
      constructor
      · rintro ((h | ⟨h, -⟩) | h)
        · obtain ⟨p, hp, e⟩ := List.mem_map.mp h
          cases e
          obtain ⟨a, b⟩ := List.mem_filter.mp hp
          refine ⟨List.mem_range.mp a, ?_⟩
          unfold iJ; simp at b; simp [b]
        · cases h
        · obtain ⟨p, hp, e⟩ := List.mem_map.mp h
          cases e
          obtain ⟨a, b⟩ := List.mem_filter.mp hp
          exact ⟨List.mem_range.mp a, iJ_no.mpr (Or.inr (Or.inr b))⟩
      · intro ⟨h1, h2⟩
        cases hb : B k
        · exact Or.inl (Or.inl (List.mem_map.mpr ⟨k, List.mem_filter.mpr ⟨List.mem_range.mpr h1, by simp [hb]⟩, rfl⟩))
        · refine Or.inr (List.mem_map.mpr ⟨k, List.mem_filter.mpr ⟨List.mem_range.mpr h1, ?_⟩, rfl⟩)
          unfold iJ at h2; unfold iB; rw [hb] at h2 ⊢; simp at h2; simp [h2]
    · rw [List.mem_append, List.mem_append, mem_iN]
      constructor
      · rintro ((h | ⟨h, -⟩) | h)
        · obtain ⟨p, hp, e⟩ := List.mem_map.mp h
          cases e
          obtain ⟨a, b⟩ := List.mem_filter.mp hp
          exact ⟨List.mem_range.mp a, iJ_no.mpr (Or.inr (Or.inl b))⟩
        · cases h
        · obtain ⟨p, hp, e⟩ := List.mem_map.mp h
          cases e
          obtain ⟨a, b⟩ := List.mem_filter.mp hp
          refine ⟨List.mem_range.mp a, ?_⟩
          unfold iJ; simp at b; simp [b]
      · intro ⟨h1, h2⟩
        cases hb : A k
        · exact Or.inr (List.mem_map.mpr ⟨k, List.mem_filter.mpr ⟨List.mem_range.mpr h1, by simp [hb]⟩, rfl⟩)
        · refine Or.inl (Or.inl (List.mem_map.mpr ⟨k, List.mem_filter.mpr ⟨List.mem_range.mpr h1, ?_⟩, rfl⟩))
          unfold iJ at h2; unfold iA; rw [hb] at h2 ⊢; simp at h2; simp [h2]
theorem mem_itL_none {mode : Nat} : none ∈ itL A B len mode ↔ 0 < fb_ct (iJ A B) len := by
  unfold itL
  split
  · rw [List.mem_filterMap]
    constructor
    · intro ⟨s, hs, h⟩
      rcases i0_some (List.mem_range.mp hs) h with ⟨u1, e⟩ | ⟨u1, p, e, -⟩ | ⟨u1, e, -, h⟩ | ⟨u1, p, e, -⟩
      · cases e
      · cases e
      · exact h
      · cases e
    · intro h; obtain ⟨s, a, b⟩ := i0_J h; exact ⟨s, List.mem_range.mpr a, b⟩
  · split <;> simp [mem_iN]
theorem itL_nd {mode : Nat} : (itL A B len mode).Pairwise (fun x y => x ≠ y) := by
  unfold itL
  split
  · rw [List.pairwise_filterMap]
    refine rg_pw fun s s' hss hs' x hx y hy e => ?_
    have hs : s < len := by omega
    subst e
    rcases i0_some hs hx with ⟨u1, rfl⟩ | ⟨u1, p, rfl, p1, p2, p3, p4, p5⟩ | ⟨u1, rfl, p3, p4⟩ | ⟨u1, p, rfl, p1, p2, p3, p4, p5⟩ <;>
      rcases i0_some hs' hy with ⟨v1, e⟩ | ⟨v1, q, e, q1, q2, q3, q4, q5⟩ | ⟨v1, e, q3, q4⟩ | ⟨v1, q, e, q1, q2, q3, q4, q5⟩ <;> cases e
    · omega
    · rw [iA_U q2] at u1; cases u1
    · rw [iB_U q2] at u1; cases u1
    · rw [iA_U p2] at v1; cases v1
    · have := iU_step hss u1; omega
    · have := (iB_of q2).2; rw [(iA_of p2).1] at this; cases this
    · have := iU_step hss u1; omega
    · rw [iB_U p2] at v1; cases v1
    · have := (iB_of p2).2; rw [(iA_of q2).1] at this; cases this
    · have := iU_step hss u1; omega
  · have hm : ∀ f : Nat → Bool, (((List.range len).filter f).map some).Pairwise (fun x y => x ≠ y) := fun f => by
      rw [List.pairwise_map, List.pairwise_filter]
      exact rg_pw fun p q hpq _ _ _ e => by cases e; omega
    have hx : ∀ (f g : Nat → Bool), (∀ k, f k = true → g k = true → False) → (((List.range len).filter f).map some ++ iN A B len ++ ((List.range len).filter g).map some).Pairwise (fun x y => x ≠ y) := fun f g hfg => by
      rw [List.pairwise_append, List.pairwise_append]
      refine ⟨⟨hm f, iN_pw, ?_⟩, hm g, ?_⟩
      · intro x hx y hy e
        obtain ⟨p, hp, rfl⟩ := List.mem_map.mp hx
        obtain ⟨rfl, -⟩ := mem_iN.mp hy
        cases e
      · intro x hx y hy e
        obtain ⟨q, hq, rfl⟩ := List.mem_map.mp hy
        rcases List.mem_append.mp hx with hx | hx
        · obtain ⟨p, hp, rfl⟩ := List.mem_map.mp hx
          cases e
          exact hfg q (List.mem_filter.mp hp).2 (List.mem_filter.mp hq).2
        · obtain ⟨rfl, -⟩ := mem_iN.mp hx
          cases e
    split
    · exact hx _ _ (fun k h1 h2 => by rw [(iB_of h2).1] at h1; cases h1)
    · exact hx _ _ (fun k h1 h2 => by rw [(iA_of h1).1] at h2; cases h2)
end IT
