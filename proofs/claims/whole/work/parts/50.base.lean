/-! PURE LAYER, base: numbers, bits, loops -/
def fa_first (p : Nat → Bool) : Nat → Nat
  | 0 => 0
  | n + 1 => if fa_first p n < n then fa_first p n else if p n then n else n + 1
theorem fa_first_le (p : Nat → Bool) : ∀ n, fa_first p n ≤ n
  | 0 => Nat.le_refl 0
  | n + 1 => by
    have ih := fa_first_le p n
    unfold fa_first
    split
    · omega
    · split
      · omega
      · omega
theorem fa_first_no (p : Nat → Bool) : ∀ n k, k < fa_first p n → p k = false
  | 0, k, h => absurd h (Nat.not_lt_zero k)
  | n + 1, k, h => by
    have ih := fa_first_no p n
    have hl := fa_first_le p n
    unfold fa_first at h
    split at h
    · exact ih k h
    · rename_i h1
      split at h
      · exact ih k (by omega)
      · rename_i h2
        by_cases e : k = n
        · subst e
          exact Bool.eq_false_iff.mpr h2
        · exact ih k (by omega)
theorem fa_first_yes (p : Nat → Bool) : ∀ n, fa_first p n < n → p (fa_first p n) = true
  | 0, h => absurd h (Nat.not_lt_zero _)
  | n + 1, h => by
    have ih := fa_first_yes p n
    have hl := fa_first_le p n
    unfold fa_first at h ⊢
    split at h
    · rename_i h1
      rw [if_pos h1]
      exact ih h1
    · rename_i h1
      rw [if_neg h1]
      split at h
      · rename_i h2
        rw [if_pos h2]
        exact h2
      · omega
theorem fb_holes : ∀ (m n : Nat) (f : Nat → Nat), (∀ i, i < n → f i < m) → (∀ i j, i < j → j < n → f i ≠ f j) → n ≤ m := by
  intro m
  induction m with
  | zero =>
    intro n f h1 _
    rcases Nat.eq_zero_or_pos n with h | h
    · omega
    · exact absurd (h1 0 h) (Nat.not_lt_zero _)
  | succ m ih =>
    intro n f h1 h2
    by_cases hx : ∃ i, i < n ∧ f i = m
    · obtain ⟨a, ha, hfa⟩ := hx
      have hg := ih (n - 1) (fun i => if i < a then f i else f (i + 1)) (by
        intro i hi
        by_cases q : i < a
        · simp only [if_pos q]
          have b1 := h1 i (by omega)
          have b2 := h2 i a q ha
          omega
        · simp only [if_neg q]
          have b1 := h1 (i + 1) (by omega)
          have b2 := h2 a (i + 1) (by omega) (by omega)
          omega) (by
        intro i j hij hj
        by_cases q : i < a
        · by_cases r : j < a
          · simp only [if_pos q, if_pos r]
            exact h2 i j hij (by omega)
          · simp only [if_pos q, if_neg r]
            exact h2 i (j + 1) (by omega) (by omega)
        · have r : ¬ j < a := by omega
          simp only [if_neg q, if_neg r]
          exact h2 (i + 1) (j + 1) (by omega) (by omega))
      omega
    · have hg := ih n f (fun i hi => by
        have b1 := h1 i hi
        have b2 : f i ≠ m := fun e => hx ⟨i, hi, e⟩
        omega) h2
      omega
/-- two of them in one place -/
theorem fb_twice {m n : Nat} {f : Nat → Nat} (h : ∀ i, i < n → f i < m) (hm : m < n) : ∃ i j, i < j ∧ j < n ∧ f i = f j := by
  refine Classical.byContradiction fun hx => ?_
  have := fb_holes m n f h (fun i j hij hj e => hx ⟨i, j, hij, hj, e⟩)
  omega
/-- as many as places, none twice: each place is taken -/
theorem fb_onto {n : Nat} {f : Nat → Nat} (h : ∀ i, i < n → f i < n) (h2 : ∀ i j, i < j → j < n → f i ≠ f j) {y : Nat} (hy : y < n) : ∃ i, i < n ∧ f i = y := by
  refine Classical.byContradiction fun hx => ?_
  have hne : ∀ i, i < n → f i ≠ y := fun i hi e => hx ⟨i, hi, e⟩
  have := fb_holes (n - 1) n (fun i => if f i < y then f i else f i - 1) (by
    intro i hi
    have b1 := h i hi
    have b2 := hne i hi
    by_cases q : f i < y
    · simp only [if_pos q]; omega
    · simp only [if_neg q]; omega) (by
    intro i j hij hj
    have b1 := hne i (by omega)
    have b2 := hne j hj
    have b3 := h2 i j hij hj
    by_cases q : f i < y
    · by_cases r : f j < y
      · simp only [if_pos q, if_pos r]; exact b3
      · simp only [if_pos q, if_neg r]; omega
    · by_cases r : f j < y
      · simp only [if_neg q, if_pos r]; omega
      · simp only [if_neg q, if_neg r]; omega)
  omega
/-! ===== how many places have a property ===== -/
def fb_ct (p : Nat → Bool) : Nat → Nat
  | 0 => 0
  | n + 1 => fb_ct p n + (if p n then 1 else 0)
theorem fb_ct_succ (p : Nat → Bool) (n : Nat) : fb_ct p (n + 1) = fb_ct p n + (if p n then 1 else 0) := rfl
theorem fb_ct_le (p : Nat → Bool) : ∀ n, fb_ct p n ≤ n
  | 0 => Nat.le_refl _
  | n + 1 => by
    have h := fb_ct_le p n
    rw [fb_ct_succ]
    split <;> omega
theorem fb_ct_step (p : Nat → Bool) (m : Nat) : ∀ n, fb_ct p m ≤ fb_ct p (m + n)
  | 0 => Nat.le_refl _
  | n + 1 => by
    have h := fb_ct_step p m n
    show fb_ct p m ≤ fb_ct p (m + n + 1)
    rw [fb_ct_succ]
    omega
theorem fb_ct_mono (p : Nat → Bool) {m n : Nat} (h : m ≤ n) : fb_ct p m ≤ fb_ct p n := by
  have := fb_ct_step p m (n - m)
  rwa [Nat.add_sub_cancel' h] at this
theorem fb_ct_cong {p q : Nat → Bool} : ∀ {n : Nat}, (∀ k, k < n → p k = q k) → fb_ct p n = fb_ct q n
  | 0, _ => rfl
  | n + 1, h => by
    rw [fb_ct_succ, fb_ct_succ, fb_ct_cong (fun k hk => h k (by omega)), h n (by omega)]
/-- one place changed -/
theorem fb_ct_out (p : Nat → Bool) (b : Bool) {i n : Nat} (h : n ≤ i) : fb_ct (fun k => if k = i then b else p k) n = fb_ct p n :=
  fb_ct_cong fun k hk => if_neg (by omega)
theorem fb_ct_upd (p : Nat → Bool) (b : Bool) {i : Nat} : ∀ {n : Nat}, i < n → fb_ct (fun k => if k = i then b else p k) n + (if p i then 1 else 0) = fb_ct p n + (if b then 1 else 0)
  | 0, h => absurd h (Nat.not_lt_zero i)
  | n + 1, h => by
    rw [fb_ct_succ, fb_ct_succ]
    rcases Nat.lt_or_ge i n with q | q
    · have := fb_ct_upd p b q
      have e : (if n = i then b else p n) = p n := if_neg (by omega)
      rw [e]
      omega
    · have e : i = n := by omega
      subst e
      rw [fb_ct_out p b (Nat.le_refl _)]
      simp only [if_true]
      omega
theorem fb_ct_sub {p q : Nat → Bool} : ∀ {n : Nat}, (∀ k, k < n → p k = true → q k = true) → fb_ct p n ≤ fb_ct q n
  | 0, _ => Nat.le_refl _
  | n + 1, h => by
    have h1 := fb_ct_sub (n := n) (p := p) (q := q) (fun k hk => h k (by omega))
    have h2 := h n (by omega)
    rw [fb_ct_succ, fb_ct_succ]
    cases hp : p n <;> cases hq : q n <;> simp_all <;> omega
theorem fb_ct_or {p q : Nat → Bool} : ∀ {n : Nat}, (∀ k, k < n → ¬ (p k = true ∧ q k = true)) → fb_ct (fun k => p k || q k) n = fb_ct p n + fb_ct q n
  | 0, _ => rfl
  | n + 1, h => by
    have h1 := fb_ct_or (n := n) (p := p) (q := q) (fun k hk => h k (by omega))
    have h2 := h n (by omega)
    rw [fb_ct_succ, fb_ct_succ, fb_ct_succ, h1]
    cases hp : p n <;> cases hq : q n <;> simp_all <;> omega
theorem fb_ct_not (p : Nat → Bool) : ∀ n, fb_ct p n + fb_ct (fun k => !p k) n = n
  | 0 => rfl
  | n + 1 => by
    have h := fb_ct_not p n
    rw [fb_ct_succ, fb_ct_succ]
    cases p n <;> simp <;> omega
theorem fb_ct_split (p : Nat → Bool) (m : Nat) : ∀ n, fb_ct p (m + n) = fb_ct p m + fb_ct (fun k => p (m + k)) n
  | 0 => rfl
  | n + 1 => by
    have h := fb_ct_split p m n
    show fb_ct p (m + n + 1) = _
    rw [fb_ct_succ, fb_ct_succ, h, Nat.add_assoc]
theorem fb_ct_zero {p : Nat → Bool} : ∀ {n : Nat}, fb_ct p n = 0 ↔ ∀ k, k < n → p k = false
  | 0 => ⟨fun _ k hk => absurd hk (Nat.not_lt_zero k), fun _ => rfl⟩
  | n + 1 => by
    have h := fb_ct_zero (p := p) (n := n)
    rw [fb_ct_succ]
    constructor
    · intro e k hk
      have e1 : fb_ct p n = 0 := by omega
      rcases Nat.lt_or_ge k n with q | q
      · exact h.mp e1 k q
      · have ek : k = n := by omega
        subst ek
        cases hp : p k
        · rfl
        · simp [hp] at e
    · intro a
      rw [h.mpr (fun k hk => a k (by omega)), a n (by omega)]
      rfl
theorem fb_ct_pos {p : Nat → Bool} {n : Nat} : 0 < fb_ct p n ↔ ∃ k, k < n ∧ p k = true := by
  constructor
  · intro h
    refine Classical.byContradiction fun hx => ?_
    have := fb_ct_zero.mpr (fun k hk => by
      cases hp : p k
      · rfl
      · exact absurd ⟨k, hk, hp⟩ hx : ∀ k, k < n → p k = false)
    omega
  · rintro ⟨k, hk, hp⟩
    rcases Nat.eq_zero_or_pos (fb_ct p n) with e | e
    · have := fb_ct_zero.mp e k hk
      rw [this] at hp
      cases hp
    · exact e
theorem fb_ct_all {p : Nat → Bool} {n : Nat} : fb_ct p n = n ↔ ∀ k, k < n → p k = true := by
  have h := fb_ct_not p n
  constructor
  · intro e k hk
    have z : fb_ct (fun k => !p k) n = 0 := by omega
    have := fb_ct_zero.mp z k hk
    cases hp : p k
    · simp [hp] at this
    · rfl
  · intro a
    have z : fb_ct (fun k => !p k) n = 0 := fb_ct_zero.mpr (fun k hk => by simp [a k hk])
    omega
/-- the k-th place with the property -/
theorem fb_ct_kth {p : Nat → Bool} {k : Nat} : ∀ {n : Nat}, k < fb_ct p n → ∃ i, i < n ∧ p i = true ∧ fb_ct p i = k
  | 0, h => absurd h (Nat.not_lt_zero k)
  | n + 1, h => by
    rcases Nat.lt_or_ge k (fb_ct p n) with q | q
    · obtain ⟨i, h1, h2⟩ := fb_ct_kth q
      exact ⟨i, by omega, h2⟩
    · rw [fb_ct_succ] at h
      cases hp : p n
      · simp [hp] at h; omega
      · simp [hp] at h
        exact ⟨n, by omega, hp, by omega⟩
theorem fb_ct_kth_one {p : Nat → Bool} {i j : Nat} (hi : p i = true) (hj : p j = true) (e : fb_ct p i = fb_ct p j) : i = j := by
  have key : ∀ a b : Nat, a < b → p a = true → fb_ct p a < fb_ct p b := by
    intro a b hab ha
    have h := fb_ct_mono p (show a + 1 ≤ b from hab)
    rw [fb_ct_succ, ha] at h
    simp at h
    omega
  rcases Nat.lt_trichotomy i j with q | q | q
  · have := key i j q hi; omega
  · exact q
  · have := key j i q hj; omega
/-! ===== sums over a range: one place changed, parts, bounds ===== -/
def fb_sm (f : Nat → Nat) : Nat → Nat
  | 0 => 0
  | n + 1 => fb_sm f n + f n
theorem fb_sm_succ (f : Nat → Nat) (n : Nat) : fb_sm f (n + 1) = fb_sm f n + f n := rfl
theorem fb_sm_cong {f g : Nat → Nat} : ∀ {n : Nat}, (∀ k, k < n → f k = g k) → fb_sm f n = fb_sm g n
  | 0, _ => rfl
  | n + 1, h => by rw [fb_sm_succ, fb_sm_succ, fb_sm_cong (fun k hk => h k (by omega)), h n (by omega)]
theorem fb_sm_out (f : Nat → Nat) (v : Nat) {i n : Nat} (h : n ≤ i) : fb_sm (fun k => if k = i then v else f k) n = fb_sm f n :=
  fb_sm_cong fun k hk => if_neg (by omega)
theorem fb_sm_upd (f : Nat → Nat) (v : Nat) {i : Nat} : ∀ {n : Nat}, i < n → fb_sm (fun k => if k = i then v else f k) n + f i = fb_sm f n + v
  | 0, h => absurd h (Nat.not_lt_zero i)
  | n + 1, h => by
    rw [fb_sm_succ, fb_sm_succ]
    rcases Nat.lt_or_ge i n with q | q
    · have := fb_sm_upd f v q
      have e : (if n = i then v else f n) = f n := if_neg (by omega)
      rw [e]
      omega
    · have e : i = n := by omega
      subst e
      rw [fb_sm_out f v (Nat.le_refl _)]
      simp only [if_true]
      omega
theorem fb_sm_add (f g : Nat → Nat) : ∀ n, fb_sm (fun k => f k + g k) n = fb_sm f n + fb_sm g n
  | 0 => rfl
  | n + 1 => by
    have h := fb_sm_add f g n
    rw [fb_sm_succ, fb_sm_succ, fb_sm_succ, h]
    omega
theorem fb_sm_le {f g : Nat → Nat} : ∀ {n : Nat}, (∀ k, k < n → f k ≤ g k) → fb_sm f n ≤ fb_sm g n
  | 0, _ => Nat.le_refl _
  | n + 1, h => by
    have h1 := fb_sm_le (n := n) (f := f) (g := g) (fun k hk => h k (by omega))
    have h2 := h n (by omega)
    rw [fb_sm_succ, fb_sm_succ]
    omega
theorem fb_sm_const (c : Nat) : ∀ n, fb_sm (fun _ => c) n = n * c
  | 0 => by rw [Nat.zero_mul]; rfl
  | n + 1 => by rw [fb_sm_succ, fb_sm_const c n, Nat.succ_mul]
theorem fb_sm_bound {f : Nat → Nat} {c n : Nat} (h : ∀ k, k < n → f k ≤ c) : fb_sm f n ≤ n * c := by
  rw [← fb_sm_const c n]
  exact fb_sm_le h
theorem fb_sm_mono (f : Nat → Nat) (m : Nat) : ∀ n, fb_sm f m ≤ fb_sm f (m + n)
  | 0 => Nat.le_refl _
  | n + 1 => by
    have h := fb_sm_mono f m n
    show fb_sm f m ≤ fb_sm f (m + n + 1)
    rw [fb_sm_succ]
    omega
theorem fb_sm_part (f : Nat → Nat) {i n : Nat} (h : i < n) : fb_sm f i + f i ≤ fb_sm f n := by
  have := fb_sm_mono f (i + 1) (n - (i + 1))
  rw [fb_sm_succ, show i + 1 + (n - (i + 1)) = n by omega] at this
  exact this
theorem fb_sm_split (f : Nat → Nat) (m : Nat) : ∀ n, fb_sm f (m + n) = fb_sm f m + fb_sm (fun k => f (m + k)) n
  | 0 => rfl
  | n + 1 => by
    have h := fb_sm_split f m n
    show fb_sm f (m + n + 1) = _
    rw [fb_sm_succ, fb_sm_succ, h, Nat.add_assoc]
theorem fb_sm_zero {f : Nat → Nat} {n : Nat} (h : fb_sm f n = 0) : ∀ k, k < n → f k = 0 := fun k hk => by
  have := fb_sm_part f hk
  omega
def bt (x : Int32) (i : Nat) : Bool := x.toBitVec.getLsbD i
theorem b_ext {x y : Int32} (h : ∀ i, i < 32 → bt x i = bt y i) : x = y := Int32.toBitVec_inj.mp (BitVec.eq_of_getLsbD_eq (fun i hi => h i hi))
theorem b_or (x y : Int32) (i : Nat) : bt (x ||| y) i = (bt x i || bt y i) := by unfold bt; rw [Int32.toBitVec_or, BitVec.getLsbD_or]
theorem b_and (x y : Int32) (i : Nat) : bt (x &&& y) i = (bt x i && bt y i) := by unfold bt; rw [Int32.toBitVec_and, BitVec.getLsbD_and]
theorem b_xor (x y : Int32) (i : Nat) : bt (x ^^^ y) i = (bt x i ^^ bt y i) := by unfold bt; rw [Int32.toBitVec_xor, BitVec.getLsbD_xor]
theorem b_big {x : Int32} {i : Nat} (h : 32 ≤ i) : bt x i = false := BitVec.getLsbD_of_ge _ _ h
theorem b_m1 : ∀ i, i < 32 → bt (-1) i = true := by decide +kernel
theorem b_0 (i : Nat) : bt 0 i = false := BitVec.getLsbD_zero
theorem s_l : ∀ n, n < 32 → ((nI n &&& 31).toBitVec.smod 32).toNat = n := by decide +kernel
theorem s_u : ∀ n, n < 32 → (((nI n).toUInt32 &&& Int32.toUInt32 31).toBitVec % 32).toNat = n := by decide +kernel
theorem fa_and (a b : Nat) : nI a &&& nI b = nI (a &&& b) := by
  apply Int32.toBitVec_inj.1
  show BitVec.ofNat 32 a &&& BitVec.ofNat 32 b = BitVec.ofNat 32 (a &&& b)
  apply BitVec.eq_of_getLsbD_eq
  intro i hi
  simp [hi]
theorem fa_or (a b : Nat) : nI a ||| nI b = nI (a ||| b) := by
  apply Int32.toBitVec_inj.1
  show BitVec.ofNat 32 a ||| BitVec.ofNat 32 b = BitVec.ofNat 32 (a ||| b)
  apply BitVec.eq_of_getLsbD_eq
  intro i hi
  simp [hi]
theorem p_xor (a b : Nat) : nI a ^^^ nI b = nI (a ^^^ b) := by
  apply Int32.toBitVec_inj.1
  show BitVec.ofNat 32 a ^^^ BitVec.ofNat 32 b = BitVec.ofNat 32 (a ^^^ b)
  apply BitVec.eq_of_getLsbD_eq
  intro i hi
  simp [hi]
/-- a negative number, a truth value, a bit -/
def mO (k : Nat) : Int32 := -(nI k)
def ib (b : Bool) : Int32 := if b = true then nI 1 else nI 0
def sb (k : Nat) : Int32 := (1 : Int32) <<< (nI k &&& 31)
theorem p_bnd {α β : Type} (a : α) (f : α → Option β) : (some a).bind f = f a := rfl
theorem p_nm {α : Type} (x : α) : nm x = some x := rfl
theorem p_gSEl {α β γ : Type} (a : α) (f : α → γ) (g : β → γ) : gSE (.inl a) f g = f a := rfl
theorem p_gSEr {α β γ : Type} (b : β) (f : α → γ) (g : β → γ) : gSE (.inr b) f g = g b := rfl
theorem p_l0 : (0 : Int32) = nI 0 := rfl
theorem p_l1 : (1 : Int32) = nI 1 := rfl
theorem p_l2 : (2 : Int32) = nI 2 := rfl
theorem p_l3 : (3 : Int32) = nI 3 := rfl
theorem p_l4 : (4 : Int32) = nI 4 := rfl
theorem p_l5 : (5 : Int32) = nI 5 := rfl
theorem p_l6 : (6 : Int32) = nI 6 := rfl
theorem p_l7 : (7 : Int32) = nI 7 := rfl
theorem p_l8 : (8 : Int32) = nI 8 := rfl
theorem p_l9 : (9 : Int32) = nI 9 := rfl
theorem p_l10 : (10 : Int32) = nI 10 := rfl
theorem p_l14 : (14 : Int32) = nI 14 := rfl
theorem p_l16 : (16 : Int32) = nI 16 := rfl
theorem p_l20 : (20 : Int32) = nI 20 := rfl
theorem p_l22 : (22 : Int32) = nI 22 := rfl
theorem p_l24 : (24 : Int32) = nI 24 := rfl
theorem p_l30 : (30 : Int32) = nI 30 := rfl
theorem p_l31 : (31 : Int32) = nI 31 := rfl
theorem p_l32 : (32 : Int32) = nI 32 := rfl
theorem p_l38 : (38 : Int32) = nI 38 := rfl
theorem p_l40 : (40 : Int32) = nI 40 := rfl
theorem p_l41 : (41 : Int32) = nI 41 := rfl
theorem p_l43 : (43 : Int32) = nI 43 := rfl
theorem p_l48 : (48 : Int32) = nI 48 := rfl
theorem p_l57 : (57 : Int32) = nI 57 := rfl
theorem p_l59 : (59 : Int32) = nI 59 := rfl
theorem p_l60 : (60 : Int32) = nI 60 := rfl
theorem p_l61 : (61 : Int32) = nI 61 := rfl
theorem p_l62 : (62 : Int32) = nI 62 := rfl
theorem p_l63 : (63 : Int32) = nI 63 := rfl
theorem p_l97 : (97 : Int32) = nI 97 := rfl
theorem p_l98 : (98 : Int32) = nI 98 := rfl
theorem p_l101 : (101 : Int32) = nI 101 := rfl
theorem p_l122 : (122 : Int32) = nI 122 := rfl
theorem p_l158 : (158 : Int32) = nI 158 := rfl
theorem p_l201 : (201 : Int32) = nI 201 := rfl
theorem p_l255 : (255 : Int32) = nI 255 := rfl
theorem p_l256 : (256 : Int32) = nI 256 := rfl
theorem p_l374 : (374 : Int32) = nI 374 := rfl
theorem p_l880 : (880 : Int32) = nI 880 := rfl
theorem p_l900 : (900 : Int32) = nI 900 := rfl
theorem p_l1000 : (1000 : Int32) = nI 1000 := rfl
theorem p_l2618 : (2618 : Int32) = nI 2618 := rfl
theorem p_neg (k : Nat) : -(nI k) = mO k := rfl
theorem p_mul (a b : Nat) : nI a * nI b = nI (a * b) := (Int32.ofNat_mul a b).symm
theorem p_sub {a b : Nat} (h : b ≤ a) : nI a - nI b = nI (a - b) := by
  have e : nI a = nI (a - b) + nI b := by rw [nI_add, Nat.sub_add_cancel h]
  rw [e, Int32.add_sub_cancel]
theorem p_addm {a b : Nat} (h : b ≤ a) : nI a + mO b = nI (a - b) := by
  rw [← p_sub h]; unfold mO; rw [Int32.sub_eq_add_neg]
theorem p_subm {a b : Nat} (h : a < b) : nI a - nI b = mO (b - a) := by
  unfold mO
  rw [← p_sub (Nat.le_of_lt h), Int32.neg_sub]
theorem p_addm0 {a b : Nat} (h : a < b) : nI a + mO b = mO (b - a) := by
  rw [← p_subm h]; unfold mO; rw [Int32.sub_eq_add_neg]
theorem p_mOI {a : Nat} (h : a < 2147483648) : (mO a).toInt = -(a : Int) := by
  unfold mO
  rw [Int32.toInt_neg, nI_toInt (by omega)]
  exact Int.bmod_eq_of_le (by omega) (by omega)
theorem p_eq {a b : Nat} (ha : a < 2147483648) (hb : b < 2147483648) : (nI a = nI b) = (a = b) := propext (nI_eq (by omega) (by omega))
theorem p_le {a b : Nat} (ha : a < 2147483648) (hb : b < 2147483648) : (nI a ≤ nI b) = (a ≤ b) := propext (nI_leI (by omega) (by omega))
theorem p_lt {a b : Nat} (ha : a < 2147483648) (hb : b < 2147483648) : (nI a < nI b) = (a < b) := propext (nI_ltI (by omega) (by omega))
theorem p_mO_eq {a b : Nat} (h0 : 0 < a) (ha : a < 2147483648) (hb : b < 2147483648) : (mO a = nI b) = False := by
  refine eq_false fun e => ?_
  have := congrArg Int32.toInt e
  rw [p_mOI ha, nI_toInt (by omega)] at this
  omega
theorem p_eq_mO {a b : Nat} (h0 : 0 < a) (ha : a < 2147483648) (hb : b < 2147483648) : (nI b = mO a) = False := by
  refine eq_false fun e => ?_
  have := congrArg Int32.toInt e
  rw [p_mOI ha, nI_toInt (by omega)] at this
  omega
theorem p_mO_lt {a b : Nat} (h0 : 0 < a) (ha : a < 2147483648) (hb : b < 2147483648) : (mO a < nI b) = True := by
  refine eq_true ?_
  rw [Int32.lt_iff_toInt_lt, p_mOI ha, nI_toInt (by omega)]; omega
theorem p_nlt_mO {a b : Nat} (h0 : 0 < a) (ha : a < 2147483648) (hb : b < 2147483648) : (nI b < mO a) = False := by
  refine eq_false ?_
  rw [Int32.lt_iff_toInt_lt, p_mOI ha, nI_toInt (by omega)]; omega
theorem p_mO_le {a b : Nat} (h0 : 0 < a) (ha : a < 2147483648) (hb : b < 2147483648) : (mO a ≤ nI b) = True := by
  refine eq_true ?_
  rw [Int32.le_iff_toInt_le, p_mOI ha, nI_toInt (by omega)]; omega
theorem p_le_mO {a b : Nat} (h0 : 0 < a) (ha : a < 2147483648) (hb : b < 2147483648) : (nI b ≤ mO a) = False := by
  refine eq_false ?_
  rw [Int32.le_iff_toInt_le, p_mOI ha, nI_toInt (by omega)]; omega
theorem p_mO_inj {a b : Nat} (ha : a < 2147483648) (hb : b < 2147483648) : (mO a = mO b) = (a = b) := by
  refine propext ⟨fun e => ?_, fun e => e ▸ rfl⟩
  have := congrArg Int32.toInt e
  rw [p_mOI ha, p_mOI hb] at this
  omega
/-- memory -/
theorem p_gIn {k n : Nat} (h : k < n) (hn : n ≤ 4096) : gIn (nI k) n = true := by
  unfold gIn
  rw [Bool.and_eq_true, decide_eq_true_eq, decide_eq_true_eq, nI_clamp (by omega)]
  exact ⟨by rw [Int32.le_iff_toInt_le, nI_toInt (by omega)]; show (0 : Int) ≤ _; omega, h⟩
theorem p_rI {M : gMem} {c n k : Nat} (h : k < n) (hn : n ≤ 4096) : rI M c n (nI k) = some (M.1 c k) := by
  unfold rI; rw [if_pos (p_gIn h hn), nI_clamp (by omega)]
theorem p_rL {M : gMem} {c n k : Nat} (h : k < n) (hn : n ≤ 4096) : rL M c n (nI k) = some (M.2.1 c k) := by
  unfold rL; rw [if_pos (p_gIn h hn), nI_clamp (by omega)]
theorem p_wI {M : gMem} {c n k : Nat} {x : Int32} (h : k < n) (hn : n ≤ 4096) : wI M c n (nI k) x = some (gI M c k x) := by
  unfold wI; rw [if_pos (p_gIn h hn), nI_clamp (by omega)]
theorem p_wL {M : gMem} {c n k : Nat} {x : Int64} (h : k < n) (hn : n ≤ 4096) : wL M c n (nI k) x = some (gL M c k x) := by
  unfold wL; rw [if_pos (p_gIn h hn), nI_clamp (by omega)]
theorem p_wF {M : gMem} {c f : Nat} {x : Int32} : wF M c f x = some (gI M c f x) := rfl
theorem p_gI (M : gMem) (c k : Nat) (x : Int32) (d j : Nat) : (gI M c k x).1 d j = if d = c ∧ j = k then x else M.1 d j := by
  by_cases h : d = c
  · subst h
    rw [gI_self]
    unfold upd
    by_cases h2 : j = k <;> simp [h2]
  · rw [if_neg (fun z => h z.1)]
    show (if d = c then upd (M.1 c) k x else M.1 d) j = _
    rw [if_neg h]
theorem p_gI_o {M : gMem} {c k : Nat} {x : Int32} {d : Nat} (h : d ≠ c) : (gI M c k x).1 d = M.1 d := if_neg h
theorem p_gI_s (M : gMem) (c k : Nat) (x : Int32) : (gI M c k x).1 c k = x := by rw [p_gI]; exact if_pos ⟨rfl, rfl⟩
theorem p_gI_n {M : gMem} {c k : Nat} {x : Int32} {d j : Nat} (h : d ≠ c ∨ j ≠ k) : (gI M c k x).1 d j = M.1 d j := by
  rw [p_gI]; exact if_neg (fun z => h.elim (fun q => q z.1) (fun q => q z.2))
theorem p_gI_L (M : gMem) (c k : Nat) (x : Int32) : (gI M c k x).2 = M.2 := rfl
theorem p_gL (M : gMem) (c k : Nat) (x : Int64) (d j : Nat) : (gL M c k x).2.1 d j = if d = c ∧ j = k then x else M.2.1 d j := by
  by_cases h : d = c
  · subst h
    rw [gL_self]
    unfold vp_updL
    by_cases h2 : j = k <;> simp [h2]
  · rw [if_neg (fun z => h z.1)]
    show (if d = c then vp_updL (M.2.1 c) k x else M.2.1 d) j = _
    rw [if_neg h]
theorem p_gL_1 (M : gMem) (c k : Nat) (x : Int64) : (gL M c k x).1 = M.1 := rfl
theorem p_gL_3 (M : gMem) (c k : Nat) (x : Int64) : (gL M c k x).2.2 = M.2.2 := rfl
/-- what may have changed -/
def gFr (D : Nat → Nat → Prop) (M M' : gMem) : Prop := ∀ c k, ¬ D c k → M'.1 c k = M.1 c k ∧ M'.2.1 c k = M.2.1 c k ∧ M'.2.2 c k = M.2.2 c k
theorem gFr_rf {D : Nat → Nat → Prop} {M : gMem} : gFr D M M := fun _ _ _ => ⟨rfl, rfl, rfl⟩
theorem gFr_tr {D : Nat → Nat → Prop} {M M1 M2 : gMem} (h : gFr D M M1) (h2 : gFr D M1 M2) : gFr D M M2 := fun c k d => ⟨((h2 c k d).1).trans (h c k d).1, ((h2 c k d).2.1).trans (h c k d).2.1, ((h2 c k d).2.2).trans (h c k d).2.2⟩
theorem gFr_mo {D D' : Nat → Nat → Prop} {M M' : gMem} (h : gFr D M M') (hd : ∀ c k, D c k → D' c k) : gFr D' M M' := fun c k d => h c k (fun z => d (hd c k z))
theorem gFr_I {D : Nat → Nat → Prop} {M : gMem} {c k : Nat} {x : Int32} (h : D c k) : gFr D M (gI M c k x) := fun d j hd => ⟨by
  rw [p_gI]; exact if_neg (fun z => hd (by rw [z.1, z.2]; exact h)), rfl, rfl⟩
theorem gFr_L {D : Nat → Nat → Prop} {M : gMem} {c k : Nat} {x : Int64} (h : D c k) : gFr D M (gL M c k x) := fun d j hd => ⟨rfl, by
  rw [p_gL]; exact if_neg (fun z => hd (by rw [z.1, z.2]; exact h)), rfl⟩
theorem gFr_trI {D : Nat → Nat → Prop} {M M1 : gMem} {c k : Nat} {x : Int32} (h0 : gFr D M M1) (h : D c k) : gFr D M (gI M1 c k x) := gFr_tr h0 (gFr_I h)
theorem gFr_trL {D : Nat → Nat → Prop} {M M1 : gMem} {c k : Nat} {x : Int64} (h0 : gFr D M M1) (h : D c k) : gFr D M (gL M1 c k x) := gFr_tr h0 (gFr_L h)
theorem gFr_c1 {D : Nat → Nat → Prop} {M M' : gMem} (h : gFr D M M') {c : Nat} (hc : ∀ k, ¬ D c k) : M'.1 c = M.1 c := funext fun k => (h c k (hc k)).1
theorem gFr_c2 {D : Nat → Nat → Prop} {M M' : gMem} (h : gFr D M M') {c : Nat} (hc : ∀ k, ¬ D c k) : M'.2.1 c = M.2.1 c := funext fun k => (h c k (hc k)).2.1
theorem gFr_c3 {D : Nat → Nat → Prop} {M M' : gMem} (h : gFr D M M') {c : Nat} (hc : ∀ k, ¬ D c k) : M'.2.2 c = M.2.2 c := funext fun k => (h c k (hc k)).2.2
/-- bits -/
theorem p_btN {n k : Nat} (hk : k < 32) : bt (nI n) k = n.testBit k := by
  show (BitVec.ofNat 32 n).getLsbD k = _
  rw [BitVec.getLsbD_ofNat]
  simp [hk]
theorem p_not (x : Int32) {k : Nat} (hk : k < 32) : bt (x ^^^ mO 1) k = !bt x k := by
  show bt (x ^^^ (-1)) k = _
  rw [b_xor, b_m1 k hk]; simp
theorem p_sb {j k : Nat} (hk : k < 32) : bt (sb k) j = decide (j = k) := by
  unfold sb
  rcases Nat.lt_or_ge j 32 with hj | hj
  · exact (by decide +kernel : ∀ k, k < 32 → ∀ j, j < 32 → bt ((1 : Int32) <<< (nI k &&& 31)) j = decide (j = k)) k hk j hj
  · rw [b_big hj, decide_eq_false (by omega)]
theorem p_shl1 (k : Nat) : nI 1 <<< (nI k &&& nI 31) = sb k := rfl
theorem p_bt0 (k : Nat) : bt (nI 0) k = false := BitVec.getLsbD_zero
theorem p_z {x : Int32} : x = nI 0 ↔ ∀ k, k < 32 → bt x k = false :=
  ⟨fun h k _ => h ▸ p_bt0 k, fun h => b_ext (fun k hk => (h k hk).trans (p_bt0 k).symm)⟩
theorem p_nz {x : Int32} : ¬ x = nI 0 ↔ ∃ k, k < 32 ∧ bt x k = true := by
  rw [p_z]
  constructor
  · intro h
    refine Classical.byContradiction fun q => h fun k hk => ?_
    cases hb : bt x k
    · rfl
    · exact absurd ⟨k, hk, hb⟩ q
  · intro ⟨k, hk, hb⟩ h
    rw [h k hk] at hb; cases hb
theorem p_hasB (x : Int32) {k : Nat} (hk : k < 32) : ((x >>> (nI k &&& 31)) &&& (1 : Int32)) = (1 : Int32) ↔ bt x k = true := by
  have h0 : bt (x >>> (nI k &&& 31)) 0 = bt x k := by
    unfold bt
    rw [Int32.toBitVec_shiftRight]
    show (x.toBitVec.sshiftRight ((nI k &&& 31).toBitVec.smod 32).toNat).getLsbD 0 = _
    rw [s_l k hk, BitVec.getLsbD_sshiftRight]
    simp [hk]
  have h1 : ∀ j, j < 32 → bt (1 : Int32) j = decide (j = 0) := by decide +kernel
  constructor
  · intro h
    have := congrArg (fun y => bt y 0) h
    simp only [b_and, h0, h1 0 (by omega)] at this
    simpa using this
  · intro h
    refine b_ext fun j hj => ?_
    rw [b_and, h1 j hj]
    by_cases e : j = 0
    · subst e; rw [h0, h]; rfl
    · simp [e]
theorem p_has10 {x : Int32} {k : Nat} (hk : k < 32) : fX10_has x (nI k) = some (ib (bt x k)) := by
  unfold fX10_has ib
  by_cases h : bt x k = true
  · rw [if_pos ((p_hasB x hk).mpr h), if_pos h]; rfl
  · rw [if_neg (fun z => h ((p_hasB x hk).mp z)), if_neg h]; rfl
theorem p_has11 {x : Int32} {k : Nat} (hk : k < 32) : fX11_has x (nI k) = some (ib (bt x k)) := by
  unfold fX11_has ib
  by_cases h : bt x k = true
  · rw [if_pos ((p_hasB x hk).mpr h), if_pos h]; rfl
  · rw [if_neg (fun z => h ((p_hasB x hk).mp z)), if_neg h]; rfl
theorem p_ib0 (b : Bool) : (ib b = nI 0) = (b = false) := by cases b <;> simp [ib, nI]
theorem p_ib1 (b : Bool) : (ib b = nI 1) = (b = true) := by cases b <;> simp [ib, nI]
theorem p_ibd (c : Prop) [Decidable c] : (if c then nI 1 else nI 0) = ib (decide c) := by
  by_cases h : c <;> simp [h, ib]
theorem p_ibn (c : Prop) [Decidable c] : (if c then nI 0 else nI 1) = ib (!decide c) := by
  by_cases h : c <;> simp [h, ib]
theorem p_ib_inj (a b : Bool) : (ib a = ib b) = (a = b) := by cases a <;> cases b <;> simp [ib, nI]
theorem p_zv0 : zv (nI 0) = some (nI 0) := rfl
theorem p_zv1 : zv (nI 1) = some (nI 1) := rfl
theorem p_zvib (b : Bool) : zv (ib b) = some (ib b) := by cases b <;> rfl
/-- loops -/
theorem gLoop_f {σ ρ : Type} {body : σ → Option (σ ⊕ ρ)} (f : Nat → σ) {r : ρ} : ∀ (N fuel : Nat), N < fuel → (∀ k, k < N → body (f k) = some (.inl (f (k + 1)))) → body (f N) = some (.inr r) → gLoop body fuel (f 0) = some r := by
  have key : ∀ (d k N fuel : Nat), N = k + d → d < fuel → (∀ k, k < N → body (f k) = some (.inl (f (k + 1)))) → body (f N) = some (.inr r) → gLoop body fuel (f k) = some r := by
    intro d
    induction d with
    | zero =>
      intro k N fuel e hf _ he
      have e2 : N = k := by omega
      rw [e2] at he
      cases fuel with
      | zero => omega
      | succ q => show (body (f k)).bind _ = _; rw [he]; rfl
    | succ d ih =>
      intro k N fuel e hf hs he
      cases fuel with
      | zero => omega
      | succ q => show (body (f k)).bind _ = _; rw [hs k (by omega)]; exact ih (k + 1) N q (by omega) (by omega) hs he
  intro N fuel h1 h2 h3
  exact key N 0 N fuel (by omega) h1 h2 h3
/-- by an invariant: I k s, at most N turns -/
theorem gLoop_i {σ ρ : Type} {body : σ → Option (σ ⊕ ρ)} (I : Nat → σ → Prop) (Q : ρ → Prop) (N : Nat) {fuel : Nat} {s : σ} (h0 : I 0 s) (hN : N < fuel)
    (hs : ∀ k s, k ≤ N → I k s → (∃ s', body s = some (.inl s') ∧ k < N ∧ I (k + 1) s') ∨ (∃ r, body s = some (.inr r) ∧ Q r)) : ∃ r, gLoop body fuel s = some r ∧ Q r := by
  have key : ∀ (d k fuel : Nat) (s : σ), N = k + d → d < fuel → I k s → ∃ r, gLoop body fuel s = some r ∧ Q r := by
    intro d
    induction d with
    | zero =>
      intro k fuel s e hf hI
      cases fuel with
      | zero => omega
      | succ q =>
        rcases hs k s (by omega) hI with ⟨s', _, h2, _⟩ | ⟨r, h1, h2⟩
        · omega
        · exact ⟨r, by show (body s).bind _ = _; rw [h1]; rfl, h2⟩
    | succ d ih =>
      intro k fuel s e hf hI
      cases fuel with
      | zero => omega
      | succ q =>
        rcases hs k s (by omega) hI with ⟨s', h1, h2, h3⟩ | ⟨r, h1, h2⟩
        · obtain ⟨r, h4, h5⟩ := ih (k + 1) q s' (by omega) (by omega) h3
          exact ⟨r, by show (body s).bind _ = _; rw [h1]; exact h4, h5⟩
        · exact ⟨r, by show (body s).bind _ = _; rw [h1]; rfl, h2⟩
  exact key N 0 fuel s (by omega) hN h0
/-- the lowest bit -/
theorem p_of32 (x : Int32) : ∃ n, n < 2 ^ 32 ∧ x = nI n := ⟨x.toBitVec.toNat, x.toBitVec.isLt, Int32.toBitVec_inj.mp (by show _ = BitVec.ofNat 32 _; simp)⟩
theorem p_low {x : Int32} (h : ¬ x = nI 0) : ∃ j, j < 32 ∧ bt x j = true ∧ ∀ i, i < j → bt x i = false := by
  obtain ⟨k, hk, hb⟩ := p_nz.mp h
  have h1 : fa_first (bt x) 32 < 32 := by
    refine Classical.byContradiction fun q => ?_
    have := fa_first_no (bt x) 32 k (by omega)
    rw [hb] at this; cases this
  exact ⟨fa_first (bt x) 32, h1, fa_first_yes _ _ h1, fun i hi => fa_first_no _ _ i hi⟩
theorem p_split {n j : Nat} (hj : n.testBit j = true) (hl : ∀ i, i < j → n.testBit i = false) : ∃ q, n = 2 ^ (j + 1) * q + 2 ^ j := by
  refine ⟨n / 2 ^ (j + 1), ?_⟩
  have h1 : n % 2 ^ (j + 1) = 2 ^ j := by
    apply Nat.eq_of_testBit_eq
    intro i
    rw [Nat.testBit_mod_two_pow, Nat.testBit_two_pow]
    rcases Nat.lt_trichotomy i j with h | h | h
    · rw [hl i h]; simp; omega
    · subst h; rw [hj]; simp
    · have : ¬ i < j + 1 := by omega
      simp [this]; omega
  have := Nat.div_add_mod n (2 ^ (j + 1))
  omega
theorem p_predN {n j : Nat} (hj : n.testBit j = true) (hl : ∀ i, i < j → n.testBit i = false) (i : Nat) : (n - 1).testBit i = (decide (i < j) || (n.testBit i && decide (i ≠ j))) := by
  obtain ⟨q, hq⟩ := p_split hj hl
  have e : n - 1 = 2 ^ (j + 1) * q + (2 ^ j - 1) := by have := Nat.two_pow_pos j; omega
  have hlt : 2 ^ j - 1 < 2 ^ (j + 1) := by have := Nat.two_pow_pos j; rw [Nat.pow_succ]; omega
  have hlt2 : 2 ^ j < 2 ^ (j + 1) := by have := Nat.two_pow_pos j; rw [Nat.pow_succ]; omega
  rw [e, Nat.testBit_two_pow_mul_add _ hlt]
  have e2 : n.testBit i = if i < j + 1 then (2 ^ j).testBit i else q.testBit (i - (j + 1)) := by
    rw [hq, Nat.testBit_two_pow_mul_add _ hlt2]
  rw [e2]
  rcases Nat.lt_trichotomy i j with h | h | h
  · rw [if_pos (by omega), Nat.testBit_two_pow_sub_one]; simp [h]
  · subst h; rw [if_pos (by omega), Nat.testBit_two_pow_sub_one]; simp
  · rw [if_neg (by omega), if_neg (by omega)]
    have : ¬ i < j := by omega
    have h3 : i ≠ j := by omega
    simp [this, h3]
theorem p_pred {x : Int32} {j : Nat} (h32 : j < 32) (hj : bt x j = true) (hl : ∀ i, i < j → bt x i = false) {i : Nat} (hi : i < 32) : bt (x - nI 1) i = (decide (i < j) || (bt x i && decide (i ≠ j))) := by
  obtain ⟨n, hn, rfl⟩ := p_of32 x
  rw [p_btN h32] at hj
  have hl2 : ∀ i, i < j → n.testBit i = false := fun i hi => by rw [← p_btN (by omega)]; exact hl i hi
  have h1 : 1 ≤ n := by
    rcases Nat.eq_zero_or_pos n with h | h
    · subst h; simp at hj
    · exact h
  rw [p_sub h1, p_btN hi, p_btN hi]
  exact p_predN hj hl2 i
/-- x & (x - 1) has lost its lowest bit -/
theorem p_drop {x : Int32} {j : Nat} (h32 : j < 32) (hj : bt x j = true) (hl : ∀ i, i < j → bt x i = false) {i : Nat} (hi : i < 32) : bt (x &&& (x - nI 1)) i = (bt x i && decide (i ≠ j)) := by
  rw [b_and, p_pred h32 hj hl hi]
  rcases Nat.lt_trichotomy i j with h | h | h
  · rw [hl i h]; rfl
  · subst h; simp
  · have : ¬ i < j := by omega
    have h3 : i ≠ j := by omega
    simp [this, h3]
/-- the bits of ~x & (x - 1): those below the lowest one -/
theorem p_under {x : Int32} {j : Nat} (h32 : j < 32) (hj : bt x j = true) (hl : ∀ i, i < j → bt x i = false) : (x ^^^ (-1 : Int32)) &&& (x - (1 : Int32)) = nI (2 ^ j - 1) := by
  refine b_ext fun i hi => ?_
  rw [b_and, show (x - (1 : Int32)) = x - nI 1 from rfl, p_pred h32 hj hl hi, p_btN hi, Nat.testBit_two_pow_sub_one, b_xor, b_m1 i hi]
  rcases Nat.lt_trichotomy i j with h | h | h
  · rw [hl i h]; simp [h]
  · subst h; rw [hj]; simp
  · have : ¬ i < j := by omega
    have h3 : i ≠ j := by omega
    cases bt x i <;> simp [this, h3]
theorem p_ntz {x : Int32} {j : Nat} (h32 : j < 32) (hj : bt x j = true) (hl : ∀ i, i < j → bt x i = false) : fJ6_numberOfTrailingZeros_0f7a4 x = some (nI j) := by
  unfold fJ6_numberOfTrailingZeros_0f7a4
  rw [p_nm, p_bnd, p_under h32 hj hl]
  exact (by decide +kernel : ∀ j, j < 32 → (if 0 < nI (2 ^ j - 1) then (if nI (2 ^ j - 1) ≤ (65536 : Int32) then (fJ6_numberOfTrailingZeros_0f7a4_b34 (nI (2 ^ j - 1)) (1 : Int32)) else (nm (((nI (2 ^ j - 1)).toUInt32 >>> ((16 : Int32).toUInt32 &&& Int32.toUInt32 31)).toInt32)).bind fun v10 => fJ6_numberOfTrailingZeros_0f7a4_b34 v10 ((1 : Int32) + (16 : Int32))) else some (nI (2 ^ j - 1) &&& (32 : Int32))) = some (nI j)) j h32
theorem p_head {x : Int32} {j : Nat} (h32 : j < 32) (hj : bt x j = true) (hl : ∀ i, i < j → bt x i = false) : fX10_headOf x = some (nI j) := by
  unfold fX10_headOf
  rw [p_ntz h32 hj hl]; rfl
