/-! AN ARROW COMES: the state behind it, and that it is whole -/
section SA
variable {S : gS} {a b mode : Nat}
noncomputable def pKey (S : gS) (a b t : Nat) : Option Nat := if (bt (wBh S a b) (sPl S t) && bt (wAh S a b) (sPl S t)) = true then none else some (sPl S t)
noncomputable def nPl (S : gS) (a b mode t : Nat) : Nat := (pL S a b mode).idxOf (pKey S a b t)
/-- the arrows behind it -/
def sE2 (S : gS) (a b u v : Nat) : Prop := sE S u v ∨ (u = a ∧ v = b)
theorem idx_nd {l : List (Option Nat)} (h : l.Pairwise (fun x y => x ≠ y)) {p : Nat} {x : Option Nat} (hp : l[p]? = some x) : l.idxOf x = p := by
  obtain ⟨h1, h2⟩ := List.getElem?_eq_some_iff.mp hp
  have hm : x ∈ l := h2 ▸ List.getElem_mem h1
  have hi := List.idxOf_lt_length_iff.mpr hm
  have he := List.getElem_idxOf hi
  rcases Nat.lt_trichotomy (l.idxOf x) p with q | q | q
  · exact absurd (he.trans h2.symm) (List.pairwise_iff_getElem.mp h _ _ hi h1 q)
  · exact q
  · exact absurd (h2.trans he.symm) (List.pairwise_iff_getElem.mp h _ _ h1 hi q)
theorem idx_at {l : List (Option Nat)} {x : Option Nat} (hm : x ∈ l) : l[l.idxOf x]? = some x := by
  have hi := List.idxOf_lt_length_iff.mpr hm
  rw [List.getElem?_eq_getElem hi, List.getElem_idxOf hi]
theorem pKey_some {t p : Nat} : pKey S a b t = some p ↔ sPl S t = p ∧ ¬ (bt (wBh S a b) p = true ∧ bt (wAh S a b) p = true) := by
  unfold pKey
  rw [← Bool.and_eq_true]
  split
  · rename_i h
    constructor
    · intro z; cases z
    · rintro ⟨rfl, z⟩; exact absurd h z
  · rename_i h
    constructor
    · intro z; cases z; exact ⟨rfl, h⟩
    · rintro ⟨rfl, z⟩; rfl
theorem pKey_none {t : Nat} : pKey S a b t = none ↔ bt (wBh S a b) (sPl S t) = true ∧ bt (wAh S a b) (sPl S t) = true := by
  unfold pKey
  rw [← Bool.and_eq_true]
  split
  · rename_i h; exact ⟨fun _ => h, fun _ => rfl⟩
  · rename_i h; exact ⟨fun z => (by cases z), fun z => absurd z h⟩
/-- behind, ahead: of a task -/
theorem tB (h : sW S) (ha : a < sN S) (hb : b < sN S) {t : Nat} (ht : t < sN S) : bt (wBh S a b) (sPl S t) = true ↔ sPl S b ≤ sPl S t ∧ sPl S t ≤ sPl S a ∧ sR S b t := by
  have hn := h.1.1
  have hg := h.1.2.2.1
  have hp := h.p ht
  rw [wBh_bt (by omega)]
  obtain ⟨h1, h2⟩ := sHd_ok h.2.2.1 hp
  have h3 := h.2.2.2.1.2 t (sHd S (sPl S t)) ht h1 h2.symm
  have h4 := h.2.2.2.1.2 (sHd S (sPl S t)) t h1 ht h2
  exact ⟨fun ⟨x, y, z⟩ => ⟨x, y, z.tr h4⟩, fun ⟨x, y, z⟩ => ⟨x, y, z.tr h3⟩⟩
theorem tA (h : sW S) (ha : a < sN S) (hb : b < sN S) {t : Nat} (ht : t < sN S) : bt (wAh S a b) (sPl S t) = true ↔ sPl S b ≤ sPl S t ∧ sPl S t ≤ sPl S a ∧ sR S t a := by
  have hn := h.1.1
  have hg := h.1.2.2.1
  have hp := h.p ht
  rw [wAh_bt (by omega)]
  obtain ⟨h1, h2⟩ := sHd_ok h.2.2.1 hp
  have h3 := h.2.2.2.1.2 t (sHd S (sPl S t)) ht h1 h2.symm
  have h4 := h.2.2.2.1.2 (sHd S (sPl S t)) t h1 ht h2
  exact ⟨fun ⟨x, y, z⟩ => ⟨x, y, h3.tr z⟩, fun ⟨x, y, z⟩ => ⟨x, y, h4.tr z⟩⟩
theorem pKey_out {t : Nat} (h : pKey S a b t = none) (hp : sPl S t < 32) : sPl S b ≤ sPl S t ∧ sPl S t ≤ sPl S a := by
  have := (wBh_bt (S := S) hp).mp (pKey_none.mp h).1
  exact ⟨this.1, this.2.1⟩
theorem mem_pL_mid {x : Option Nat} : x ∈ (pIt S a b mode).map (Option.map (fun k => sPl S b + k)) ↔ (∃ k, x = some (sPl S b + k) ∧ k < pLn S a b ∧ iJ (pA S a b) (pB S a b) k = false) ∨ (x = none ∧ 0 < fb_ct (iJ (pA S a b) (pB S a b)) (pLn S a b)) := by
  rw [List.mem_map]
  constructor
  · rintro ⟨y, hy, rfl⟩
    cases y with
    | none => exact Or.inr ⟨rfl, mem_itL_none.mp hy⟩
    | some k => exact Or.inl ⟨k, rfl, mem_itL_some.mp hy⟩
  · rintro (⟨k, rfl, h⟩ | ⟨rfl, h⟩)
    · exact ⟨some k, mem_itL_some.mpr h, rfl⟩
    · exact ⟨none, mem_itL_none.mpr h, rfl⟩
theorem mem_pL {x : Option Nat} : x ∈ pL S a b mode ↔ (∃ p, x = some p ∧ p < sPl S b) ∨ ((∃ k, x = some (sPl S b + k) ∧ k < pLn S a b ∧ iJ (pA S a b) (pB S a b) k = false) ∨ (x = none ∧ 0 < fb_ct (iJ (pA S a b) (pB S a b)) (pLn S a b))) ∨ (∃ p, x = some p ∧ sPl S a < p ∧ p < sG S) := by
  unfold pL
  rw [List.mem_append, List.mem_append, mem_pL_mid]
  constructor
  · rintro ((h | h) | h)
    · obtain ⟨p, hp, rfl⟩ := List.mem_map.mp h
      exact Or.inl ⟨p, rfl, List.mem_range.mp hp⟩
    · exact Or.inr (Or.inl h)
    · obtain ⟨p, hp, rfl⟩ := List.mem_map.mp h
      have := List.mem_range'_1.mp hp
      exact Or.inr (Or.inr ⟨p, rfl, by omega, by omega⟩)
  · rintro (⟨p, rfl, h⟩ | h | ⟨p, rfl, h1, h2⟩)
    · exact Or.inl (Or.inl (List.mem_map.mpr ⟨p, List.mem_range.mpr h, rfl⟩))
    · exact Or.inl (Or.inr h)
    · exact Or.inr (List.mem_map.mpr ⟨p, List.mem_range'_1.mpr (by omega), rfl⟩)
theorem pKey_mem (h : sW S) (ha : a < sN S) (hb : b < sN S) (hlt : sPl S b < sPl S a) {t : Nat} (ht : t < sN S) : pKey S a b t ∈ pL S a b mode := by
  have hn := h.1.1
  have hg := h.1.2.2.1
  have hp := h.p ht
  have hpa := h.p ha
  rw [mem_pL]
  cases hk : pKey S a b t with
  | none =>
    obtain ⟨o1, o2⟩ := pKey_out hk (by omega)
    obtain ⟨k1, k2⟩ := pKey_none.mp hk
    refine Or.inr (Or.inl (Or.inr ⟨rfl, fb_ct_pos.mpr ⟨sPl S t - sPl S b, by unfold pLn; omega, ?_⟩⟩))
    unfold iJ pA pB
    rw [Nat.add_sub_cancel' o1, k1, k2]; rfl
  | some p =>
    obtain ⟨rfl, k2⟩ := pKey_some.mp hk
    rcases Nat.lt_or_ge (sPl S t) (sPl S b) with q | q
    · exact Or.inl ⟨_, rfl, q⟩
    · rcases Nat.lt_or_ge (sPl S a) (sPl S t) with q2 | q2
      · exact Or.inr (Or.inr ⟨_, rfl, q2, hp⟩)
      · refine Or.inr (Or.inl (Or.inl ⟨sPl S t - sPl S b, by rw [Nat.add_sub_cancel' q], by unfold pLn; omega, ?_⟩))
        unfold iJ pA pB
        rw [Nat.add_sub_cancel' q, ← Bool.not_eq_true, Bool.and_eq_true]
        exact fun z => k2 ⟨z.2, z.1⟩
theorem pKey_sur (h : sW S) (ha : a < sN S) (hb : b < sN S) {x : Option Nat} (hx : x ∈ pL S a b mode) : ∃ t, t < sN S ∧ pKey S a b t = x := by
  have hn := h.1.1
  have hg := h.1.2.2.1
  have hpa := h.p ha
  have hpb := h.p hb
  rcases mem_pL.mp hx with ⟨p, rfl, h1⟩ | (⟨k, rfl, h1, h2⟩ | ⟨rfl, h1⟩) | ⟨p, rfl, h1, h2⟩
  · obtain ⟨t, t1, t2⟩ := h.2.2.1.2 p (by omega)
    refine ⟨t, t1, pKey_some.mpr ⟨t2, fun z => ?_⟩⟩
    have := (w_out (S := S) (a := a) (b := b) (p := p) (by omega) (Or.inl h1)).1
    rw [this] at z; cases z.2
  · unfold pLn at h1
    obtain ⟨t, t1, t2⟩ := h.2.2.1.2 (sPl S b + k) (by omega)
    refine ⟨t, t1, pKey_some.mpr ⟨t2, fun z => ?_⟩⟩
    unfold iJ pA pB at h2
    rw [z.1, z.2] at h2; cases h2
  · obtain ⟨k, k1, k2⟩ := fb_ct_pos.mp h1
    unfold pLn at k1
    obtain ⟨t, t1, t2⟩ := h.2.2.1.2 (sPl S b + k) (by omega)
    refine ⟨t, t1, pKey_none.mpr ?_⟩
    unfold iJ pA pB at k2
    rw [Bool.and_eq_true] at k2
    rw [t2]; exact ⟨k2.2, k2.1⟩
  · obtain ⟨t, t1, t2⟩ := h.2.2.1.2 p h2
    refine ⟨t, t1, pKey_some.mpr ⟨t2, fun z => ?_⟩⟩
    have := (w_out (S := S) (a := a) (b := b) (p := p) (by omega) (Or.inr h1)).1
    rw [this] at z; cases z.2
/-- nothing twice; no arrow leads back -/
theorem pL_pw2 {R : Option Nat → Option Nat → Prop} (hlt : sPl S b < sPl S a) (h1 : ∀ p y, p < sPl S b → ((∃ q, y = some q ∧ p < q) ∨ y = none) → R (some p) y) (h2 : ((pIt S a b mode).map (Option.map (fun k => sPl S b + k))).Pairwise R) (h3 : ∀ x q, sPl S a < q → q < sG S → ((∃ p, x = some p ∧ p < q) ∨ x = none) → R x (some q)) : (pL S a b mode).Pairwise R := by
  unfold pL
  rw [List.pairwise_append, List.pairwise_append]
  refine ⟨⟨?_, h2, ?_⟩, ?_, ?_⟩
  · rw [List.pairwise_map]
    exact rg_pw fun p q hpq hq => h1 p _ (by omega) (Or.inl ⟨q, rfl, hpq⟩)
  · intro x hx y hy
    obtain ⟨p, hp, rfl⟩ := List.mem_map.mp hx
    have hp := List.mem_range.mp hp
    rcases mem_pL_mid.mp hy with ⟨k, rfl, -⟩ | ⟨rfl, -⟩
    · exact h1 p _ hp (Or.inl ⟨_, rfl, by omega⟩)
    · exact h1 p _ hp (Or.inr rfl)
  · rw [List.pairwise_map]
    refine List.Pairwise.imp_of_mem (fun {p q} hp hq hpq => ?_) (List.pairwise_lt_range' 1)
    have := List.mem_range'_1.mp hp
    have := List.mem_range'_1.mp hq
    exact h3 _ q (by omega) (by omega) (Or.inl ⟨p, rfl, hpq⟩)
  · intro x hx y hy
    obtain ⟨q, hq, rfl⟩ := List.mem_map.mp hy
    have hq := List.mem_range'_1.mp hq
    rcases List.mem_append.mp hx with hx | hx
    · obtain ⟨p, hp, rfl⟩ := List.mem_map.mp hx
      have hp := List.mem_range.mp hp
      exact h3 _ q (by omega) (by omega) (Or.inl ⟨p, rfl, by omega⟩)
    · rcases mem_pL_mid.mp hx with ⟨k, rfl, hk, -⟩ | ⟨rfl, -⟩
      · unfold pLn at hk
        exact h3 _ q (by omega) (by omega) (Or.inl ⟨_, rfl, by omega⟩)
      · exact h3 _ q (by omega) (by omega) (Or.inr rfl)
theorem pL_nd (hlt : sPl S b < sPl S a) : (pL S a b mode).Pairwise (fun x y => x ≠ y) := by
  refine pL_pw2 hlt (fun p y hp hy e => ?_) ?_ (fun x q hq _ hx e => ?_)
  · rcases hy with ⟨q, rfl, h⟩ | rfl
    · cases e; omega
    · cases e
  · rw [List.pairwise_map]
    refine List.Pairwise.imp (fun {x y} hxy e => ?_) itL_nd
    cases x with
    | none => cases y with
      | none => exact hxy rfl
      | some k => cases e
    | some k => cases y with
      | none => cases e
      | some k' =>
        refine hxy (congrArg some ?_)
        have : sPl S b + k = sPl S b + k' := Option.some.inj e
        omega
  · rcases hx with ⟨p, rfl, h⟩ | rfl
    · cases e; omega
    · cases e
theorem pL_back (h : sW S) (ha : a < sN S) (hb : b < sN S) (hlt : sPl S b < sPl S a) : (pL S a b mode).Pairwise (fun x y => ¬ ∃ u v, sE2 S a b u v ∧ pKey S a b u = y ∧ pKey S a b v = x) := by
  have hn := h.1.1
  have hg := h.1.2.2.1
  have hlt' : ∀ {u v}, sE2 S a b u v → u < sN S ∧ v < sN S := fun e => e.elim (sE.lt h.2.1) (fun z => by rw [z.1, z.2]; exact ⟨ha, hb⟩)
  have pl32 : ∀ {u}, u < sN S → sPl S u < 32 := fun hu => by have := h.p hu; omega
  refine pL_pw2 hlt (fun p y hp hy => ?_) ?_ (fun x q hq _ hx => ?_)
  · rintro ⟨u, v, e, ku, kv⟩
    obtain ⟨hu, hv⟩ := hlt' e
    obtain ⟨pv, -⟩ := pKey_some.mp kv
    have pu : p < sPl S u := by
      rcases hy with ⟨q, rfl, h1⟩ | rfl
      · rw [(pKey_some.mp ku).1]; exact h1
      · have := pKey_out ku (pl32 hu); omega
    rcases e with e | ⟨rfl, rfl⟩
    · have := sE.pl h.2.2.2.1 e; omega
    · omega
  · rw [List.pairwise_map]
    have key := itL_pw (A := pA S a b) (B := pB S a b) (len := pLn S a b) (ar := fun x y => ∃ u v, sE2 S a b u v ∧ pKey S a b u = Option.map (fun k => sPl S b + k) x ∧ pKey S a b v = Option.map (fun k => sPl S b + k) y) ?_ ?_ ?_ ?_ ?_ mode
    · exact key
    · rintro p q hp hq ⟨u, v, e, ku, kv⟩
      obtain ⟨hu, hv⟩ := hlt' e
      obtain ⟨pu, nu⟩ := pKey_some.mp (show pKey S a b u = some (sPl S b + p) from ku)
      obtain ⟨pv, nv⟩ := pKey_some.mp (show pKey S a b v = some (sPl S b + q) from kv)
      rcases e with e | ⟨rfl, rfl⟩
      · have := sE.pl h.2.2.2.1 e; exact Or.inl (by omega)
      · refine Or.inr ⟨?_, ?_⟩
        · have hA := (tA h ha hb ha).mpr ⟨by omega, by omega, gRc.rf⟩
          rw [pu] at hA
          unfold iA pA pB
          rw [hA, Bool.true_and]
          cases hB : bt (wBh S u v) (sPl S v + p)
          · rfl
          · exact absurd ⟨hB, hA⟩ nu
        · have hB := (tB h ha hb hb).mpr ⟨by omega, by omega, gRc.rf⟩
          rw [pv] at hB
          unfold iB pA pB
          rw [hB, Bool.true_and]
          cases hA : bt (wAh S u v) (sPl S v + q)
          · rfl
          · exact absurd ⟨hB, hA⟩ nv
    · rintro p q hp hq ⟨u, v, e, ku, kv⟩ hB
      unfold pLn at hp hq
      obtain ⟨hu, hv⟩ := hlt' e
      obtain ⟨pu, nu⟩ := pKey_some.mp (show pKey S a b u = some (sPl S b + p) from ku)
      obtain ⟨pv, nv⟩ := pKey_some.mp (show pKey S a b v = some (sPl S b + q) from kv)
      unfold pB at hB ⊢
      rw [← pu] at hB
      rw [← pv]
      have hB := (tB h ha hb hu).mp hB
      rcases e with e | ⟨rfl, rfl⟩
      · exact (tB h ha hb hv).mpr ⟨by omega, by omega, hB.2.2.snoc e⟩
      · exact (tB h ha hb hv).mpr ⟨by omega, by omega, gRc.rf⟩
    · rintro p q hp hq ⟨u, v, e, ku, kv⟩ hA
      unfold pLn at hp hq
      obtain ⟨hu, hv⟩ := hlt' e
      obtain ⟨pu, nu⟩ := pKey_some.mp (show pKey S a b u = some (sPl S b + p) from ku)
      obtain ⟨pv, nv⟩ := pKey_some.mp (show pKey S a b v = some (sPl S b + q) from kv)
      unfold pA at hA ⊢
      rw [← pv] at hA
      rw [← pu]
      have hA := (tA h ha hb hv).mp hA
      rcases e with e | ⟨rfl, rfl⟩
      · exact (tA h ha hb hu).mpr ⟨by omega, by omega, gRc.cons e hA.2.2⟩
      · exact (tA h ha hb hu).mpr ⟨by omega, by omega, gRc.rf⟩
    · rintro q hq ⟨u, v, e, ku, kv⟩
      unfold pLn at hq
      obtain ⟨hu, hv⟩ := hlt' e
      obtain ⟨ku1, ku2⟩ := pKey_none.mp (show pKey S a b u = none from ku)
      obtain ⟨pv, nv⟩ := pKey_some.mp (show pKey S a b v = some (sPl S b + q) from kv)
      unfold pB
      rw [← pv]
      have hB := (tB h ha hb hu).mp ku1
      rcases e with e | ⟨rfl, rfl⟩
      · exact (tB h ha hb hv).mpr ⟨by omega, by omega, hB.2.2.snoc e⟩
      · exact (tB h ha hb hv).mpr ⟨by omega, by omega, gRc.rf⟩
    · rintro p hp ⟨u, v, e, ku, kv⟩
      unfold pLn at hp
      obtain ⟨hu, hv⟩ := hlt' e
      obtain ⟨pu, nu⟩ := pKey_some.mp (show pKey S a b u = some (sPl S b + p) from ku)
      obtain ⟨kv1, kv2⟩ := pKey_none.mp (show pKey S a b v = none from kv)
      unfold pA
      rw [← pu]
      have hA := (tA h ha hb hv).mp kv2
      rcases e with e | ⟨rfl, rfl⟩
      · exact (tA h ha hb hu).mpr ⟨by omega, by omega, gRc.cons e hA.2.2⟩
      · exact (tA h ha hb hu).mpr ⟨by omega, by omega, gRc.rf⟩
  · rintro ⟨u, v, e, ku, kv⟩
    obtain ⟨hu, hv⟩ := hlt' e
    obtain ⟨pu, -⟩ := pKey_some.mp ku
    have pv : sPl S v < q := by
      rcases hx with ⟨p, rfl, h1⟩ | rfl
      · rw [(pKey_some.mp kv).1]; exact h1
      · have := pKey_out kv (pl32 hv); omega
    rcases e with e | ⟨rfl, rfl⟩
    · have := sE.pl h.2.2.2.1 e; omega
    · omega
/-- the state behind it -/
def upN (f : Nat → Nat) (k x : Nat) : Nat → Nat := fun j => if j = k then x else f j
noncomputable def sAdd (S : gS) (a b mode : Nat) : gS :=
  if sPl S b < sPl S a then
    (upN (upN S.1 1 (sM S + 1)) 2 (pL S a b mode).length, upN (sFr S) (sM S) a, upN (sTo S) (sM S) b, nPl S a b mode, sHr S,
      (fun k => if k = 0 then sAc S 0 + 1 else if k = 2 then sAc S 2 + 1 else if k = 3 then sAc S 3 + pLn S a b else if k = 4 then sAc S 4 + sLk S a b else if k = 5 then sAc S 5 + pMv S a b mode else if k = 6 then sAc S 6 + fb_ct (iJ (pA S a b) (pB S a b)) (pLn S a b) else sAc S k), sNm S)
  else (upN S.1 1 (sM S + 1), upN (sFr S) (sM S) a, upN (sTo S) (sM S) b, sPl S, sHr S, upN (sAc S) 0 (sAc S 0 + 1), sNm S)
theorem sAdd_n : sN (sAdd S a b mode) = sN S := by unfold sAdd; split <;> rfl
theorem sAdd_m : sM (sAdd S a b mode) = sM S + 1 := by unfold sAdd; split <;> rfl
theorem sAdd_mo : sMo (sAdd S a b mode) = sMo S := by unfold sAdd; split <;> rfl
theorem sAdd_jo : sJo (sAdd S a b mode) = sJo S := by unfold sAdd; split <;> rfl
theorem sAdd_g : sG (sAdd S a b mode) = if sPl S b < sPl S a then (pL S a b mode).length else sG S := by unfold sAdd; split <;> rfl
theorem sAdd_fr : sFr (sAdd S a b mode) = upN (sFr S) (sM S) a := by unfold sAdd; split <;> rfl
theorem sAdd_to : sTo (sAdd S a b mode) = upN (sTo S) (sM S) b := by unfold sAdd; split <;> rfl
theorem sAdd_hr : sHr (sAdd S a b mode) = sHr S := by unfold sAdd; split <;> rfl
theorem sAdd_nm : sNm (sAdd S a b mode) = sNm S := by unfold sAdd; split <;> rfl
theorem sAdd_pl : sPl (sAdd S a b mode) = if sPl S b < sPl S a then nPl S a b mode else sPl S := by unfold sAdd; split <;> rfl
theorem sAdd_E {u v : Nat} : sE (sAdd S a b mode) u v ↔ sE2 S a b u v := by
  unfold sE sE2
  rw [sAdd_m, sAdd_fr, sAdd_to]
  unfold upN
  constructor
  · rintro ⟨i, h1, h2, h3⟩
    by_cases e : i = sM S
    · rw [if_pos e] at h2 h3; exact Or.inr ⟨h2.symm, h3.symm⟩
    · rw [if_neg e] at h2 h3; exact Or.inl ⟨i, by omega, h2, h3⟩
  · rintro (⟨i, h1, h2, h3⟩ | ⟨rfl, rfl⟩)
    · exact ⟨i, by omega, by rw [if_neg (by omega)]; exact h2, by rw [if_neg (by omega)]; exact h3⟩
    · exact ⟨sM S, by omega, if_pos rfl, if_pos rfl⟩
theorem sAdd_R {u v : Nat} : sR (sAdd S a b mode) u v ↔ sR S u v ∨ (sR S u a ∧ sR S b v) := gRc.add (fun _ _ => sAdd_E)
theorem sAdd_W (h : sW S) (ha : a < sN S) (hb : b < sN S) (hab : a ≠ b) (hne : ¬ sE S a b) (hm : sM S < 60) : sW (sAdd S a b mode) := by
  obtain ⟨w0, w1, w2, w3, w4⟩ := id h
  refine ⟨?_, ?_, ?_, ?_, ?_⟩
  · unfold sW0
    rw [sAdd_n, sAdd_m, sAdd_mo, sAdd_jo, sAdd_g]
    refine ⟨w0.1, by omega, ?_, w0.2.2.2⟩
    split
    · rename_i hlt; exact Nat.le_trans (pL_len h ha hb hlt).2 w0.2.2.1
    · exact w0.2.2.1
  · unfold sW1
    rw [sAdd_n, sAdd_m, sAdd_fr, sAdd_to]
    unfold upN
    refine ⟨fun i hi => ?_, fun i j hi hj h1 h2 => ?_⟩
    · by_cases e : i = sM S
      · rw [if_pos e, if_pos e]; exact ⟨ha, hb, hab⟩
      · rw [if_neg e, if_neg e]; exact w1.1 i (by omega)
    · by_cases e : i = sM S <;> by_cases e2 : j = sM S
      · omega
      · rw [if_pos e, if_neg e2] at h1 h2
        exact absurd ⟨j, by omega, h1.symm, h2.symm⟩ hne
      · rw [if_neg e, if_pos e2] at h1 h2
        exact absurd ⟨i, by omega, h1, h2⟩ hne
      · rw [if_neg e, if_neg e2] at h1 h2
        exact w1.2 i j (by omega) (by omega) h1 h2
  · unfold sW2
    rw [sAdd_n, sAdd_g, sAdd_pl]
    by_cases hlt : sPl S b < sPl S a
    · rw [if_pos hlt, if_pos hlt]
      refine ⟨fun t ht => List.idxOf_lt_length_iff.mpr (pKey_mem h ha hb hlt ht), fun p hp => ?_⟩
      obtain ⟨t, t1, t2⟩ := pKey_sur (mode := mode) h ha hb (List.getElem_mem hp)
      refine ⟨t, t1, ?_⟩
      unfold nPl
      exact idx_nd (pL_nd hlt) (by rw [t2]; exact List.getElem?_eq_getElem hp)
    · rw [if_neg hlt, if_neg hlt]; exact w2
  · refine ⟨fun i hi => ?_, fun t u ht hu e => ?_⟩
    · have hE : sE2 S a b (sFr (sAdd S a b mode) i) (sTo (sAdd S a b mode) i) := sAdd_E.mp ⟨i, hi, rfl, rfl⟩
      generalize sFr (sAdd S a b mode) i = u at hE
      generalize sTo (sAdd S a b mode) i = v at hE
      rw [sAdd_pl]
      by_cases hlt : sPl S b < sPl S a
      · rw [if_pos hlt]
        have hl : u < sN S ∧ v < sN S := hE.elim (sE.lt h.2.1) (fun z => by rw [z.1, z.2]; exact ⟨ha, hb⟩)
        refine Classical.byContradiction fun q => ?_
        have q : nPl S a b mode v < nPl S a b mode u := by omega
        unfold nPl at q
        have m1 := pKey_mem (mode := mode) h ha hb hlt hl.1
        have m2 := pKey_mem (mode := mode) h ha hb hlt hl.2
        have i1 := List.idxOf_lt_length_iff.mpr m1
        have i2 := List.idxOf_lt_length_iff.mpr m2
        refine List.pairwise_iff_getElem.mp (pL_back h ha hb hlt) _ _ i2 i1 q ⟨u, v, hE, ?_, ?_⟩
        · rw [List.getElem_idxOf]
        · rw [List.getElem_idxOf]
      · rw [if_neg hlt]
        rcases hE with e | ⟨rfl, rfl⟩
        · exact sE.pl w3 e
        · omega
    · rw [sAdd_n] at ht hu
      rw [sAdd_pl] at e
      rw [sAdd_R]
      by_cases hlt : sPl S b < sPl S a
      · rw [if_pos hlt] at e
        unfold nPl at e
        have m1 := pKey_mem (mode := mode) h ha hb hlt ht
        have m2 := pKey_mem (mode := mode) h ha hb hlt hu
        have k : pKey S a b t = pKey S a b u := by
          have x1 := idx_at m1
          rw [e, idx_at m2] at x1
          exact (Option.some.inj x1).symm
        cases hk : pKey S a b t with
        | none =>
          have z1 := (tA h ha hb ht).mp (pKey_none.mp hk).2
          rw [hk] at k
          have z2 := (tB h ha hb hu).mp (pKey_none.mp k.symm).1
          exact Or.inr ⟨z1.2.2, z2.2.2⟩
        | some p =>
          have z1 := (pKey_some.mp hk).1
          rw [hk] at k
          have z2 := (pKey_some.mp k.symm).1
          exact Or.inl (w3.2 t u ht hu (by rw [z1, z2]))
      · rw [if_neg hlt] at e
        exact Or.inl (w3.2 t u ht hu e)
  · unfold sW4
    rw [sAdd_n, sAdd_hr, sAdd_nm]; exact w4
end SA
