/-! AN ARROW IS CUT: places by a row of the parts' heads; what the class takes -/
section CQ
variable {S : gS} {a : Nat} {l : List Nat} {t u v p : Nat}
noncomputable def xQ (S : gS) (a : Nat) (l : List Nat) (t : Nat) : Nat := if sPl S t < xO S a then sPl S t else if sPl S t = xO S a then xO S a + l.idxOf (xH S a t) else sPl S t + ((xL S a).length - 1)
def xOK (S : gS) (a : Nat) (l : List Nat) : Prop := l.length = (xL S a).length ∧ (∀ x, x ∈ l ↔ x ∈ xL S a) ∧ l.Pairwise (fun x y => x ≠ y)
theorem xP_xQ : xP S a = xQ S a (xS S a) := rfl
theorem xOK_S (h : sW S) (ha : a < sM S) : xOK S a (xS S a) := ⟨(xS_ok h ha).1, (xS_ok h ha).2.1, (xS_ok h ha).2.2.1⟩
theorem xOK_L : xOK S a (xL S a) := ⟨rfl, fun _ => Iff.rfl, List.Pairwise.imp (fun {_ _} h => Nat.ne_of_lt h) (by unfold xL; exact gHs_sorted)⟩
theorem xQ_1 (q : sPl S t < xO S a) : xQ S a l t = sPl S t := if_pos q
theorem xQ_2 (q : sPl S t = xO S a) : xQ S a l t = xO S a + l.idxOf (xH S a t) := by
  unfold xQ; rw [if_neg (by omega), if_pos q]
theorem xQ_3 (q : xO S a < sPl S t) : xQ S a l t = sPl S t + ((xL S a).length - 1) := by
  unfold xQ; rw [if_neg (by omega), if_neg (by omega)]
theorem xQ_ix (h : sW S) (ha : a < sM S) (hl : xOK S a l) (ht : t < sN S) (q : sPl S t = xO S a) : l.idxOf (xH S a t) < (xL S a).length ∧ l[l.idxOf (xH S a t)]? = some (xH S a t) := by
  have hm := (hl.2.1 _).mpr (xH_mem h ha ht q)
  exact ⟨by rw [← hl.1]; exact List.idxOf_lt_length_iff.mpr hm, ix_at hm⟩
theorem xQ_lt (h : sW S) (ha : a < sM S) (hl : xOK S a l) (ht : t < sN S) : xQ S a l t < sG S + ((xL S a).length - 1) := by
  have := h.p ht
  rcases Nat.lt_trichotomy (sPl S t) (xO S a) with q | q | q
  · rw [xQ_1 q]; omega
  · rw [xQ_2 q]; have := (xQ_ix h ha hl ht q).1; omega
  · rw [xQ_3 q]; omega
theorem xQ_lo (hp : p < xO S a) : xQ S a l v = p ↔ sPl S v = p := by
  rcases Nat.lt_trichotomy (sPl S v) (xO S a) with q | q | q
  · rw [xQ_1 q]
  · rw [xQ_2 q]
    exact ⟨fun z => by omega, fun z => by omega⟩
  · rw [xQ_3 q]
    exact ⟨fun z => by omega, fun z => by omega⟩
theorem xQ_mid (h : sW S) (ha : a < sM S) (hl : xOK S a l) (hv : v < sN S) {k y : Nat} (hk : l[k]? = some y) : xQ S a l v = xO S a + k ↔ sPl S v = xO S a ∧ xH S a v = y := by
  have hk2 : k < (xL S a).length := by rw [← hl.1]; exact (List.getElem?_eq_some_iff.mp hk).1
  rcases Nat.lt_trichotomy (sPl S v) (xO S a) with q | q | q
  · rw [xQ_1 q]
    exact ⟨fun z => by omega, fun z => by omega⟩
  · rw [xQ_2 q]
    constructor
    · intro z
      have e : l.idxOf (xH S a v) = k := by omega
      have m := (xQ_ix h ha hl hv q).2
      rw [e, hk] at m
      exact ⟨q, (Option.some.inj m).symm⟩
    · rintro ⟨-, e⟩
      rw [e, ix_nd hl.2.2 hk]
  · rw [xQ_3 q]
    exact ⟨fun z => by omega, fun z => by omega⟩
theorem xQ_hi (h : sW S) (ha : a < sM S) (hl : xOK S a l) (hv : v < sN S) (hp : xO S a + (xL S a).length ≤ p) : xQ S a l v = p ↔ sPl S v + ((xL S a).length - 1) = p := by
  have := xL_pos h ha
  rcases Nat.lt_trichotomy (sPl S v) (xO S a) with q | q | q
  · rw [xQ_1 q]
    exact ⟨fun z => by omega, fun z => by omega⟩
  · rw [xQ_2 q]
    have := (xQ_ix h ha hl hv q).1
    exact ⟨fun z => by omega, fun z => by omega⟩
  · rw [xQ_3 q]
theorem xH_hp (e : sPl S v = sPl S u) (hne : sPl S u ≠ xO S a) : xH S a v = xH S a u := by
  unfold xH; rw [e, if_neg hne, if_neg hne]
theorem xQ_hd (h : sW S) (ha : a < sM S) (hl : xOK S a l) (hv : v < sN S) (hu : u < sN S) : xQ S a l v = xQ S a l u ↔ xH S a v = xH S a u := by
  have := xL_pos h ha
  constructor
  · intro e
    rcases Nat.lt_trichotomy (sPl S u) (xO S a) with q | q | q
    · rw [xQ_1 q, xQ_lo q] at e
      exact xH_hp e (by omega)
    · rw [xQ_2 q] at e
      exact ((xQ_mid h ha hl hv (xQ_ix h ha hl hu q).2).mp e).2
    · rw [xQ_3 q, xQ_hi h ha hl hv (by omega)] at e
      exact xH_hp (by omega) (by omega)
  · intro e
    have ep : sPl S v = sPl S u := by rw [← (xH_pl h ha hv).2, e, (xH_pl h ha hu).2]
    unfold xQ; rw [ep, e]
theorem xH_id (h : sW S) (ha : a < sM S) (hu : u < sN S) : xH S a (xH S a u) = xH S a u := by
  obtain ⟨b1, b2⟩ := xH_pl h ha hu
  by_cases q : sPl S u = xO S a
  · rw [xH_in (b2.trans q), xH_in q]; exact xR_id hu
  · exact xH_hp b2 q
theorem xH_le (hu : u < sN S) : xH S a u ≤ u := by
  unfold xH
  split
  · exact (hdR_ok (R := sR (sLess S a)) (fun _ => gRc.rf) hu).1
  · exact sHd_le hu rfl
theorem hdP_xQ (h : sW S) (ha : a < sM S) (hl : xOK S a l) (hu : u < sN S) : hdP (xQ S a l) (sN S) u = xH S a u := by
  obtain ⟨c1, c2, c3⟩ := hdP_ok (pl := xQ S a l) hu
  have e1 : xH S a (hdP (xQ S a l) (sN S) u) = xH S a u := (xQ_hd h ha hl c2 hu).mp c3
  have e2 := xH_le (S := S) (a := a) c2
  rw [e1] at e2
  obtain ⟨b1, b2⟩ := xH_pl h ha hu
  have e3 : xQ S a l (xH S a u) = xQ S a l u := (xQ_hd h ha hl b1 hu).mpr (xH_id h ha hu)
  rcases Nat.lt_or_ge (xH S a u) (hdP (xQ S a l) (sN S) u) with q | q
  · have := fa_first_no (fun v => decide (xQ S a l v = xQ S a l u)) (sN S) (xH S a u) q
    rw [decide_eq_true e3] at this; cases this
  · omega
/-- rows out of three -/
theorem app3 {α : Type} {A B C : List α} {p : Nat} {x : α} (h : (A ++ B ++ C)[p]? = some x) : A[p]? = some x ∨ (∃ k, p = A.length + k ∧ B[k]? = some x) ∨ ∃ k, p = A.length + B.length + k ∧ C[k]? = some x := by
  rcases Nat.lt_or_ge p (A ++ B).length with q | q
  · rw [List.getElem?_append_left q] at h
    rcases Nat.lt_or_ge p A.length with c | c
    · rw [List.getElem?_append_left c] at h; exact Or.inl h
    · rw [List.getElem?_append_right c] at h; exact Or.inr (Or.inl ⟨p - A.length, by omega, h⟩)
  · rw [List.getElem?_append_right q] at h
    rw [List.length_append] at q h
    exact Or.inr (Or.inr ⟨p - (A.length + B.length), by omega, h⟩)
theorem rg_at {α : Type} {f : Nat → α} {s n p : Nat} {x : α} (h : ((List.range' s n).map f)[p]? = some x) : p < n ∧ x = f (s + p) := by
  obtain ⟨h1, h2⟩ := List.getElem?_eq_some_iff.mp h
  rw [List.length_map, List.length_range'] at h1
  rw [List.getElem_map, List.getElem_range'] at h2
  exact ⟨h1, by rw [← h2, Nat.one_mul]⟩
theorem map_at {α β : Type} {f : α → β} {l : List α} {p : Nat} {x : β} (h : (l.map f)[p]? = some x) : ∃ y, l[p]? = some y ∧ x = f y := by
  rw [List.getElem?_map] at h
  obtain ⟨y, hy, e⟩ := Option.map_eq_some_iff.mp h
  exact ⟨y, hy, e.symm⟩
theorem mbP_bt {n : Nat} {pl : Nat → Nat} {p v : Nat} (hv : v < 32) : bt (mbP n pl p) v = true ↔ v < n ∧ pl v = p := by
  unfold mbP; rw [mkS_bt hv, decide_eq_true_eq]
end CQ
section CT2
variable {M : gMem} {S : gS} {t g a : Nat} {ac pl : Nat → Nat}
theorem CI_take {ls : List Int32} {pl' : Nat → Nat} {r : Nat} (h : CI M t S ac g pl) (hn : sN S ≤ 24) (hR : RW M r ls) (hl : ls.length ≤ 24) (htr : t + 9 < r) (hb : ∀ p x, ls[p]? = some x → ∀ v, v < 32 → (bt x v = true ↔ v < sN S ∧ pl' v = p)) (hpl : ∀ v, v < sN S → pl' v < ls.length) :
    ∃ M', fX2_takeOrder t r M = some M' ∧ gFr (fun c k => (c = t ∧ k = 11) ∨ c = t + 7 ∨ c = t + 8) M M' ∧ CI M' t S ac ls.length pl' := by
  obtain ⟨M', e, F, q1, q2, q3⟩ := ct_takeOrder h.1.1 hn hR hl htr hb hpl
  obtain ⟨⟨e0, e1, e2, e3, e4⟩, f1, f2, f3, f4⟩ := h
  have o : ∀ {c k : Nat}, ¬ ((c = t ∧ k = 11) ∨ c = t + 7 ∨ c = t + 8) → M'.1 c k = M.1 c k ∧ M'.2.1 c k = M.2.1 c k := fun z => ⟨(F _ _ z).1, (F _ _ z).2.1⟩
  refine ⟨M', e, F, ⟨by rw [(o (by omega)).1]; exact e0, by rw [(o (by omega)).1]; exact e1, q1, by rw [(o (by omega)).1]; exact e3, by rw [(o (by omega)).1]; exact e4⟩, fun k hk => by rw [(o (by omega)).2]; exact f1 k hk, fun p hp v hv => ?_, fun i hi => by rw [(o (by omega)).1, (o (by omega)).1]; exact f3 i hi, fun u hu => ?_⟩
  · have hx := List.getElem?_eq_getElem hp
    rw [q2 p _ hx]; exact hb p _ hx v hv
  · obtain ⟨x1, x2, x3, x4, x5⟩ := f4 u hu
    exact ⟨by rw [(o (by omega)).1]; exact x1, q3 u hu, by rw [(o (by omega)).2]; exact x3, fun v hv => by rw [(o (by omega)).1]; exact x4 v hv, fun v hv => by rw [(o (by omega)).1]; exact x5 v hv⟩
theorem CI_cut (h : CI M t (sLess S a) ac g pl) (hg : sG (sCut S a) = g) (hpl : ∀ u, u < sN S → sPl (sCut S a) u = pl u) (hac : ∀ k, k < 9 → sAc (sCut S a) k = ac k) : CR M t (sCut S a) := by
  obtain ⟨⟨e0, e1, e2, e3, e4⟩, f1, f2, f3, f4⟩ := h
  refine ⟨⟨by rw [sCut_n]; exact e0, by rw [sCut_m]; exact e1, by rw [hg]; exact e2, by rw [sCut_mo]; exact e3, by rw [sCut_jo]; exact e4⟩, fun k hk => by rw [hac k hk]; exact f1 k hk, fun p hp v hv => ?_, fun i hi => ?_, fun u hu => ?_⟩
  · rw [hg] at hp
    rw [sCut_n]
    exact (f2 p hp v hv).trans ⟨fun z => ⟨z.1, (hpl v z.1).trans z.2⟩, fun z => ⟨z.1, (hpl v z.1).symm.trans z.2⟩⟩
  · rw [sCut_m] at hi
    rw [sCut_fr, sCut_to]; exact f3 i hi
  · rw [sCut_n] at hu
    obtain ⟨x1, x2, x3, x4, x5⟩ := f4 u hu
    exact ⟨by rw [sCut_hr]; exact x1, by rw [hpl u hu]; exact x2, by rw [sCut_nm]; exact x3, fun v hv => by rw [sCut_E]; exact x4 v hv, fun v hv => by rw [sCut_R]; exact x5 v hv⟩
end CT2
