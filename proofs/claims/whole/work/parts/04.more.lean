/-! MORE: reads and writes as options, loops, what the generated rows stand on -/
def gIn (i : Int32) (n : Nat) : Bool := decide (0 ≤ i) && decide (i.toNatClampNeg < n)
theorem gIn_ok {i : Int32} {n : Nat} (h : gIn i n = true) : vp_in i n := by
  unfold gIn at h
  rw [Bool.and_eq_true, decide_eq_true_eq, decide_eq_true_eq] at h
  intro z
  rcases z with z | z
  · rw [Int32.lt_iff_toInt_lt] at z
    rw [Int32.le_iff_toInt_le] at h
    omega
  · omega
def rI (M : gMem) (c n : Nat) (i : Int32) : Option Int32 := if gIn i n = true then some (M.1 c i.toNatClampNeg) else none
def rL (M : gMem) (c n : Nat) (i : Int32) : Option Int64 := if gIn i n = true then some (M.2.1 c i.toNatClampNeg) else none
def wI (M : gMem) (c n : Nat) (i x : Int32) : Option gMem := if gIn i n = true then some (gI M c i.toNatClampNeg x) else none
def wL (M : gMem) (c n : Nat) (i : Int32) (x : Int64) : Option gMem := if gIn i n = true then some (gL M c i.toNatClampNeg x) else none
/-- a Net out of the row of Nets -/
def rN (M : gMem) (c n : Nat) (i : Int32) (ok : Nat → Bool) : Option Nat := if gIn i n = true then match M.2.2 c i.toNatClampNeg with | 0 => none | q + 1 => if ok q = true then some q else none else none
def wN (M : gMem) (c n : Nat) (i : Int32) (q : Nat) : Option gMem := if gIn i n = true then some (gR M c i.toNatClampNeg (q + 1)) else none
def wF (M : gMem) (c f : Nat) (x : Int32) : Option gMem := some (gI M c f x)
def wZ (M : gMem) (c f : Nat) (x : Int32) : Option gMem := if x = 0 ∨ x = 1 then some (gI M c f x) else none
/-- a name for a number -/
def nm {α : Type} (x : α) : Option α := some x
/-- a truth value -/
def gZv (x : Int32) : Bool := decide (x = 0 ∨ x = 1)
theorem g_nz {x : Int32} (h : x = 0 ∨ x = 1) : narrow .boolean (.int x) = .int x := by
  rcases h with rfl | rfl <;> decide
theorem g_fz {x : Int32} (h : x = 0 ∨ x = 1) : fits .boolean (.int x) = true := by
  rcases h with rfl | rfl <;> decide
theorem g_bnd {α β : Type} {o : Option α} {f : α → Option β} {r : β} (h : o.bind f = some r) : ∃ a, o = some a ∧ f a = some r := by
  cases o with
  | none => cases h
  | some a => exact ⟨a, rfl, h⟩
theorem g_ite {α : Type} {c : Prop} {dc : Decidable c} {a b : Option α} {r : α} (h : @ite _ c dc a b = some r) : (c ∧ a = some r) ∨ (¬ c ∧ b = some r) := by
  by_cases hc : c
  · rw [if_pos hc] at h; exact Or.inl ⟨hc, h⟩
  · rw [if_neg hc] at h; exact Or.inr ⟨hc, h⟩
theorem rI_ok {M : gMem} {c n : Nat} {i v : Int32} (h : rI M c n i = some v) : vp_in i n ∧ M.1 c i.toNatClampNeg = v := by
  rcases g_ite h with ⟨a, b⟩ | ⟨a, b⟩
  · exact ⟨gIn_ok a, Option.some.inj b⟩
  · cases b
theorem rL_ok {M : gMem} {c n : Nat} {i : Int32} {v : Int64} (h : rL M c n i = some v) : vp_in i n ∧ M.2.1 c i.toNatClampNeg = v := by
  rcases g_ite h with ⟨a, b⟩ | ⟨a, b⟩
  · exact ⟨gIn_ok a, Option.some.inj b⟩
  · cases b
theorem wI_ok {M M' : gMem} {c n : Nat} {i x : Int32} (h : wI M c n i x = some M') : vp_in i n ∧ gI M c i.toNatClampNeg x = M' := by
  rcases g_ite h with ⟨a, b⟩ | ⟨a, b⟩
  · exact ⟨gIn_ok a, Option.some.inj b⟩
  · cases b
theorem wL_ok {M M' : gMem} {c n : Nat} {i : Int32} {x : Int64} (h : wL M c n i x = some M') : vp_in i n ∧ gL M c i.toNatClampNeg x = M' := by
  rcases g_ite h with ⟨a, b⟩ | ⟨a, b⟩
  · exact ⟨gIn_ok a, Option.some.inj b⟩
  · cases b
theorem wN_ok {M M' : gMem} {c n q : Nat} {i : Int32} (h : wN M c n i q = some M') : vp_in i n ∧ gR M c i.toNatClampNeg (q + 1) = M' := by
  rcases g_ite h with ⟨a, b⟩ | ⟨a, b⟩
  · exact ⟨gIn_ok a, Option.some.inj b⟩
  · cases b
theorem rN_ok {M : gMem} {c n q : Nat} {i : Int32} {ok : Nat → Bool} (h : rN M c n i ok = some q) : vp_in i n ∧ M.2.2 c i.toNatClampNeg = q + 1 ∧ ok q = true := by
  rcases g_ite h with ⟨a, b⟩ | ⟨a, b⟩
  · cases hq : M.2.2 c i.toNatClampNeg with
    | zero => rw [hq] at b; cases b
    | succ q' =>
      rw [hq] at b
      rcases g_ite b with ⟨e, z⟩ | ⟨e, z⟩
      · cases z; exact ⟨gIn_ok a, rfl, e⟩
      · cases z
  · cases b
theorem wZ_ok {M M' : gMem} {c f : Nat} {x : Int32} (h : wZ M c f x = some M') : (x = 0 ∨ x = 1) ∧ gI M c f x = M' := by
  rcases g_ite h with ⟨a, b⟩ | ⟨a, b⟩
  · exact ⟨a, Option.some.inj b⟩
  · cases b
/-- a loop: as long as the body goes on -/
def gLoop {σ ρ : Type} (body : σ → Option (σ ⊕ ρ)) : Nat → σ → Option ρ
  | 0, _ => none
  | n + 1, s => (body s).bind fun o => match o with | .inl s' => gLoop body n s' | .inr r => some r
abbrev gFu : Nat := 4096
theorem gLoop_P {σ ρ : Type} {body : σ → Option (σ ⊕ ρ)} (P : σ → Prop) {r : ρ} (step : ∀ s o, body s = some o → (∀ s', o = .inl s' → P s') → (∀ r', o = .inr r' → r' = r) → P s) : ∀ (n : Nat) (s : σ), gLoop body n s = some r → P s := by
  intro n
  induction n with
  | zero => intro s h; cases h
  | succ n ih =>
    intro s h
    obtain ⟨o, h1, h2⟩ := g_bnd h
    cases o with
    | inl s' => exact step s _ h1 (fun s'' e => by cases e; exact ih s' h2) (fun _ e => nomatch e)
    | inr r' => exact step s _ h1 (fun _ e => nomatch e) (fun r'' e => by cases e; cases h2; rfl)
theorem gne {x : Int32} {j : Int} (c : Int32) (hc : c.toInt = j) (h : ¬ x = c) : x.toInt ≠ j := fun e => h (Int32.toInt_inj.mp (e.trans hc.symm))
section GM
variable {X : gX} {V : gEnv} {Y : gY} {Sh : List gShp} {M M' : gMem} {k n pc : Nat} {ls : List (Nat × Value)} {st : List Value}
theorem g_sub {ls' : List (Nat × Value)} (ps : List Nat) (h : lv_pick ls ps = ls') (kk : gG X V Y Sh M k n pc ls' st) : gG X V Y Sh M k n pc ls st :=
  fun hC hK hI H locs la hP hS hl => kk hC hK hI H locs la hP hS (lv_sub hl ps h)
theorem g_wid {k' n' : Nat} (h : k ≤ k' ∧ n ≤ n') (kk : gG X V Y Sh M k' n' pc ls st) : gG X V Y Sh M k n pc ls st :=
  fun hC hK hI H locs la hP hS hl => W.widen h.1 h.2 (kk hC hK hI H locs la hP hS hl)
theorem g_iald' {c N : Nat} {i v : Int32} (h : rI M c N i = some v) (hsh : Sh[c]? = some (.inl (0, N))) (d : decode Y.1 pc = .ok (.iaload, 1)) (kk : gG X V Y Sh M k n (pc + 1) ls (.int v :: st)) : gG X V Y Sh M k n pc ls (.int i :: .ref (gAd V c) :: st) := by
  obtain ⟨h1, rfl⟩ := rI_ok h
  exact g_iald hsh h1 d kk
theorem g_bald' {c N : Nat} {i v : Int32} (h : rI M c N i = some v) (hsh : Sh[c]? = some (.inl (2, N))) (d : decode Y.1 pc = .ok (.baload, 1)) (kk : gG X V Y Sh M k n (pc + 1) ls (.int v :: st)) : gG X V Y Sh M k n pc ls (.int i :: .ref (gAd V c) :: st) := by
  obtain ⟨h1, rfl⟩ := rI_ok h
  exact g_bald hsh h1 d kk
theorem g_lald' {c N : Nat} {i : Int32} {v : Int64} (h : rL M c N i = some v) (hsh : Sh[c]? = some (.inl (1, N))) (d : decode Y.1 pc = .ok (.laload, 1)) (kk : gG X V Y Sh M k n (pc + 1) ls (.long v :: st)) : gG X V Y Sh M k n pc ls (.int i :: .ref (gAd V c) :: st) := by
  obtain ⟨h1, rfl⟩ := rL_ok h
  exact g_lald hsh h1 d kk
theorem g_aald' {c N q : Nat} {i : Int32} {ok : Nat → Bool} (h : rN M c N i ok = some q) (hsh : Sh[c]? = some (.inl (3, N))) (d : decode Y.1 pc = .ok (.aaload, 1)) (kk : gG X V Y Sh M k n (pc + 1) ls (.ref (gAd V q) :: st)) : gG X V Y Sh M k n pc ls (.int i :: .ref (gAd V c) :: st) := by
  obtain ⟨h1, h2, -⟩ := rN_ok h
  exact g_aald hsh h1 h2 d kk
theorem g_iast' {c N : Nat} {i x : Int32} (h : wI M c N i x = some M') (hsh : Sh[c]? = some (.inl (0, N))) (d : decode Y.1 pc = .ok (.iastore, 1)) (kk : gG X V Y Sh M' k n (pc + 1) ls st) : gG X V Y Sh M k n pc ls (.int x :: .int i :: .ref (gAd V c) :: st) := by
  obtain ⟨h1, rfl⟩ := wI_ok h
  exact g_iast hsh h1 d kk
theorem g_bast' {c N : Nat} {i x : Int32} (h : wI M c N i x.toInt8.toInt32 = some M') (hsh : Sh[c]? = some (.inl (2, N))) (d : decode Y.1 pc = .ok (.bastore, 1)) (kk : gG X V Y Sh M' k n (pc + 1) ls st) : gG X V Y Sh M k n pc ls (.int x :: .int i :: .ref (gAd V c) :: st) := by
  obtain ⟨h1, rfl⟩ := wI_ok h
  exact g_bast hsh h1 d kk
theorem g_last' {c N : Nat} {i : Int32} {x : Int64} (h : wL M c N i x = some M') (hsh : Sh[c]? = some (.inl (1, N))) (d : decode Y.1 pc = .ok (.lastore, 1)) (kk : gG X V Y Sh M' k n (pc + 1) ls st) : gG X V Y Sh M k n pc ls (.long x :: .int i :: .ref (gAd V c) :: st) := by
  obtain ⟨h1, rfl⟩ := wL_ok h
  exact g_last hsh h1 d kk
theorem g_aast' {c N q : Nat} {i : Int32} {fs : List (Nat × Nat)} (h : wN M c N i q = some M') (hsh : Sh[c]? = some (.inl (3, N))) (hq : Sh[q]? = some (.inr (2, fs))) (d : decode Y.1 pc = .ok (.aastore, 1)) (kk : gG X V Y Sh M' k n (pc + 1) ls st) : gG X V Y Sh M k n pc ls (.ref (gAd V q) :: .int i :: .ref (gAd V c) :: st) := by
  obtain ⟨h1, rfl⟩ := wN_ok h
  exact g_aast hsh hq h1 d kk
theorem g_putI' {idx ci f b c N : Nat} {C : String} {T : u_T} {fs : List (Nat × Nat)} {x : Int32} {ty0 : Nat → FieldType} (h : wF M c f x = some M') (F : gFl Y.2.1 idx ci f C T N) (F2 : gFt ty0 T N) (hsh : Sh[c]? = some (.inr (ci, fs))) (hf : fs[f]? = some (0, b)) (hfin : (T f).2.2.2 = false) (hty : ty0 f = .int) (d : decode Y.1 pc = .ok (.putfield idx, 3)) (kk : gG X V Y Sh M' k n (pc + 3) ls st) : gG X V Y Sh M k n pc ls (.int x :: .ref (gAd V c) :: st) := by
  cases h
  exact g_putI F F2 hsh hf hfin (by rw [hty]; rfl) (by rw [hty]; rfl) d kk
theorem g_putZ' {idx ci f b c N : Nat} {C : String} {T : u_T} {fs : List (Nat × Nat)} {x : Int32} {ty0 : Nat → FieldType} (h : wZ M c f x = some M') (F : gFl Y.2.1 idx ci f C T N) (F2 : gFt ty0 T N) (hsh : Sh[c]? = some (.inr (ci, fs))) (hf : fs[f]? = some (0, b)) (hfin : (T f).2.2.2 = false) (hty : ty0 f = .boolean) (d : decode Y.1 pc = .ok (.putfield idx, 3)) (kk : gG X V Y Sh M' k n (pc + 3) ls st) : gG X V Y Sh M k n pc ls (.int x :: .ref (gAd V c) :: st) := by
  obtain ⟨h1, rfl⟩ := wZ_ok h
  exact g_putI F F2 hsh hf hfin (by rw [hty]; exact g_nz h1) (by rw [hty]; exact g_fz h1) d kk
theorem g_ldcSW {idx q : Nat} {tx : String} (hc : (Y.2.1, idx, tx, q) ∈ gStr) (d : decode Y.1 pc = .ok (.ldc_w idx, 3)) (kk : gG X V Y Sh M k n (pc + 3) ls (.ref (gAdK V q) :: st)) : gG X V Y Sh M k n pc ls st := by
  intro hC hK hI H locs la hP hS hl
  intro T hT Z
  obtain ⟨t, a1, b1⟩ := kk hC hK hI H locs la hP hS hl T hT Z
  have hZ := hK.2.2.1 _ hc
  exact ⟨t, Z.ldcStringW hC.1 hC.2.2.2.1 (text := tx) (a := gAdK V q) hZ.1 hZ.2 (g := F0 (gXm X) pc la st) rfl (by rw [hC.2.1]; exact d) t a1, b1⟩
end GM
