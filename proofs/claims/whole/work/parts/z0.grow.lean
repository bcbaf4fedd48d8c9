/-! GROWING WORLDS: constructors. A world's cells get their addresses by a function ad; a new cell is the next number. -/
def zSet (V : gEnv) (ad : Nat → Nat) : gEnv := (V.1, V.2.1, V.2.2.1, V.2.2.2.1, V.2.2.2.2.1, ad, V.2.2.2.2.2.2)
def gSq (n : Nat) (sh : gShp) : Bool := match sh with
  | .inl _ => true
  | .inr (_, fs) => fs.all (fun f => decide (f.1 < 3) || decide (f.2 < n))
/-- all references of a world lead to cells below n -/
def gRf (n : Nat) (Sh : List gShp) (M : gMem) : Prop := (∀ sh ∈ Sh, gSq n sh = true) ∧ ∀ c i, M.2.2 c i ≤ n
/-- cells from n on are blank -/
def gZe (n : Nat) (M : gMem) : Prop := ∀ c, n ≤ c → (∀ k, M.1 c k = 0) ∧ (∀ k, M.2.1 c k = 0) ∧ ∀ k, M.2.2 c k = 0
def gExt (ad ad' : Nat → Nat) (n n' sz : Nat) : Prop := (∀ c, c < n → ad' c = ad c) ∧ ∀ c, n ≤ c → c < n' → sz ≤ ad' c
theorem gSq_up {n n' : Nat} {sh : gShp} (h : n ≤ n') (z : gSq n sh = true) : gSq n' sh = true := by
  unfold gSq at z ⊢
  cases sh with
  | inl a => rfl
  | inr a =>
    obtain ⟨ci, fs⟩ := a
    simp only [List.all_eq_true, Bool.or_eq_true, decide_eq_true_eq] at z ⊢
    intro f hf
    rcases z f hf with q | q
    · exact Or.inl q
    · exact Or.inr (by omega)
theorem gRf_up {n n' : Nat} {Sh : List gShp} {M : gMem} (h : n ≤ n') (z : gRf n Sh M) : gRf n' Sh M := ⟨fun sh hs => gSq_up h (z.1 sh hs), fun c i => Nat.le_trans (z.2 c i) h⟩
theorem gZe_up {n n' : Nat} {M : gMem} (h : n ≤ n') (z : gZe n M) : gZe n' M := fun c hc => z c (Nat.le_trans h hc)
theorem gRf_app {n : Nat} {A B : List gShp} {M : gMem} (a : gRf n A M) (b : ∀ sh ∈ B, gSq n sh = true) : gRf n (A ++ B) M := ⟨fun sh hs => (List.mem_append.mp hs).elim (a.1 sh) (b sh), a.2⟩
theorem gVal_set {V : gEnv} {ad ad' : Nat → Nat} {M : gMem} {c k n : Nat} {f : Nat × Nat} (h : ∀ c, c < n → ad' c = ad c) (hf : f.1 < 3 ∨ f.2 < n) : gVal (zSet V ad') M c k f = gVal (zSet V ad) M c k f := by
  obtain ⟨f1, f2⟩ := f
  unfold gVal
  split
  · rfl
  · rfl
  · rfl
  · rename_i h0 h1 h2
    have hf2 : f2 < n := by
      rcases hf with q | q
      · have q : f1 < 3 := q
        have : f1 ≠ 0 := fun e => h0 e
        have : f1 ≠ 1 := fun e => h1 e
        have : f1 ≠ 2 := fun e => h2 e
        omega
      · exact q
    show Value.ref (ad' f2) = .ref (ad f2)
    rw [h _ hf2]
theorem gEnt_set {V : gEnv} {ad ad' : Nat → Nat} {M : gMem} {c n : Nat} {sh : gShp} (h : ∀ c, c < n → ad' c = ad c) (hs : gSq n sh = true) (hm : ∀ c i, M.2.2 c i ≤ n) : gEnt (zSet V ad') M c sh = gEnt (zSet V ad) M c sh := by
  unfold gEnt
  split
  · rfl
  · rfl
  · rfl
  · have e : (fun i => gRef (zSet V ad') (M.2.2 c i)) = fun i => gRef (zSet V ad) (M.2.2 c i) := by
      funext i
      have z := hm c i
      cases hq : M.2.2 c i with
      | zero => rfl
      | succ q =>
        show some (ad' q) = some (ad q)
        rw [h q (by omega)]
    show (Sum.inl (gCa V 3, _, .inr (.inr (.inr (.inr (fun i => gRef (zSet V ad') (M.2.2 c i)))))) : va_E) = .inl (gCa V 3, _, .inr (.inr (.inr (.inr (fun i => gRef (zSet V ad) (M.2.2 c i))))))
    rw [e]
  · rename_i ci fs
    congr 2
    apply List.ext_getElem?
    intro j
    rw [List.getElem?_mapIdx, List.getElem?_mapIdx]
    cases hj : fs[j]? with
    | none => rfl
    | some f =>
      show some _ = some _
      congr 1
      refine gVal_set h ?_
      unfold gSq at hs
      simp only [List.all_eq_true, Bool.or_eq_true, decide_eq_true_eq] at hs
      exact hs f (List.mem_of_getElem? hj)
theorem gWs_ad {V : gEnv} {ad ad' : Nat → Nat} {M : gMem} {Sh : List gShp} (h : ∀ c, c < Sh.length → ad' c = ad c) (hr : gRf Sh.length Sh M) : gWs (zSet V ad') Sh M = gWs (zSet V ad) Sh M := by
  apply List.ext_getElem?
  intro j
  unfold gWs
  rw [List.getElem?_mapIdx, List.getElem?_mapIdx]
  cases hj : Sh[j]? with
  | none => rfl
  | some sh =>
    show some (ad' j, gEnt (zSet V ad') M j sh) = some (ad j, gEnt (zSet V ad) M j sh)
    rw [h j (List.getElem?_eq_some_iff.mp hj).1, gEnt_set h (hr.1 sh (List.mem_of_getElem? hj)) hr.2]
theorem gWs_push {V : gEnv} {M : gMem} {Sh : List gShp} {sh : gShp} : gWs V (Sh ++ [sh]) M = gWs V Sh M ++ [(gAd V Sh.length, gEnt V M Sh.length sh)] := by
  unfold gWs
  rw [List.mapIdx_concat]
theorem gWs_put {V : gEnv} {M : gMem} {Sh : List gShp} {c : Nat} {sh : gShp} : gWs V (Sh.set c sh) M = (gWs V Sh M).set c (gAd V c, gEnt V M c sh) := by
  unfold gWs
  rw [List.mapIdx_set]
theorem gS_up {A B : Nat → Prop} {H0 H : Heap} {locs : List Loc} (h : ∀ q, A q → B q) (z : va_S A H0 H locs) : va_S B H0 H locs := ⟨z.1, fun q h1 h2 => z.2.1 q h1 (fun a => h2 (h q a)), fun l hl => h _ (z.2.2 l hl)⟩
theorem gA_grow {V : gEnv} {ad ad' : Nat → Nat} {n n' sz : Nat} (hn : n ≤ n') (h : ∀ c, c < n → ad' c = ad c) : ∀ q, gA (zSet V ad) n sz q → gA (zSet V ad') n' sz q := by
  intro q hq
  rcases hq with ⟨c, hc, rfl⟩ | hq
  · exact Or.inl ⟨c, by omega, (h c hc).symm⟩
  · exact Or.inr hq
theorem gA_back {V : gEnv} {ad ad' : Nat → Nat} {n n' sz : Nat} (h : gExt ad ad' n n' sz) : ∀ q, gA (zSet V ad') n' sz q → gA (zSet V ad) n sz q := by
  intro q hq
  rcases hq with ⟨c, hc, rfl⟩ | hq
  · by_cases hcn : c < n
    · exact Or.inl ⟨c, hcn, h.1 c hcn⟩
    · exact Or.inr (h.2 c (by omega) hc)
  · exact Or.inr hq
theorem gExt_rf {ad : Nat → Nat} {n sz : Nat} : gExt ad ad n n sz := ⟨fun _ _ => rfl, fun c h1 h2 => by omega⟩
theorem gExt_tr {ad a1 a2 : Nat → Nat} {n n1 n2 sz : Nat} (h1 : gExt ad a1 n n1 sz) (h2 : gExt a1 a2 n1 n2 sz) (hn : n ≤ n1) : gExt ad a2 n n2 sz :=
  ⟨fun c hc => (h2.1 c (by omega)).trans (h1.1 c hc), fun c ha hb => by
    by_cases hc : c < n1
    · rw [h2.1 c hc]; exact h1.2 c ha hc
    · exact h2.2 c (by omega) hb⟩
theorem gExt_sz {ad a1 : Nat → Nat} {n n1 s1 s2 : Nat} (h : gExt ad a1 n n1 s1) (hs : s2 ≤ s1) : gExt ad a1 n n1 s2 := ⟨h.1, fun c ha hb => Nat.le_trans hs (h.2 c ha hb)⟩
/-- a cell comes -/
theorem gGrow {V : gEnv} {ad : Nat → Nat} {Sh : List gShp} {M : gMem} {sh : gShp} {q sz : Nat} {e : va_E} {D : va_G} {cl : List vw_C} {H1 : Heap} (hI : gInj (zSet V ad) Sh.length) (hz : gZ V ≤ sz) (hr : gRf Sh.length Sh M) (hs : gSq 0 sh = true)
    (hP : va_P D cl (gWs (zSet V ad) Sh M ++ [(q, e)]) H1) (hD : va_D (gA (zSet V ad) Sh.length sz) (gWs (zSet V ad) Sh M ++ [(q, e)])) (he : e = gEnt (zSet V ad) M Sh.length sh) :
    ∃ ad', ad' Sh.length = q ∧ gExt ad ad' Sh.length (Sh.length + 1) sz ∧ gInj (zSet V ad') (Sh.length + 1) ∧ va_P D cl (gWs (zSet V ad') (Sh ++ [sh]) M) H1 := by
  have hlen : (gWs (zSet V ad) Sh M).length = Sh.length := by unfold gWs; rw [List.length_mapIdx]
  have hat : (gWs (zSet V ad) Sh M ++ [(q, e)])[Sh.length]? = some (q, e) := by
    rw [List.getElem?_append_right (by omega), hlen, Nat.sub_self]; rfl
  have hol : ∀ c, c < Sh.length → ∃ x, (gWs (zSet V ad) Sh M ++ [(q, e)])[c]? = some (ad c, x) := by
    intro c hc
    rw [List.getElem?_append_left (by omega)]
    exact ⟨_, gWs_at (List.getElem?_eq_getElem hc)⟩
  have hne : ∀ c, c < Sh.length → ad c ≠ q := by
    intro c hc e0
    obtain ⟨x, hx⟩ := hol c hc
    have := hD.1 c Sh.length _ _ hx hat e0
    omega
  have hsz : sz ≤ q := by
    rcases hD.2 Sh.length _ hat with ⟨c, hc, e0⟩ | h
    · exact absurd e0.symm (hne c hc)
    · exact h
  have hlt : ∀ c, c < Sh.length → (fun i => if i = Sh.length then q else ad i) c = ad c := fun c hc => if_neg (by omega)
  have hn : (fun i => if i = Sh.length then q else ad i) Sh.length = q := if_pos rfl
  refine ⟨fun i => if i = Sh.length then q else ad i, hn, ⟨hlt, fun c h1 h2 => ?_⟩, ⟨fun i j hi hj e0 => ?_, fun i hi => ?_⟩, ?_⟩
  · have : c = Sh.length := by omega
    subst this
    rw [hn]; exact hsz
  · have e0 : (if i = Sh.length then q else ad i) = (if j = Sh.length then q else ad j) := e0
    by_cases h1 : i = Sh.length
    · by_cases h2 : j = Sh.length
      · omega
      · rw [if_pos h1, if_neg h2] at e0
        exact absurd e0.symm (hne j (by omega))
    · by_cases h2 : j = Sh.length
      · rw [if_neg h1, if_pos h2] at e0
        exact absurd e0 (hne i (by omega))
      · rw [if_neg h1, if_neg h2] at e0
        exact hI.1 i j (by omega) (by omega) e0
  · show gZ V ≤ (if i = Sh.length then q else ad i)
    by_cases h1 : i = Sh.length
    · rw [if_pos h1]; omega
    · rw [if_neg h1]; exact hI.2 i (by omega)
  · rw [gWs_push]
    have e1 : gAd (zSet V fun i => if i = Sh.length then q else ad i) Sh.length = q := hn
    rw [e1, gWs_ad hlt hr, gEnt_set hlt (gSq_up (Nat.zero_le _) hs) hr.2, ← he]
    exact hP
/-! ROWS of a constructor -/
theorem zAi : Cond.arrayClass .int ∈ gBW := gBW_of (by decide +kernel) rfl
theorem zAl : Cond.arrayClass .long ∈ gBW := gBW_of (by decide +kernel) rfl
theorem zAb : Cond.arrayClass .byte ∈ gBW := gBW_of (by decide +kernel) rfl
section GN
variable {X : gX} {V : gEnv} {Y : gY} {Sh : List gShp} {M M' : gMem} {ad : Nat → Nat} {k n pc : Nat} {ls : List (Nat × Value)} {st : List Value}
/-- a new array of ints (0), longs (1), bytes (2) -/
theorem g_newarr {kd N : Nat} {x : Int32} {at_ : ArrayType} (hk : (kd = 0 ∧ at_ = .int) ∨ (kd = 1 ∧ at_ = .long) ∨ (kd = 2 ∧ at_ = .byte)) (hx : ¬ x < 0) (hN : x.toNatClampNeg = N) (hb : N ≤ 4096) (hR : k + 1 ≤ Y.2.2.2.cells ∧ n + N ≤ Y.2.2.2.slots) (hr : gRf Sh.length Sh M) (hz : gZe Sh.length M) (d : decode Y.1 pc = .ok (.newarray at_, 2))
    (kk : ∀ ad', gExt ad ad' Sh.length (Sh.length + 1) (gXs X).heap.size → gG X (zSet V ad') Y (Sh ++ [.inl (kd, N)]) M (k + 1) (n + N) (pc + 2) ls (.ref (ad' Sh.length) :: st)) : gG X (zSet V ad) Y Sh M k n pc ls (.int x :: st) := by
  intro hC hK hI H locs la hP hS hl
  obtain ⟨hx9, hb9, hml, hown, hts, hlk, hrm⟩ := id hC
  rw [← hrm] at hR
  have z0 : M.1 Sh.length = fun _ => 0 := funext (hz _ (Nat.le_refl _)).1
  have z1 : M.2.1 Sh.length = fun _ => 0 := funext (hz _ (Nat.le_refl _)).2.1
  have key : ∀ (q : Nat) (cA : ClassId) (H1 : Heap) (e : va_E), e = gEnt (zSet V ad) M Sh.length (.inl (kd, N)) → va_P (gD V) vwCl (gWs (zSet V ad) Sh M ++ [(q, e)]) H1 → va_D (gA (zSet V ad) Sh.length (gXs X).heap.size) (gWs (zSet V ad) Sh M ++ [(q, e)]) → va_S (gA (zSet V ad) Sh.length (gXs X).heap.size) (gXs X).heap H1 locs → gW X H1 locs (k + 1) (n + N) (F0 (gXm X) (pc + 2) la (.ref q :: st)) := by
    intro q cA H1 e he hP1 hD1 hS1
    obtain ⟨ad', e1, e2, e3, e4⟩ := gGrow (sh := .inl (kd, N)) hI hK.2.2.2.2.2.2.2.2.2.1 hr rfl hP1 hD1 he
    have z := kk ad' e2 hC hK (by rw [List.length_append]; exact e3) H1 locs la e4 (by rw [List.length_append]; exact gS_up (gA_grow (Nat.le_succ _) e2.1) hS1) hl
    rw [e1] at z
    exact z
  have hA : ∀ q : Nat, (gXs X).heap.size ≤ q → gA (zSet V ad) Sh.length (gXs X).heap.size q := fun q h => Or.inr h
  rcases hk with ⟨rfl, rfl⟩ | ⟨rfl, rfl⟩ | ⟨rfl, rfl⟩
  · refine va_newa (atype := .int) (ty := .int) (N' := N) (a0 := (N, .inl (fun _ => 0))) hx9 hb9 (hts _ zAi) rfl hK.1 hP (gWs_D hI) hS hA (fun cA => rfl) hx hN (show N * 4 ≤ _ by omega) hR.1 hR.2 d (fun q cA H1 hK1 hP1 hD1 hS1 => ?_)
    refine key q cA H1 _ ?_ hP1 hD1 hS1
    have f1 := va_nm_int (hK1.2 4 (cA, .int) rfl).2
    have f2 := va_nm_int (hK.1.2 0 (gCa V 0, .int) rfl).2
    have e0 : cA = gCa V 0 := Option.some.inj (f1.symm.trans f2)
    show (Sum.inl (cA, N, .inl (fun _ => 0)) : va_E) = .inl (gCa V 0, N, .inl (M.1 Sh.length))
    rw [z0, e0]
  · refine va_newa (atype := .long) (ty := .long) (N' := N) (a0 := (N, .inr (.inl (fun _ => 0)))) hx9 hb9 (hts _ zAl) rfl hK.1 hP (gWs_D hI) hS hA (fun cA => rfl) hx hN (show N * 8 ≤ _ by omega) hR.1 hR.2 d (fun q cA H1 hK1 hP1 hD1 hS1 => ?_)
    refine key q cA H1 _ ?_ hP1 hD1 hS1
    have f1 := va_nm_long (hK1.2 4 (cA, .long) rfl).2
    have f2 := va_nm_long (hK.1.2 1 (gCa V 1, .long) rfl).2
    have e0 : cA = gCa V 1 := Option.some.inj (f1.symm.trans f2)
    show (Sum.inl (cA, N, .inr (.inl (fun _ => 0))) : va_E) = .inl (gCa V 1, N, .inr (.inl (M.2.1 Sh.length)))
    rw [z1, e0]
  · refine va_newa (atype := .byte) (ty := .byte) (N' := N) (a0 := (N, .inl (fun _ => 0))) hx9 hb9 (hts _ zAb) rfl hK.1 hP (gWs_D hI) hS hA (fun cA => rfl) hx hN (show N * 1 ≤ _ by omega) hR.1 hR.2 d (fun q cA H1 hK1 hP1 hD1 hS1 => ?_)
    refine key q cA H1 _ ?_ hP1 hD1 hS1
    have f1 := va_nm_byte (hK1.2 4 (cA, .byte) rfl).2
    have f2 := va_nm_byte (hK.1.2 2 (gCa V 2, .byte) rfl).2
    have e0 : cA = gCa V 2 := Option.some.inj (f1.symm.trans f2)
    show (Sum.inl (cA, N, .inl (fun _ => 0)) : va_E) = .inl (gCa V 2, N, .inl (M.1 Sh.length))
    rw [z0, e0]
/-- a new array of Nets -/
theorem g_newnet {idx N : Nat} {x : Int32} (hcl : Cond.classLink Y.2.1 idx "RingFreeOrder$Net" ∈ gBW) (hAO : va_AO "RingFreeOrder$Net" (gXs X)) (hx : ¬ x < 0) (hN : x.toNatClampNeg = N) (hb : N ≤ 4096) (hR : k + 1 ≤ Y.2.2.2.cells ∧ n + N ≤ Y.2.2.2.slots) (hr : gRf Sh.length Sh M) (hz : gZe Sh.length M) (d : decode Y.1 pc = .ok (.anewarray idx, 3))
    (kk : ∀ ad', gExt ad ad' Sh.length (Sh.length + 1) (gXs X).heap.size → gG X (zSet V ad') Y (Sh ++ [.inl (3, N)]) M (k + 1) (n + N) (pc + 3) ls (.ref (ad' Sh.length) :: st)) : gG X (zSet V ad) Y Sh M k n pc ls (.int x :: st) := by
  intro hC hK hI H locs la hP hS hl
  obtain ⟨hx9, hb9, hml, hown, hts, hlk, hrm⟩ := id hC
  rw [← hrm] at hR
  have hA : ∀ q : Nat, (gXs X).heap.size ≤ q → gA (zSet V ad) Sh.length (gXs X).heap.size q := fun q h => Or.inr h
  refine va_newq (C := "RingFreeOrder$Net") (N' := N) hx9 hb9 hown (hts _ hcl) hAO hK.1 hP (gWs_D hI) hS hA hx hN (by omega) hR.1 hR.2 d (fun q cA H1 hK1 hP1 hD1 hS1 => ?_)
  have f1 := va_nmO (hK1.2 4 (cA, .object "RingFreeOrder$Net") rfl).2 rfl
  have f2 := va_nmO (hK.1.2 3 (gCa V 3, .object "RingFreeOrder$Net") rfl).2 rfl
  have e0 : cA = gCa V 3 := Option.some.inj (f1.symm.trans f2)
  obtain ⟨ad', e1, e2, e3, e4⟩ := gGrow (sh := .inl (3, N)) hI hK.2.2.2.2.2.2.2.2.2.1 hr rfl hP1 hD1 (by
    rw [e0]
    show (Sum.inl (gCa V 3, N, .inr (.inr (.inr (.inr (fun _ => none))))) : va_E) = .inl (gCa V 3, N, .inr (.inr (.inr (.inr (fun i => match M.2.2 Sh.length i with | 0 => none | q + 1 => some (ad q))))))
    congr 7
    funext i
    rw [(hz _ (Nat.le_refl _)).2.2 i])
  have z := kk ad' e2 hC hK (by rw [List.length_append]; exact e3) H1 locs la e4 (by rw [List.length_append]; exact gS_up (gA_grow (Nat.le_succ _) e2.1) hS1) hl
  rw [e1] at z
  exact z
/-- what a field is at birth -/
def gBn (ty : FieldType) (a : Nat) : Bool := match ty with
  | .int => a == 0
  | .boolean => a == 0
  | .object _ => a == 2
  | .array _ => a == 2
  | _ => false
theorem gBn_ok {V : gEnv} {M : gMem} {c k : Nat} {f : Nat × Nat} {ty : FieldType} (h : gBn ty f.1 = true) (hz : M.1 c k = 0) : defaultValue ty = gVal V M c k f := by
  obtain ⟨a, b⟩ := f
  have h : gBn ty a = true := h
  unfold gBn at h
  split at h
  · have e := eq_of_beq h
    subst e
    show Value.int 0 = .int (M.1 c k)
    rw [hz]
  · have e := eq_of_beq h
    subst e
    show Value.int 0 = .int (M.1 c k)
    rw [hz]
  · have e := eq_of_beq h
    subst e
    rfl
  · have e := eq_of_beq h
    subst e
    rfl
  · cases h
/-- a new object -/
theorem g_newobj {idx ci N : Nat} {C : String} {T : u_T} {fs : List (Nat × Nat)} {ty0 : Nat → FieldType} (hci : vwCl[ci]? = some (C, T, N)) (hws : ∀ w ∈ u_ws C T N, w ∈ gBW) (F2 : gFt ty0 T N) (hcl : Cond.classLink Y.2.1 idx C ∈ gBW) (hin : Cond.instantiable C N ∈ gBW) (hini : Cond.initialized C ∈ gBW) (hfl : fs.length = N) (hfs : ((List.range N).all fun j => gBn (ty0 j) (fs.getD j (0, 0)).1) = true) (hs : gSq 0 (.inr (ci, fs)) = true) (hR : k + 1 ≤ Y.2.2.2.cells ∧ n + N ≤ Y.2.2.2.slots) (hr : gRf Sh.length Sh M) (hz : gZe Sh.length M) (d : decode Y.1 pc = .ok (.new idx, 3))
    (kk : ∀ ad', gExt ad ad' Sh.length (Sh.length + 1) (gXs X).heap.size → gG X (zSet V ad') Y (Sh ++ [.inr (ci, fs)]) M (k + 1) (n + N) (pc + 3) ls (.ref (ad' Sh.length) :: st)) : gG X (zSet V ad) Y Sh M k n pc ls st := by
  intro hC hK hI H locs la hP hS hl
  obtain ⟨hx9, hb9, hml, hown, hts, hlk, hrm⟩ := id hC
  rw [← hrm] at hR
  have hA : ∀ q : Nat, (gXs X).heap.size ≤ q → gA (zSet V ad) Sh.length (gXs X).heap.size q := fun q h => Or.inr h
  refine va_new (ci := ci) (fs := fs.mapIdx (fun k f => gVal (zSet V ad) M Sh.length k f)) (C := C) (T := T) (N := N) hx9 hb9 hts hws ty0 F2.1 hown (hts _ hcl) (hts _ hin) (hts _ hini) hK.1 hP (gWs_D hI) hS hA hci (fun j hj => ?_) hR.1 hR.2 d (fun q H1 hP1 hD1 hS1 => ?_)
  · have hj2 : j < fs.length := by omega
    have hq := List.all_eq_true.mp hfs j (List.mem_range.mpr hj)
    rw [List.getD_eq_getElem?_getD, List.getElem?_eq_getElem hj2] at hq
    have e := gBn_ok (V := zSet V ad) (M := M) (c := Sh.length) (k := j) hq ((hz _ (Nat.le_refl _)).1 j)
    rw [e]
    unfold vp_V
    rw [List.getD_eq_getElem?_getD, List.getElem?_mapIdx, List.getElem?_eq_getElem hj2]
    rfl
  · obtain ⟨ad', e1, e2, e3, e4⟩ := gGrow (sh := .inr (ci, fs)) hI hK.2.2.2.2.2.2.2.2.2.1 hr hs hP1 hD1 rfl
    have z := kk ad' e2 hC hK (by rw [List.length_append]; exact e3) H1 locs la e4 (by rw [List.length_append]; exact gS_up (gA_grow (Nat.le_succ _) e2.1) hS1) hl
    rw [e1] at z
    exact z
/-- a final field gets its cell, in a constructor -/
theorem g_putF {idx ci f c q N b : Nat} {C : String} {T : u_T} {fs : List (Nat × Nat)} {ty0 : Nat → FieldType} (F : gFl Y.2.1 idx ci f C T N) (F2 : gFt ty0 T N) (hsh : Sh[c]? = some (.inr (ci, fs))) (hf : fs[f]? = some (2, b)) (hfin : (T f).2.2.2 = true) (hin : (gXh X).name = "<init>") (hown2 : C = Y.2.1) (hn : ∀ a : Nat, narrow (ty0 f) (.ref a) = .ref a) (hfit : ∀ a : Nat, fits (ty0 f) (.ref a) = true) (d : decode Y.1 pc = .ok (.putfield idx, 3)) (kk : gG X V Y (Sh.set c (.inr (ci, fs.set f (3, q)))) M k n (pc + 3) ls st) : gG X V Y Sh M k n pc ls (.ref (gAd V q) :: .ref (gAd V c) :: st) := by
  obtain ⟨f1, f2, f3, f4, f5⟩ := F
  intro hC hK hI H locs la hP hS hl
  refine va_putF hC.1 hC.2.1 hC.2.2.2.2.1 f3 ty0 F2.1 F2.2 hC.2.2.2.1 hK.1 hP (gWs_D hI) hS c (gWs_at hsh) f1 f f2 (ref := C) (hC.2.2.2.2.1 _ f4) (by rw [f5]; exact fun _ h => h) hfin hin (by rw [f5, hown2]) (F2.1 f f2) (hn _) (hfit _) (by rw [List.length_mapIdx]; exact (List.getElem?_eq_some_iff.mp hf).1) d (fun H1 locs1 hP1 _ hS1 => ?_)
  have e : gWs V (Sh.set c (.inr (ci, fs.set f (3, q)))) M = (gWs V Sh M).set c (gAd V c, .inr (ci, (fs.mapIdx (fun k f => gVal V M c k f)).set f (.ref (gAd V q)))) := by
    rw [gWs_put]
    congr 2
    show Sum.inr (ci, (fs.set f (3, q)).mapIdx (fun k f => gVal V M c k f)) = _
    rw [List.mapIdx_set]
    rfl
  rw [← e] at hP1
  exact kk hC hK (by rw [List.length_set]; exact hI) H1 locs1 la hP1 (by rw [List.length_set]; exact hS1) hl
/-- Object's own constructor -/
theorem g_objInit {idx a : Nat} (w1 : Cond.methodLink Y.2.1 idx Lib.objectInit ∈ gBW) (w2 : Cond.instanceMethod Lib.objectInit ∈ gBW) (w3 : Cond.code Lib.objectInit ⟨#[0xb1]⟩ 1 none ∈ gBW) (hR : 1 ≤ Y.2.2.2.frames ∧ (st.map fun v => v.category).sum + 12 ≤ Y.2.2.2.locals) (d : decode Y.1 pc = .ok (.invokespecial idx, 3)) (kk : gG X V Y Sh M k n (pc + 3) ls st) : gG X V Y Sh M k n pc ls (.ref a :: st) := by
  intro hC hK hI H locs la hP hS hl
  obtain ⟨hx9, hb9, hml, hown, hts, hlk, hrm⟩ := id hC
  rw [← hrm] at hR
  refine W.objInit hx9 hb9 hown (hts _ w1) (hts _ w2) (hts _ w3) rfl (hl.1.trans hml.symm) rfl d hR.1 (by show 2 * 0 + _ + 12 ≤ _; omega) ?_
  exact kk hC hK hI H locs la hP hS hl
end GN
