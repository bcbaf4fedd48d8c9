/-! FRAME: a memory of cells by number; gG: from this frame over a heap that holds this memory, the method comes to its end. -/
/-- the good words of the tables: every method's -/
def gBW : List Cond := lw_tbl.filter goodWord
theorem gBW_good : ∀ w ∈ gBW, (w.onTables && w.keeps) = true ∨ ∃ ty, w = .arrayClass ty := fun w h => good_of_word (List.mem_filter.mp h).2
theorem gBW_of {w : Cond} (h : w ∈ lw_tbl) (hg : goodWord w = true) : w ∈ gBW := List.mem_filter.mpr ⟨h, hg⟩
theorem gBW_t {w : Cond} (i : Nat) (h : tables_1[i]? = some w) (hg : goodWord w = true) : w ∈ gBW := gBW_of (List.mem_append_right _ (List.mem_of_getElem? h)) hg
theorem gBW_s {w : Cond} (i : Nat) (h : (k2_sels lw_privs)[i]? = some w) (hg : goodWord w = true) : w ∈ gBW := gBW_of (List.mem_append_left _ (List.mem_of_getElem? h)) hg
theorem gBW_self : GoodIn gBW gBW := fun w h => ⟨h, gBW_good w h⟩
theorem gBW_code {y : MethodName} {cc : ByteArray} {n : Nat} {r : Option FieldType} (h : Cond.code y cc n r ∈ gBW) : GoodIn gBW (.code y cc n r :: gBW) := fun w hw => (List.mem_cons.mp hw).elim (fun e => e ▸ ⟨h, gBW_good _ h⟩) (fun hw => ⟨hw, gBW_good _ hw⟩)
/-- memory: ints, longs, cell numbers (0: null, q + 1: the cell q) -/
abbrev gMem : Type := (Nat → Nat → Int32) × (Nat → Nat → Int64) × (Nat → Nat → Nat)
/-- a cell's shape: an array (kind 0 int, 1 long, 2 byte, 3 Nets; its length), or an object (its class's number; its fields: (0, _) an int, (1, _) a long, (2, _) null, (3, q) the cell q) -/
abbrev gShp : Type := (Nat × Nat) ⊕ (Nat × List (Nat × Nat))
/-- what is fixed in a run: classes' ids, slots, array classes, strings' cells and their bytes', the cells' addresses, where new cells begin -/
abbrev gEnv : Type := (Nat → ClassId) × (Nat → Nat → Nat) × (Nat → ClassId) × (Nat → Nat) × (Nat → Nat) × (Nat → Nat) × Nat
abbrev gD (V : gEnv) : va_G := (V.1, V.2.1)
abbrev gCa (V : gEnv) : Nat → ClassId := V.2.2.1
abbrev gAdK (V : gEnv) : Nat → Nat := V.2.2.2.1
abbrev gAdV (V : gEnv) : Nat → Nat := V.2.2.2.2.1
abbrev gAd (V : gEnv) : Nat → Nat := V.2.2.2.2.2.1
abbrev gZ (V : gEnv) : Nat := V.2.2.2.2.2.2
abbrev gTys (V : gEnv) : List (ClassId × FieldType) := [(gCa V 0, .int), (gCa V 1, .long), (gCa V 2, .byte), (gCa V 3, .object "RingFreeOrder$Net")]
def gVal (V : gEnv) (M : gMem) (c k : Nat) (f : Nat × Nat) : Value := match f.1 with
  | 0 => .int (M.1 c k)
  | 1 => .long (M.2.1 c k)
  | 2 => .null
  | _ => .ref (gAd V f.2)
def gEnt (V : gEnv) (M : gMem) (c : Nat) (sh : gShp) : va_E := match sh with
  | .inl (0, n) => .inl (gCa V 0, n, .inl (M.1 c))
  | .inl (1, n) => .inl (gCa V 1, n, .inr (.inl (M.2.1 c)))
  | .inl (2, n) => .inl (gCa V 2, n, .inl (M.1 c))
  | .inl (_, n) => .inl (gCa V 3, n, .inr (.inr (.inr (.inr (fun i => match M.2.2 c i with | 0 => none | q + 1 => some (gAd V q))))))
  | .inr (ci, fs) => .inr (ci, fs.mapIdx (fun k f => gVal V M c k f))
def gWs (V : gEnv) (Sh : List gShp) (M : gMem) : va_W := Sh.mapIdx (fun c sh => (gAd V c, gEnt V M c sh))
theorem gWs_at {V : gEnv} {Sh : List gShp} {M : gMem} {c : Nat} {sh : gShp} (h : Sh[c]? = some sh) : (gWs V Sh M)[c]? = some (gAd V c, gEnt V M c sh) := by
  unfold gWs
  rw [List.getElem?_mapIdx, h]; rfl
theorem gWs_of {V : gEnv} {Sh : List gShp} {M : gMem} {c : Nat} {q : Nat × va_E} (h : (gWs V Sh M)[c]? = some q) : ∃ sh, Sh[c]? = some sh ∧ q = (gAd V c, gEnt V M c sh) := by
  unfold gWs at h
  rw [List.getElem?_mapIdx] at h
  cases hs : Sh[c]? with
  | none => rw [hs] at h; cases h
  | some sh => rw [hs] at h; exact ⟨sh, rfl, (Option.some.inj h).symm⟩
/-- writing -/
def gI (M : gMem) (c k : Nat) (x : Int32) : gMem := (fun d => if d = c then upd (M.1 c) k x else M.1 d, M.2.1, M.2.2)
def gL (M : gMem) (c k : Nat) (x : Int64) : gMem := (M.1, fun d => if d = c then vp_updL (M.2.1 c) k x else M.2.1 d, M.2.2)
def gR (M : gMem) (c k : Nat) (x : Nat) : gMem := (M.1, M.2.1, fun d => if d = c then va_up (M.2.2 c) k x else M.2.2 d)
theorem gWs_set {V : gEnv} {Sh : List gShp} {M M' : gMem} {c : Nat} {sh : gShp} (h : Sh[c]? = some sh) {e : va_E} (he : gEnt V M' c sh = e) (ho : ∀ d, d ≠ c → ∀ sh', gEnt V M' d sh' = gEnt V M d sh') : (gWs V Sh M).set c (gAd V c, e) = gWs V Sh M' := by
  apply List.ext_getElem?
  intro d
  by_cases hd : d = c
  · subst hd
    rw [gWs_at (M := M') h, he, List.getElem?_set_self]
    exact (List.getElem?_eq_some_iff.mp (gWs_at (V := V) (M := M) h)).1
  · rw [List.getElem?_set_ne (Ne.symm hd)]
    unfold gWs
    rw [List.getElem?_mapIdx, List.getElem?_mapIdx]
    cases Sh[d]? with
    | none => rfl
    | some sh' => exact congrArg (fun z => some (gAd V d, z)) (ho d hd sh').symm
theorem gEnt_I {V : gEnv} {M : gMem} {c k d : Nat} {x : Int32} (hd : d ≠ c) (sh : gShp) : gEnt V (gI M c k x) d sh = gEnt V M d sh := by
  have e1 : (gI M c k x).1 d = M.1 d := if_neg hd
  unfold gEnt
  split
  · rw [e1]
  · rfl
  · rw [e1]
  · rfl
  · congr 3
    funext k' f
    unfold gVal
    split
    · rw [e1]
    · rfl
    · rfl
    · rfl
theorem gEnt_L {V : gEnv} {M : gMem} {c k d : Nat} {x : Int64} (hd : d ≠ c) (sh : gShp) : gEnt V (gL M c k x) d sh = gEnt V M d sh := by
  have e1 : (gL M c k x).2.1 d = M.2.1 d := if_neg hd
  unfold gEnt
  split
  · rfl
  · rw [e1]
  · rfl
  · rfl
  · congr 3
    funext k' f
    unfold gVal
    split
    · rfl
    · rw [e1]
    · rfl
    · rfl
theorem gEnt_R {V : gEnv} {M : gMem} {c k d : Nat} {x : Nat} (hd : d ≠ c) (sh : gShp) : gEnt V (gR M c k x) d sh = gEnt V M d sh := by
  have e1 : (gR M c k x).2.2 d = M.2.2 d := if_neg hd
  unfold gEnt
  split
  · rfl
  · rfl
  · rfl
  · rw [e1]
  · rfl
theorem gI_self (M : gMem) (c k : Nat) (x : Int32) : (gI M c k x).1 c = upd (M.1 c) k x := if_pos rfl
theorem gL_self (M : gMem) (c k : Nat) (x : Int64) : (gL M c k x).2.1 c = vp_updL (M.2.1 c) k x := if_pos rfl
theorem gR_self (M : gMem) (c k : Nat) (x : Nat) : (gR M c k x).2.2 c = va_up (M.2.2 c) k x := if_pos rfl
theorem gWs_I0 {V : gEnv} {Sh : List gShp} {M : gMem} {c n k : Nat} {x : Int32} (h : Sh[c]? = some (.inl (0, n))) : (gWs V Sh M).set c (gAd V c, .inl (gCa V 0, n, .inl (upd (M.1 c) k x))) = gWs V Sh (gI M c k x) :=
  gWs_set h (by show (Sum.inl (gCa V 0, n, .inl ((gI M c k x).1 c)) : va_E) = _; rw [gI_self]) (fun d hd sh' => gEnt_I hd sh')
theorem gWs_I2 {V : gEnv} {Sh : List gShp} {M : gMem} {c n k : Nat} {x : Int32} (h : Sh[c]? = some (.inl (2, n))) : (gWs V Sh M).set c (gAd V c, .inl (gCa V 2, n, .inl (upd (M.1 c) k x))) = gWs V Sh (gI M c k x) :=
  gWs_set h (by show (Sum.inl (gCa V 2, n, .inl ((gI M c k x).1 c)) : va_E) = _; rw [gI_self]) (fun d hd sh' => gEnt_I hd sh')
theorem gWs_L {V : gEnv} {Sh : List gShp} {M : gMem} {c n k : Nat} {x : Int64} (h : Sh[c]? = some (.inl (1, n))) : (gWs V Sh M).set c (gAd V c, .inl (gCa V 1, n, .inr (.inl (vp_updL (M.2.1 c) k x)))) = gWs V Sh (gL M c k x) :=
  gWs_set h (by show (Sum.inl (gCa V 1, n, .inr (.inl ((gL M c k x).2.1 c))) : va_E) = _; rw [gL_self]) (fun d hd sh' => gEnt_L hd sh')
def gRef (V : gEnv) (q : Nat) : Option Nat := match q with | 0 => none | q + 1 => some (gAd V q)
theorem gWs_R {V : gEnv} {Sh : List gShp} {M : gMem} {c n k q : Nat} (h : Sh[c]? = some (.inl (3, n))) : (gWs V Sh M).set c (gAd V c, .inl (gCa V 3, n, .inr (.inr (.inr (.inr (va_up (fun i => gRef V (M.2.2 c i)) k (some (gAd V q)))))))) = gWs V Sh (gR M c k (q + 1)) :=
  gWs_set h (by
    show (Sum.inl (gCa V 3, n, .inr (.inr (.inr (.inr (fun i => gRef V ((gR M c k (q + 1)).2.2 c i)))))) : va_E) = _
    congr 7
    funext i
    rw [gR_self]
    unfold va_up
    split
    · rfl
    · rfl) (fun d hd sh' => gEnt_R hd sh')
theorem gWs_F {V : gEnv} {Sh : List gShp} {M : gMem} {c ci k b : Nat} {fs : List (Nat × Nat)} {x : Int32} (h : Sh[c]? = some (.inr (ci, fs))) (hf : fs[k]? = some (0, b)) : (gWs V Sh M).set c (gAd V c, .inr (ci, (fs.mapIdx (fun k f => gVal V M c k f)).set k (.int x))) = gWs V Sh (gI M c k x) :=
  gWs_set h (by
    show Sum.inr (ci, fs.mapIdx (fun k' f => gVal V (gI M c k x) c k' f)) = _
    congr 2
    apply List.ext_getElem?
    intro j
    rw [List.getElem?_mapIdx]
    by_cases hj : j = k
    · subst hj
      rw [List.getElem?_set_self (by rw [List.length_mapIdx]; exact (List.getElem?_eq_some_iff.mp hf).1), hf]
      show some (Value.int ((gI M c j x).1 c j)) = _
      rw [gI_self]
      simp [upd]
    · rw [List.getElem?_set_ne (Ne.symm hj), List.getElem?_mapIdx]
      cases fs[j]? with
      | none => rfl
      | some f =>
        show some (gVal V (gI M c k x) c j f) = some (gVal V M c j f)
        congr 1
        unfold gVal
        split
        · rw [gI_self]; simp [upd, hj]
        · rfl
        · rfl
        · rfl) (fun d hd sh' => gEnt_I hd sh')
/-- the cells that a method may change -/
def gA (V : gEnv) (n sz : Nat) : Nat → Prop := fun q => (∃ c, c < n ∧ q = gAd V c) ∨ sz ≤ q
/-- the addresses are apart, and new -/
def gInj (V : gEnv) (n : Nat) : Prop := (∀ i j, i < n → j < n → gAd V i = gAd V j → i = j) ∧ ∀ i, i < n → gZ V ≤ gAd V i
theorem gWs_D {V : gEnv} {Sh : List gShp} {M : gMem} {sz : Nat} (h : gInj V Sh.length) : va_D (gA V Sh.length sz) (gWs V Sh M) := by
  have hl : ∀ {c : Nat} {q : Nat × va_E}, (gWs V Sh M)[c]? = some q → c < Sh.length ∧ q.1 = gAd V c := by
    intro c q hq
    obtain ⟨sh, h1, rfl⟩ := gWs_of hq
    exact ⟨(List.getElem?_eq_some_iff.mp h1).1, rfl⟩
  refine ⟨fun i j p q hi hj e => ?_, fun k q hk => ?_⟩
  · obtain ⟨a1, a2⟩ := hl hi
    obtain ⟨b1, b2⟩ := hl hj
    exact h.1 i j a1 b1 (a2.symm.trans (e.trans b2))
  · obtain ⟨a1, a2⟩ := hl hk
    exact Or.inl ⟨k, a1, a2⟩
/-- links of nest mates, of strings (class, index, text, number of the text) -/

abbrev gNest : List (String × Nat × MethodName × String) := [("RingFreeOrder", 11, ⟨"RingFreeOrder$Net", "<init>", "()V"⟩, "RingFreeOrder"), ("RingFreeOrder", 36, ⟨"RingFreeOrder$Reader", "<init>", "()V"⟩, "RingFreeOrder"), ("RingFreeOrder", 43, ⟨"RingFreeOrder$Output", "<init>", "()V"⟩, "RingFreeOrder"), ("RingFreeOrder", 50, ⟨"RingFreeOrder$Description", "<init>", "()V"⟩, "RingFreeOrder"), ("RingFreeOrder", 57, ⟨"RingFreeOrder$Orders", "<init>", "()V"⟩, "RingFreeOrder"), ("RingFreeOrder", 64, ⟨"RingFreeOrder$Repair", "<init>", "()V"⟩, "RingFreeOrder"), ("RingFreeOrder$Repair", 11, ⟨"RingFreeOrder$Row", "<init>", "()V"⟩, "RingFreeOrder"), ("RingFreeOrder", 71, ⟨"RingFreeOrder$Sorter", "<init>", "()V"⟩, "RingFreeOrder"), ("RingFreeOrder$Sorter", 11, ⟨"RingFreeOrder$Row", "<init>", "()V"⟩, "RingFreeOrder"), ("RingFreeOrder", 78, ⟨"RingFreeOrder$Chains", "<init>", "()V"⟩, "RingFreeOrder"), ("RingFreeOrder", 85, ⟨"RingFreeOrder$Ways", "<init>", "()V"⟩, "RingFreeOrder"), ("RingFreeOrder$Sorter", 79, ⟨"RingFreeOrder", "has", "(II)Z"⟩, "RingFreeOrder"), ("RingFreeOrder$Net", 71, ⟨"RingFreeOrder", "has", "(II)Z"⟩, "RingFreeOrder"), ("RingFreeOrder$Output", 38, ⟨"RingFreeOrder", "has", "(II)Z"⟩, "RingFreeOrder"), ("RingFreeOrder$Output", 42, ⟨"RingFreeOrder", "headOf", "(I)I"⟩, "RingFreeOrder"), ("RingFreeOrder$Output", 19, ⟨"RingFreeOrder", "letterOf", "(JI)I"⟩, "RingFreeOrder"), ("RingFreeOrder$Repair", 53, ⟨"RingFreeOrder", "has", "(II)Z"⟩, "RingFreeOrder"), ("RingFreeOrder$Ways", 30, ⟨"RingFreeOrder", "has", "(II)Z"⟩, "RingFreeOrder")]
abbrev gStr : List (String × Nat × String × Nat) := [("RingFreeOrder", 101, "the input buffer would exceed 900 bytes", 23), ("RingFreeOrder", 112, "no such length", 11), ("RingFreeOrder$Description", 48, "task", 0), ("RingFreeOrder$Description", 69, "arrow", 1), ("RingFreeOrder$Description", 74, "mode", 2), ("RingFreeOrder$Description", 79, "join", 3), ("RingFreeOrder", 119, "the description has an error", 22), ("RingFreeOrder$Orders", 66, "arrow", 1), ("RingFreeOrder$Orders", 72, "cut", 4), ("RingFreeOrder$Orders", 74, "hours", 5), ("RingFreeOrder$Orders", 76, "swap", 6), ("RingFreeOrder$Orders", 78, "mode", 2), ("RingFreeOrder$Orders", 80, "join", 3), ("RingFreeOrder$Orders", 82, "refresh", 7), ("RingFreeOrder", 131, "the orders have an error", 24), ("RingFreeOrder", 168, "no such number", 12), ("RingFreeOrder", 389, "no such task", 19), ("RingFreeOrder", 212, "no such number of a task", 14), ("RingFreeOrder", 394, "no such place", 18), ("RingFreeOrder", 222, "no such number of a group", 13), ("RingFreeOrder", 392, "no such arrow", 10), ("RingFreeOrder", 253, "no such number of an arrow", 16), ("RingFreeOrder", 273, "no such number of a trial", 15), ("RingFreeOrder", 297, "the depth is negative", 21), ("RingFreeOrder", 337, "no such account", 9), ("RingFreeOrder", 396, "hours are out of range", 8), ("RingFreeOrder", 365, "no such number or value", 17), ("RingFreeOrder", 385, "nothing was saved", 20), ("RingFreeOrderModel", 288, "task", 0), ("RingFreeOrderModel", 297, "arrow", 1), ("RingFreeOrderModel", 302, "mode", 2), ("RingFreeOrderModel", 307, "join", 3), ("RingFreeOrderModel", 327, "cut", 4), ("RingFreeOrderModel", 329, "hours", 5), ("RingFreeOrderModel", 331, "swap", 6), ("RingFreeOrderModel", 333, "refresh", 7)]
abbrev gDecl : List MethodName := [⟨"java/lang/RuntimeException", "<init>", "()V"⟩, ⟨"java/lang/RuntimeException", "<init>", "(Ljava/lang/String;)V"⟩, ⟨"java/lang/Exception", "<init>", "()V"⟩, ⟨"java/lang/Exception", "<init>", "(Ljava/lang/String;)V"⟩, ⟨"java/lang/Throwable", "<init>", "()V"⟩, ⟨"java/lang/Throwable", "<init>", "(Ljava/lang/String;)V"⟩]
abbrev gCast : List (String × String) := [("java/lang/IllegalStateException", "java/lang/IllegalStateException"), ("java/lang/IllegalArgumentException", "java/lang/IllegalArgumentException"), ("java/lang/IndexOutOfBoundsException", "java/lang/IndexOutOfBoundsException")]
abbrev gBad : List Cond := gDecl.map (fun y => .declares y) ++ gCast.map (fun q => .castable q.1 q.2)
abbrev gSn : Nat := 8
abbrev gSl : List Nat := [4, 5, 4, 4, 3, 5, 4, 7]
abbrev gSb : List (List Int32) := [[116, 97, 115, 107], [97, 114, 114, 111, 119], [109, 111, 100, 101], [106, 111, 105, 110], [99, 117, 116], [104, 111, 117, 114, 115], [115, 119, 97, 112], [114, 101, 102, 114, 101, 115, 104]]
/-- what a method takes for granted of its start: the tables, and what lies outside all cells that are written -/
def gPre (V : gEnv) (U : State) : Prop :=
  va_K (gD V) vwCl (gTys V) U ∧ (∀ q ∈ gNest, va_Nw (.methodLinkNest q.1 q.2.1 q.2.2.1 q.2.2.2) U) ∧ (∀ q ∈ gStr, vk_R q.1 q.2.1 q.2.2.1 (gAdK V q.2.2.2) U) ∧
  vk_S gSn gSl gSb (gAdK V) (gAdV V) (fun a => gZ V ≤ a) U U.heap ∧ va_Z "java/lang/String" "COMPACT_STRINGS" "Z" (.int 1) (fun a => gZ V ≤ a) U U.heap ∧
  vx_Zq Bundle.tN "UNASSIGNED_STACK" Bundle.steD (fun a => gZ V ≤ a) U U.heap ∧ vx_Zq Bundle.tN "SUPPRESSED_SENTINEL" Bundle.listD (fun a => gZ V ≤ a) U U.heap ∧ (∀ y ∈ gDecl, va_Nw (.declares y) U) ∧ (∀ q ∈ gCast, va_Nw (.castable q.1 q.2) U) ∧ gZ V ≤ U.heap.size ∧ va_Zq "jdk/internal/util/Preconditions" "SIOOBE_FORMATTER" "Ljava/util/function/BiFunction;" (fun a => gZ V ≤ a) U U.heap ∧ va_Nc "java/lang/IllegalArgumentException" "java/lang/IndexOutOfBoundsException" U
theorem gPre.calling {V : gEnv} {U : State} (h : gPre V U) (g : JFrame) (mk : MethodId) (a : Array Value) : gPre V (U.calling g mk a) := by
  obtain ⟨h1, h2, h3, h4, h5, h6, h7, h8, h9, h10, h11, h12⟩ := h
  have e : U.vm.Alike (U.calling g mk a).vm := Vm.Alike.refl U.vm
  exact ⟨va_K.moved e h1, fun q hq => va_Nw.same rfl (u := U) rfl (h2 q hq), fun q hq => vk_R.same (u := U) rfl (h3 q hq), vk_S.moved e h4, va_Z.moved e h5, vx_Zq.moved e h6, vx_Zq.moved e h7, fun q hq => va_Nw.same rfl (u := U) rfl (h8 q hq), fun q hq => va_Nw.same rfl (u := U) rfl (h9 q hq), h10, va_Zq.moved e h11, va_Nc.moved e h12⟩
theorem gPre.warm {V : gEnv} {s U : State} (h : gPre V s) (hW : s.WarmedH U.vm) (hsz : s.heap.size ≤ U.heap.size) (hq : ∀ a : Nat, a < s.heap.size → ¬ gZ V ≤ a → U.heap[a]? = s.heap[a]?) : gPre V U := by
  obtain ⟨h1, h2, h3, h4, h5, h6, h7, h8, h9, h10, h11, h12⟩ := h
  have e : s.vm.Alike U.vm := hW.alike
  exact ⟨va_K.moved e h1, fun q hq => va_Nw.warmM hW (h2 q hq), fun q hq => vk_R.warm hW (h3 q hq), (vk_S.moved e h4).kept hq, (va_Z.moved e h5).kept hq, (vx_Zq.moved e h6).kept hq, (vx_Zq.moved e h7).kept hq, fun q hq => va_Nw.warmD hW (h8 q hq), fun q hq => va_Nw.warmC hW (h9 q hq), Nat.le_trans h10 hsz, (va_Zq.moved e h11).kept hq, va_Nc.moved e h12⟩
/-- an activation: program, launch, environment, room, start, method, arguments, frames below, method, code, what is owed -/
abbrev gX : Type := Program × Launch × Env × Room × State × MethodId × Array Value × List Frame × Method × Code × (State → Prop)
abbrev gXs (X : gX) : State := X.2.2.2.2.1
abbrev gXa (X : gX) : Array Value := X.2.2.2.2.2.2.1
abbrev gXm (X : gX) : MethodId := X.2.2.2.2.2.1
abbrev gXc (X : gX) : Code := X.2.2.2.2.2.2.2.2.2.1
abbrev gXh (X : gX) : Method := X.2.2.2.2.2.2.2.2.1
abbrev gXb (X : gX) : List Frame := X.2.2.2.2.2.2.2.1
abbrev gXQ (X : gX) : State → Prop := X.2.2.2.2.2.2.2.2.2.2
abbrev gXR (X : gX) : Room := X.2.2.2.1
/-- a method: its bytes, its class's name, how many locals, its room -/
abbrev gY : Type := ByteArray × String × Nat × Room
def gW (X : gX) (H : Heap) (locs : List Loc) (k n : Nat) (g : JFrame) : Prop := W X.1 X.2.1 X.2.2.1 (gXR X) (gXs X) (gXm X) (gXa X) (gXb X) (gXh X) (gXc X) H locs k n (gXQ X) g
/-- what is known of an activation of a method -/
def gC (X : gX) (Y : gY) : Prop := X.1.tables.exec = Jvm.exec ∧ (gXc X).code = Y.1 ∧ (gXc X).maxLocals = Y.2.2.1 ∧ (gXs X).vm.findClass Y.2.1 = some (gXm X).cls ∧ (∀ w ∈ gBW, w.before (gXa X) (gXs X) = true) ∧ (gXh X).locks = false ∧ gXR X = Y.2.2.2
def gG (X : gX) (V : gEnv) (Y : gY) (Sh : List gShp) (M : gMem) (k n pc : Nat) (ls : List (Nat × Value)) (st : List Value) : Prop :=
  gC X Y → gPre V (gXs X) → gInj V Sh.length → ∀ (H : Heap) (locs : List Loc) (la : Array Slot), va_P (gD V) vwCl (gWs V Sh M) H → va_S (gA V Sh.length (gXs X).heap.size) (gXs X).heap H locs → lv_has la Y.2.2.1 ls → gW X H locs k n (F0 (gXm X) pc la st)
/-- a contract at one input: over a heap with the memory M it answers rv, and the heap has M' -/
def gQ (V : gEnv) (Sh : List gShp) (sz : Nat) (rv : Option Value) (M' : gMem) : Array Value → State → Outcome → State → Prop := fun _ st oc t => (oc = .returned rv ∧ va_P (gD V) vwCl (gWs V Sh M') t.heap) ∧ va_F (gA V Sh.length sz) st t
def gPc (V : gEnv) (Sh : List gShp) (sz : Nat) (as : List Value) (M : gMem) : Array Value → State → Prop := va_Pc as (fun U => U.heap.size = sz ∧ gPre V U ∧ gInj V Sh.length ∧ va_P (gD V) vwCl (gWs V Sh M) U.heap)
def gM (l : Launch) (y : MethodName) (cc : ByteArray) (nL : Nat) (ret : Option FieldType) (rm : Room) (V : gEnv) (Sh : List gShp) (as : List Value) (M : gMem) (rv : Option Value) (M' : gMem) : Prop :=
  ∀ sz : Nat, Met l y (.code y cc nL ret :: gBW) rm (gPc V Sh sz as M) (gQ V Sh sz rv M') rm.cells rm.slots (gA V Sh.length sz)
theorem gPc_blind {V : gEnv} {Sh : List gShp} {sz : Nat} {as : List Value} {M : gMem} : FrameBlind (gPc V Sh sz as M) := by
  intro a U g mk h
  obtain ⟨h0, h1, h2, h3, h4⟩ := h
  exact ⟨h0, h1, h2.calling g mk a, h3, h4⟩
theorem gA_up {V : gEnv} {n s1 s2 : Nat} (h : s1 ≤ s2) : ∀ q, gA V n s2 q → gA V n s1 q := fun q hq => hq.elim Or.inl (fun z => Or.inr (Nat.le_trans h z))
theorem gA_old {V : gEnv} {n sz q : Nat} (hi : gInj V n) (h : ¬ gZ V ≤ q) (hs : q < sz) : ¬ gA V n sz q := by
  intro hq
  rcases hq with ⟨c, hc, rfl⟩ | hq
  · exact h (hi.2 c hc)
  · omega
/-- the callee's start -/
theorem gPc_at {X : gX} {V : gEnv} {Sh : List gShp} {M : gMem} {as : List Value} {H : Heap} {locs : List Loc} (hK : gPre V (gXs X)) (hI : gInj V Sh.length) (hP : va_P (gD V) vwCl (gWs V Sh M) H) (hS : va_S (gA V Sh.length (gXs X).heap.size) (gXs X).heap H locs) :
    ∀ U : State, U.heap = H → (gXs X).WarmedH U.vm → gPc V Sh H.size as M as.toArray U := by
  intro U hU hW
  refine ⟨rfl, by rw [hU], hK.warm hW (by rw [hU]; exact hS.1) (fun a h1 h2 => ?_), hI, by rw [hU]; exact hP⟩
  rw [hU]
  exact hS.2.1 a h1 (gA_old hI h2 h1)
/-- behind a call -/
theorem g_go {X : gX} {V : gEnv} {Sh : List gShp} {M' : gMem} {H : Heap} {locs : List Loc} {k n mc ms pc : Nat} {la : Array Slot} {st0 rest : List Value} {a : Array Value} {rv : Option Value}
    (hr : va_Run X.1 X.2.1 X.2.2.1 (gXR X) (gXs X) (gXm X) (gXa X) (gXb X) (gXh X) (gXc X) H locs k n mc ms (F0 (gXm X) pc la st0) rest (gQ V Sh H.size rv M' a) (gA V Sh.length H.size))
    (hS : va_S (gA V Sh.length (gXs X).heap.size) (gXs X).heap H locs)
    (kk : ∀ (H1 : Heap) (locs1 : List Loc), va_P (gD V) vwCl (gWs V Sh M') H1 → va_S (gA V Sh.length (gXs X).heap.size) (gXs X).heap H1 locs1 → gW X H1 locs1 (k + mc) (n + ms) (F0 (gXm X) (pc + 3) la (rv.toList ++ rest))) : gW X H locs k n (F0 (gXm X) pc la st0) := by
  intro T hT Z
  obtain ⟨v, st₀, t, T', L, h0, Z', hL, e1, e2, ⟨⟨hv, hp⟩, hz, hk⟩, st⟩ := hr T hT Z
  cases hv
  rw [h0] at hz hk
  have hup := gA_up (V := V) (n := Sh.length) hS.1
  obtain ⟨t2, a1, b1⟩ := kk T'.heap (locs ++ L) (by rw [e1]; exact hp)
    ⟨Nat.le_trans hS.1 (by rw [e1]; exact hz), fun q h1 h2 => by rw [e1, hk q (Nat.lt_of_lt_of_le h1 hS.1) (fun z => h2 (hup q z))]; exact hS.2.1 q h1 h2, fun q hq => by
      rcases List.mem_append.mp hq with h | h
      · exact hS.2.2 q h
      · exact hup _ (hL q h)⟩ T' rfl Z'
  exact ⟨t2, st t2 a1, b1⟩
/-- the words of a call -/
def gLv (own : String) (idx : Nat) (y : MethodName) (cc : ByteArray) (nL : Nat) (ret : Option FieldType) (n : Nat) : Prop := Cond.code y cc nL ret ∈ gBW ∧ Cond.methodLink own idx y ∈ gBW ∧ Cond.instanceMethod y ∈ gBW ∧ Cond.selects y.cls y y ∈ gBW ∧ Cond.initialized y.cls ∈ gBW ∧ y.cls ≠ "java/lang/invoke/MethodHandle" ∧ y.cls ≠ "java/lang/invoke/VarHandle" ∧ (parseMethodDescriptor y.desc).map (fun d => d.parameters.length) = some n
def gLs (own : String) (idx : Nat) (y : MethodName) (cc : ByteArray) (nL : Nat) (ret : Option FieldType) (n : Nat) : Prop := Cond.code y cc nL ret ∈ gBW ∧ Cond.methodLink own idx y ∈ gBW ∧ Cond.static y ∈ gBW ∧ Cond.initialized y.cls ∈ gBW ∧ y.cls ≠ "java/lang/invoke/MethodHandle" ∧ y.cls ≠ "java/lang/invoke/VarHandle" ∧ (parseMethodDescriptor y.desc).map (fun d => d.parameters.length) = some n
def gLn (own : String) (idx : Nat) (y : MethodName) (host : String) (cc : ByteArray) (nL : Nat) (ret : Option FieldType) (n : Nat) : Prop := Cond.code y cc nL ret ∈ gBW ∧ (own, idx, y, host) ∈ gNest ∧ Cond.static y ∈ gBW ∧ Cond.initialized y.cls ∈ gBW ∧ y.cls ≠ "java/lang/invoke/MethodHandle" ∧ y.cls ≠ "java/lang/invoke/VarHandle" ∧ (parseMethodDescriptor y.desc).map (fun d => d.parameters.length) = some n
/-- a receiver -/
theorem g_recv {V : gEnv} {Sh : List gShp} {M : gMem} {s : State} {H : Heap} {c ci : Nat} {q : vw_C} {fs : List (Nat × Nat)} (hK : gPre V s) (hP : va_P (gD V) vwCl (gWs V Sh M) H) (h : Sh[c]? = some (.inr (ci, fs))) (hc : vwCl[ci]? = some q) : ∃ cell : Cell, H[gAd V c]? = some cell ∧ cell.vm.isStatics = false ∧ s.vm.findClass q.1 = some cell.cls :=
  va_recv hK.1 hP hc (gWs_at h)
theorem gA_z {V : gEnv} {n sz q : Nat} (hI : gInj V n) (hz : gZ V ≤ sz) (h : gA V n sz q) : gZ V ≤ q := by
  rcases h with ⟨c, hc, rfl⟩ | h
  · exact hI.2 c hc
  · omega
theorem gZq {V : gEnv} {n : Nat} {C a b : String} {s : State} (hI : gInj V n) (hz : gZ V ≤ s.heap.size) (h : vx_Zq C a b (fun a => gZ V ≤ a) s s.heap) : vx_Zq C a b (gA V n s.heap.size) s s.heap := h.narrow (fun q hq => gA_z hI hz hq)
section GR
variable {X : gX} {V : gEnv} {Y : gY} {Sh : List gShp} {M M' : gMem} {k n pc : Nat} {ls : List (Nat × Value)} {st : List Value}
/-- invokevirtual of a method of the world -/
theorem g_callV {nA : Nat} {idx c ci nL N : Nat} {y : MethodName} {cc : ByteArray} {ret : Option FieldType} {rm : Room} {T : u_T} {fs : List (Nat × Nat)} {As st0 : List Value} {rv : Option Value} {st1 : List Value} (L : gLv Y.2.1 idx y cc nL ret nA) (hsh : Sh[c]? = some (.inr (ci, fs))) (hc : vwCl[ci]? = some (y.cls, T, N))
    (hM : gM X.2.1 y cc nL ret rm V Sh (.ref (gAd V c) :: As) M rv M') (hA : As.length = nA) (hst : st0 = As.reverse ++ .ref (gAd V c) :: st) (hw : (st.map fun v => v.category).sum ≤ 8) (hR : rm.frames + 1 ≤ Y.2.2.2.frames ∧ 8 + (nL + 11) + rm.locals ≤ Y.2.2.2.locals) (hf : k + rm.cells ≤ Y.2.2.2.cells ∧ n + rm.slots ≤ Y.2.2.2.slots) (d : decode Y.1 pc = .ok (.invokevirtual idx, 3)) (h1 : rv.toList ++ st = st1)
    (kk : gG X V Y Sh M' (k + rm.cells) (n + rm.slots) (pc + 3) ls st1) : gG X V Y Sh M k n pc ls st0 := by
  subst hA
  intro hC hK hI H locs la hP hS hl
  obtain ⟨hx, hb, hml, hown, hts, hlk, hrm⟩ := id hC
  obtain ⟨l1, l2, l3, l4, l5, l6, l7, l8⟩ := L
  have hG : GoodIn gBW (wsV Y.2.1 idx y.cls y (.code y cc nL ret :: gBW)) := fun w hw => (List.mem_append.mp hw).elim (fun hw => by
    have : w ∈ gBW := by
      rcases List.mem_cons.mp hw with rfl | hw
      · exact l2
      rcases List.mem_cons.mp hw with rfl | hw
      · exact l3
      rcases List.mem_cons.mp hw with rfl | hw
      · exact l4
      rcases List.mem_cons.mp hw with rfl | hw
      · exact l5
      cases hw
    exact ⟨this, gBW_good w this⟩) (gBW_code l1 w)
  rw [← hrm] at hR hf
  refine g_go (rv := rv) (M' := M') (mc := rm.cells) (ms := rm.slots) (va_runV (As := As) (rest := st) (C := y.cls) (b := gAd V c) ⟨hx, hb, hml, hown, hts⟩ (hM H.size) (cwV As.length hts hG rfl rfl rfl ⟨rfl, l6, l7, l8⟩ hR) ⟨gPc_blind, g_recv hK hP hsh hc, gPc_at hK hI hP hS⟩ rfl rfl hl.1 hst (lv_room hw) d hf) hS (fun H1 locs1 hP1 hS1 => ?_)
  rw [h1]
  exact kk hC hK hI H1 locs1 la hP1 hS1 hl
/-- invokestatic -/
theorem g_callS {nA : Nat} {idx nL : Nat} {y : MethodName} {cc : ByteArray} {ret : Option FieldType} {rm : Room} {As st0 : List Value} {rv : Option Value} {st1 : List Value} (L : gLs Y.2.1 idx y cc nL ret nA)
    (hM : gM X.2.1 y cc nL ret rm V Sh As M rv M') (hA : As.length = nA) (hst : st0 = As.reverse ++ st) (hw : (st.map fun v => v.category).sum ≤ 8) (hR : rm.frames + 1 ≤ Y.2.2.2.frames ∧ 8 + (nL + 11) + rm.locals ≤ Y.2.2.2.locals) (hf : k + rm.cells ≤ Y.2.2.2.cells ∧ n + rm.slots ≤ Y.2.2.2.slots) (d : decode Y.1 pc = .ok (.invokestatic idx, 3)) (h1 : rv.toList ++ st = st1)
    (kk : gG X V Y Sh M' (k + rm.cells) (n + rm.slots) (pc + 3) ls st1) : gG X V Y Sh M k n pc ls st0 := by
  subst hA
  intro hC hK hI H locs la hP hS hl
  obtain ⟨hx, hb, hml, hown, hts, hlk, hrm⟩ := id hC
  obtain ⟨l1, l2, l3, l5, l6, l7, l8⟩ := L
  have hG : GoodIn gBW (va_wsS Y.2.1 idx y (.code y cc nL ret :: gBW)) := fun w hw => (List.mem_append.mp hw).elim (fun hw => by
    have : w ∈ gBW := by
      rcases List.mem_cons.mp hw with rfl | hw
      · exact l2
      rcases List.mem_cons.mp hw with rfl | hw
      · exact l3
      rcases List.mem_cons.mp hw with rfl | hw
      · exact l5
      cases hw
    exact ⟨this, gBW_good w this⟩) (gBW_code l1 w)
  rw [← hrm] at hR hf
  refine g_go (rv := rv) (M' := M') (mc := rm.cells) (ms := rm.slots) (va_runS (As := As) (rest := st) ⟨hx, hb, hml, hown, hts⟩ (hM H.size) (va_cwS As.length hts hG rfl rfl rfl ⟨l6, l7, l8⟩ hR) ⟨gPc_blind, gPc_at hK hI hP hS⟩ rfl rfl hl.1 hst (lv_room hw) d hf) hS (fun H1 locs1 hP1 hS1 => ?_)
  rw [h1]
  exact kk hC hK hI H1 locs1 la hP1 hS1 hl
/-- invokestatic of a nest mate's private method -/
theorem g_callN {nA : Nat} {idx nL : Nat} {y : MethodName} {host : String} {cc : ByteArray} {ret : Option FieldType} {rm : Room} {As st0 : List Value} {rv : Option Value} {st1 : List Value} (L : gLn Y.2.1 idx y host cc nL ret nA)
    (hM : gM X.2.1 y cc nL ret rm V Sh As M rv M') (hA : As.length = nA) (hst : st0 = As.reverse ++ st) (hw : (st.map fun v => v.category).sum ≤ 8) (hR : rm.frames + 1 ≤ Y.2.2.2.frames ∧ 8 + (nL + 11) + rm.locals ≤ Y.2.2.2.locals) (hf : k + rm.cells ≤ Y.2.2.2.cells ∧ n + rm.slots ≤ Y.2.2.2.slots) (d : decode Y.1 pc = .ok (.invokestatic idx, 3)) (h1 : rv.toList ++ st = st1)
    (kk : gG X V Y Sh M' (k + rm.cells) (n + rm.slots) (pc + 3) ls st1) : gG X V Y Sh M k n pc ls st0 := by
  subst hA
  intro hC hK hI H locs la hP hS hl
  obtain ⟨hx, hb, hml, hown, hts, hlk, hrm⟩ := id hC
  obtain ⟨l1, l2, l3, l5, l6, l7, l8⟩ := L
  rw [← hrm] at hR hf
  refine g_go (rv := rv) (M' := M') (mc := rm.cells) (ms := rm.slots) (va_runSN (As := As) (rest := st) ⟨hx, hb, hml, hown, hts⟩ (hM H.size) ⟨va_cnB As.length hts (gBW_code l1) rfl rfl rfl (hK.2.1 _ l2) (hts _ l5) ⟨l6, l7, l8⟩ hR, hts _ l3, trivial⟩ ⟨gPc_blind, gPc_at hK hI hP hS⟩ rfl rfl hl.1 hst (lv_room hw) d hf) hS (fun H1 locs1 hP1 hS1 => ?_)
  rw [h1]
  exact kk hC hK hI H1 locs1 la hP1 hS1 hl

theorem g_iconst {i : Int} {v : Int32} (hv : Int32.ofInt i = v) (d : decode Y.1 pc = .ok (.iconst i, 1)) (kk : gG X V Y Sh M k n (pc + 1) ls (.int v :: st)) : gG X V Y Sh M k n pc ls (st) :=
  fun hC hK hI H locs la hP hS hl => lv_iconst hC.1 hC.2.1 d hv (kk hC hK hI H locs la hP hS hl)
theorem g_bipush {i : Int} {v : Int32} (hv : (Int8.ofInt i).toInt32 = v) (d : decode Y.1 pc = .ok (.bipush i, 2)) (kk : gG X V Y Sh M k n (pc + 2) ls (.int v :: st)) : gG X V Y Sh M k n pc ls (st) :=
  fun hC hK hI H locs la hP hS hl => lv_bipush hC.1 hC.2.1 d hv (kk hC hK hI H locs la hP hS hl)
theorem g_sipush {i : Int} {v : Int32} (hv : (Int16.ofInt i).toInt32 = v) (d : decode Y.1 pc = .ok (.sipush i, 3)) (kk : gG X V Y Sh M k n (pc + 3) ls (.int v :: st)) : gG X V Y Sh M k n pc ls (st) :=
  fun hC hK hI H locs la hP hS hl => lv_sipush hC.1 hC.2.1 d hv (kk hC hK hI H locs la hP hS hl)
theorem g_lconst {i : Fin 2} {v : Int64} (hv : Int64.ofNat (i : Nat) = v) (d : decode Y.1 pc = .ok (.lconst i, 1)) (kk : gG X V Y Sh M k n (pc + 1) ls (.long v :: st)) : gG X V Y Sh M k n pc ls (st) :=
  fun hC hK hI H locs la hP hS hl => lv_lconst hC.1 hC.2.1 d hv (kk hC hK hI H locs la hP hS hl)
theorem g_fconst0  (d : decode Y.1 pc = .ok (.fconst 0, 1)) (kk : gG X V Y Sh M k n (pc + 1) ls (.float FP.fconst0 :: st)) : gG X V Y Sh M k n pc ls (st) :=
  fun hC hK hI H locs la hP hS hl => lv_fconst0 hC.1 hC.2.1 d (kk hC hK hI H locs la hP hS hl)
theorem g_dconst0  (d : decode Y.1 pc = .ok (.dconst 0, 1)) (kk : gG X V Y Sh M k n (pc + 1) ls (.double FP.dconst0 :: st)) : gG X V Y Sh M k n pc ls (st) :=
  fun hC hK hI H locs la hP hS hl => lv_dconst0 hC.1 hC.2.1 d (kk hC hK hI H locs la hP hS hl)
theorem g_iadd {x y : Int32} (d : decode Y.1 pc = .ok (.iadd, 1)) (kk : gG X V Y Sh M k n (pc + 1) ls (.int (x + y) :: st)) : gG X V Y Sh M k n pc ls (.int y :: .int x :: st) :=
  fun hC hK hI H locs la hP hS hl => lv_iadd hC.1 hC.2.1 d (kk hC hK hI H locs la hP hS hl)
theorem g_isub {x y : Int32} (d : decode Y.1 pc = .ok (.isub, 1)) (kk : gG X V Y Sh M k n (pc + 1) ls (.int (x - y) :: st)) : gG X V Y Sh M k n pc ls (.int y :: .int x :: st) :=
  fun hC hK hI H locs la hP hS hl => lv_isub hC.1 hC.2.1 d (kk hC hK hI H locs la hP hS hl)
theorem g_imul {x y : Int32} (d : decode Y.1 pc = .ok (.imul, 1)) (kk : gG X V Y Sh M k n (pc + 1) ls (.int (x * y) :: st)) : gG X V Y Sh M k n pc ls (.int y :: .int x :: st) :=
  fun hC hK hI H locs la hP hS hl => lv_imul hC.1 hC.2.1 d (kk hC hK hI H locs la hP hS hl)
theorem g_iand {x y : Int32} (d : decode Y.1 pc = .ok (.iand, 1)) (kk : gG X V Y Sh M k n (pc + 1) ls (.int (x &&& y) :: st)) : gG X V Y Sh M k n pc ls (.int y :: .int x :: st) :=
  fun hC hK hI H locs la hP hS hl => lv_iand hC.1 hC.2.1 d (kk hC hK hI H locs la hP hS hl)
theorem g_ior {x y : Int32} (d : decode Y.1 pc = .ok (.ior, 1)) (kk : gG X V Y Sh M k n (pc + 1) ls (.int (x ||| y) :: st)) : gG X V Y Sh M k n pc ls (.int y :: .int x :: st) :=
  fun hC hK hI H locs la hP hS hl => lv_ior hC.1 hC.2.1 d (kk hC hK hI H locs la hP hS hl)
theorem g_ixor {x y : Int32} (d : decode Y.1 pc = .ok (.ixor, 1)) (kk : gG X V Y Sh M k n (pc + 1) ls (.int (x ^^^ y) :: st)) : gG X V Y Sh M k n pc ls (.int y :: .int x :: st) :=
  fun hC hK hI H locs la hP hS hl => lv_ixor hC.1 hC.2.1 d (kk hC hK hI H locs la hP hS hl)
theorem g_ishl {x y : Int32} (d : decode Y.1 pc = .ok (.ishl, 1)) (kk : gG X V Y Sh M k n (pc + 1) ls (.int (x <<< (y &&& 31)) :: st)) : gG X V Y Sh M k n pc ls (.int y :: .int x :: st) :=
  fun hC hK hI H locs la hP hS hl => lv_ishl hC.1 hC.2.1 d (kk hC hK hI H locs la hP hS hl)
theorem g_ishr {x y : Int32} (d : decode Y.1 pc = .ok (.ishr, 1)) (kk : gG X V Y Sh M k n (pc + 1) ls (.int (x >>> (y &&& 31)) :: st)) : gG X V Y Sh M k n pc ls (.int y :: .int x :: st) :=
  fun hC hK hI H locs la hP hS hl => lv_ishr hC.1 hC.2.1 d (kk hC hK hI H locs la hP hS hl)
theorem g_iushr {x y : Int32} (d : decode Y.1 pc = .ok (.iushr, 1)) (kk : gG X V Y Sh M k n (pc + 1) ls (.int ((x.toUInt32 >>> (y.toUInt32 &&& Int32.toUInt32 31)).toInt32) :: st)) : gG X V Y Sh M k n pc ls (.int y :: .int x :: st) :=
  fun hC hK hI H locs la hP hS hl => lv_iushr hC.1 hC.2.1 d rfl (kk hC hK hI H locs la hP hS hl)
theorem g_ineg {x : Int32} (d : decode Y.1 pc = .ok (.ineg, 1)) (kk : gG X V Y Sh M k n (pc + 1) ls (.int (-x) :: st)) : gG X V Y Sh M k n pc ls (.int x :: st) :=
  fun hC hK hI H locs la hP hS hl => lv_ineg hC.1 hC.2.1 d (kk hC hK hI H locs la hP hS hl)
theorem g_ladd {x y : Int64} (d : decode Y.1 pc = .ok (.ladd, 1)) (kk : gG X V Y Sh M k n (pc + 1) ls (.long (x + y) :: st)) : gG X V Y Sh M k n pc ls (.long y :: .long x :: st) :=
  fun hC hK hI H locs la hP hS hl => lv_ladd hC.1 hC.2.1 d (kk hC hK hI H locs la hP hS hl)
theorem g_lor {x y : Int64} (d : decode Y.1 pc = .ok (.lor, 1)) (kk : gG X V Y Sh M k n (pc + 1) ls (.long (x ||| y) :: st)) : gG X V Y Sh M k n pc ls (.long y :: .long x :: st) :=
  fun hC hK hI H locs la hP hS hl => lv_lor hC.1 hC.2.1 d (kk hC hK hI H locs la hP hS hl)
theorem g_lshl {x : Int64} {y : Int32} (d : decode Y.1 pc = .ok (.lshl, 1)) (kk : gG X V Y Sh M k n (pc + 1) ls (.long (x <<< (y.toInt64 &&& 63)) :: st)) : gG X V Y Sh M k n pc ls (.int y :: .long x :: st) :=
  fun hC hK hI H locs la hP hS hl => lv_lshl hC.1 hC.2.1 d rfl (kk hC hK hI H locs la hP hS hl)
theorem g_lshr {x : Int64} {y : Int32} (d : decode Y.1 pc = .ok (.lshr, 1)) (kk : gG X V Y Sh M k n (pc + 1) ls (.long (x >>> (y.toInt64 &&& 63)) :: st)) : gG X V Y Sh M k n pc ls (.int y :: .long x :: st) :=
  fun hC hK hI H locs la hP hS hl => lv_lshr hC.1 hC.2.1 d rfl (kk hC hK hI H locs la hP hS hl)
theorem g_i2l {x : Int32} (d : decode Y.1 pc = .ok (.i2l, 1)) (kk : gG X V Y Sh M k n (pc + 1) ls (.long x.toInt64 :: st)) : gG X V Y Sh M k n pc ls (.int x :: st) :=
  fun hC hK hI H locs la hP hS hl => lv_i2l hC.1 hC.2.1 d rfl (kk hC hK hI H locs la hP hS hl)
theorem g_l2i {x : Int64} (d : decode Y.1 pc = .ok (.l2i, 1)) (kk : gG X V Y Sh M k n (pc + 1) ls (.int x.toInt32 :: st)) : gG X V Y Sh M k n pc ls (.long x :: st) :=
  fun hC hK hI H locs la hP hS hl => lv_l2i hC.1 hC.2.1 d rfl (kk hC hK hI H locs la hP hS hl)
theorem g_i2b {x : Int32} (d : decode Y.1 pc = .ok (.i2b, 1)) (kk : gG X V Y Sh M k n (pc + 1) ls (.int x.toInt8.toInt32 :: st)) : gG X V Y Sh M k n pc ls (.int x :: st) :=
  fun hC hK hI H locs la hP hS hl => lv_i2b hC.1 hC.2.1 d rfl (kk hC hK hI H locs la hP hS hl)
theorem g_i2c {x : Int32} (d : decode Y.1 pc = .ok (.i2c, 1)) (kk : gG X V Y Sh M k n (pc + 1) ls (.int (x.toUInt32 % 65536).toInt32 :: st)) : gG X V Y Sh M k n pc ls (.int x :: st) :=
  fun hC hK hI H locs la hP hS hl => lv_i2c hC.1 hC.2.1 d rfl (kk hC hK hI H locs la hP hS hl)
theorem g_i2f {x : Int32} (d : decode Y.1 pc = .ok (.i2f, 1)) (kk : gG X V Y Sh M k n (pc + 1) ls (.float (FP.i2f x) :: st)) : gG X V Y Sh M k n pc ls (.int x :: st) :=
  fun hC hK hI H locs la hP hS hl => lv_i2f hC.1 hC.2.1 d (kk hC hK hI H locs la hP hS hl)
theorem g_i2d {x : Int32} (d : decode Y.1 pc = .ok (.i2d, 1)) (kk : gG X V Y Sh M k n (pc + 1) ls (.double (FP.i2d x) :: st)) : gG X V Y Sh M k n pc ls (.int x :: st) :=
  fun hC hK hI H locs la hP hS hl => lv_i2d hC.1 hC.2.1 d (kk hC hK hI H locs la hP hS hl)
theorem g_l2d {x : Int64} (d : decode Y.1 pc = .ok (.l2d, 1)) (kk : gG X V Y Sh M k n (pc + 1) ls (.double (FP.l2d x) :: st)) : gG X V Y Sh M k n pc ls (.long x :: st) :=
  fun hC hK hI H locs la hP hS hl => lv_l2d hC.1 hC.2.1 d (kk hC hK hI H locs la hP hS hl)
theorem g_fdiv {x y : UInt32} (hne : vf_n32 (FP.fdiv x y)) (d : decode Y.1 pc = .ok (.fdiv, 1)) (kk : gG X V Y Sh M k n (pc + 1) ls (.float (FP.fdiv x y) :: st)) : gG X V Y Sh M k n pc ls (.float y :: .float x :: st) :=
  fun hC hK hI H locs la hP hS hl => lv_fdiv hC.1 hC.2.1 d hne (kk hC hK hI H locs la hP hS hl)
theorem g_ddiv {x y : UInt64} (hne : vf_n64 (FP.ddiv x y)) (d : decode Y.1 pc = .ok (.ddiv, 1)) (kk : gG X V Y Sh M k n (pc + 1) ls (.double (FP.ddiv x y) :: st)) : gG X V Y Sh M k n pc ls (.double y :: .double x :: st) :=
  fun hC hK hI H locs la hP hS hl => lv_ddiv hC.1 hC.2.1 d hne (kk hC hK hI H locs la hP hS hl)
theorem g_f2d {x : UInt32} (hne : vf_n64 (FP.f2d x)) (d : decode Y.1 pc = .ok (.f2d, 1)) (kk : gG X V Y Sh M k n (pc + 1) ls (.double (FP.f2d x) :: st)) : gG X V Y Sh M k n pc ls (.float x :: st) :=
  fun hC hK hI H locs la hP hS hl => lv_f2d hC.1 hC.2.1 d hne (kk hC hK hI H locs la hP hS hl)
theorem g_lcmp {x y : Int64} (d : decode Y.1 pc = .ok (.lcmp, 1)) (kk : gG X V Y Sh M k n (pc + 1) ls (.int (lg_cmp x y) :: st)) : gG X V Y Sh M k n pc ls (.long y :: .long x :: st) :=
  fun hC hK hI H locs la hP hS hl => W.lcmp hC.1 hC.2.1 d (kk hC hK hI H locs la hP hS hl)
theorem g_dcmp {x y : UInt64} {op : CmpOp} (d : decode Y.1 pc = .ok (.dcmp op, 1)) (kk : gG X V Y Sh M k n (pc + 1) ls (.int (Op.cmpValue (FP.dcmp x y) op) :: st)) : gG X V Y Sh M k n pc ls (.double y :: .double x :: st) :=
  fun hC hK hI H locs la hP hS hl => lv_dcmp hC.1 hC.2.1 d (kk hC hK hI H locs la hP hS hl)
theorem g_dup {va : Value} (hva : va.category = 1) (d : decode Y.1 pc = .ok (.dup, 1)) (kk : gG X V Y Sh M k n (pc + 1) ls (va :: va :: st)) : gG X V Y Sh M k n pc ls (va :: st) :=
  fun hC hK hI H locs la hP hS hl => lv_dup hC.1 hC.2.1 d hva (kk hC hK hI H locs la hP hS hl)
theorem g_dup2 {va vb : Value} (hva : va.category = 1) (hvb : vb.category = 1) (d : decode Y.1 pc = .ok (.dup2, 1)) (kk : gG X V Y Sh M k n (pc + 1) ls (va :: vb :: va :: vb :: st)) : gG X V Y Sh M k n pc ls (va :: vb :: st) :=
  fun hC hK hI H locs la hP hS hl => lv_dup2_11 hC.1 hC.2.1 d hva hvb (kk hC hK hI H locs la hP hS hl)
theorem g_pop {va : Value} (hva : va.category = 1) (d : decode Y.1 pc = .ok (.pop, 1)) (kk : gG X V Y Sh M k n (pc + 1) ls (st)) : gG X V Y Sh M k n pc ls (va :: st) :=
  fun hC hK hI H locs la hP hS hl => lv_pop hC.1 hC.2.1 d hva (kk hC hK hI H locs la hP hS hl)
theorem g_iload_n {q : Fin 4} {i : Nat} {x : Int32} (j : Nat) (hi : (q : Nat) = i) (hj : ls[j]? = some (i, .int x)) (d : decode Y.1 pc = .ok (.iload_n q, 1)) (kk : gG X V Y Sh M k n (pc + 1) ls (.int x :: st)) : gG X V Y Sh M k n pc ls (st) :=
  fun hC hK hI H locs la hP hS hl => lv_iload_n hC.1 hC.2.1 d hi (lv_at hl j hj) (kk hC hK hI H locs la hP hS hl)
theorem g_iload {i : Nat} {x : Int32} (j : Nat) (hj : ls[j]? = some (i, .int x)) (d : decode Y.1 pc = .ok (.iload i, 2)) (kk : gG X V Y Sh M k n (pc + 2) ls (.int x :: st)) : gG X V Y Sh M k n pc ls (st) :=
  fun hC hK hI H locs la hP hS hl => lv_iload hC.1 hC.2.1 d (lv_at hl j hj) (kk hC hK hI H locs la hP hS hl)
theorem g_istore_n {q : Fin 4} {i : Nat} {x : Int32} {ls' : List (Nat × Value)} (hi : (q : Nat) = i) (hn : i < Y.2.2.1) (hl' : (i, Value.int x) :: ls.filter (fun q => !(q.1 == i) && !(q.1 + 1 == i && q.2.category == 2)) = ls') (d : decode Y.1 pc = .ok (.istore_n q, 1)) (kk : gG X V Y Sh M k n (pc + 1) ls' st) : gG X V Y Sh M k n pc ls (.int x :: st) :=
  fun hC hK hI H locs la hP hS hl => lv_istore_n hC.1 hC.2.1 d hi hl hn hl' (fun la hl => kk hC hK hI H locs la hP hS hl)
theorem g_istore {i : Nat} {x : Int32} {ls' : List (Nat × Value)} (hn : i < Y.2.2.1) (hl' : (i, Value.int x) :: ls.filter (fun q => !(q.1 == i) && !(q.1 + 1 == i && q.2.category == 2)) = ls') (d : decode Y.1 pc = .ok (.istore i, 2)) (kk : gG X V Y Sh M k n (pc + 2) ls' st) : gG X V Y Sh M k n pc ls (.int x :: st) :=
  fun hC hK hI H locs la hP hS hl => lv_istore hC.1 hC.2.1 d hl hn hl' (fun la hl => kk hC hK hI H locs la hP hS hl)
theorem g_lload_n {q : Fin 4} {i : Nat} {x : Int64} (j : Nat) (hi : (q : Nat) = i) (hj : ls[j]? = some (i, .long x)) (d : decode Y.1 pc = .ok (.lload_n q, 1)) (kk : gG X V Y Sh M k n (pc + 1) ls (.long x :: st)) : gG X V Y Sh M k n pc ls (st) :=
  fun hC hK hI H locs la hP hS hl => lv_lload_n hC.1 hC.2.1 d hi (lv_at hl j hj) (kk hC hK hI H locs la hP hS hl)
theorem g_lload {i : Nat} {x : Int64} (j : Nat) (hj : ls[j]? = some (i, .long x)) (d : decode Y.1 pc = .ok (.lload i, 2)) (kk : gG X V Y Sh M k n (pc + 2) ls (.long x :: st)) : gG X V Y Sh M k n pc ls (st) :=
  fun hC hK hI H locs la hP hS hl => lv_lload hC.1 hC.2.1 d (lv_at hl j hj) (kk hC hK hI H locs la hP hS hl)
theorem g_lstore_n {q : Fin 4} {i : Nat} {x : Int64} {ls' : List (Nat × Value)} (hi : (q : Nat) = i) (hn : i + 1 < Y.2.2.1) (hl' : (i, Value.long x) :: ls.filter (fun q => !(q.1 == i) && (!(q.1 == i + 1) && !(q.1 + 1 == i && q.2.category == 2))) = ls') (d : decode Y.1 pc = .ok (.lstore_n q, 1)) (kk : gG X V Y Sh M k n (pc + 1) ls' st) : gG X V Y Sh M k n pc ls (.long x :: st) :=
  fun hC hK hI H locs la hP hS hl => lv_lstore_n hC.1 hC.2.1 d hi hl hn hl' (fun la hl => kk hC hK hI H locs la hP hS hl)
theorem g_lstore {i : Nat} {x : Int64} {ls' : List (Nat × Value)} (hn : i + 1 < Y.2.2.1) (hl' : (i, Value.long x) :: ls.filter (fun q => !(q.1 == i) && (!(q.1 == i + 1) && !(q.1 + 1 == i && q.2.category == 2))) = ls') (d : decode Y.1 pc = .ok (.lstore i, 2)) (kk : gG X V Y Sh M k n (pc + 2) ls' st) : gG X V Y Sh M k n pc ls (.long x :: st) :=
  fun hC hK hI H locs la hP hS hl => lv_lstore hC.1 hC.2.1 d hl hn hl' (fun la hl => kk hC hK hI H locs la hP hS hl)
theorem g_aload_n {q : Fin 4} {i : Nat} {x : Nat} (j : Nat) (hi : (q : Nat) = i) (hj : ls[j]? = some (i, .ref x)) (d : decode Y.1 pc = .ok (.aload_n q, 1)) (kk : gG X V Y Sh M k n (pc + 1) ls (.ref x :: st)) : gG X V Y Sh M k n pc ls (st) :=
  fun hC hK hI H locs la hP hS hl => lv_aload_n hC.1 hC.2.1 d hi (lv_at hl j hj) (kk hC hK hI H locs la hP hS hl)
theorem g_aload {i : Nat} {x : Nat} (j : Nat) (hj : ls[j]? = some (i, .ref x)) (d : decode Y.1 pc = .ok (.aload i, 2)) (kk : gG X V Y Sh M k n (pc + 2) ls (.ref x :: st)) : gG X V Y Sh M k n pc ls (st) :=
  fun hC hK hI H locs la hP hS hl => lv_aload hC.1 hC.2.1 d (lv_at hl j hj) (kk hC hK hI H locs la hP hS hl)
theorem g_astore_n {q : Fin 4} {i : Nat} {x : Nat} {ls' : List (Nat × Value)} (hi : (q : Nat) = i) (hn : i < Y.2.2.1) (hl' : (i, Value.ref x) :: ls.filter (fun q => !(q.1 == i) && !(q.1 + 1 == i && q.2.category == 2)) = ls') (d : decode Y.1 pc = .ok (.astore_n q, 1)) (kk : gG X V Y Sh M k n (pc + 1) ls' st) : gG X V Y Sh M k n pc ls (.ref x :: st) :=
  fun hC hK hI H locs la hP hS hl => lv_astore_n hC.1 hC.2.1 d hi hl hn hl' (fun la hl => kk hC hK hI H locs la hP hS hl)
theorem g_astore {i : Nat} {x : Nat} {ls' : List (Nat × Value)} (hn : i < Y.2.2.1) (hl' : (i, Value.ref x) :: ls.filter (fun q => !(q.1 == i) && !(q.1 + 1 == i && q.2.category == 2)) = ls') (d : decode Y.1 pc = .ok (.astore i, 2)) (kk : gG X V Y Sh M k n (pc + 2) ls' st) : gG X V Y Sh M k n pc ls (.ref x :: st) :=
  fun hC hK hI H locs la hP hS hl => lv_astore hC.1 hC.2.1 d hl hn hl' (fun la hl => kk hC hK hI H locs la hP hS hl)
theorem g_dload {i : Nat} {x : UInt64} (j : Nat) (hj : ls[j]? = some (i, .double x)) (d : decode Y.1 pc = .ok (.dload i, 2)) (kk : gG X V Y Sh M k n (pc + 2) ls (.double x :: st)) : gG X V Y Sh M k n pc ls (st) :=
  fun hC hK hI H locs la hP hS hl => lv_dload hC.1 hC.2.1 d (lv_at hl j hj) (kk hC hK hI H locs la hP hS hl)
theorem g_dstore {i : Nat} {x : UInt64} {ls' : List (Nat × Value)} (hn : i + 1 < Y.2.2.1) (hl' : (i, Value.double x) :: ls.filter (fun q => !(q.1 == i) && (!(q.1 == i + 1) && !(q.1 + 1 == i && q.2.category == 2))) = ls') (d : decode Y.1 pc = .ok (.dstore i, 2)) (kk : gG X V Y Sh M k n (pc + 2) ls' st) : gG X V Y Sh M k n pc ls (.double x :: st) :=
  fun hC hK hI H locs la hP hS hl => lv_dstore hC.1 hC.2.1 d hl hn hl' (fun la hl => kk hC hK hI H locs la hP hS hl)
theorem g_iinc {i j : Nat} {z : Int} {x v : Int32} {ls' : List (Nat × Value)} (hj : ls[j]? = some (i, .int x)) (hv : x + Int32.ofInt z = v) (hn : i < Y.2.2.1) (hl' : (i, Value.int v) :: ls.filter (fun q => !(q.1 == i) && !(q.1 + 1 == i && q.2.category == 2)) = ls') (d : decode Y.1 pc = .ok (.iinc i z, 3)) (kk : gG X V Y Sh M k n (pc + 3) ls' st) : gG X V Y Sh M k n pc ls st :=
  fun hC hK hI H locs la hP hS hl => lv_iinc hC.1 hC.2.1 d hl (k := j) hj hv hn hl' (fun la hl => kk hC hK hI H locs la hP hS hl)
theorem g_if_eq_t {x : Int32} {off : Int} {tgt : Nat} (h : x = 0) (ht : (pc : Int) + off = (tgt : Int)) (d : decode Y.1 pc = .ok (.ifCond .eq off, 3)) (kk : gG X V Y Sh M k n tgt ls st) : gG X V Y Sh M k n pc ls (.int x :: st) :=
  fun hC hK hI H locs la hP hS hl => lv_if_eq hC.1 hC.2.1 d ht (fun _ => kk hC hK hI H locs la hP hS hl) (fun z => absurd h z)
theorem g_if_eq_f {x : Int32} {off : Int} {tgt : Nat} (h : ¬ (x = 0)) (ht : (pc : Int) + off = (tgt : Int)) (d : decode Y.1 pc = .ok (.ifCond .eq off, 3)) (kk : gG X V Y Sh M k n (pc + 3) ls st) : gG X V Y Sh M k n pc ls (.int x :: st) :=
  fun hC hK hI H locs la hP hS hl => lv_if_eq hC.1 hC.2.1 d ht (fun z => absurd z h) (fun _ => kk hC hK hI H locs la hP hS hl)
theorem g_icmp_eq_t {x y : Int32} {off : Int} {tgt : Nat} (h : x = y) (ht : (pc : Int) + off = (tgt : Int)) (d : decode Y.1 pc = .ok (.if_icmp .eq off, 3)) (kk : gG X V Y Sh M k n tgt ls st) : gG X V Y Sh M k n pc ls (.int y :: .int x :: st) :=
  fun hC hK hI H locs la hP hS hl => lv_icmp_eq hC.1 hC.2.1 d ht (fun _ => kk hC hK hI H locs la hP hS hl) (fun z => absurd h z)
theorem g_icmp_eq_f {x y : Int32} {off : Int} {tgt : Nat} (h : ¬ (x = y)) (ht : (pc : Int) + off = (tgt : Int)) (d : decode Y.1 pc = .ok (.if_icmp .eq off, 3)) (kk : gG X V Y Sh M k n (pc + 3) ls st) : gG X V Y Sh M k n pc ls (.int y :: .int x :: st) :=
  fun hC hK hI H locs la hP hS hl => lv_icmp_eq hC.1 hC.2.1 d ht (fun z => absurd z h) (fun _ => kk hC hK hI H locs la hP hS hl)
theorem g_if_ne_t {x : Int32} {off : Int} {tgt : Nat} (h : ¬ x = 0) (ht : (pc : Int) + off = (tgt : Int)) (d : decode Y.1 pc = .ok (.ifCond .ne off, 3)) (kk : gG X V Y Sh M k n tgt ls st) : gG X V Y Sh M k n pc ls (.int x :: st) :=
  fun hC hK hI H locs la hP hS hl => lv_if_ne hC.1 hC.2.1 d ht (fun _ => kk hC hK hI H locs la hP hS hl) (fun z => absurd z h)
theorem g_if_ne_f {x : Int32} {off : Int} {tgt : Nat} (h : x = 0) (ht : (pc : Int) + off = (tgt : Int)) (d : decode Y.1 pc = .ok (.ifCond .ne off, 3)) (kk : gG X V Y Sh M k n (pc + 3) ls st) : gG X V Y Sh M k n pc ls (.int x :: st) :=
  fun hC hK hI H locs la hP hS hl => lv_if_ne hC.1 hC.2.1 d ht (fun z => absurd h z) (fun _ => kk hC hK hI H locs la hP hS hl)
theorem g_icmp_ne_t {x y : Int32} {off : Int} {tgt : Nat} (h : ¬ x = y) (ht : (pc : Int) + off = (tgt : Int)) (d : decode Y.1 pc = .ok (.if_icmp .ne off, 3)) (kk : gG X V Y Sh M k n tgt ls st) : gG X V Y Sh M k n pc ls (.int y :: .int x :: st) :=
  fun hC hK hI H locs la hP hS hl => lv_icmp_ne hC.1 hC.2.1 d ht (fun _ => kk hC hK hI H locs la hP hS hl) (fun z => absurd z h)
theorem g_icmp_ne_f {x y : Int32} {off : Int} {tgt : Nat} (h : x = y) (ht : (pc : Int) + off = (tgt : Int)) (d : decode Y.1 pc = .ok (.if_icmp .ne off, 3)) (kk : gG X V Y Sh M k n (pc + 3) ls st) : gG X V Y Sh M k n pc ls (.int y :: .int x :: st) :=
  fun hC hK hI H locs la hP hS hl => lv_icmp_ne hC.1 hC.2.1 d ht (fun z => absurd h z) (fun _ => kk hC hK hI H locs la hP hS hl)
theorem g_if_lt_t {x : Int32} {off : Int} {tgt : Nat} (h : x < 0) (ht : (pc : Int) + off = (tgt : Int)) (d : decode Y.1 pc = .ok (.ifCond .lt off, 3)) (kk : gG X V Y Sh M k n tgt ls st) : gG X V Y Sh M k n pc ls (.int x :: st) :=
  fun hC hK hI H locs la hP hS hl => lv_if_lt hC.1 hC.2.1 d ht (fun _ => kk hC hK hI H locs la hP hS hl) (fun z => absurd h z)
theorem g_if_lt_f {x : Int32} {off : Int} {tgt : Nat} (h : ¬ (x < 0)) (ht : (pc : Int) + off = (tgt : Int)) (d : decode Y.1 pc = .ok (.ifCond .lt off, 3)) (kk : gG X V Y Sh M k n (pc + 3) ls st) : gG X V Y Sh M k n pc ls (.int x :: st) :=
  fun hC hK hI H locs la hP hS hl => lv_if_lt hC.1 hC.2.1 d ht (fun z => absurd z h) (fun _ => kk hC hK hI H locs la hP hS hl)
theorem g_icmp_lt_t {x y : Int32} {off : Int} {tgt : Nat} (h : x < y) (ht : (pc : Int) + off = (tgt : Int)) (d : decode Y.1 pc = .ok (.if_icmp .lt off, 3)) (kk : gG X V Y Sh M k n tgt ls st) : gG X V Y Sh M k n pc ls (.int y :: .int x :: st) :=
  fun hC hK hI H locs la hP hS hl => lv_icmp_lt hC.1 hC.2.1 d ht (fun _ => kk hC hK hI H locs la hP hS hl) (fun z => absurd h z)
theorem g_icmp_lt_f {x y : Int32} {off : Int} {tgt : Nat} (h : ¬ (x < y)) (ht : (pc : Int) + off = (tgt : Int)) (d : decode Y.1 pc = .ok (.if_icmp .lt off, 3)) (kk : gG X V Y Sh M k n (pc + 3) ls st) : gG X V Y Sh M k n pc ls (.int y :: .int x :: st) :=
  fun hC hK hI H locs la hP hS hl => lv_icmp_lt hC.1 hC.2.1 d ht (fun z => absurd z h) (fun _ => kk hC hK hI H locs la hP hS hl)
theorem g_if_ge_t {x : Int32} {off : Int} {tgt : Nat} (h : 0 ≤ x) (ht : (pc : Int) + off = (tgt : Int)) (d : decode Y.1 pc = .ok (.ifCond .ge off, 3)) (kk : gG X V Y Sh M k n tgt ls st) : gG X V Y Sh M k n pc ls (.int x :: st) :=
  fun hC hK hI H locs la hP hS hl => lv_if_ge hC.1 hC.2.1 d ht (fun _ => kk hC hK hI H locs la hP hS hl) (fun z => absurd h z)
theorem g_if_ge_f {x : Int32} {off : Int} {tgt : Nat} (h : ¬ (0 ≤ x)) (ht : (pc : Int) + off = (tgt : Int)) (d : decode Y.1 pc = .ok (.ifCond .ge off, 3)) (kk : gG X V Y Sh M k n (pc + 3) ls st) : gG X V Y Sh M k n pc ls (.int x :: st) :=
  fun hC hK hI H locs la hP hS hl => lv_if_ge hC.1 hC.2.1 d ht (fun z => absurd z h) (fun _ => kk hC hK hI H locs la hP hS hl)
theorem g_icmp_ge_t {x y : Int32} {off : Int} {tgt : Nat} (h : y ≤ x) (ht : (pc : Int) + off = (tgt : Int)) (d : decode Y.1 pc = .ok (.if_icmp .ge off, 3)) (kk : gG X V Y Sh M k n tgt ls st) : gG X V Y Sh M k n pc ls (.int y :: .int x :: st) :=
  fun hC hK hI H locs la hP hS hl => lv_icmp_ge hC.1 hC.2.1 d ht (fun _ => kk hC hK hI H locs la hP hS hl) (fun z => absurd h z)
theorem g_icmp_ge_f {x y : Int32} {off : Int} {tgt : Nat} (h : ¬ (y ≤ x)) (ht : (pc : Int) + off = (tgt : Int)) (d : decode Y.1 pc = .ok (.if_icmp .ge off, 3)) (kk : gG X V Y Sh M k n (pc + 3) ls st) : gG X V Y Sh M k n pc ls (.int y :: .int x :: st) :=
  fun hC hK hI H locs la hP hS hl => lv_icmp_ge hC.1 hC.2.1 d ht (fun z => absurd z h) (fun _ => kk hC hK hI H locs la hP hS hl)
theorem g_if_gt_t {x : Int32} {off : Int} {tgt : Nat} (h : 0 < x) (ht : (pc : Int) + off = (tgt : Int)) (d : decode Y.1 pc = .ok (.ifCond .gt off, 3)) (kk : gG X V Y Sh M k n tgt ls st) : gG X V Y Sh M k n pc ls (.int x :: st) :=
  fun hC hK hI H locs la hP hS hl => lv_if_gt hC.1 hC.2.1 d ht (fun _ => kk hC hK hI H locs la hP hS hl) (fun z => absurd h z)
theorem g_if_gt_f {x : Int32} {off : Int} {tgt : Nat} (h : ¬ (0 < x)) (ht : (pc : Int) + off = (tgt : Int)) (d : decode Y.1 pc = .ok (.ifCond .gt off, 3)) (kk : gG X V Y Sh M k n (pc + 3) ls st) : gG X V Y Sh M k n pc ls (.int x :: st) :=
  fun hC hK hI H locs la hP hS hl => lv_if_gt hC.1 hC.2.1 d ht (fun z => absurd z h) (fun _ => kk hC hK hI H locs la hP hS hl)
theorem g_icmp_gt_t {x y : Int32} {off : Int} {tgt : Nat} (h : y < x) (ht : (pc : Int) + off = (tgt : Int)) (d : decode Y.1 pc = .ok (.if_icmp .gt off, 3)) (kk : gG X V Y Sh M k n tgt ls st) : gG X V Y Sh M k n pc ls (.int y :: .int x :: st) :=
  fun hC hK hI H locs la hP hS hl => lv_icmp_gt hC.1 hC.2.1 d ht (fun _ => kk hC hK hI H locs la hP hS hl) (fun z => absurd h z)
theorem g_icmp_gt_f {x y : Int32} {off : Int} {tgt : Nat} (h : ¬ (y < x)) (ht : (pc : Int) + off = (tgt : Int)) (d : decode Y.1 pc = .ok (.if_icmp .gt off, 3)) (kk : gG X V Y Sh M k n (pc + 3) ls st) : gG X V Y Sh M k n pc ls (.int y :: .int x :: st) :=
  fun hC hK hI H locs la hP hS hl => lv_icmp_gt hC.1 hC.2.1 d ht (fun z => absurd z h) (fun _ => kk hC hK hI H locs la hP hS hl)
theorem g_if_le_t {x : Int32} {off : Int} {tgt : Nat} (h : x ≤ 0) (ht : (pc : Int) + off = (tgt : Int)) (d : decode Y.1 pc = .ok (.ifCond .le off, 3)) (kk : gG X V Y Sh M k n tgt ls st) : gG X V Y Sh M k n pc ls (.int x :: st) :=
  fun hC hK hI H locs la hP hS hl => lv_if_le hC.1 hC.2.1 d ht (fun _ => kk hC hK hI H locs la hP hS hl) (fun z => absurd h z)
theorem g_if_le_f {x : Int32} {off : Int} {tgt : Nat} (h : ¬ (x ≤ 0)) (ht : (pc : Int) + off = (tgt : Int)) (d : decode Y.1 pc = .ok (.ifCond .le off, 3)) (kk : gG X V Y Sh M k n (pc + 3) ls st) : gG X V Y Sh M k n pc ls (.int x :: st) :=
  fun hC hK hI H locs la hP hS hl => lv_if_le hC.1 hC.2.1 d ht (fun z => absurd z h) (fun _ => kk hC hK hI H locs la hP hS hl)
theorem g_icmp_le_t {x y : Int32} {off : Int} {tgt : Nat} (h : x ≤ y) (ht : (pc : Int) + off = (tgt : Int)) (d : decode Y.1 pc = .ok (.if_icmp .le off, 3)) (kk : gG X V Y Sh M k n tgt ls st) : gG X V Y Sh M k n pc ls (.int y :: .int x :: st) :=
  fun hC hK hI H locs la hP hS hl => lv_icmp_le hC.1 hC.2.1 d ht (fun _ => kk hC hK hI H locs la hP hS hl) (fun z => absurd h z)
theorem g_icmp_le_f {x y : Int32} {off : Int} {tgt : Nat} (h : ¬ (x ≤ y)) (ht : (pc : Int) + off = (tgt : Int)) (d : decode Y.1 pc = .ok (.if_icmp .le off, 3)) (kk : gG X V Y Sh M k n (pc + 3) ls st) : gG X V Y Sh M k n pc ls (.int y :: .int x :: st) :=
  fun hC hK hI H locs la hP hS hl => lv_icmp_le hC.1 hC.2.1 d ht (fun z => absurd z h) (fun _ => kk hC hK hI H locs la hP hS hl)
theorem g_goto {off : Int} {tgt : Nat} (ht : (pc : Int) + off = (tgt : Int)) (d : decode Y.1 pc = .ok (.goto off, 3)) (kk : gG X V Y Sh M k n tgt ls st) : gG X V Y Sh M k n pc ls st :=
  fun hC hK hI H locs la hP hS hl => lv_goto hC.1 hC.2.1 d ht (kk hC hK hI H locs la hP hS hl)
theorem g_tabIn {dflt lo hi : Int} {offs : Array Int} {len : Nat} {x : Int32} {off : Int} {tgt : Nat} (h1 : ¬ x.toInt < lo) (h2 : ¬ hi < x.toInt) (ho : offs[(x.toInt - lo).toNat]? = some off) (ht : (pc : Int) + off = (tgt : Int)) (d : decode Y.1 pc = .ok (.tableswitch dflt lo hi offs, len)) (kk : gG X V Y Sh M k n tgt ls st) : gG X V Y Sh M k n pc ls (.int x :: st) :=
  fun hC hK hI H locs la hP hS hl => lv_tableIn hC.1 hC.2.1 d h1 h2 ho ht (kk hC hK hI H locs la hP hS hl)
theorem g_tabOut {dflt lo hi : Int} {offs : Array Int} {len : Nat} {x : Int32} {tgt : Nat} (h : x.toInt < lo ∨ hi < x.toInt) (ht : (pc : Int) + dflt = (tgt : Int)) (d : decode Y.1 pc = .ok (.tableswitch dflt lo hi offs, len)) (kk : gG X V Y Sh M k n tgt ls st) : gG X V Y Sh M k n pc ls (.int x :: st) :=
  fun hC hK hI H locs la hP hS hl => lv_tableOut hC.1 hC.2.1 d h ht (kk hC hK hI H locs la hP hS hl)
theorem g_ldc {idx : Nat} {v : Int32} (hc : Cond.constant Y.2.1 idx v ∈ gBW) (d : decode Y.1 pc = .ok (.ldc idx, 2)) (kk : gG X V Y Sh M k n (pc + 2) ls (.int v :: st)) : gG X V Y Sh M k n pc ls st :=
  fun hC hK hI H locs la hP hS hl => lv_ldc hC.1 hC.2.1 hC.2.2.2.1 (hC.2.2.2.2.1 _ hc) d (kk hC hK hI H locs la hP hS hl)
theorem g_ldcw {idx : Nat} {v : Int32} (hc : Cond.constant Y.2.1 idx v ∈ gBW) (d : decode Y.1 pc = .ok (.ldc_w idx, 3)) (kk : gG X V Y Sh M k n (pc + 3) ls (.int v :: st)) : gG X V Y Sh M k n pc ls st :=
  fun hC hK hI H locs la hP hS hl => lv_ldcw hC.1 hC.2.1 hC.2.2.2.1 (hC.2.2.2.2.1 _ hc) d (kk hC hK hI H locs la hP hS hl)
theorem g_ldc2 {idx : Nat} {v : Int64} (hc : Cond.constantLong Y.2.1 idx v ∈ gBW) (d : decode Y.1 pc = .ok (.ldc2_w idx, 3)) (kk : gG X V Y Sh M k n (pc + 3) ls (.long v :: st)) : gG X V Y Sh M k n pc ls st :=
  fun hC hK hI H locs la hP hS hl => lv_ldc2 hC.1 hC.2.1 hC.2.2.2.1 (hC.2.2.2.2.1 _ hc) d (kk hC hK hI H locs la hP hS hl)
theorem g_ldcS {idx q : Nat} {tx : String} (hc : (Y.2.1, idx, tx, q) ∈ gStr) (d : decode Y.1 pc = .ok (.ldc idx, 2)) (kk : gG X V Y Sh M k n (pc + 2) ls (.ref (gAdK V q) :: st)) : gG X V Y Sh M k n pc ls st :=
  fun hC hK hI H locs la hP hS hl => va_ldcS hC.1 hC.2.1 hC.2.2.2.1 (hK.2.2.1 _ hc) d (kk hC hK hI H locs la hP hS hl)
/-- the words of a field: its link, and those of its class's layout -/
def gFl (own : String) (idx ci f : Nat) (C : String) (T : u_T) (N : Nat) : Prop := vwCl[ci]? = some (C, T, N) ∧ f < N ∧ (∀ w ∈ u_ws C T N, w ∈ gBW) ∧ Cond.fieldLink own idx C (T f).2.1 (T f).2.2.1 ∈ gBW ∧ (T f).1 = C
theorem g_getI {idx ci f b c N : Nat} {C : String} {T : u_T} {fs : List (Nat × Nat)} (F : gFl Y.2.1 idx ci f C T N) (hsh : Sh[c]? = some (.inr (ci, fs))) (hf : fs[f]? = some (0, b)) (d : decode Y.1 pc = .ok (.getfield idx, 3)) (kk : gG X V Y Sh M k n (pc + 3) ls (.int (M.1 c f) :: st)) : gG X V Y Sh M k n pc ls (.ref (gAd V c) :: st) := by
  obtain ⟨f1, f2, f3, f4, f5⟩ := F
  intro hC hK hI H locs la hP hS hl
  refine va_get hC.1 hC.2.1 hC.2.2.2.2.1 f3 hC.2.2.2.1 hK.1 hP c (gWs_at hsh) f1 f f2 (ref := C) (hC.2.2.2.2.1 _ f4) (by rw [f5]; exact fun _ h => h) (v := .int (M.1 c f)) ?_ d (kk hC hK hI H locs la hP hS hl)
  rw [List.getElem?_mapIdx, hf]; rfl
theorem g_getR {idx ci f q c N : Nat} {C : String} {T : u_T} {fs : List (Nat × Nat)} (F : gFl Y.2.1 idx ci f C T N) (hsh : Sh[c]? = some (.inr (ci, fs))) (hf : fs[f]? = some (3, q)) (d : decode Y.1 pc = .ok (.getfield idx, 3)) (kk : gG X V Y Sh M k n (pc + 3) ls (.ref (gAd V q) :: st)) : gG X V Y Sh M k n pc ls (.ref (gAd V c) :: st) := by
  obtain ⟨f1, f2, f3, f4, f5⟩ := F
  intro hC hK hI H locs la hP hS hl
  refine va_get hC.1 hC.2.1 hC.2.2.2.2.1 f3 hC.2.2.2.1 hK.1 hP c (gWs_at hsh) f1 f f2 (ref := C) (hC.2.2.2.2.1 _ f4) (by rw [f5]; exact fun _ h => h) (v := .ref (gAd V q)) ?_ d (kk hC hK hI H locs la hP hS hl)
  rw [List.getElem?_mapIdx, hf]; rfl
/-- more words, for a store -/
def gFt (ty0 : Nat → FieldType) (T : u_T) (N : Nat) : Prop := (∀ k, k < N → parseFieldDescriptor (T k).2.2.1 = some (ty0 k)) ∧ ∀ a, a < N → ∀ b, b < N → a ≠ b → (T a).2.1 ≠ (T b).2.1
theorem g_putI {idx ci f b c N : Nat} {C : String} {T : u_T} {fs : List (Nat × Nat)} {x : Int32} {ty0 : Nat → FieldType} (F : gFl Y.2.1 idx ci f C T N) (F2 : gFt ty0 T N) (hsh : Sh[c]? = some (.inr (ci, fs))) (hf : fs[f]? = some (0, b)) (hfin : (T f).2.2.2 = false) (hn : narrow (ty0 f) (.int x) = .int x) (hfit : fits (ty0 f) (.int x) = true) (d : decode Y.1 pc = .ok (.putfield idx, 3)) (kk : gG X V Y Sh (gI M c f x) k n (pc + 3) ls st) : gG X V Y Sh M k n pc ls (.int x :: .ref (gAd V c) :: st) := by
  obtain ⟨f1, f2, f3, f4, f5⟩ := F
  intro hC hK hI H locs la hP hS hl
  refine va_put hC.1 hC.2.1 hC.2.2.2.2.1 f3 ty0 F2.1 F2.2 hC.2.2.2.1 hK.1 hP (gWs_D hI) hS c (gWs_at hsh) f1 f f2 (ref := C) (hC.2.2.2.2.1 _ f4) (by rw [f5]; exact fun _ h => h) hfin (F2.1 f f2) hn hfit (by rw [List.length_mapIdx]; exact (List.getElem?_eq_some_iff.mp hf).1) d (fun H1 locs1 hP1 _ hS1 => ?_)
  have hP1 := gWs_F (V := V) (M := M) (x := x) hsh hf ▸ hP1
  exact kk hC hK hI H1 locs1 la hP1 hS1 hl
theorem g_iald {c N : Nat} {i : Int32} (hsh : Sh[c]? = some (.inl (0, N))) (hi : vp_in i N) (d : decode Y.1 pc = .ok (.iaload, 1)) (kk : gG X V Y Sh M k n (pc + 1) ls (.int (M.1 c i.toNatClampNeg) :: st)) : gG X V Y Sh M k n pc ls (.int i :: .ref (gAd V c) :: st) :=
  fun hC hK hI H locs la hP hS hl => va_iald hC.1 hC.2.1 hK.1 hP c 0 (gWs_at hsh) rfl hi d (kk hC hK hI H locs la hP hS hl)
theorem g_bald {c N : Nat} {i : Int32} (hsh : Sh[c]? = some (.inl (2, N))) (hi : vp_in i N) (d : decode Y.1 pc = .ok (.baload, 1)) (kk : gG X V Y Sh M k n (pc + 1) ls (.int (M.1 c i.toNatClampNeg) :: st)) : gG X V Y Sh M k n pc ls (.int i :: .ref (gAd V c) :: st) :=
  fun hC hK hI H locs la hP hS hl => va_bald hC.1 hC.2.1 hK.1 hP c 2 (gWs_at hsh) rfl hi d (kk hC hK hI H locs la hP hS hl)
theorem g_lald {c N : Nat} {i : Int32} (hsh : Sh[c]? = some (.inl (1, N))) (hi : vp_in i N) (d : decode Y.1 pc = .ok (.laload, 1)) (kk : gG X V Y Sh M k n (pc + 1) ls (.long (M.2.1 c i.toNatClampNeg) :: st)) : gG X V Y Sh M k n pc ls (.int i :: .ref (gAd V c) :: st) :=
  fun hC hK hI H locs la hP hS hl => va_lald hC.1 hC.2.1 hK.1 hP c 1 (gWs_at hsh) rfl hi d (kk hC hK hI H locs la hP hS hl)
theorem g_aald {c N q : Nat} {i : Int32} (hsh : Sh[c]? = some (.inl (3, N))) (hi : vp_in i N) (hq : M.2.2 c i.toNatClampNeg = q + 1) (d : decode Y.1 pc = .ok (.aaload, 1)) (kk : gG X V Y Sh M k n (pc + 1) ls (.ref (gAd V q) :: st)) : gG X V Y Sh M k n pc ls (.int i :: .ref (gAd V c) :: st) := by
  intro hC hK hI H locs la hP hS hl
  refine va_aldq hC.1 hC.2.1 hK.1 hP c 3 (f := fun i => gRef V (M.2.2 c i)) (gWs_at hsh) rfl hi d ?_
  rw [hq]
  exact kk hC hK hI H locs la hP hS hl
theorem g_alen {c N kd : Nat} {v : Int32} (hsh : Sh[c]? = some (.inl (kd, N))) (hk : kd = 0 ∨ kd = 1 ∨ kd = 2) (hv : Int32.ofNat N = v) (d : decode Y.1 pc = .ok (.arraylength, 1)) (kk : gG X V Y Sh M k n (pc + 1) ls (.int v :: st)) : gG X V Y Sh M k n pc ls (.ref (gAd V c) :: st) := by
  intro hC hK hI H locs la hP hS hl
  rcases hk with rfl | rfl | rfl
  · exact va_alen hC.1 hC.2.1 hK.1 hP c 0 (gWs_at hsh) rfl hv d (kk hC hK hI H locs la hP hS hl)
  · exact va_alen hC.1 hC.2.1 hK.1 hP c 1 (gWs_at hsh) rfl hv d (kk hC hK hI H locs la hP hS hl)
  · exact va_alen hC.1 hC.2.1 hK.1 hP c 2 (gWs_at hsh) rfl hv d (kk hC hK hI H locs la hP hS hl)
theorem g_iast {c N : Nat} {i x : Int32} (hsh : Sh[c]? = some (.inl (0, N))) (hi : vp_in i N) (d : decode Y.1 pc = .ok (.iastore, 1)) (kk : gG X V Y Sh (gI M c i.toNatClampNeg x) k n (pc + 1) ls st) : gG X V Y Sh M k n pc ls (.int x :: .int i :: .ref (gAd V c) :: st) :=
  fun hC hK hI H locs la hP hS hl => va_iast hC.1 hC.2.1 hK.1 hP (gWs_D hI) hS c 0 (gWs_at hsh) rfl hi d (fun H1 locs1 hP1 _ hS1 => kk hC hK hI H1 locs1 la (gWs_I0 (V := V) (M := M) hsh ▸ hP1) hS1 hl)
theorem g_bast {c N : Nat} {i x : Int32} (hsh : Sh[c]? = some (.inl (2, N))) (hi : vp_in i N) (d : decode Y.1 pc = .ok (.bastore, 1)) (kk : gG X V Y Sh (gI M c i.toNatClampNeg x.toInt8.toInt32) k n (pc + 1) ls st) : gG X V Y Sh M k n pc ls (.int x :: .int i :: .ref (gAd V c) :: st) :=
  fun hC hK hI H locs la hP hS hl => va_bast hC.1 hC.2.1 hK.1 hP (gWs_D hI) hS c 2 (gWs_at hsh) rfl hi d (fun H1 locs1 hP1 _ hS1 => kk hC hK hI H1 locs1 la (by rw [vp_nar_byte] at hP1; exact gWs_I2 (V := V) (M := M) hsh ▸ hP1) hS1 hl)
theorem g_last {c N : Nat} {i : Int32} {x : Int64} (hsh : Sh[c]? = some (.inl (1, N))) (hi : vp_in i N) (d : decode Y.1 pc = .ok (.lastore, 1)) (kk : gG X V Y Sh (gL M c i.toNatClampNeg x) k n (pc + 1) ls st) : gG X V Y Sh M k n pc ls (.long x :: .int i :: .ref (gAd V c) :: st) :=
  fun hC hK hI H locs la hP hS hl => va_last hC.1 hC.2.1 hK.1 hP (gWs_D hI) hS c 1 (gWs_at hsh) rfl hi d (fun H1 locs1 hP1 _ hS1 => kk hC hK hI H1 locs1 la (gWs_L (V := V) (M := M) hsh ▸ hP1) hS1 hl)
theorem g_aast {c N q : Nat} {i : Int32} {fs : List (Nat × Nat)} (hsh : Sh[c]? = some (.inl (3, N))) (hq : Sh[q]? = some (.inr (2, fs))) (hi : vp_in i N) (d : decode Y.1 pc = .ok (.aastore, 1)) (kk : gG X V Y Sh (gR M c i.toNatClampNeg (q + 1)) k n (pc + 1) ls st) : gG X V Y Sh M k n pc ls (.ref (gAd V q) :: .int i :: .ref (gAd V c) :: st) :=
  fun hC hK hI H locs la hP hS hl => va_astq hC.1 hC.2.1 hK.1 hP (gWs_D hI) hS c 3 q 2 (r := (RX2, TX2, 14)) (f := fun i => gRef V (M.2.2 c i)) (gWs_at hsh) rfl (gWs_at hq) rfl hi d (fun H1 locs1 hP1 _ hS1 => kk hC hK hI H1 locs1 la (gWs_R (V := V) (M := M) hsh ▸ hP1) hS1 hl)
theorem g_max {idx : Nat} {x y : Int32} (w1 : Cond.methodLink Y.2.1 idx Lib.Math.max.name ∈ gBW) (w2 : Cond.static Lib.Math.max.name ∈ gBW) (w3 : Cond.initialized "java/lang/Math" ∈ gBW) (w4 : Cond.code Lib.Math.max.name Lib.Math.max.code 2 (some .int) ∈ gBW) (hR : 1 ≤ Y.2.2.2.frames ∧ (st.map fun v => v.category).sum + 13 ≤ Y.2.2.2.locals) (hf : k ≤ Y.2.2.2.cells ∧ n ≤ Y.2.2.2.slots) (d : decode Y.1 pc = .ok (.invokestatic idx, 3)) (kk : gG X V Y Sh M k n (pc + 3) ls (.int (if x < y then y else x) :: st)) : gG X V Y Sh M k n pc ls (.int y :: .int x :: st) := by
  intro hC hK hI H locs la hP hS hl
  obtain ⟨hx, hb, hml, hown, hts, hlk, hrm⟩ := id hC
  rw [← hrm] at hR hf
  exact va_mmax hx hb (hml.trans hl.1.symm) hown (hts _ w1) (hts _ w2) (hts _ w3) (hts _ w4) hR.1 hR.2 hf.1 hf.2 d (kk hC hK hI H locs la hP hS hl)
theorem g_min {idx : Nat} {x y : Int32} (w1 : Cond.methodLink Y.2.1 idx Lib.Math.min.name ∈ gBW) (w2 : Cond.static Lib.Math.min.name ∈ gBW) (w3 : Cond.initialized "java/lang/Math" ∈ gBW) (w4 : Cond.code Lib.Math.min.name Lib.Math.min.code 2 (some .int) ∈ gBW) (hR : 1 ≤ Y.2.2.2.frames ∧ (st.map fun v => v.category).sum + 13 ≤ Y.2.2.2.locals) (hf : k ≤ Y.2.2.2.cells ∧ n ≤ Y.2.2.2.slots) (d : decode Y.1 pc = .ok (.invokestatic idx, 3)) (kk : gG X V Y Sh M k n (pc + 3) ls (.int (if y < x then y else x) :: st)) : gG X V Y Sh M k n pc ls (.int y :: .int x :: st) := by
  intro hC hK hI H locs la hP hS hl
  obtain ⟨hx, hb, hml, hown, hts, hlk, hrm⟩ := id hC
  rw [← hrm] at hR hf
  exact va_mmin hx hb (hml.trans hl.1.symm) hown (hts _ w1) (hts _ w2) (hts _ w3) (hts _ w4) hR.1 hR.2 hf.1 hf.2 d (kk hC hK hI H locs la hP hS hl)

/-- what a method owes: a plain one .. -/
def gO (X : gX) (V : gEnv) (Y : gY) (Sh : List gShp) (ret : Option FieldType) (rv : Option Value) (M' : gMem) : Prop :=
  (gXh X).sig.returnType = ret ∧ gXQ X = MQ (gXb X) (gQ V Sh (gXs X).heap.size rv M') (gXa X) (gXs X) Y.2.2.2.cells Y.2.2.2.slots (gA V Sh.length (gXs X).heap.size)
def gOut : Type := (Option Value) ⊕ String
def gQX (V : gEnv) (Sh : List gShp) (sz : Nat) (out : gOut) (M' : gMem) : Array Value → State → Outcome → State → Prop := fun _ st oc t => (∃ rv, out = .inl rv ∧ oc = .returned rv ∧ va_P (gD V) vwCl (gWs V Sh M') t.heap) ∧ va_F (gA V Sh.length sz) st t
def gXX (V : gEnv) (Sh : List gShp) (sz : Nat) (out : gOut) (M' : gMem) : String → State → State → Prop := fun E st t => (out = .inr E ∧ va_P (gD V) vwCl (gWs V Sh M') t.heap) ∧ va_F (gA V Sh.length sz) st t
/-- .. and one that may throw -/
def gOX (X : gX) (V : gEnv) (Y : gY) (Sh : List gShp) (ret : Option FieldType) (out : gOut) (M' : gMem) : Prop :=
  (gXh X).sig.returnType = ret ∧ (∀ x ∈ (gXc X).exceptionTable.toList, False) ∧ X.2.1.stackTraces = false ∧ gXQ X = vx_MQ (gXb X) (gQX V Sh (gXs X).heap.size out M') (gXX V Sh (gXs X).heap.size out M') (gXa X) (gXs X) Y.2.2.2.cells Y.2.2.2.slots (gA V Sh.length (gXs X).heap.size)
def gMX (l : Launch) (y : MethodName) (cc : ByteArray) (nL : Nat) (ret : Option FieldType) (rm : Room) (V : gEnv) (Sh : List gShp) (as : List Value) (M : gMem) (out : gOut) (M' : gMem) : Prop :=
  ∀ sz : Nat, vx_Met l y (.code y cc nL ret :: gBW) rm (gPc V Sh sz as M) (gQX V Sh sz out M') (gXX V Sh sz out M') rm.cells rm.slots (gA V Sh.length sz)
theorem gM.of {l : Launch} {y : MethodName} {cc : ByteArray} {nL : Nat} {ret : Option FieldType} {rm : Room} {as : List Value} {rv : Option Value} (hy : plainName y.cls = true) (hn : (lg_sl as).length ≤ nL) (hls : lv_args 0 as = ls)
    (body : ∀ X : gX, X.2.1 = l → gO X V (cc, y.cls, nL, rm) Sh ret rv M' → gG X V (cc, y.cls, nL, rm) Sh M 0 0 0 ls []) : gM l y cc nL ret rm V Sh as M rv M' := by
  intro sz
  refine Met.ofW (cc := cc) (maxL := nL) (ret := ret) hy rfl ?_
  intro p e s m args below meth c s₁ B hml hv
  obtain ⟨rfl, hsz, hK, hI, hP⟩ := hv
  subst hsz
  have hts := atoms_spec (ws := .code y cc nL ret :: gBW) B.pre
  have hl := lv_entry as (n := nL) hn
  rw [hls] at hl
  rw [lg_entry_eq]
  exact body (p, l, e, rm, s, m, as.toArray, below, meth, c, _) rfl ⟨B.returns, rfl⟩ ⟨B.exec, B.bytes, hml, findClass_of_methodNamed B.named, fun w hw => hts w (List.mem_cons_of_mem _ hw), B.notSynchronized, rfl⟩ hK hI s.heap [] _ hP va_S.rf hl
theorem gMX.of {l : Launch} {y : MethodName} {cc : ByteArray} {nL : Nat} {ret : Option FieldType} {rm : Room} {as : List Value} {out : gOut} (hst : l.stackTraces = false) (hy : plainName y.cls = true) (hn : (lg_sl as).length ≤ nL) (hls : lv_args 0 as = ls)
    (body : ∀ X : gX, X.2.1 = l → gOX X V (cc, y.cls, nL, rm) Sh ret out M' → gG X V (cc, y.cls, nL, rm) Sh M 0 0 0 ls []) : gMX l y cc nL ret rm V Sh as M out M' := by
  intro sz
  refine vx_ofW (cc := cc) (maxL := nL) (ret := ret) hy rfl ?_
  intro p e s m args below meth c s₁ B hml hnt hv
  obtain ⟨rfl, hsz, hK, hI, hP⟩ := hv
  subst hsz
  have hts := atoms_spec (ws := .code y cc nL ret :: gBW) B.pre
  have hl := lv_entry as (n := nL) hn
  rw [hls] at hl
  rw [lg_entry_eq]
  exact body (p, l, e, rm, s, m, as.toArray, below, meth, c, _) rfl ⟨B.returns, hnt, hst, rfl⟩ ⟨B.exec, B.bytes, hml, findClass_of_methodNamed B.named, fun w hw => hts w (List.mem_cons_of_mem _ hw), B.notSynchronized, rfl⟩ hK hI s.heap [] _ hP va_S.rf hl
/-- ends -/
theorem g_end {ret : Option FieldType} {rv : Option Value} (O : gO X V Y Sh ret rv M) (hk : k ≤ Y.2.2.2.cells ∧ n ≤ Y.2.2.2.slots) {i : Instr}
    (row : ∀ (H : Heap) (locs : List Loc) (la : Array Slot), gC X Y → (∀ t : State, t.heap = H → (gXs X).WarmedH t.vm → gQ V Sh (gXs X).heap.size rv M (gXa X) (gXs X) (.returned rv) t) → (∀ q ∈ locs, gA V Sh.length (gXs X).heap.size q.base) → W X.1 X.2.1 X.2.2.1 (gXR X) (gXs X) (gXm X) (gXa X) (gXb X) (gXh X) (gXc X) H locs Y.2.2.2.cells Y.2.2.2.slots (MQ (gXb X) (gQ V Sh (gXs X).heap.size rv M) (gXa X) (gXs X) Y.2.2.2.cells Y.2.2.2.slots (gA V Sh.length (gXs X).heap.size)) (F0 (gXm X) pc la rv.toList)) : gG X V Y Sh M k n pc ls rv.toList := by
  intro hC hK hI H locs la hP hS hl
  unfold gW
  rw [O.2]
  exact W.widen hk.1 hk.2 (row H locs la hC (fun t ht hW => ⟨⟨rfl, by rw [ht]; exact hP⟩, hS.F ht⟩) hS.2.2)
theorem g_iret {ty : FieldType} {v : Int32} (O : gO X V Y Sh (some ty) (some (.int v)) M) (hk : k ≤ Y.2.2.2.cells ∧ n ≤ Y.2.2.2.slots) (hn : narrow ty (.int v) = .int v) (d : decode Y.1 pc = .ok (.ireturn, 1)) : gG X V Y Sh M k n pc ls [.int v] :=
  g_end (rv := some (.int v)) (i := .ireturn) O hk (fun H locs la hC hq hf => W.zret hC.1 hC.2.1 O.1 hn hq hf d hC.2.2.2.2.2.1)
theorem g_lret {v : Int64} (O : gO X V Y Sh (some .long) (some (.long v)) M) (hk : k ≤ Y.2.2.2.cells ∧ n ≤ Y.2.2.2.slots) (d : decode Y.1 pc = .ok (.lreturn, 1)) : gG X V Y Sh M k n pc ls [.long v] :=
  g_end (rv := some (.long v)) (i := .lreturn) O hk (fun H locs la hC hq hf => W.lret hC.1 hC.2.1 O.1 hq hf d hC.2.2.2.2.2.1)
theorem g_fret {v : UInt32} (O : gO X V Y Sh (some .float) (some (.float v)) M) (hk : k ≤ Y.2.2.2.cells ∧ n ≤ Y.2.2.2.slots) (d : decode Y.1 pc = .ok (.freturn, 1)) : gG X V Y Sh M k n pc ls [.float v] :=
  g_end (rv := some (.float v)) (i := .freturn) O hk (fun H locs la hC hq hf => W.fret hC.1 hC.2.1 O.1 hq hf d hC.2.2.2.2.2.1)
theorem g_dret {v : UInt64} (O : gO X V Y Sh (some .double) (some (.double v)) M) (hk : k ≤ Y.2.2.2.cells ∧ n ≤ Y.2.2.2.slots) (d : decode Y.1 pc = .ok (.dreturn, 1)) : gG X V Y Sh M k n pc ls [.double v] :=
  g_end (rv := some (.double v)) (i := .dreturn) O hk (fun H locs la hC hq hf => W.dret hC.1 hC.2.1 O.1 hq hf d hC.2.2.2.2.2.1)
theorem g_vret (O : gO X V Y Sh none none M) (hk : k ≤ Y.2.2.2.cells ∧ n ≤ Y.2.2.2.slots) (d : decode Y.1 pc = .ok (.return_, 1)) : gG X V Y Sh M k n pc ls [] :=
  g_end (rv := none) (i := .return_) O hk (fun H locs la hC hq hf => W.vret hC.1 hC.2.1 O.1 hq hf d hC.2.2.2.2.2.1)
theorem g_endX {ret : Option FieldType} {rv : Option Value} (O : gOX X V Y Sh ret (.inl rv) M) (hk : k ≤ Y.2.2.2.cells ∧ n ≤ Y.2.2.2.slots)
    (row : ∀ (H : Heap) (locs : List Loc) (la : Array Slot), gC X Y → (∀ t : State, t.heap = H → (gXs X).WarmedH t.vm → gQX V Sh (gXs X).heap.size (.inl rv) M (gXa X) (gXs X) (.returned rv) t) → (∀ q ∈ locs, gA V Sh.length (gXs X).heap.size q.base) → W X.1 X.2.1 X.2.2.1 (gXR X) (gXs X) (gXm X) (gXa X) (gXb X) (gXh X) (gXc X) H locs Y.2.2.2.cells Y.2.2.2.slots (MQ (gXb X) (gQX V Sh (gXs X).heap.size (.inl rv) M) (gXa X) (gXs X) Y.2.2.2.cells Y.2.2.2.slots (gA V Sh.length (gXs X).heap.size)) (F0 (gXm X) pc la rv.toList)) : gG X V Y Sh M k n pc ls rv.toList := by
  intro hC hK hI H locs la hP hS hl
  unfold gW
  rw [O.2.2.2]
  exact vx_ret (W.widen hk.1 hk.2 (row H locs la hC (fun t ht hW => ⟨⟨rv, rfl, rfl, by rw [ht]; exact hP⟩, hS.F ht⟩) hS.2.2))
theorem g_iretX {ty : FieldType} {v : Int32} (O : gOX X V Y Sh (some ty) (.inl (some (.int v))) M) (hk : k ≤ Y.2.2.2.cells ∧ n ≤ Y.2.2.2.slots) (hn : narrow ty (.int v) = .int v) (d : decode Y.1 pc = .ok (.ireturn, 1)) : gG X V Y Sh M k n pc ls [.int v] :=
  g_endX (rv := some (.int v)) O hk (fun H locs la hC hq hf => W.zret hC.1 hC.2.1 O.1 hn hq hf d hC.2.2.2.2.2.1)
theorem g_lretX {v : Int64} (O : gOX X V Y Sh (some .long) (.inl (some (.long v))) M) (hk : k ≤ Y.2.2.2.cells ∧ n ≤ Y.2.2.2.slots) (d : decode Y.1 pc = .ok (.lreturn, 1)) : gG X V Y Sh M k n pc ls [.long v] :=
  g_endX (rv := some (.long v)) O hk (fun H locs la hC hq hf => W.lret hC.1 hC.2.1 O.1 hq hf d hC.2.2.2.2.2.1)
theorem g_vretX (O : gOX X V Y Sh none (.inl none) M) (hk : k ≤ Y.2.2.2.cells ∧ n ≤ Y.2.2.2.slots) (d : decode Y.1 pc = .ok (.return_, 1)) : gG X V Y Sh M k n pc ls [] :=
  g_endX (rv := none) O hk (fun H locs la hC hq hf => W.vret hC.1 hC.2.1 O.1 hq hf d hC.2.2.2.2.2.1)
/-- the words of a throw -/
def gTw (own : String) (ik ic : Nat) (E : String) : Prop := Bundle.fit E = true ∧ (∀ n ∈ ["java/lang/RuntimeException", "java/lang/Exception"], Bundle.fit n = true) ∧ Cond.classLink own ik E ∈ gBW ∧ Cond.initialized E ∈ gBW ∧ (∀ w ∈ (vx_atS own ic E ["java/lang/RuntimeException", "java/lang/Exception"]).filter goodWord, w ∈ gBW) ∧ (∀ w ∈ (vx_atS own ic E ["java/lang/RuntimeException", "java/lang/Exception"]).filter (fun w => !goodWord w), w ∈ gBad) ∧ ∀ w ∈ Cond.classLink own ik E :: Cond.initialized E :: vx_atS own ic E ["java/lang/RuntimeException", "java/lang/Exception"], vx_ot w = true
theorem gBad_ok {s : State} {a : Array Value} (hK : gPre V s) : ∀ w ∈ gBad, w.before a s = true := by
  intro w hw
  rcases List.mem_append.mp hw with h | h
  · obtain ⟨y, hy, rfl⟩ := List.mem_map.mp h
    exact va_Nw.use rfl (hK.2.2.2.2.2.2.2.1 y hy)
  · obtain ⟨y, hy, rfl⟩ := List.mem_map.mp h
    exact va_Nw.use rfl (hK.2.2.2.2.2.2.2.2.1 y hy)
theorem g_throw {ret : Option FieldType} {ik ic is q : Nat} {E tx : String} (O : gOX X V Y Sh ret (.inr E) M) (w : gTw Y.2.1 ik ic E) (hs : (Y.2.1, is, tx, q) ∈ gStr) (hR : 5 < Y.2.2.2.frames ∧ (st.map fun v => v.category).sum + 82 ≤ Y.2.2.2.locals) (hk : k + 1 ≤ Y.2.2.2.cells ∧ n + 6 ≤ Y.2.2.2.slots)
    (d0 : decode Y.1 pc = .ok (.new ik, 3)) (d3 : decode Y.1 (pc + 3) = .ok (.dup, 1)) (d4 : decode Y.1 (pc + 4) = .ok (.ldc is, 2)) (d6 : decode Y.1 (pc + 6) = .ok (.invokespecial ic, 3)) (d9 : decode Y.1 (pc + 9) = .ok (.athrow, 1)) : gG X V Y Sh M k n pc ls st := by
  intro hC hK hI H locs la hP hS hl
  obtain ⟨w1, w2, w3, w4, w5, w6, w7⟩ := w
  obtain ⟨hx, hb, hml, hown, hts, hlk, hrm⟩ := id hC
  rw [← hrm] at hR
  have hk2 := hk
  rw [← hrm] at hk2
  unfold gW
  rw [O.2.2.2]
  refine vx_throwS (names := ["java/lang/RuntimeException", "java/lang/Exception"]) (A := gA V Sh.length (gXs X).heap.size) hx hb O.2.2.1 hown w1 w2 (hts _ w3) (hts _ w4) (hK.2.2.1 _ hs) (vx_hat (fun w h => hts _ (w5 w h)) w6 (gBad_ok hK)) w7 (gZq hI hK.2.2.2.2.2.2.2.2.2.1 hK.2.2.2.2.2.1) (gZq hI hK.2.2.2.2.2.2.2.2.2.1 hK.2.2.2.2.2.2.1) hS (hl.1.trans hml.symm) d0 d3 d4 d6 d9 (fun x hx => (O.2.1 x hx).elim) hR.1 hR.2 hk2.1 hk2.2 hlk (fun t _ h1 h2 => ⟨⟨rfl, hP.kept (fun j q hq => h2 q.1 (hP j q hq).lt)⟩, ?_⟩) hS.2.2 hk.1 hk.2
  exact ⟨Nat.le_trans hS.1 h1, fun q h3 h4 => (h2 q (Nat.lt_of_lt_of_le h3 hS.1)).trans (hS.2.1 q h3 h4)⟩
/-- behind a call of a method that may throw: it returned .. -/
theorem g_goX {H : Heap} {locs : List Loc} {mc ms : Nat} {la : Array Slot} {st0 rest : List Value} {a : Array Value} {out : gOut}
    (hr : vx_Run X.1 X.2.1 X.2.2.1 (gXR X) (gXs X) (gXm X) (gXa X) (gXb X) (gXh X) (gXc X) H locs k n mc ms (F0 (gXm X) pc la st0) rest (gQX V Sh H.size out M' a) (gXX V Sh H.size out M') (gA V Sh.length H.size))
    (hS : va_S (gA V Sh.length (gXs X).heap.size) (gXs X).heap H locs)
    (kk : ∀ (rv : Option Value) (H1 : Heap) (locs1 : List Loc), out = .inl rv → va_P (gD V) vwCl (gWs V Sh M') H1 → va_S (gA V Sh.length (gXs X).heap.size) (gXs X).heap H1 locs1 → gW X H1 locs1 (k + mc) (n + ms) (F0 (gXm X) (pc + 3) la (rv.toList ++ rest)))
    (kx : ∀ (E : String) (q : Addr) (ce : Cell) (H1 : Heap) (locs1 : List Loc), out = .inr E → va_P (gD V) vwCl (gWs V Sh M') H1 → va_S (gA V Sh.length (gXs X).heap.size) (gXs X).heap H1 locs1 → H1[q]? = some ce → ce.vm = .none → (gXs X).vm.findClass E = some ce.cls → vx_W X.1 X.2.1 X.2.2.1 (gXR X) (gXs X) (gXm X) (gXa X) (gXb X) (gXh X) (gXc X) H1 locs1 (k + mc) (n + ms) (gXQ X) (F0 (gXm X) pc la rest) q) : gW X H locs k n (F0 (gXm X) pc la st0) := by
  intro T hT Z
  have hup := gA_up (V := V) (n := Sh.length) hS.1
  rcases hr T hT Z with ⟨v, st₀, t, T', L, h0, Z', hL, e1, e2, ⟨⟨rv, ho, hv, hp⟩, hz, hk⟩, st9⟩ | ⟨q, st₀, t, T', L, E, ce, h0, Z', hL, e1, e2, ⟨⟨ho, hp⟩, hz, hk⟩, hce, hcv, hcl, st9⟩
  · cases hv
    rw [h0] at hz hk
    obtain ⟨t2, a1, b1⟩ := kk _ T'.heap (locs ++ L) ho (by rw [e1]; exact hp)
      ⟨Nat.le_trans hS.1 (by rw [e1]; exact hz), fun q h1 h2 => by rw [e1, hk q (Nat.lt_of_lt_of_le h1 hS.1) (fun z => h2 (hup q z))]; exact hS.2.1 q h1 h2, fun q hq => by
        rcases List.mem_append.mp hq with h | h
        · exact hS.2.2 q h
        · exact hup _ (hL q h)⟩ T' rfl Z'
    exact ⟨t2, st9 t2 a1, b1⟩
  · rw [h0] at hz hk
    obtain ⟨t2, a1, b1⟩ := kx E q ce T'.heap (locs ++ L) ho (by rw [e1]; exact hp)
      ⟨Nat.le_trans hS.1 (by rw [e1]; exact hz), fun q h1 h2 => by rw [e1, hk q (Nat.lt_of_lt_of_le h1 hS.1) (fun z => h2 (hup q z))]; exact hS.2.1 q h1 h2, fun q hq => by
        rcases List.mem_append.mp hq with h | h
        · exact hS.2.2 q h
        · exact hup _ (hL q h)⟩ (by rw [e1]; exact hce) hcv hcl T' rfl Z'
    exact ⟨t2, st9.trans a1, b1⟩
/-- not caught: it goes on -/
theorem g_out {ret : Option FieldType} {E : String} {H : Heap} {locs : List Loc} {la : Array Slot} {q : Addr} {ce : Cell} (O : gOX X V Y Sh ret (.inr E) M) (hC : gC X Y) (hk : k ≤ Y.2.2.2.cells ∧ n ≤ Y.2.2.2.slots) (hP : va_P (gD V) vwCl (gWs V Sh M) H) (hS : va_S (gA V Sh.length (gXs X).heap.size) (gXs X).heap H locs) (h1 : H[q]? = some ce) (h2 : ce.vm = .none) (h3 : (gXs X).vm.findClass E = some ce.cls) : vx_W X.1 X.2.1 X.2.2.1 (gXR X) (gXs X) (gXm X) (gXa X) (gXb X) (gXh X) (gXc X) H locs k n (gXQ X) (F0 (gXm X) pc la st) q := by
  rw [O.2.2.2]
  exact vx_out (fun x hx => (O.2.1 x hx).elim) hC.2.2.2.2.2.1 h1 h2 h3 (fun t ht _ => ⟨⟨rfl, by rw [ht]; exact hP⟩, hS.F ht⟩) hS.2.2 hk.1 hk.2
theorem g_goodV {own : String} {idx nL N : Nat} {y : MethodName} {cc : ByteArray} {ret : Option FieldType} (L : gLv own idx y cc nL ret N) : GoodIn gBW (wsV own idx y.cls y (.code y cc nL ret :: gBW)) := by
  obtain ⟨l1, l2, l3, l4, l5, l6, l7, l8⟩ := L
  exact fun w hw => (List.mem_append.mp hw).elim (fun hw => by
    have : w ∈ gBW := by
      rcases List.mem_cons.mp hw with rfl | hw
      · exact l2
      rcases List.mem_cons.mp hw with rfl | hw
      · exact l3
      rcases List.mem_cons.mp hw with rfl | hw
      · exact l4
      rcases List.mem_cons.mp hw with rfl | hw
      · exact l5
      cases hw
    exact ⟨this, gBW_good w this⟩) (gBW_code l1 w)
theorem g_goodS {own : String} {idx nL N : Nat} {y : MethodName} {cc : ByteArray} {ret : Option FieldType} (L : gLs own idx y cc nL ret N) : GoodIn gBW (va_wsS own idx y (.code y cc nL ret :: gBW)) := by
  obtain ⟨l1, l2, l3, l5, l6, l7, l8⟩ := L
  exact fun w hw => (List.mem_append.mp hw).elim (fun hw => by
    have : w ∈ gBW := by
      rcases List.mem_cons.mp hw with rfl | hw
      · exact l2
      rcases List.mem_cons.mp hw with rfl | hw
      · exact l3
      rcases List.mem_cons.mp hw with rfl | hw
      · exact l5
      cases hw
    exact ⟨this, gBW_good w this⟩) (gBW_code l1 w)
/-- invokevirtual of a method that may throw, in one that may: it returns -/
theorem g_callVX {nA : Nat} {idx c ci nL N : Nat} {y : MethodName} {cc : ByteArray} {ret : Option FieldType} {rm : Room} {T : u_T} {fs : List (Nat × Nat)} {As st0 : List Value} {rv : Option Value} {st1 : List Value} (L : gLv Y.2.1 idx y cc nL ret nA) (hsh : Sh[c]? = some (.inr (ci, fs))) (hc : vwCl[ci]? = some (y.cls, T, N))
    (hM : gMX X.2.1 y cc nL ret rm V Sh (.ref (gAd V c) :: As) M (.inl rv) M') (hA : As.length = nA) (hst : st0 = As.reverse ++ .ref (gAd V c) :: st) (hw : (st.map fun v => v.category).sum ≤ 8) (hR : rm.frames + 1 ≤ Y.2.2.2.frames ∧ 8 + (nL + 11) + rm.locals ≤ Y.2.2.2.locals) (hf : k + rm.cells ≤ Y.2.2.2.cells ∧ n + rm.slots ≤ Y.2.2.2.slots) (d : decode Y.1 pc = .ok (.invokevirtual idx, 3)) (h1 : rv.toList ++ st = st1)
    (kk : gG X V Y Sh M' (k + rm.cells) (n + rm.slots) (pc + 3) ls st1) : gG X V Y Sh M k n pc ls st0 := by
  subst hA
  intro hC hK hI H locs la hP hS hl
  obtain ⟨hx, hb, hml, hown, hts, hlk, hrm⟩ := id hC
  have hG := g_goodV L
  obtain ⟨l1, l2, l3, l4, l5, l6, l7, l8⟩ := L
  rw [← hrm] at hR hf
  refine g_goX (out := .inl rv) (M' := M') (mc := rm.cells) (ms := rm.slots) (vx_runV (As := As) (rest := st) (C := y.cls) (b := gAd V c) ⟨hx, hb, hml, hown, hts⟩ (hM H.size) (cwV As.length hts hG rfl rfl rfl ⟨rfl, l6, l7, l8⟩ hR) ⟨gPc_blind, g_recv hK hP hsh hc, gPc_at hK hI hP hS⟩ rfl rfl hl.1 hst (lv_room hw) d hf) hS (fun rv1 H1 locs1 ho hP1 hS1 => ?_) (fun E q ce H1 locs1 ho => nomatch ho)
  cases ho
  rw [h1]
  exact kk hC hK hI H1 locs1 la hP1 hS1 hl
/-- .. it throws -/
theorem g_callVT {nA : Nat} {idx c ci nL N : Nat} {y : MethodName} {cc : ByteArray} {ret ret0 : Option FieldType} {rm : Room} {T : u_T} {fs : List (Nat × Nat)} {As st0 : List Value} {E : String} (L : gLv Y.2.1 idx y cc nL ret nA) (hsh : Sh[c]? = some (.inr (ci, fs))) (hc : vwCl[ci]? = some (y.cls, T, N)) (O : gOX X V Y Sh ret0 (.inr E) M')
    (hM : gMX X.2.1 y cc nL ret rm V Sh (.ref (gAd V c) :: As) M (.inr E) M') (hA : As.length = nA) (hst : st0 = As.reverse ++ .ref (gAd V c) :: st) (hw : (st.map fun v => v.category).sum ≤ 8) (hR : rm.frames + 1 ≤ Y.2.2.2.frames ∧ 8 + (nL + 11) + rm.locals ≤ Y.2.2.2.locals) (hf : k + rm.cells ≤ Y.2.2.2.cells ∧ n + rm.slots ≤ Y.2.2.2.slots) (d : decode Y.1 pc = .ok (.invokevirtual idx, 3)) : gG X V Y Sh M k n pc ls st0 := by
  subst hA
  intro hC hK hI H locs la hP hS hl
  obtain ⟨hx, hb, hml, hown, hts, hlk, hrm⟩ := id hC
  have hG := g_goodV L
  have hf0 := hf
  obtain ⟨l1, l2, l3, l4, l5, l6, l7, l8⟩ := L
  rw [← hrm] at hR hf
  refine g_goX (out := .inr E) (M' := M') (mc := rm.cells) (ms := rm.slots) (vx_runV (As := As) (rest := st) (C := y.cls) (b := gAd V c) ⟨hx, hb, hml, hown, hts⟩ (hM H.size) (cwV As.length hts hG rfl rfl rfl ⟨rfl, l6, l7, l8⟩ hR) ⟨gPc_blind, g_recv hK hP hsh hc, gPc_at hK hI hP hS⟩ rfl rfl hl.1 hst (lv_room hw) d hf) hS (fun rv1 H1 locs1 ho => nomatch ho) (fun E1 q ce H1 locs1 ho hP1 hS1 h1 h2 h3 => ?_)
  cases ho
  exact g_out O hC hf0 hP1 hS1 h1 h2 h3
theorem g_callSX {nA : Nat} {idx nL : Nat} {y : MethodName} {cc : ByteArray} {ret : Option FieldType} {rm : Room} {As st0 : List Value} {rv : Option Value} {st1 : List Value} (L : gLs Y.2.1 idx y cc nL ret nA)
    (hM : gMX X.2.1 y cc nL ret rm V Sh As M (.inl rv) M') (hA : As.length = nA) (hst : st0 = As.reverse ++ st) (hw : (st.map fun v => v.category).sum ≤ 8) (hR : rm.frames + 1 ≤ Y.2.2.2.frames ∧ 8 + (nL + 11) + rm.locals ≤ Y.2.2.2.locals) (hf : k + rm.cells ≤ Y.2.2.2.cells ∧ n + rm.slots ≤ Y.2.2.2.slots) (d : decode Y.1 pc = .ok (.invokestatic idx, 3)) (h1 : rv.toList ++ st = st1)
    (kk : gG X V Y Sh M' (k + rm.cells) (n + rm.slots) (pc + 3) ls st1) : gG X V Y Sh M k n pc ls st0 := by
  subst hA
  intro hC hK hI H locs la hP hS hl
  obtain ⟨hx, hb, hml, hown, hts, hlk, hrm⟩ := id hC
  have hG := g_goodS L
  obtain ⟨l1, l2, l3, l5, l6, l7, l8⟩ := L
  rw [← hrm] at hR hf
  refine g_goX (out := .inl rv) (M' := M') (mc := rm.cells) (ms := rm.slots) (vx_runS (As := As) (rest := st) ⟨hx, hb, hml, hown, hts⟩ (hM H.size) (va_cwS As.length hts hG rfl rfl rfl ⟨l6, l7, l8⟩ hR) ⟨gPc_blind, gPc_at hK hI hP hS⟩ rfl rfl hl.1 hst (lv_room hw) d hf) hS (fun rv1 H1 locs1 ho hP1 hS1 => ?_) (fun E q ce H1 locs1 ho => nomatch ho)
  cases ho
  rw [h1]
  exact kk hC hK hI H1 locs1 la hP1 hS1 hl
theorem g_callST {nA : Nat} {idx nL : Nat} {y : MethodName} {cc : ByteArray} {ret ret0 : Option FieldType} {rm : Room} {As st0 : List Value} {E : String} (L : gLs Y.2.1 idx y cc nL ret nA) (O : gOX X V Y Sh ret0 (.inr E) M')
    (hM : gMX X.2.1 y cc nL ret rm V Sh As M (.inr E) M') (hA : As.length = nA) (hst : st0 = As.reverse ++ st) (hw : (st.map fun v => v.category).sum ≤ 8) (hR : rm.frames + 1 ≤ Y.2.2.2.frames ∧ 8 + (nL + 11) + rm.locals ≤ Y.2.2.2.locals) (hf : k + rm.cells ≤ Y.2.2.2.cells ∧ n + rm.slots ≤ Y.2.2.2.slots) (d : decode Y.1 pc = .ok (.invokestatic idx, 3)) : gG X V Y Sh M k n pc ls st0 := by
  subst hA
  intro hC hK hI H locs la hP hS hl
  obtain ⟨hx, hb, hml, hown, hts, hlk, hrm⟩ := id hC
  have hG := g_goodS L
  have hf0 := hf
  obtain ⟨l1, l2, l3, l5, l6, l7, l8⟩ := L
  rw [← hrm] at hR hf
  refine g_goX (out := .inr E) (M' := M') (mc := rm.cells) (ms := rm.slots) (vx_runS (As := As) (rest := st) ⟨hx, hb, hml, hown, hts⟩ (hM H.size) (va_cwS As.length hts hG rfl rfl rfl ⟨l6, l7, l8⟩ hR) ⟨gPc_blind, gPc_at hK hI hP hS⟩ rfl rfl hl.1 hst (lv_room hw) d hf) hS (fun rv1 H1 locs1 ho => nomatch ho) (fun E1 q ce H1 locs1 ho hP1 hS1 h1 h2 h3 => ?_)
  cases ho
  exact g_out O hC hf0 hP1 hS1 h1 h2 h3

end GR
