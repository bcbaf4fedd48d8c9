/-! ROWS: names for numbers, truth values, floats, copies, texts, throws with a wide index -/
def zv (x : Int32) : Option Int32 := if x = 0 ∨ x = 1 then some x else none
theorem zv_ok {x v : Int32} (h : zv x = some v) : v = 0 ∨ v = 1 := by
  rcases g_ite h with ⟨a, b⟩ | ⟨a, b⟩
  · cases b; exact a
  · cases b
def gSE {α β γ : Type} (q : α ⊕ β) (f : α → γ) (g : β → γ) : γ := match q with | .inl a => f a | .inr b => g b
theorem g_sl {α β γ : Type} {a : α} {f : α → Option γ} {g : β → Option γ} {r : γ} (h : gSE (.inl a) f g = some r) : f a = some r := h
theorem g_sr {α β γ : Type} {b : β} {f : α → Option γ} {g : β → Option γ} {r : γ} (h : gSE (.inr b) f g = some r) : g b = some r := h
theorem gLoop_Q {σ ρ : Type} {body : σ → Option (σ ⊕ ρ)} {r : ρ} {n : Nat} {s : σ} (h : gLoop body n s = some r) (P : σ → Prop) (step : ∀ s o, body s = some o → (∀ s', o = .inl s' → P s') → (∀ r', o = .inr r' → r' = r) → P s) : P s := gLoop_P P step n s h
def gOI (r : Int32 ⊕ Nat) : gOut := match r with | .inl v => .inl (some (.int v)) | .inr e => .inr (gEx e)
def gOJ (r : Int64 ⊕ Nat) : gOut := match r with | .inl v => .inl (some (.long v)) | .inr e => .inr (gEx e)
def gOV (r : Unit ⊕ Nat) : gOut := match r with | .inl _ => .inl none | .inr e => .inr (gEx e)
def fdivO (x y : UInt32) : Option UInt32 := if FP.fdiv x y &&& 0x7fffffff ≤ 0x7f800000 then some (FP.fdiv x y) else none
def ddivO (x y : UInt64) : Option UInt64 := if FP.ddiv x y &&& 0x7fffffffffffffff ≤ 0x7ff0000000000000 then some (FP.ddiv x y) else none
def cpI (M : gMem) (a b n : Nat) : Option gMem := some (fun d => if d = b then va_cpy (M.1 a) (M.1 b) 0 0 n else M.1 d, M.2.1, M.2.2)
def cpL (M : gMem) (a b n : Nat) : Option gMem := some (M.1, fun d => if d = b then va_cpy (M.2.1 a) (M.2.1 b) 0 0 n else M.2.1 d, M.2.2)
def sLen (i : Nat) : Int32 := Int32.ofNat (gSl.getD i 0)
def sCh (i : Nat) (k : Int32) : Int32 := (((gSb.getD i []).getD k.toNatClampNeg 0 &&& 255).toUInt32 % 65536).toInt32
def sChr (i : Nat) (k : Int32) : Option Int32 := if gIn k (gSl.getD i 0) = true then some (sCh i k) else none
section GS
variable {X : gX} {V : gEnv} {Y : gY} {Sh : List gShp} {M M' : gMem} {k n pc : Nat} {ls : List (Nat × Value)} {st : List Value}
theorem g_nmI {x v : Int32} (h : nm x = some v) (kk : gG X V Y Sh M k n pc ls (.int v :: st)) : gG X V Y Sh M k n pc ls (.int x :: st) := by cases h; exact kk
theorem g_nmJ {x v : Int64} (h : nm x = some v) (kk : gG X V Y Sh M k n pc ls (.long v :: st)) : gG X V Y Sh M k n pc ls (.long x :: st) := by cases h; exact kk
theorem g_zv {x v : Int32} (h : zv x = some v) (kk : gG X V Y Sh M k n pc ls (.int v :: st)) : gG X V Y Sh M k n pc ls (.int x :: st) := by
  rcases g_ite h with ⟨a, b⟩ | ⟨a, b⟩
  · cases b; exact kk
  · cases b
theorem g_fdiv' {x y v : UInt32} (h : fdivO x y = some v) (d : decode Y.1 pc = .ok (.fdiv, 1)) (kk : gG X V Y Sh M k n (pc + 1) ls (.float v :: st)) : gG X V Y Sh M k n pc ls (.float y :: .float x :: st) := by
  rcases g_ite h with ⟨a, b⟩ | ⟨a, b⟩
  · cases b; exact g_fdiv a d kk
  · cases b
theorem g_ddiv' {x y v : UInt64} (h : ddivO x y = some v) (d : decode Y.1 pc = .ok (.ddiv, 1)) (kk : gG X V Y Sh M k n (pc + 1) ls (.double v :: st)) : gG X V Y Sh M k n pc ls (.double y :: .double x :: st) := by
  rcases g_ite h with ⟨a, b⟩ | ⟨a, b⟩
  · cases b; exact g_ddiv a d kk
  · cases b
theorem gWs_cI {a b na N : Nat} (h : Sh[b]? = some (.inl (0, na))) (e : cpI M a b N = some M') : (gWs V Sh M).set b (gAd V b, .inl (gCa V 0, na, .inl (va_cpy (M.1 a) (M.1 b) 0 0 N))) = gWs V Sh M' := by
  cases e
  refine gWs_set h ?_ (fun d hd sh' => ?_)
  · show (Sum.inl (gCa V 0, na, .inl (if b = b then va_cpy (M.1 a) (M.1 b) 0 0 N else M.1 b)) : va_E) = _
    rw [if_pos rfl]
  · unfold gEnt
    split
    · show (Sum.inl (gCa V 0, _, .inl (if d = b then va_cpy (M.1 a) (M.1 b) 0 0 N else M.1 d)) : va_E) = _
      rw [if_neg hd]
    · rfl
    · show (Sum.inl (gCa V 2, _, .inl (if d = b then va_cpy (M.1 a) (M.1 b) 0 0 N else M.1 d)) : va_E) = _
      rw [if_neg hd]
    · rfl
    · congr 3
      funext k' f
      unfold gVal
      split
      · show Value.int ((if d = b then va_cpy (M.1 a) (M.1 b) 0 0 N else M.1 d) k') = _
        rw [if_neg hd]
      · rfl
      · rfl
      · rfl
theorem gWs_cL {a b na N : Nat} (h : Sh[b]? = some (.inl (1, na))) (e : cpL M a b N = some M') : (gWs V Sh M).set b (gAd V b, .inl (gCa V 1, na, .inr (.inl (va_cpy (M.2.1 a) (M.2.1 b) 0 0 N)))) = gWs V Sh M' := by
  cases e
  refine gWs_set h ?_ (fun d hd sh' => ?_)
  · show (Sum.inl (gCa V 1, na, .inr (.inl (if b = b then va_cpy (M.2.1 a) (M.2.1 b) 0 0 N else M.2.1 b))) : va_E) = _
    rw [if_pos rfl]
  · unfold gEnt
    split
    · rfl
    · show (Sum.inl (gCa V 1, _, .inr (.inl (if d = b then va_cpy (M.2.1 a) (M.2.1 b) 0 0 N else M.2.1 d))) : va_E) = _
      rw [if_neg hd]
    · rfl
    · rfl
    · congr 3
      funext k' f
      unfold gVal
      split
      · rfl
      · show Value.long ((if d = b then va_cpy (M.2.1 a) (M.2.1 b) 0 0 N else M.2.1 d) k') = _
        rw [if_neg hd]
      · rfl
      · rfl
def gCp (own : String) (idx : Nat) : Prop := Cond.methodLink own idx arraycopyName ∈ gBW ∧ Cond.native arraycopyName ∈ gBW ∧ Cond.static arraycopyName ∈ gBW ∧ Cond.initialized "java/lang/System" ∈ gBW
theorem g_cpI {a b na nb N idx : Nat} {z : Int32} (e : cpI M a b N = some M') (ha : Sh[a]? = some (.inl (0, na))) (hb : Sh[b]? = some (.inl (0, nb))) (h1 : N ≤ na) (h2 : N ≤ nb) (hR : 1 ≤ Y.2.2.2.frames ∧ (st.map fun v => v.category).sum + (nativeFrameWords "java/lang/System" "arraycopy" 5 + 11) ≤ Y.2.2.2.locals) (hz : ¬ z < 0 ∧ z.toNatClampNeg = N) (w : gCp Y.2.1 idx) (d : decode Y.1 pc = .ok (.invokestatic idx, 3)) (kk : gG X V Y Sh M' k n (pc + 3) ls st) : gG X V Y Sh M k n pc ls (.int z :: .int 0 :: .ref (gAd V b) :: .int 0 :: .ref (gAd V a) :: st) := by
  intro hC hK hI H locs la hP hS hl
  obtain ⟨hx, hb9, hml, hown, hts, hlk, hrm⟩ := id hC
  obtain ⟨w1, w2, w3, w4⟩ := w
  rw [← hrm] at hR
  refine va_copyi hx hb9 (hml.trans hl.1.symm) hown (hts _ w1) (hts _ w2) (hts _ w3) (hts _ w4) hK.1 hP (gWs_D hI) hS a b 0 0 (ty := .int) (gWs_at ha) (gWs_at hb) rfl rfl rfl (sp := 0) (dp := 0) (n := z) (by decide) (by decide) hz.1 (by rw [hz.2]; show 0 + N ≤ na; omega) (by rw [hz.2]; show 0 + N ≤ nb; omega) (fun _ _ => rfl) hR.1 hR.2 d (fun H1 locs1 hP1 _ hS1 => ?_)
  rw [hz.2] at hP1
  have hP1 := gWs_cI (V := V) hb e ▸ hP1
  exact kk hC hK hI H1 locs1 la hP1 hS1 hl
theorem g_cpL {a b na nb N idx : Nat} {z : Int32} (e : cpL M a b N = some M') (ha : Sh[a]? = some (.inl (1, na))) (hb : Sh[b]? = some (.inl (1, nb))) (h1 : N ≤ na) (h2 : N ≤ nb) (hR : 1 ≤ Y.2.2.2.frames ∧ (st.map fun v => v.category).sum + (nativeFrameWords "java/lang/System" "arraycopy" 5 + 11) ≤ Y.2.2.2.locals) (hz : ¬ z < 0 ∧ z.toNatClampNeg = N) (w : gCp Y.2.1 idx) (d : decode Y.1 pc = .ok (.invokestatic idx, 3)) (kk : gG X V Y Sh M' k n (pc + 3) ls st) : gG X V Y Sh M k n pc ls (.int z :: .int 0 :: .ref (gAd V b) :: .int 0 :: .ref (gAd V a) :: st) := by
  intro hC hK hI H locs la hP hS hl
  obtain ⟨hx, hb9, hml, hown, hts, hlk, hrm⟩ := id hC
  obtain ⟨w1, w2, w3, w4⟩ := w
  rw [← hrm] at hR
  refine va_copyl hx hb9 (hml.trans hl.1.symm) hown (hts _ w1) (hts _ w2) (hts _ w3) (hts _ w4) hK.1 hP (gWs_D hI) hS a b 1 1 (ty := .long) (gWs_at ha) (gWs_at hb) rfl rfl rfl (sp := 0) (dp := 0) (n := z) (by decide) (by decide) hz.1 (by rw [hz.2]; show 0 + N ≤ na; omega) (by rw [hz.2]; show 0 + N ≤ nb; omega) (fun _ _ => rfl) hR.1 hR.2 d (fun H1 locs1 hP1 _ hS1 => ?_)
  rw [hz.2] at hP1
  have hP1 := gWs_cL (V := V) hb e ▸ hP1
  exact kk hC hK hI H1 locs1 la hP1 hS1 hl
theorem g_throwW {ret : Option FieldType} {ik ic is q : Nat} {E tx : String} (O : gOX X V Y Sh ret (.inr E) M) (w : gTw Y.2.1 ik ic E) (hs : (Y.2.1, is, tx, q) ∈ gStr) (hR : 5 < Y.2.2.2.frames ∧ (st.map fun v => v.category).sum + 82 ≤ Y.2.2.2.locals) (hk : k + 1 ≤ Y.2.2.2.cells ∧ n + 6 ≤ Y.2.2.2.slots)
    (d0 : decode Y.1 pc = .ok (.new ik, 3)) (d3 : decode Y.1 (pc + 3) = .ok (.dup, 1)) (d4 : decode Y.1 (pc + 4) = .ok (.ldc_w is, 3)) (d6 : decode Y.1 (pc + 7) = .ok (.invokespecial ic, 3)) (d9 : decode Y.1 (pc + 10) = .ok (.athrow, 1)) : gG X V Y Sh M k n pc ls st := by
  intro hC hK hI H locs la hP hS hl
  obtain ⟨w1, w2, w3, w4, w5, w6, w7⟩ := w
  obtain ⟨hx, hb, hml, hown, hts, hlk, hrm⟩ := id hC
  rw [← hrm] at hR
  have hk2 := hk
  rw [← hrm] at hk2
  unfold gW
  rw [O.2.2.2]
  refine vx_throwSW (names := ["java/lang/RuntimeException", "java/lang/Exception"]) (A := gA V Sh.length (gXs X).heap.size) hx hb O.2.2.1 hown w1 w2 (hts _ w3) (hts _ w4) (hK.2.2.1 _ hs) (vx_hat (fun w h => hts _ (w5 w h)) w6 (gBad_ok hK)) w7 (gZq hI hK.2.2.2.2.2.2.2.2.2.1 hK.2.2.2.2.2.1) (gZq hI hK.2.2.2.2.2.2.2.2.2.1 hK.2.2.2.2.2.2.1) hS (hl.1.trans hml.symm) d0 d3 d4 d6 d9 (fun x hx => (O.2.1 x hx).elim) hR.1 hR.2 hk2.1 hk2.2 hlk (fun t _ h1 h2 => ⟨⟨rfl, hP.kept (fun j q hq => h2 q.1 (hP j q hq).lt)⟩, ?_⟩) hS.2.2 hk.1 hk.2
  exact ⟨Nat.le_trans hS.1 h1, fun q h3 h4 => (h2 q (Nat.lt_of_lt_of_le h3 hS.1)).trans (hS.2.1 q h3 h4)⟩
/-! texts -/
theorem gSz {s : State} (hK : gPre V s) (hI : gInj V Sh.length) : vk_S gSn gSl gSb (gAdK V) (gAdV V) (gA V Sh.length s.heap.size) s s.heap := hK.2.2.2.1.narrow (fun _ hq => gA_z hI hK.2.2.2.2.2.2.2.2.2.1 hq)
theorem g_strV {i idx : Nat} (hi : i < 8) (w : Cond.fieldLink Y.2.1 idx "java/lang/String" "value" "[B" ∈ gBW) (d : decode Y.1 pc = .ok (.getfield idx, 3)) (kk : gG X V Y Sh M k n (pc + 3) ls (.ref (gAdV V i) :: st)) : gG X V Y Sh M k n pc ls (.ref (gAdK V i) :: st) :=
  fun hC hK hI H locs la hP hS hl => vk_getf hC.1 hC.2.1 ((gSz hK hI).1 i hi).2.2.1 hS hC.2.2.2.1 (hC.2.2.2.2.1 _ w) (fun _ h => h) d (kk hC hK hI H locs la hP hS hl)
theorem g_strC {i idx : Nat} (hi : i < 8) (w : Cond.fieldLink Y.2.1 idx "java/lang/String" "coder" "B" ∈ gBW) (d : decode Y.1 pc = .ok (.getfield idx, 3)) (kk : gG X V Y Sh M k n (pc + 3) ls (.int 0 :: st)) : gG X V Y Sh M k n pc ls (.ref (gAdK V i) :: st) :=
  fun hC hK hI H locs la hP hS hl => vk_getf hC.1 hC.2.1 ((gSz hK hI).1 i hi).2.1 hS hC.2.2.2.1 (hC.2.2.2.2.1 _ w) (fun _ h => h) d (kk hC hK hI H locs la hP hS hl)
theorem g_strL {i : Nat} (hi : i < 8) (d : decode Y.1 pc = .ok (.arraylength, 1)) (kk : gG X V Y Sh M k n (pc + 1) ls (.int (sLen i) :: st)) : gG X V Y Sh M k n pc ls (.ref (gAdV V i) :: st) :=
  fun hC hK hI H locs la hP hS hl => va_tlen hC.1 hC.2.1 ((gSz hK hI).1 i hi).2.2.2 hS rfl d (kk hC hK hI H locs la hP hS hl)
theorem g_strB {i : Nat} {j : Int32} (hi : i < 8) (hj : vp_in j (gSl.getD i 0)) (d : decode Y.1 pc = .ok (.baload, 1)) (kk : gG X V Y Sh M k n (pc + 1) ls (.int ((gSb.getD i []).getD j.toNatClampNeg 0) :: st)) : gG X V Y Sh M k n pc ls (.int j :: .ref (gAdV V i) :: st) :=
  fun hC hK hI H locs la hP hS hl => va_tb hC.1 hC.2.1 ((gSz hK hI).1 i hi).2.2.2 hS hj rfl d (kk hC hK hI H locs la hP hS hl)
theorem g_compact {idx : Nat} (w : Cond.fieldLink Y.2.1 idx "java/lang/String" "COMPACT_STRINGS" "Z" ∈ gBW) (d : decode Y.1 pc = .ok (.getstatic idx, 3)) (kk : gG X V Y Sh M k n (pc + 3) ls (.int 1 :: st)) : gG X V Y Sh M k n pc ls st :=
  fun hC hK hI H locs la hP hS hl => va_gets hC.1 hC.2.1 (hK.2.2.2.2.1.narrow (fun _ hq => gA_z hI hK.2.2.2.2.2.2.2.2.2.1 hq)) hS hC.2.2.2.1 (hC.2.2.2.2.1 _ w) (fun _ h => h) d (kk hC hK hI H locs la hP hS hl)
theorem g_sioobe {idx : Nat} (w : Cond.fieldLink Y.2.1 idx "jdk/internal/util/Preconditions" "SIOOBE_FORMATTER" "Ljava/util/function/BiFunction;" ∈ gBW) (d : decode Y.1 pc = .ok (.getstatic idx, 3)) (kn : gG X V Y Sh M k n (pc + 3) ls (.null :: st)) (kr : ∀ t : Nat, gG X V Y Sh M k n (pc + 3) ls (.ref t :: st)) : gG X V Y Sh M k n pc ls st := by
  intro hC hK hI H locs la hP hS hl
  rcases hK.2.2.2.2.2.2.2.2.2.2.1 with h | ⟨t, h⟩
  · exact va_gets hC.1 hC.2.1 (h.narrow (fun _ hq => gA_z hI hK.2.2.2.2.2.2.2.2.2.1 hq)) hS hC.2.2.2.1 (hC.2.2.2.2.1 _ w) (fun _ h => h) d (kn hC hK hI H locs la hP hS hl)
  · exact va_gets hC.1 hC.2.1 (h.narrow (fun _ hq => gA_z hI hK.2.2.2.2.2.2.2.2.2.1 hq)) hS hC.2.2.2.1 (hC.2.2.2.2.1 _ w) (fun _ h => h) d (kr t hC hK hI H locs la hP hS hl)
/-- invokevirtual on a text -/
theorem g_callT {nA : Nat} {idx i nL : Nat} {y : MethodName} {cc : ByteArray} {ret : Option FieldType} {rm : Room} {As st0 : List Value} {rv : Option Value} {st1 : List Value} (hi : i < 8) (hyc : y.cls = "java/lang/String") (L : gLv Y.2.1 idx y cc nL ret nA)
    (hM : gM X.2.1 y cc nL ret rm V Sh (.ref (gAdK V i) :: As) M rv M') (hA : As.length = nA) (hst : st0 = As.reverse ++ .ref (gAdK V i) :: st) (hw : (st.map fun v => v.category).sum ≤ 8) (hR : rm.frames + 1 ≤ Y.2.2.2.frames ∧ 8 + (nL + 11) + rm.locals ≤ Y.2.2.2.locals) (hf : k + rm.cells ≤ Y.2.2.2.cells ∧ n + rm.slots ≤ Y.2.2.2.slots) (d : decode Y.1 pc = .ok (.invokevirtual idx, 3)) (h1 : rv.toList ++ st = st1)
    (kk : gG X V Y Sh M' (k + rm.cells) (n + rm.slots) (pc + 3) ls st1) : gG X V Y Sh M k n pc ls st0 := by
  subst hA
  intro hC hK hI H locs la hP hS hl
  obtain ⟨hx, hb, hml, hown, hts, hlk, hrm⟩ := id hC
  have hG := g_goodV L
  obtain ⟨l1, l2, l3, l4, l5, l6, l7, l8⟩ := L
  rw [← hrm] at hR hf
  refine g_go (rv := rv) (M' := M') (mc := rm.cells) (ms := rm.slots) (va_runV (As := As) (rest := st) (C := y.cls) (b := gAdK V i) ⟨hx, hb, hml, hown, hts⟩ (hM H.size) (cwV As.length hts hG rfl rfl rfl ⟨rfl, l6, l7, l8⟩ hR) ⟨gPc_blind, by rw [hyc]; exact vk_recv (gSz hK hI) hi hS, gPc_at hK hI hP hS⟩ rfl rfl hl.1 hst (lv_room hw) d hf) hS (fun H1 locs1 hP1 hS1 => ?_)
  rw [h1]
  exact kk hC hK hI H1 locs1 la hP1 hS1 hl
/-! methods with a table of handlers (the law's own helpers) -/
def gMT (l : Launch) (y : MethodName) (cc : ByteArray) (nL : Nat) (ret : Option FieldType) (hh : List (Nat × Nat × Nat × Nat)) (rm : Room) (V : gEnv) (Sh : List gShp) (as : List Value) (M : gMem) (rv : Option Value) (M' : gMem) : Prop :=
  ∀ sz : Nat, Met l y (.codeWith y cc nL ret hh :: gBW) rm (gPc V Sh sz as M) (gQ V Sh sz rv M') rm.cells rm.slots (gA V Sh.length sz)
theorem gMT.of {l : Launch} {y : MethodName} {cc : ByteArray} {nL : Nat} {ret : Option FieldType} {hh : List (Nat × Nat × Nat × Nat)} {rm : Room} {as : List Value} {rv : Option Value} (hy : plainName y.cls = true) (hn : (lg_sl as).length ≤ nL) (hls : lv_args 0 as = ls)
    (body : ∀ X : gX, X.2.1 = l → (gXc X).exceptionTable.toList = tableOf hh → gO X V (cc, y.cls, nL, rm) Sh ret rv M' → gG X V (cc, y.cls, nL, rm) Sh M 0 0 0 ls []) : gMT l y cc nL ret hh rm V Sh as M rv M' := by
  intro sz
  refine va_MetW (cc := cc) (maxL := nL) (ret := ret) (hh := hh) hy rfl ?_
  intro p e s m args below meth c s₁ B hml hv
  obtain ⟨rfl, hsz, hK, hI, hP⟩ := hv
  subst hsz
  have hts := atoms_spec (ws := .codeWith y cc nL ret hh :: gBW) B.pre
  have hl := lv_entry as (n := nL) hn
  rw [hls] at hl
  rw [lg_entry_eq]
  exact body (p, l, e, rm, s, m, as.toArray, below, meth, c, _) rfl (vx_table (x := y) B (hts _ List.mem_cons_self)) ⟨B.returns, rfl⟩ ⟨B.exec, B.bytes, hml, findClass_of_methodNamed B.named, fun w hw => hts w (List.mem_cons_of_mem _ hw), B.notSynchronized, rfl⟩ hK hI s.heap [] _ hP va_S.rf hl
/-- the callee throws, this method catches: by its first row, by its second one -/
theorem g_callVC {nA idx c ci nL N : Nat} {y : MethodName} {cc : ByteArray} {ret : Option FieldType} {rm : Room} {T : u_T} {fs : List (Nat × Nat)} {As st0 : List Value} {E : String} {hh : List (Nat × Nat × Nat × Nat)} (hT : (gXc X).exceptionTable.toList = tableOf hh) (L : gLv Y.2.1 idx y cc nL ret nA) (hsh : Sh[c]? = some (.inr (ci, fs))) (hc : vwCl[ci]? = some (y.cls, T, N))
    (hM : gMX X.2.1 y cc nL ret rm V Sh (.ref (gAd V c) :: As) M (.inr E) M') (hA : As.length = nA) (hst : st0 = As.reverse ++ .ref (gAd V c) :: st) (hw : (st.map fun v => v.category).sum ≤ 8) (hR : rm.frames + 1 ≤ Y.2.2.2.frames ∧ 8 + (nL + 11) + rm.locals ≤ Y.2.2.2.locals) (hf : k + rm.cells ≤ Y.2.2.2.cells ∧ n + rm.slots ≤ Y.2.2.2.slots) (d : decode Y.1 pc = .ok (.invokevirtual idx, 3))
    (pre : List ExceptionTableEntry) (x : ExceptionTableEntry) (suf : List ExceptionTableEntry) (hs : tableOf hh = pre ++ x :: suf) (hp : pre = [] ∨ (∃ z : ExceptionTableEntry, pre = [z] ∧ z.catchType ≠ 0 ∧ Cond.classLink Y.2.1 z.catchType "java/lang/IndexOutOfBoundsException" ∈ gBW ∧ E = "java/lang/IllegalArgumentException")) (hx : covers x pc = true) (h0 : x.catchType ≠ 0) (hk : Cond.classLink Y.2.1 x.catchType E ∈ gBW) (hcast : (E, E) ∈ gCast)
    (kk : ∀ q : Nat, gG X V Y Sh M' (k + rm.cells) (n + rm.slots) x.handlerPc ls [.ref q]) : gG X V Y Sh M k n pc ls st0 := by
  subst hA
  intro hC hK hI H locs la hP hS hl
  obtain ⟨hx9, hb, hml, hown, hts, hlk, hrm⟩ := id hC
  have hG := g_goodV L
  obtain ⟨l1, l2, l3, l4, l5, l6, l7, l8⟩ := L
  rw [← hrm] at hR hf
  refine g_goX (out := .inr E) (M' := M') (mc := rm.cells) (ms := rm.slots) (vx_runV (As := As) (rest := st) (C := y.cls) (b := gAd V c) ⟨hx9, hb, hml, hown, hts⟩ (hM H.size) (cwV As.length hts hG rfl rfl rfl ⟨rfl, l6, l7, l8⟩ hR) ⟨gPc_blind, g_recv hK hP hsh hc, gPc_at hK hI hP hS⟩ rfl rfl hl.1 hst (lv_room hw) d hf) hS (fun rv1 H1 locs1 ho => nomatch ho) (fun E1 q ce H1 locs1 ho hP1 hS1 h1 h2 h3 => ?_)
  cases ho
  refine vx_catch hown pre x suf (hT.trans hs) ?_ hx h0 (hts _ hk) (va_Nw.use rfl (hK.2.2.2.2.2.2.2.2.1 _ hcast)) h1 h2 h3 (kk q hC hK hI H1 locs1 la hP1 hS1 hl)
  intro z hz
  rcases hp with rfl | ⟨z0, rfl, z1, z2, rfl⟩
  · cases hz
  · cases List.mem_singleton.mp hz
    exact Or.inr ⟨z1, _, hts _ z2, hK.2.2.2.2.2.2.2.2.2.2.2⟩
end GS

theorem dJ0_length_8abf5_0 : decode cJ0_length_8abf5 0 = .ok (.aload_n 0, 1) := by decide +kernel
theorem dJ0_length_8abf5_1 : decode cJ0_length_8abf5 1 = .ok (.getfield 9, 3) := by decide +kernel
theorem dJ0_length_8abf5_4 : decode cJ0_length_8abf5 4 = .ok (.arraylength, 1) := by decide +kernel
theorem dJ0_length_8abf5_5 : decode cJ0_length_8abf5 5 = .ok (.aload_n 0, 1) := by decide +kernel
theorem dJ0_length_8abf5_6 : decode cJ0_length_8abf5 6 = .ok (.invokevirtual 335, 3) := by decide +kernel
theorem dJ0_length_8abf5_9 : decode cJ0_length_8abf5 9 = .ok (.ishr, 1) := by decide +kernel
theorem dJ0_length_8abf5_10 : decode cJ0_length_8abf5 10 = .ok (.ireturn, 1) := by decide +kernel
theorem dJ0_coder_7d493_0 : decode cJ0_coder_7d493 0 = .ok (.getstatic 38, 3) := by decide +kernel
theorem dJ0_coder_7d493_3 : decode cJ0_coder_7d493 3 = .ok (.ifCond .eq 10, 3) := by decide +kernel
theorem dJ0_coder_7d493_6 : decode cJ0_coder_7d493 6 = .ok (.aload_n 0, 1) := by decide +kernel
theorem dJ0_coder_7d493_7 : decode cJ0_coder_7d493 7 = .ok (.getfield 15, 3) := by decide +kernel
theorem dJ0_coder_7d493_10 : decode cJ0_coder_7d493 10 = .ok (.goto 4, 3) := by decide +kernel
theorem dJ0_coder_7d493_13 : decode cJ0_coder_7d493 13 = .ok (.iconst 1, 1) := by decide +kernel
theorem dJ0_coder_7d493_14 : decode cJ0_coder_7d493 14 = .ok (.ireturn, 1) := by decide +kernel
theorem dJ0_charAt_5068e_0 : decode cJ0_charAt_5068e 0 = .ok (.aload_n 0, 1) := by decide +kernel
theorem dJ0_charAt_5068e_1 : decode cJ0_charAt_5068e 1 = .ok (.invokevirtual 492, 3) := by decide +kernel
theorem dJ0_charAt_5068e_4 : decode cJ0_charAt_5068e 4 = .ok (.ifCond .eq 12, 3) := by decide +kernel
theorem dJ0_charAt_5068e_7 : decode cJ0_charAt_5068e 7 = .ok (.aload_n 0, 1) := by decide +kernel
theorem dJ0_charAt_5068e_8 : decode cJ0_charAt_5068e 8 = .ok (.getfield 9, 3) := by decide +kernel
theorem dJ0_charAt_5068e_11 : decode cJ0_charAt_5068e 11 = .ok (.iload_n 1, 1) := by decide +kernel
theorem dJ0_charAt_5068e_12 : decode cJ0_charAt_5068e 12 = .ok (.invokestatic 495, 3) := by decide +kernel
theorem dJ0_charAt_5068e_15 : decode cJ0_charAt_5068e 15 = .ok (.ireturn, 1) := by decide +kernel
theorem dJ0_charAt_5068e_16 : decode cJ0_charAt_5068e 16 = .ok (.aload_n 0, 1) := by decide +kernel
theorem dJ0_charAt_5068e_17 : decode cJ0_charAt_5068e 17 = .ok (.getfield 9, 3) := by decide +kernel
theorem dJ0_charAt_5068e_20 : decode cJ0_charAt_5068e 20 = .ok (.iload_n 1, 1) := by decide +kernel
theorem dJ0_charAt_5068e_21 : decode cJ0_charAt_5068e 21 = .ok (.invokestatic 498, 3) := by decide +kernel
theorem dJ0_charAt_5068e_24 : decode cJ0_charAt_5068e 24 = .ok (.ireturn, 1) := by decide +kernel
theorem dJ0_isLatin1_aae02_0 : decode cJ0_isLatin1_aae02 0 = .ok (.getstatic 38, 3) := by decide +kernel
theorem dJ0_isLatin1_aae02_3 : decode cJ0_isLatin1_aae02 3 = .ok (.ifCond .eq 14, 3) := by decide +kernel
theorem dJ0_isLatin1_aae02_6 : decode cJ0_isLatin1_aae02 6 = .ok (.aload_n 0, 1) := by decide +kernel
theorem dJ0_isLatin1_aae02_7 : decode cJ0_isLatin1_aae02 7 = .ok (.getfield 15, 3) := by decide +kernel
theorem dJ0_isLatin1_aae02_10 : decode cJ0_isLatin1_aae02 10 = .ok (.ifCond .ne 7, 3) := by decide +kernel
theorem dJ0_isLatin1_aae02_13 : decode cJ0_isLatin1_aae02 13 = .ok (.iconst 1, 1) := by decide +kernel
theorem dJ0_isLatin1_aae02_14 : decode cJ0_isLatin1_aae02 14 = .ok (.goto 4, 3) := by decide +kernel
theorem dJ0_isLatin1_aae02_17 : decode cJ0_isLatin1_aae02 17 = .ok (.iconst 0, 1) := by decide +kernel
theorem dJ0_isLatin1_aae02_18 : decode cJ0_isLatin1_aae02 18 = .ok (.ireturn, 1) := by decide +kernel
theorem dJ1_charAt_3b067_0 : decode cJ1_charAt_3b067 0 = .ok (.iload_n 1, 1) := by decide +kernel
theorem dJ1_charAt_3b067_1 : decode cJ1_charAt_3b067 1 = .ok (.aload_n 0, 1) := by decide +kernel
theorem dJ1_charAt_3b067_2 : decode cJ1_charAt_3b067 2 = .ok (.arraylength, 1) := by decide +kernel
theorem dJ1_charAt_3b067_3 : decode cJ1_charAt_3b067 3 = .ok (.invokestatic 9, 3) := by decide +kernel
theorem dJ1_charAt_3b067_6 : decode cJ1_charAt_3b067 6 = .ok (.aload_n 0, 1) := by decide +kernel
theorem dJ1_charAt_3b067_7 : decode cJ1_charAt_3b067 7 = .ok (.iload_n 1, 1) := by decide +kernel
theorem dJ1_charAt_3b067_8 : decode cJ1_charAt_3b067 8 = .ok (.baload, 1) := by decide +kernel
theorem dJ1_charAt_3b067_9 : decode cJ1_charAt_3b067 9 = .ok (.sipush 255, 3) := by decide +kernel
theorem dJ1_charAt_3b067_12 : decode cJ1_charAt_3b067 12 = .ok (.iand, 1) := by decide +kernel
theorem dJ1_charAt_3b067_13 : decode cJ1_charAt_3b067 13 = .ok (.i2c, 1) := by decide +kernel
theorem dJ1_charAt_3b067_14 : decode cJ1_charAt_3b067 14 = .ok (.ireturn, 1) := by decide +kernel
theorem dJ0_checkIndex_df160_0 : decode cJ0_checkIndex_df160 0 = .ok (.iload_n 0, 1) := by decide +kernel
theorem dJ0_checkIndex_df160_1 : decode cJ0_checkIndex_df160 1 = .ok (.iload_n 1, 1) := by decide +kernel
theorem dJ0_checkIndex_df160_2 : decode cJ0_checkIndex_df160 2 = .ok (.getstatic 1053, 3) := by decide +kernel
theorem dJ0_checkIndex_df160_5 : decode cJ0_checkIndex_df160 5 = .ok (.invokestatic 1059, 3) := by decide +kernel
theorem dJ0_checkIndex_df160_8 : decode cJ0_checkIndex_df160 8 = .ok (.pop, 1) := by decide +kernel
theorem dJ0_checkIndex_df160_9 : decode cJ0_checkIndex_df160 9 = .ok (.return_, 1) := by decide +kernel
theorem dJ3_checkIndex_8e157_0 : decode cJ3_checkIndex_8e157 0 = .ok (.iload_n 0, 1) := by decide +kernel
theorem dJ3_checkIndex_8e157_1 : decode cJ3_checkIndex_8e157 1 = .ok (.ifCond .lt 8, 3) := by decide +kernel
theorem dJ3_checkIndex_8e157_4 : decode cJ3_checkIndex_8e157 4 = .ok (.iload_n 0, 1) := by decide +kernel
theorem dJ3_checkIndex_8e157_5 : decode cJ3_checkIndex_8e157 5 = .ok (.iload_n 1, 1) := by decide +kernel
theorem dJ3_checkIndex_8e157_6 : decode cJ3_checkIndex_8e157 6 = .ok (.if_icmp .lt 10, 3) := by decide +kernel
theorem dJ3_checkIndex_8e157_9 : decode cJ3_checkIndex_8e157 9 = .ok (.aload_n 2, 1) := by decide +kernel
theorem dJ3_checkIndex_8e157_10 : decode cJ3_checkIndex_8e157 10 = .ok (.iload_n 0, 1) := by decide +kernel
theorem dJ3_checkIndex_8e157_11 : decode cJ3_checkIndex_8e157 11 = .ok (.iload_n 1, 1) := by decide +kernel
theorem dJ3_checkIndex_8e157_12 : decode cJ3_checkIndex_8e157 12 = .ok (.invokestatic 95, 3) := by decide +kernel
theorem dJ3_checkIndex_8e157_15 : decode cJ3_checkIndex_8e157 15 = .ok (.athrow, 1) := by decide +kernel
theorem dJ3_checkIndex_8e157_16 : decode cJ3_checkIndex_8e157 16 = .ok (.iload_n 0, 1) := by decide +kernel
theorem dJ3_checkIndex_8e157_17 : decode cJ3_checkIndex_8e157 17 = .ok (.ireturn, 1) := by decide +kernel
theorem FJ0_9 : Cond.fieldLink RJ0 9 "java/lang/String" "value" "[B" ∈ gBW := gT9 22 rfl rfl
theorem FJ0_15 : Cond.fieldLink RJ0 15 "java/lang/String" "coder" "B" ∈ gBW := gT9 23 rfl rfl
theorem FJ0_38 : Cond.fieldLink RJ0 38 "java/lang/String" "COMPACT_STRINGS" "Z" ∈ gBW := gT4 21 rfl rfl
theorem FJ0_1053 : Cond.fieldLink RJ0 1053 "jdk/internal/util/Preconditions" "SIOOBE_FORMATTER" "Ljava/util/function/BiFunction;" ∈ gBW := gT4 37 rfl rfl
theorem zcp_X2_65 : gCp RX2 65 := ⟨gT3 43 rfl rfl, gT3 45 rfl rfl, gT3 44 rfl rfl, gT1 24 rfl rfl⟩
abbrev rS0 : Room := { frames := 0, cells := 0, slots := 0, locals := 0 }
abbrev rS1 : Room := { frames := 1, cells := 0, slots := 0, locals := 22 }
abbrev rS2 : Room := { frames := 2, cells := 0, slots := 0, locals := 43 }
abbrev rS3 : Room := { frames := 3, cells := 0, slots := 0, locals := 64 }
theorem kJ0_coder {l : Launch} {V : gEnv} {Sh : List gShp} {M0 : gMem} {i : Nat} (hi : i < 8) : gM l yJ0_coder_7d493 cJ0_coder_7d493 1 (some .byte) rS0 V Sh [.ref (gAdK V i)] M0 (some (.int 0)) M0 :=
  gM.of (by decide) (Nat.le_of_ble_eq_true rfl) rfl (fun X _ O => by
    refine g_compact FJ0_38 dJ0_coder_7d493_0 ?_
    refine g_if_eq_f (by decide) (tgt := 13) rfl dJ0_coder_7d493_3 ?_
    refine g_aload_n 0 rfl rfl dJ0_coder_7d493_6 ?_
    refine g_strC hi FJ0_15 dJ0_coder_7d493_7 ?_
    refine g_goto (tgt := 14) rfl dJ0_coder_7d493_10 ?_
    exact g_iret O ⟨Nat.le_of_ble_eq_true rfl, Nat.le_of_ble_eq_true rfl⟩ rfl dJ0_coder_7d493_14)
theorem kJ0_isLatin1 {l : Launch} {V : gEnv} {Sh : List gShp} {M0 : gMem} {i : Nat} (hi : i < 8) : gM l yJ0_isLatin1_aae02 cJ0_isLatin1_aae02 1 (some .boolean) rS0 V Sh [.ref (gAdK V i)] M0 (some (.int 1)) M0 :=
  gM.of (by decide) (Nat.le_of_ble_eq_true rfl) rfl (fun X _ O => by
    refine g_compact FJ0_38 dJ0_isLatin1_aae02_0 ?_
    refine g_if_eq_f (by decide) (tgt := 17) rfl dJ0_isLatin1_aae02_3 ?_
    refine g_aload_n 0 rfl rfl dJ0_isLatin1_aae02_6 ?_
    refine g_strC hi FJ0_15 dJ0_isLatin1_aae02_7 ?_
    refine g_if_ne_f rfl (tgt := 17) rfl dJ0_isLatin1_aae02_10 ?_
    refine g_iconst (v := 1) rfl dJ0_isLatin1_aae02_13 ?_
    refine g_goto (tgt := 18) rfl dJ0_isLatin1_aae02_14 ?_
    exact g_iret O ⟨Nat.le_of_ble_eq_true rfl, Nat.le_of_ble_eq_true rfl⟩ rfl dJ0_isLatin1_aae02_18)
theorem sLen_shr {i : Nat} (hi : i < 8) : sLen i >>> ((0 : Int32) &&& 31) = sLen i := by
  rcases i with _ | _ | _ | _ | _ | _ | _ | _ | i
  all_goals first | decide | omega
theorem kJ0_length {l : Launch} {V : gEnv} {Sh : List gShp} {M0 : gMem} {i : Nat} (hi : i < 8) : gM l yJ0_length_8abf5 cJ0_length_8abf5 1 (some .int) rS1 V Sh [.ref (gAdK V i)] M0 (some (.int (sLen i))) M0 :=
  gM.of (by decide) (Nat.le_of_ble_eq_true rfl) rfl (fun X _ O => by
    refine g_aload_n 0 rfl rfl dJ0_length_8abf5_0 ?_
    refine g_strV hi FJ0_9 dJ0_length_8abf5_1 ?_
    refine g_strL hi dJ0_length_8abf5_4 ?_
    refine g_aload_n 0 rfl rfl dJ0_length_8abf5_5 ?_
    refine g_callT hi rfl LJ0_335 (kJ0_coder hi) rfl rfl (Nat.le_of_ble_eq_true rfl) ⟨Nat.le_of_ble_eq_true rfl, Nat.le_of_ble_eq_true rfl⟩ ⟨Nat.le_of_ble_eq_true rfl, Nat.le_of_ble_eq_true rfl⟩ dJ0_length_8abf5_6 rfl ?_
    refine g_ishr dJ0_length_8abf5_9 ?_
    rw [sLen_shr hi]
    exact g_iret O ⟨Nat.le_of_ble_eq_true rfl, Nat.le_of_ble_eq_true rfl⟩ rfl dJ0_length_8abf5_10)
theorem kJ3_checkIndex {l : Launch} {V : gEnv} {Sh : List gShp} {M0 : gMem} {x y : Int32} {v : Value} (hv : v = .null ∨ ∃ t, v = .ref t) (h0 : ¬ x < 0) (h1 : x < y) : gM l yJ3_checkIndex_8e157 cJ3_checkIndex_8e157 3 (some .int) rS0 V Sh [.int x, .int y, v] M0 (some (.int x)) M0 := by
  have key : ∀ X : gX, X.2.1 = l → gO X V (cJ3_checkIndex_8e157, yJ3_checkIndex_8e157.cls, 3, rS0) Sh (some .int) (some (.int x)) M0 → gG X V (cJ3_checkIndex_8e157, yJ3_checkIndex_8e157.cls, 3, rS0) Sh M0 0 0 0 [(0, .int x), (1, .int y)] [] := by
    intro X _ O
    refine g_iload_n 0 rfl rfl dJ3_checkIndex_8e157_0 ?_
    refine g_if_lt_f h0 (tgt := 9) rfl dJ3_checkIndex_8e157_1 ?_
    refine g_iload_n 0 rfl rfl dJ3_checkIndex_8e157_4 ?_
    refine g_iload_n 1 rfl rfl dJ3_checkIndex_8e157_5 ?_
    refine g_icmp_lt_t h1 (tgt := 16) rfl dJ3_checkIndex_8e157_6 ?_
    refine g_iload_n 0 rfl rfl dJ3_checkIndex_8e157_16 ?_
    exact g_iret O ⟨Nat.le_of_ble_eq_true rfl, Nat.le_of_ble_eq_true rfl⟩ rfl dJ3_checkIndex_8e157_17
  rcases hv with rfl | ⟨t, rfl⟩
  · exact gM.of (by decide) (Nat.le_of_ble_eq_true rfl) rfl (fun X e O => g_sub [0, 1] rfl (key X e O))
  · exact gM.of (by decide) (Nat.le_of_ble_eq_true rfl) rfl (fun X e O => g_sub [0, 1] rfl (key X e O))
theorem kJ0_checkIndex {l : Launch} {V : gEnv} {Sh : List gShp} {M0 : gMem} {x y : Int32} (h0 : ¬ x < 0) (h1 : x < y) : gM l yJ0_checkIndex_df160 cJ0_checkIndex_df160 2 none rS1 V Sh [.int x, .int y] M0 none M0 :=
  gM.of (by decide) (Nat.le_of_ble_eq_true rfl) rfl (fun X _ O => by
    refine g_iload_n 0 rfl rfl dJ0_checkIndex_df160_0 ?_
    refine g_iload_n 1 rfl rfl dJ0_checkIndex_df160_1 ?_
    refine g_sioobe FJ0_1053 dJ0_checkIndex_df160_2 ?_ (fun t => ?_)
    · refine g_callS LJ0_1059 (kJ3_checkIndex (Or.inl rfl) h0 h1) rfl rfl (Nat.le_of_ble_eq_true rfl) ⟨Nat.le_of_ble_eq_true rfl, Nat.le_of_ble_eq_true rfl⟩ ⟨Nat.le_of_ble_eq_true rfl, Nat.le_of_ble_eq_true rfl⟩ dJ0_checkIndex_df160_5 rfl ?_
      refine g_pop rfl dJ0_checkIndex_df160_8 ?_
      exact g_vret O ⟨Nat.le_of_ble_eq_true rfl, Nat.le_of_ble_eq_true rfl⟩ dJ0_checkIndex_df160_9
    · refine g_callS LJ0_1059 (kJ3_checkIndex (Or.inr ⟨t, rfl⟩) h0 h1) rfl rfl (Nat.le_of_ble_eq_true rfl) ⟨Nat.le_of_ble_eq_true rfl, Nat.le_of_ble_eq_true rfl⟩ ⟨Nat.le_of_ble_eq_true rfl, Nat.le_of_ble_eq_true rfl⟩ dJ0_checkIndex_df160_5 rfl ?_
      refine g_pop rfl dJ0_checkIndex_df160_8 ?_
      exact g_vret O ⟨Nat.le_of_ble_eq_true rfl, Nat.le_of_ble_eq_true rfl⟩ dJ0_checkIndex_df160_9)
theorem sLen_cl {i : Nat} (hi : i < 8) : (sLen i).toInt = (gSl.getD i 0 : Int) := by
  rcases i with _ | _ | _ | _ | _ | _ | _ | _ | i
  all_goals first | decide | omega
theorem sChr_in {i : Nat} {j v : Int32} (hi : i < 8) (h : sChr i j = some v) : vp_in j (gSl.getD i 0) ∧ ¬ j < 0 ∧ j < sLen i ∧ v = sCh i j := by
  rcases g_ite h with ⟨a, b⟩ | ⟨a, b⟩
  · have h1 := gIn_ok a
    have h2 := vp_in_iff.mp h1
    refine ⟨h1, ?_, ?_, (Option.some.inj b).symm⟩
    · rw [Int32.lt_iff_toInt_lt]; show ¬ j.toInt < 0; omega
    · rw [Int32.lt_iff_toInt_lt, sLen_cl hi]; omega
  · cases b
theorem kJ1_charAt {l : Launch} {V : gEnv} {Sh : List gShp} {M0 : gMem} {i : Nat} {j v : Int32} (hi : i < 8) (h : sChr i j = some v) : gM l yJ1_charAt_3b067 cJ1_charAt_3b067 2 (some .char) rS2 V Sh [.ref (gAdV V i), .int j] M0 (some (.int v)) M0 :=
  gM.of (by decide) (Nat.le_of_ble_eq_true rfl) rfl (fun X _ O => by
    obtain ⟨h1, h2, h3, rfl⟩ := sChr_in hi h
    refine g_iload_n 1 rfl rfl dJ1_charAt_3b067_0 ?_
    refine g_aload_n 0 rfl rfl dJ1_charAt_3b067_1 ?_
    refine g_strL hi dJ1_charAt_3b067_2 ?_
    refine g_callS LJ1_9 (kJ0_checkIndex h2 h3) rfl rfl (Nat.le_of_ble_eq_true rfl) ⟨Nat.le_of_ble_eq_true rfl, Nat.le_of_ble_eq_true rfl⟩ ⟨Nat.le_of_ble_eq_true rfl, Nat.le_of_ble_eq_true rfl⟩ dJ1_charAt_3b067_3 rfl ?_
    refine g_aload_n 0 rfl rfl dJ1_charAt_3b067_6 ?_
    refine g_iload_n 1 rfl rfl dJ1_charAt_3b067_7 ?_
    refine g_strB hi h1 dJ1_charAt_3b067_8 ?_
    refine g_sipush (v := 255) rfl dJ1_charAt_3b067_9 ?_
    refine g_iand dJ1_charAt_3b067_12 ?_
    refine g_i2c dJ1_charAt_3b067_13 ?_
    exact g_iret O ⟨Nat.le_of_ble_eq_true rfl, Nat.le_of_ble_eq_true rfl⟩ (pk_nc _) dJ1_charAt_3b067_14)
theorem kJ0_charAt {l : Launch} {V : gEnv} {Sh : List gShp} {M0 : gMem} {i : Nat} {j v : Int32} (hi : i < 8) (h : sChr i j = some v) : gM l yJ0_charAt_5068e cJ0_charAt_5068e 2 (some .char) rS3 V Sh [.ref (gAdK V i), .int j] M0 (some (.int v)) M0 :=
  gM.of (by decide) (Nat.le_of_ble_eq_true rfl) rfl (fun X _ O => by
    obtain ⟨h1, h2, h3, h4⟩ := sChr_in hi h
    refine g_aload_n 0 rfl rfl dJ0_charAt_5068e_0 ?_
    refine g_callT hi rfl LJ0_492 (kJ0_isLatin1 hi) rfl rfl (Nat.le_of_ble_eq_true rfl) ⟨Nat.le_of_ble_eq_true rfl, Nat.le_of_ble_eq_true rfl⟩ ⟨Nat.le_of_ble_eq_true rfl, Nat.le_of_ble_eq_true rfl⟩ dJ0_charAt_5068e_1 rfl ?_
    refine g_if_eq_f (by decide) (tgt := 16) rfl dJ0_charAt_5068e_4 ?_
    refine g_aload_n 0 rfl rfl dJ0_charAt_5068e_7 ?_
    refine g_strV hi FJ0_9 dJ0_charAt_5068e_8 ?_
    refine g_iload_n 1 rfl rfl dJ0_charAt_5068e_11 ?_
    refine g_callS LJ0_495 (kJ1_charAt hi h) rfl rfl (Nat.le_of_ble_eq_true rfl) ⟨Nat.le_of_ble_eq_true rfl, Nat.le_of_ble_eq_true rfl⟩ ⟨Nat.le_of_ble_eq_true rfl, Nat.le_of_ble_eq_true rfl⟩ dJ0_charAt_5068e_12 rfl ?_
    exact g_iret O ⟨Nat.le_of_ble_eq_true rfl, Nat.le_of_ble_eq_true rfl⟩ (by rw [h4]; exact pk_nc _) dJ0_charAt_5068e_15)

