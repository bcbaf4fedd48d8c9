/-! CONSTRUCTORS: their contract, and its rows: a statement of a constructor at a time -/
theorem gI_z {M : gMem} {c k : Nat} {x : Int32} (h : M.1 c k = x) : gI M c k x = M := by
  obtain ⟨a, b, d⟩ := M
  have h : a c k = x := h
  show ((fun e => if e = c then upd (a c) k x else a e), b, d) = (a, b, d)
  congr 1
  funext e
  by_cases he : e = c
  · subst he
    rw [if_pos rfl]
    funext j
    by_cases hj : j = k
    · subst hj; simp [upd, h]
    · simp [upd, hj]
  · rw [if_neg he]
def gQN (V : gEnv) (Sh T : List gShp) (M' : gMem) (ad : Nat → Nat) (sz : Nat) : Array Value → State → Outcome → State → Prop := fun _ st oc t => (oc = .returned none ∧ ∃ ad', gExt ad ad' (Sh.length + 1) (Sh.length + T.length) sz ∧ gInj (zSet V ad') (Sh.length + T.length) ∧ va_P (gD V) vwCl (gWs (zSet V ad') (Sh ++ T) M') t.heap) ∧ va_F (gA (zSet V ad) (Sh.length + 1) sz) st t
/-- the contract of a constructor: its object is the world's last cell, as it is born -/
def gN (l : Launch) (y : MethodName) (cc : ByteArray) (rm : Room) (fr : gShp) (tl : Nat → List gShp) (mf : Nat → gMem → gMem) : Prop :=
  ∀ (V : gEnv) (Sh : List gShp) (M : gMem) (ad : Nat → Nat) (sz : Nat), gRf Sh.length Sh M → gZe Sh.length M → Met l y (.code y cc 1 none :: gBW) rm (gPc (zSet V ad) (Sh ++ [fr]) sz [.ref (ad Sh.length)] M) (gQN V Sh (tl Sh.length) (mf Sh.length M) ad sz) rm.cells rm.slots (gA (zSet V ad) (Sh.length + 1) sz)
def gTl (tl : Nat → List gShp) (mf : Nat → gMem → gMem) : Prop := ∀ L M, 1 ≤ (tl L).length ∧ (∀ sh ∈ tl L, gSq (L + (tl L).length) sh = true) ∧ (gZe L M → gZe (L + (tl L).length) (mf L M)) ∧ (mf L M).2.2 = M.2.2
def gON (X : gX) (V : gEnv) (Y : gY) (Sh T : List gShp) (M' : gMem) (ad : Nat → Nat) : Prop :=
  (gXh X).sig.returnType = none ∧ gXQ X = MQ (gXb X) (gQN V Sh T M' ad (gXs X).heap.size) (gXa X) (gXs X) Y.2.2.2.cells Y.2.2.2.slots (gA (zSet V ad) (Sh.length + 1) (gXs X).heap.size)
def gK (X : gX) (V : gEnv) (Y : gY) (Sh : List gShp) (ad0 : Nat → Nat) (T : List gShp) (M : gMem) (k n pc : Nat) (ex : List (Nat × Value)) : Prop :=
  gRf (Sh.length + T.length) (Sh ++ T) M → gZe (Sh.length + T.length) M → ∀ ad, gExt ad0 ad (Sh.length + 1) (Sh.length + T.length) (gXs X).heap.size → gG X (zSet V ad) Y (Sh ++ T) M k n pc ((0, .ref (ad Sh.length)) :: ex) []
theorem gN.of {l : Launch} {y : MethodName} {cc : ByteArray} {rm : Room} {fr : gShp} {tl : Nat → List gShp} {mf : Nat → gMem → gMem} (hy : plainName y.cls = true) (hnm : y.name = "<init>") (hfr : gSq 0 fr = true)
    (body : ∀ (X : gX) (V : gEnv) (Sh : List gShp) (M : gMem) (ad : Nat → Nat), X.2.1 = l → (∀ k, M.1 Sh.length k = 0) → gON X V (cc, y.cls, 1, rm) Sh (tl Sh.length) (mf Sh.length M) ad → (gXh X).name = "<init>" → gK X V (cc, y.cls, 1, rm) Sh ad [fr] M 0 0 0 []) : gN l y cc rm fr tl mf := by
  intro V Sh M ad sz hr hz
  refine Met.ofW (cc := cc) (maxL := 1) (ret := none) hy rfl ?_
  intro p e s m args below meth c s₁ B hml hv
  obtain ⟨rfl, hsz, hK, hI, hP⟩ := hv
  subst hsz
  have hts := atoms_spec (ws := .code y cc 1 none :: gBW) B.pre
  have hin : meth.name = y.name := (name_of_methodNamed B.named B.method).1
  have hl := lv_entry [.ref (ad Sh.length)] (n := 1) (Nat.le_of_ble_eq_true rfl)
  rw [lg_entry_eq]
  exact body (p, l, e, rm, s, m, [Value.ref (ad Sh.length)].toArray, below, meth, c, _) V Sh M ad rfl (hz _ (Nat.le_refl _)).1 ⟨B.returns, rfl⟩ (hin.trans hnm) (gRf_app (gRf_up (Nat.le_succ _) hr) (fun sh hs => by rw [List.mem_singleton.mp hs]; exact gSq_up (Nat.zero_le _) hfr)) (gZe_up (Nat.le_succ _) hz) ad gExt_rf ⟨B.exec, B.bytes, hml, findClass_of_methodNamed B.named, fun w hw => hts w (List.mem_cons_of_mem _ hw), B.notSynchronized, rfl⟩ hK hI s.heap [] _ hP va_S.rf hl
/-- the words of a call of a nest mate's constructor -/
def gLi (own : String) (idx : Nat) (y : MethodName) (cc : ByteArray) : Prop := Cond.code y cc 1 none ∈ gBW ∧ (own, idx, y, "RingFreeOrder") ∈ gNest ∧ Cond.instanceMethod y ∈ gBW ∧ Cond.initialized y.cls ∈ gBW ∧ y.cls ≠ "java/lang/invoke/MethodHandle" ∧ y.cls ≠ "java/lang/invoke/VarHandle" ∧ (parseMethodDescriptor y.desc).map (fun d => d.parameters.length) = some 0 ∧ y.name = "<init>"
section GK
variable {X : gX} {V : gEnv} {Y : gY} {Sh : List gShp} {M M' : gMem} {ad ad0 : Nat → Nat} {k n pc : Nat} {ls ex : List (Nat × Value)} {st : List Value}
theorem g_callI {im : Nat} {y : MethodName} {cc : ByteArray} {rm : Room} {fr : gShp} {tl : Nat → List gShp} {mf : Nat → gMem → gMem} (L : gLi Y.2.1 im y cc) (hN : gN X.2.1 y cc rm fr tl mf) (hr : gRf Sh.length Sh M) (hz : gZe Sh.length M) (hw : (st.map fun v => v.category).sum ≤ 8) (hR : rm.frames + 1 ≤ Y.2.2.2.frames ∧ 8 + (1 + 11) + rm.locals ≤ Y.2.2.2.locals) (hf : k + rm.cells ≤ Y.2.2.2.cells ∧ n + rm.slots ≤ Y.2.2.2.slots) (d : decode Y.1 pc = .ok (.invokespecial im, 3))
    (kk : ∀ ad', gExt ad ad' (Sh.length + 1) (Sh.length + (tl Sh.length).length) (gXs X).heap.size → gG X (zSet V ad') Y (Sh ++ tl Sh.length) (mf Sh.length M) (k + rm.cells) (n + rm.slots) (pc + 3) ls st) (ht : 1 ≤ (tl Sh.length).length) : gG X (zSet V ad) Y (Sh ++ [fr]) M k n pc ls (.ref (ad Sh.length) :: st) := by
  intro hC hK hI H locs la hP hS hl
  obtain ⟨hx, hb, hml, hown, hts, hlk, hrm⟩ := id hC
  obtain ⟨l1, l2, l3, l5, l6, l7, l8, l9⟩ := L
  rw [← hrm] at hR hf
  have hlen : (Sh ++ [fr]).length = Sh.length + 1 := by rw [List.length_append]; rfl
  have hrun := va_runIN (As := []) (rest := st) (b := ad Sh.length) (g := F0 (gXm X) pc la (.ref (ad Sh.length) :: st)) (H := H) (locs := locs) (cells := k) (slots := n) (e := X.2.2.1) (below := gXb X) (R := gXR X) (meth := gXh X) ⟨hx, hb, hml, hown, hts⟩ (hN V Sh M ad H.size hr hz) ⟨va_cnB 0 hts (gBW_code l1) rfl rfl rfl (hK.2.1 _ l2) (hts _ l5) ⟨l6, l7, l8⟩ hR, l9, hts _ l3⟩ ⟨gPc_blind, gPc_at hK hI hP hS⟩ rfl rfl hl.1 rfl (lv_room hw) d hf
  rw [hlen] at hS hI
  intro T hT Z
  obtain ⟨v, st₀, t, T', L, h0, Z', hL, e1, e2, ⟨⟨hv, ad', hE, hI', hp⟩, hz9, hk⟩, stp⟩ := hrun T hT Z
  cases hv
  rw [h0] at hz9 hk
  have hup := gA_up (V := zSet V ad) (n := Sh.length + 1) hS.1
  have hS' : va_S (gA (zSet V ad) (Sh.length + 1) (gXs X).heap.size) (gXs X).heap T'.heap (locs ++ L) :=
    ⟨Nat.le_trans hS.1 (by rw [e1]; exact hz9), fun q h1 h2 => by rw [e1, hk q (Nat.lt_of_lt_of_le h1 hS.1) (fun z => h2 (hup q z))]; exact hS.2.1 q h1 h2, fun q hq => by
      rcases List.mem_append.mp hq with h | h
      · exact hS.2.2 q h
      · exact hup _ (hL q h)⟩
  obtain ⟨t2, a1, b1⟩ := kk ad' (gExt_sz hE hS.1) hC hK (by rw [List.length_append]; exact hI') T'.heap (locs ++ L) la (by rw [e1]; exact hp) (by rw [List.length_append]; exact gS_up (gA_grow (by omega) hE.1) hS') hl T' rfl Z'
  exact ⟨t2, stp t2 a1, b1⟩
theorem zAt {x : gShp} {Tr : List gShp} : (Sh ++ x :: Tr)[Sh.length]? = some x := by
  rw [List.getElem?_append_right (Nat.le_refl _), Nat.sub_self]; rfl
/-- the end -/
theorem k_ret0 {T : List gShp} (O : gON X V Y Sh T M ad0) (hE : gExt ad0 ad (Sh.length + 1) (Sh.length + T.length) (gXs X).heap.size) (hk : k ≤ Y.2.2.2.cells ∧ n ≤ Y.2.2.2.slots) (d : decode Y.1 pc = .ok (.return_, 1)) : gG X (zSet V ad) Y (Sh ++ T) M k n pc ls [] := by
  intro hC hK hI H locs la hP hS hl
  rw [List.length_append] at hI hS
  have hS := gS_up (gA_back hE) hS
  unfold gW
  rw [O.2]
  exact W.widen hk.1 hk.2 (W.vret hC.1 hC.2.1 O.1 (fun t ht hW => ⟨⟨rfl, ad, hE, hI, by rw [ht]; exact hP⟩, hS.F ht⟩) hS.2.2 d hC.2.2.2.2.2.1)
theorem k_ret {T : List gShp} (O : gON X V Y Sh T M ad0) (hk : k ≤ Y.2.2.2.cells ∧ n ≤ Y.2.2.2.slots) (d : decode Y.1 pc = .ok (.return_, 1)) : gK X V Y Sh ad0 T M k n pc ex :=
  fun _ _ _ hE => k_ret0 O hE hk d
/-- super() -/
theorem k_super {T : List gShp} {idx : Nat} (w1 : Cond.methodLink Y.2.1 idx Lib.objectInit ∈ gBW) (w2 : Cond.instanceMethod Lib.objectInit ∈ gBW) (w3 : Cond.code Lib.objectInit ⟨#[0xb1]⟩ 1 none ∈ gBW) (hR : 1 ≤ Y.2.2.2.frames ∧ 0 + 12 ≤ Y.2.2.2.locals) (d0 : decode Y.1 pc = .ok (.aload_n 0, 1)) (d1 : decode Y.1 (pc + 1) = .ok (.invokespecial idx, 3)) (kk : gK X V Y Sh ad0 T M k n (pc + 4) ex) : gK X V Y Sh ad0 T M k n pc ex := by
  intro hr hz ad hE
  refine g_aload_n 0 rfl rfl d0 ?_
  exact g_objInit w1 w2 w3 hR d1 (kk hr hz ad hE)
/-- a number's field -/
theorem k_int {T : List gShp} {idx ci f b N : Nat} {C : String} {T0 : u_T} {fs : List (Nat × Nat)} {Tr : List gShp} {ty0 : Nat → FieldType} {i : Int} {x : Int32} (hT : T = .inr (ci, fs) :: Tr) (hx : Int32.ofInt i = x) (F : gFl Y.2.1 idx ci f C T0 N) (F2 : gFt ty0 T0 N) (hf : fs[f]? = some (0, b)) (hfin : (T0 f).2.2.2 = false) (hn : narrow (ty0 f) (.int x) = .int x) (hfit : fits (ty0 f) (.int x) = true) (hM : gI M Sh.length f x = M') (d0 : decode Y.1 pc = .ok (.aload_n 0, 1)) (d1 : decode Y.1 (pc + 1) = .ok (.iconst i, 1)) (d2 : decode Y.1 (pc + 2) = .ok (.putfield idx, 3)) (kk : gK X V Y Sh ad0 T M' k n (pc + 5) ex) : gK X V Y Sh ad0 T M k n pc ex := by
  subst hT
  intro hr hz ad hE
  refine g_aload_n 0 rfl rfl d0 ?_
  refine g_iconst hx d1 ?_
  refine g_putI (V := zSet V ad) (c := Sh.length) F F2 zAt hf hfin hn hfit d2 ?_
  rw [hM]
  refine kk ?_ ?_ ad hE
  · rw [← hM]; exact ⟨hr.1, hr.2⟩
  · rw [← hM]
    intro c hc
    have z := hz c hc
    have hc2 : c ≠ Sh.length := by
      have : (Sum.inr (ci, fs) :: Tr : List gShp).length = Tr.length + 1 := rfl
      omega
    refine ⟨fun k => ?_, z.2⟩
    show (if c = Sh.length then _ else M.1 c) k = 0
    rw [if_neg hc2]; exact z.1 k
/-- an array's field -/
theorem k_arr {T T' : List gShp} {idx ci f b N kd N' pc2 : Nat} {C : String} {T0 : u_T} {fs : List (Nat × Nat)} {Tr : List gShp} {ty0 : Nat → FieldType} {i : Int} {x : Int32} {at_ : ArrayType} (hT : T = .inr (ci, fs) :: Tr) (hT' : T' = .inr (ci, fs.set f (3, Sh.length + (Tr.length + 1))) :: (Tr ++ [.inl (kd, N')]))
    (hk : (kd = 0 ∧ at_ = .int) ∨ (kd = 1 ∧ at_ = .long) ∨ (kd = 2 ∧ at_ = .byte)) (hx : ¬ x < 0) (hN : x.toNatClampNeg = N') (hb : N' ≤ 4096) (F : gFl Y.2.1 idx ci f C T0 N) (F2 : gFt ty0 T0 N) (hf : fs[f]? = some (2, b)) (hfin : (T0 f).2.2.2 = true) (hin : (gXh X).name = "<init>") (hown2 : C = Y.2.1) (hn : ∀ a : Nat, narrow (ty0 f) (.ref a) = .ref a) (hfit : ∀ a : Nat, fits (ty0 f) (.ref a) = true) (hR : k + 1 ≤ Y.2.2.2.cells ∧ n + N' ≤ Y.2.2.2.slots)
    (d0 : decode Y.1 pc = .ok (.aload_n 0, 1)) (hp : (decode Y.1 (pc + 1) = .ok (.bipush i, 2) ∧ (Int8.ofInt i).toInt32 = x ∧ pc2 = pc + 3) ∨ (decode Y.1 (pc + 1) = .ok (.sipush i, 3) ∧ (Int16.ofInt i).toInt32 = x ∧ pc2 = pc + 4)) (d2 : decode Y.1 pc2 = .ok (.newarray at_, 2)) (d3 : decode Y.1 (pc2 + 2) = .ok (.putfield idx, 3))
    (kk : gK X V Y Sh ad0 T' M (k + 1) (n + N') (pc2 + 5) ex) : gK X V Y Sh ad0 T M k n pc ex := by
  subst hT
  subst hT'
  intro hr hz ad hE
  have hlen : (Sh ++ Sum.inr (ci, fs) :: Tr : List gShp).length = Sh.length + (Tr.length + 1) := by rw [List.length_append]; rfl
  have hr : gRf (Sh.length + (Tr.length + 1)) (Sh ++ Sum.inr (ci, fs) :: Tr) M := hr
  have hz : gZe (Sh.length + (Tr.length + 1)) M := hz
  have hE : gExt ad0 ad (Sh.length + 1) (Sh.length + (Tr.length + 1)) (gXs X).heap.size := hE
  refine g_aload_n 0 rfl rfl d0 ?_
  have mid : gG X (zSet V ad) Y (Sh ++ Sum.inr (ci, fs) :: Tr) M k n pc2 ((0, .ref (ad Sh.length)) :: ex) (.int x :: .ref (ad Sh.length) :: []) := by
    refine g_newarr hk hx hN hb hR (by rw [hlen]; exact hr) (by rw [hlen]; exact hz) d2 (fun ad' hE' => ?_)
    rw [hlen] at hE'
    rw [hlen, (hE'.1 Sh.length (by omega)).symm]
    refine g_putF (V := zSet V ad') (c := Sh.length) (q := Sh.length + (Tr.length + 1)) F F2 ?_ hf hfin hin hown2 hn hfit d3 ?_
    · rw [List.append_assoc]; exact zAt
    · have e : ((Sh ++ Sum.inr (ci, fs) :: Tr) ++ [Sum.inl (kd, N')] : List gShp).set Sh.length (.inr (ci, fs.set f (3, Sh.length + (Tr.length + 1)))) = Sh ++ .inr (ci, fs.set f (3, Sh.length + (Tr.length + 1))) :: (Tr ++ [.inl (kd, N')]) := by
        rw [List.append_assoc, List.set_append_right _ _ (Nat.le_refl _), Nat.sub_self]; rfl
      rw [e]
      have l2 : (Sum.inr (ci, fs.set f (3, Sh.length + (Tr.length + 1))) :: (Tr ++ [Sum.inl (kd, N')]) : List gShp).length = Tr.length + 1 + 1 := by
        rw [List.length_cons, List.length_append]; rfl
      refine kk ?_ ?_ ad' ?_
      · rw [l2]
        refine ⟨fun sh hs => ?_, fun c i => Nat.le_trans (hr.2 c i) (by omega)⟩
        rcases List.mem_append.mp hs with h | h
        · exact gSq_up (by omega) (hr.1 sh (List.mem_append_left _ h))
        · rcases List.mem_cons.mp h with rfl | h
          · have z := hr.1 (.inr (ci, fs)) (List.mem_append_right _ List.mem_cons_self)
            unfold gSq at z ⊢
            simp only [List.all_eq_true, Bool.or_eq_true, decide_eq_true_eq] at z ⊢
            intro g hg
            rcases List.mem_or_eq_of_mem_set hg with h | rfl
            · rcases z g h with a | a
              · exact Or.inl a
              · exact Or.inr (by omega)
            · exact Or.inr (show Sh.length + (Tr.length + 1) < _ by omega)
          · rcases List.mem_append.mp h with h | h
            · exact gSq_up (by omega) (hr.1 sh (List.mem_append_right _ (List.mem_cons_of_mem _ h)))
            · rw [List.mem_singleton.mp h]; rfl
      · rw [l2]; exact gZe_up (by omega) hz
      · rw [l2]; exact gExt_tr hE hE' (by omega)
  rcases hp with ⟨d1, hv, rfl⟩ | ⟨d1, hv, rfl⟩
  · exact g_bipush hv d1 mid
  · exact g_sipush hv d1 mid
/-- a row of Nets: its field -/
theorem k_anew {T T' : List gShp} {idx ix ci f b N N' : Nat} {C : String} {T0 : u_T} {fs : List (Nat × Nat)} {Tr : List gShp} {ty0 : Nat → FieldType} {i : Int} {x : Int32} (hT : T = .inr (ci, fs) :: Tr) (hT' : T' = .inr (ci, fs.set f (3, Sh.length + (Tr.length + 1))) :: (Tr ++ [.inl (3, N')]))
    (hcl : Cond.classLink Y.2.1 ix "RingFreeOrder$Net" ∈ gBW) (hAO : va_AO "RingFreeOrder$Net" (gXs X)) (hx : ¬ x < 0) (hN : x.toNatClampNeg = N') (hb : N' ≤ 4096) (F : gFl Y.2.1 idx ci f C T0 N) (F2 : gFt ty0 T0 N) (hf : fs[f]? = some (2, b)) (hfin : (T0 f).2.2.2 = true) (hin : (gXh X).name = "<init>") (hown2 : C = Y.2.1) (hn : ∀ a : Nat, narrow (ty0 f) (.ref a) = .ref a) (hfit : ∀ a : Nat, fits (ty0 f) (.ref a) = true) (hR : k + 1 ≤ Y.2.2.2.cells ∧ n + N' ≤ Y.2.2.2.slots)
    (d0 : decode Y.1 pc = .ok (.aload_n 0, 1)) (hp : decode Y.1 (pc + 1) = .ok (.bipush i, 2) ∧ (Int8.ofInt i).toInt32 = x) (d2 : decode Y.1 (pc + 3) = .ok (.anewarray ix, 3)) (d3 : decode Y.1 (pc + 6) = .ok (.putfield idx, 3))
    (kk : gK X V Y Sh ad0 T' M (k + 1) (n + N') (pc + 9) ex) : gK X V Y Sh ad0 T M k n pc ex := by
  subst hT
  subst hT'
  intro hr hz ad hE
  have hlen : (Sh ++ Sum.inr (ci, fs) :: Tr : List gShp).length = Sh.length + (Tr.length + 1) := by rw [List.length_append]; rfl
  have hr : gRf (Sh.length + (Tr.length + 1)) (Sh ++ Sum.inr (ci, fs) :: Tr) M := hr
  have hz : gZe (Sh.length + (Tr.length + 1)) M := hz
  have hE : gExt ad0 ad (Sh.length + 1) (Sh.length + (Tr.length + 1)) (gXs X).heap.size := hE
  refine g_aload_n 0 rfl rfl d0 ?_
  refine g_bipush hp.2 hp.1 ?_
  refine g_newnet hcl hAO hx hN hb hR (by rw [hlen]; exact hr) (by rw [hlen]; exact hz) d2 (fun ad' hE' => ?_)
  rw [hlen] at hE'
  rw [hlen, (hE'.1 Sh.length (by omega)).symm]
  refine g_putF (V := zSet V ad') (c := Sh.length) (q := Sh.length + (Tr.length + 1)) F F2 ?_ hf hfin hin hown2 hn hfit d3 ?_
  · rw [List.append_assoc]; exact zAt
  · have e : ((Sh ++ Sum.inr (ci, fs) :: Tr) ++ [Sum.inl (3, N')] : List gShp).set Sh.length (.inr (ci, fs.set f (3, Sh.length + (Tr.length + 1)))) = Sh ++ .inr (ci, fs.set f (3, Sh.length + (Tr.length + 1))) :: (Tr ++ [.inl (3, N')]) := by
      rw [List.append_assoc, List.set_append_right _ _ (Nat.le_refl _), Nat.sub_self]; rfl
    rw [e]
    have l2 : (Sum.inr (ci, fs.set f (3, Sh.length + (Tr.length + 1))) :: (Tr ++ [Sum.inl (3, N')]) : List gShp).length = Tr.length + 1 + 1 := by
      rw [List.length_cons, List.length_append]; rfl
    refine kk ?_ ?_ ad' ?_
    · rw [l2]
      refine ⟨fun sh hs => ?_, fun c i => Nat.le_trans (hr.2 c i) (by omega)⟩
      rcases List.mem_append.mp hs with h | h
      · exact gSq_up (by omega) (hr.1 sh (List.mem_append_left _ h))
      · rcases List.mem_cons.mp h with rfl | h
        · have z := hr.1 (.inr (ci, fs)) (List.mem_append_right _ List.mem_cons_self)
          unfold gSq at z ⊢
          simp only [List.all_eq_true, Bool.or_eq_true, decide_eq_true_eq] at z ⊢
          intro g hg
          rcases List.mem_or_eq_of_mem_set hg with h | rfl
          · rcases z g h with a | a
            · exact Or.inl a
            · exact Or.inr (by omega)
          · exact Or.inr (show Sh.length + (Tr.length + 1) < _ by omega)
        · rcases List.mem_append.mp h with h | h
          · exact gSq_up (by omega) (hr.1 sh (List.mem_append_right _ (List.mem_cons_of_mem _ h)))
          · rw [List.mem_singleton.mp h]; rfl
    · rw [l2]; exact gZe_up (by omega) hz
    · rw [l2]; exact gExt_tr hE hE' (by omega)
/-- an object's field -/
theorem k_obj {T T' : List gShp} {ic im idx ci f b N cj Nj : Nat} {C Cj : String} {T0 Tj : u_T} {fs fj : List (Nat × Nat)} {Tr : List gShp} {ty0 tyj : Nat → FieldType} {y : MethodName} {cc : ByteArray} {rm : Room} {tl : Nat → List gShp} {mf : Nat → gMem → gMem} (hT : T = .inr (ci, fs) :: Tr) (hT' : T' = .inr (ci, fs.set f (3, Sh.length + (Tr.length + 1))) :: (Tr ++ tl (Sh.length + (Tr.length + 1)))) (hM : mf (Sh.length + (Tr.length + 1)) M = M')
    (hN : gN X.2.1 y cc rm (.inr (cj, fj)) tl mf) (hq : gTl tl mf) (L : gLi Y.2.1 im y cc) (hcj : vwCl[cj]? = some (Cj, Tj, Nj)) (hws : ∀ w ∈ u_ws Cj Tj Nj, w ∈ gBW) (F2j : gFt tyj Tj Nj) (hcl : Cond.classLink Y.2.1 ic Cj ∈ gBW) (hni : Cond.instantiable Cj Nj ∈ gBW) (hini : Cond.initialized Cj ∈ gBW) (hfl : fj.length = Nj) (hfs : ((List.range Nj).all fun j => gBn (tyj j) (fj.getD j (0, 0)).1) = true) (hs0 : gSq 0 (.inr (cj, fj)) = true)
    (F : gFl Y.2.1 idx ci f C T0 N) (F2 : gFt ty0 T0 N) (hf : fs[f]? = some (2, b)) (hfin : (T0 f).2.2.2 = true) (hin : (gXh X).name = "<init>") (hown2 : C = Y.2.1) (hn : ∀ a : Nat, narrow (ty0 f) (.ref a) = .ref a) (hfit : ∀ a : Nat, fits (ty0 f) (.ref a) = true) (hR : k + 1 + rm.cells ≤ Y.2.2.2.cells ∧ n + Nj + rm.slots ≤ Y.2.2.2.slots) (hRf : rm.frames + 1 ≤ Y.2.2.2.frames ∧ 8 + (1 + 11) + rm.locals ≤ Y.2.2.2.locals)
    (d0 : decode Y.1 pc = .ok (.aload_n 0, 1)) (d1 : decode Y.1 (pc + 1) = .ok (.new ic, 3)) (d2 : decode Y.1 (pc + 4) = .ok (.dup, 1)) (d3 : decode Y.1 (pc + 5) = .ok (.invokespecial im, 3)) (d4 : decode Y.1 (pc + 8) = .ok (.putfield idx, 3))
    (kk : gK X V Y Sh ad0 T' M' (k + 1 + rm.cells) (n + Nj + rm.slots) (pc + 11) ex) : gK X V Y Sh ad0 T M k n pc ex := by
  subst hT
  subst hT'
  subst hM
  intro hr hz ad hE
  have hlen : (Sh ++ Sum.inr (ci, fs) :: Tr : List gShp).length = Sh.length + (Tr.length + 1) := by rw [List.length_append]; rfl
  have hr : gRf (Sh.length + (Tr.length + 1)) (Sh ++ Sum.inr (ci, fs) :: Tr) M := hr
  have hz : gZe (Sh.length + (Tr.length + 1)) M := hz
  have hE : gExt ad0 ad (Sh.length + 1) (Sh.length + (Tr.length + 1)) (gXs X).heap.size := hE
  obtain ⟨q1, q2, q3, q4⟩ := hq (Sh.length + (Tr.length + 1)) M
  refine g_aload_n 0 rfl rfl d0 ?_
  refine g_newobj hcj hws F2j hcl hni hini hfl hfs hs0 ⟨by omega, by omega⟩ (by rw [hlen]; exact hr) (by rw [hlen]; exact hz) d1 (fun a1 hE1 => ?_)
  refine g_dup rfl d2 ?_
  refine g_callI L hN (by rw [hlen]; exact hr) (by rw [hlen]; exact hz) (Nat.le_of_ble_eq_true rfl) hRf hR d3 (fun a2 hE2 => ?_) (by rw [hlen]; exact q1)
  rw [hlen] at hE1 hE2 ⊢
  have e1 : ad Sh.length = a2 Sh.length := ((hE2.1 Sh.length (by omega)).trans (hE1.1 Sh.length (by omega))).symm
  have e2 : a1 (Sh.length + (Tr.length + 1)) = a2 (Sh.length + (Tr.length + 1)) := (hE2.1 _ (by omega)).symm
  rw [e1, e2]
  refine g_putF (V := zSet V a2) (c := Sh.length) (q := Sh.length + (Tr.length + 1)) F F2 ?_ hf hfin hin hown2 hn hfit d4 ?_
  · rw [List.append_assoc]; exact zAt
  · have e : ((Sh ++ Sum.inr (ci, fs) :: Tr) ++ tl (Sh.length + (Tr.length + 1)) : List gShp).set Sh.length (.inr (ci, fs.set f (3, Sh.length + (Tr.length + 1)))) = Sh ++ .inr (ci, fs.set f (3, Sh.length + (Tr.length + 1))) :: (Tr ++ tl (Sh.length + (Tr.length + 1))) := by
      rw [List.append_assoc, List.set_append_right _ _ (Nat.le_refl _), Nat.sub_self]; rfl
    rw [e]
    have l2 : (Sum.inr (ci, fs.set f (3, Sh.length + (Tr.length + 1))) :: (Tr ++ tl (Sh.length + (Tr.length + 1))) : List gShp).length = Tr.length + 1 + (tl (Sh.length + (Tr.length + 1))).length := by
      rw [List.length_cons, List.length_append]; omega
    have l3 : Sh.length + (Tr.length + 1 + (tl (Sh.length + (Tr.length + 1))).length) = Sh.length + (Tr.length + 1) + (tl (Sh.length + (Tr.length + 1))).length := by omega
    refine kk ?_ ?_ a2 ?_
    · rw [l2, l3]
      refine ⟨fun sh hs => ?_, fun c i => by rw [q4]; exact Nat.le_trans (hr.2 c i) (by omega)⟩
      rcases List.mem_append.mp hs with h | h
      · exact gSq_up (by omega) (hr.1 sh (List.mem_append_left _ h))
      · rcases List.mem_cons.mp h with rfl | h
        · have z := hr.1 (.inr (ci, fs)) (List.mem_append_right _ List.mem_cons_self)
          unfold gSq at z ⊢
          simp only [List.all_eq_true, Bool.or_eq_true, decide_eq_true_eq] at z ⊢
          intro g hg
          rcases List.mem_or_eq_of_mem_set hg with h | rfl
          · rcases z g h with a | a
            · exact Or.inl a
            · exact Or.inr (by omega)
          · exact Or.inr (show Sh.length + (Tr.length + 1) < _ by omega)
        · rcases List.mem_append.mp h with h | h
          · exact gSq_up (by omega) (hr.1 sh (List.mem_append_right _ (List.mem_cons_of_mem _ h)))
          · exact q2 sh h
    · rw [l2, l3]; exact q3 hz
    · rw [l2, l3]
      refine gExt_tr hE (gExt_tr hE1 hE2 (by omega)) (by omega)
end GK
/-- the contract of the two outer constructors: their object is the world's only cell -/
def gM0 : gMem := (fun _ _ => 0, fun _ _ => 0, fun _ _ => 0)
def gPc0 (V : gEnv) (E : State → Prop) (fr : gShp) (ad : Nat → Nat) (sz : Nat) : Array Value → State → Prop := va_Pc [.ref (ad 0)] (fun U => (U.heap.size = sz ∧ gPre (zSet V ad) U ∧ gInj (zSet V ad) 1 ∧ va_P (gD V) vwCl (gWs (zSet V ad) [fr] gM0) U.heap) ∧ E U)
def gN0 (l : Launch) (y : MethodName) (cc : ByteArray) (nL : Nat) (rm : Room) (E : State → Prop) (fr : gShp) (T : List gShp) (M' : gMem) : Prop :=
  ∀ (V : gEnv) (ad : Nat → Nat) (sz : Nat), Met l y (.code y cc nL none :: gBW) rm (gPc0 V E fr ad sz) (gQN V [] T M' ad sz) rm.cells rm.slots (gA (zSet V ad) 1 sz)
theorem gM0_ze (n : Nat) : gZe n gM0 := fun _ _ => ⟨fun _ => rfl, fun _ => rfl, fun _ => rfl⟩
theorem gM0_rf {n : Nat} {Sh : List gShp} (h : ∀ sh ∈ Sh, gSq n sh = true) : gRf n Sh gM0 := ⟨h, fun _ _ => Nat.zero_le _⟩
theorem gN0.of {l : Launch} {y : MethodName} {cc : ByteArray} {nL : Nat} {rm : Room} {E : State → Prop} {fr : gShp} {T : List gShp} {M' : gMem} (hy : plainName y.cls = true) (hnm : y.name = "<init>") (hfr : gSq 0 fr = true) (hnL : 1 ≤ nL)
    (body : ∀ (X : gX) (V : gEnv) (ad : Nat → Nat), X.2.1 = l → E (gXs X) → gON X V (cc, y.cls, nL, rm) [] T M' ad → (gXh X).name = "<init>" → gK X V (cc, y.cls, nL, rm) [] ad [fr] gM0 0 0 0 []) : gN0 l y cc nL rm E fr T M' := by
  intro V ad sz
  refine Met.ofW (cc := cc) (maxL := nL) (ret := none) hy rfl ?_
  intro p e s m args below meth c s₁ B hml hv
  obtain ⟨rfl, ⟨hsz, hK, hI, hP⟩, hE⟩ := hv
  subst hsz
  have hts := atoms_spec (ws := .code y cc nL none :: gBW) B.pre
  have hin : meth.name = y.name := (name_of_methodNamed B.named B.method).1
  have hl := lv_entry [.ref (ad 0)] (n := nL) (show 1 ≤ nL from hnL)
  rw [lg_entry_eq]
  exact body (p, l, e, rm, s, m, [Value.ref (ad 0)].toArray, below, meth, c, _) V ad rfl hE ⟨B.returns, rfl⟩ (hin.trans hnm) (gM0_rf (fun sh hs => by rw [List.mem_singleton.mp hs]; exact gSq_up (Nat.zero_le _) hfr)) (gM0_ze _) ad gExt_rf ⟨B.exec, B.bytes, hml, findClass_of_methodNamed B.named, fun w hw => hts w (List.mem_cons_of_mem _ hw), B.notSynchronized, rfl⟩ hK hI s.heap [] _ hP va_S.rf hl
