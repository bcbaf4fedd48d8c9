/-! THE LAW over two worlds: rows; what stands first begins with the skeleton -/
def R_law : String := "RingFreeOrderLaw"
def lw_P (b : Addr) (xs : List Int32) (args : Array Value) (s : State) : Prop := args = #[.ref b] ∧ s.IntsAt b xs ∧ xs.length ≤ 3072 ∧ (Jvm.Cond.and given_1 narrow_1).before args s = true
/-- what a walk over the start with the record d0 says of its end, said of the start itself -/
theorem lw_closed {s t : State} {o : Outcome} {d0 : Drawn} {L : List Loc} {k n : Nat} (hd0 : s.drawn.sameBut d0 lw_cs) (hv : ∃ v, o = .returned v) (hW : (s.setDrawn d0).WarmedH t.vm) (hs : (s.setDrawn d0).sameButNew ({ t with vm := s.vm } : State) L k n) : State.butDraws s t lw_cs (fun t1 => Framed s o t1 L k n) := by
  have h2 : t.drawn = d0 := congrArg State.drawn hs.1
  refine ⟨⟨hv, hW, State.sameButNew.setDrawn hs s.drawn⟩, ?_, by decide⟩
  rw [h2]
  exact hd0
def lw_Q (_ : Array Value) (s : State) (o : Outcome) (t : State) : Prop := o = .returned (some (.int 1)) ∧ State.butDraws s t lw_cs (fun t1 => Framed s o t1 [] 601024 7293034)
def lw_Z (below : List Frame) (a : Array Value) (s : State) : State → Prop := fun t => ∃ o, t.status = .running ∧ Ended t below o ∧ lw_Q a s o t
/-- the law's own end, with 1 on the stack, nothing written that was there before, its room as the claim has it; d0: the record of draws at this point (at the entry s.drawn: begin with 'refine W.base ?_' and 'have hd0 := Drawn.sameBut.refl s.drawn lw_cs') -/
theorem lw_ret {p : Program} {l : Launch} {e : Env} {s : State} {m : MethodId} {below : List Frame} {meth : Method} {c : Code} {b : Nat} {d0 : Drawn} (hd0 : s.drawn.sameBut d0 lw_cs) (hx : p.tables.exec = Jvm.exec) (hb : c.code = code) (hr : meth.sig.returnType = ret) (hlocks : meth.locks = false) {pc : Nat} {H : Heap} {ls : Array Slot} (hdg : decode code pc = .ok (.ireturn, 1)) : W p l e room_1 (s.setDrawn d0) m #[Value.ref b] below meth c H [] 601024 7293034 (lw_Z below #[Value.ref b] s) (F0 m pc ls [.int 1]) := by
  intro T hT X
  obtain ⟨fs, hret, hrun, hended, hW, hframe⟩ := X.leave (v := some (.int 1)) (hlocks := hlocks) (fun h => by rw [hr] at h; cases h)
  have hmeth' : T.vm.method? m = some meth := X.method'
  refine ⟨T.setFrames fs, ?_, .returned (some (.int 1)), hrun, hended, rfl, lw_closed hd0 ⟨_, rfl⟩ hW hframe⟩
  jvm_step X.here [X.here.top, hx, hb, hdg, hmeth', hr, ret, narrow_b1]
  (try refine ⟨rfl, ?_⟩); (try refine ⟨rfl, ?_⟩)
  first | (intro acts; rw [hret _ acts rfl rfl rfl]) | rw [hret _ _ rfl rfl rfl]
  exact Steps.refl _
/-- what holds at the law's entry: the machine, the code, the tables' words (any of lw_tbl by 'hts w (by decide +kernel)'), the script of L ints xs at the cell b, what the Statement gives of the start (any of its parts by flat_of_before) -/
def lw_At (p : Program) (s : State) (m : MethodId) (meth : Method) (c : Code) (b L : Nat) (xs : Nat → Int32) : Prop :=
  p.tables.exec = Jvm.exec ∧ c.code = code ∧ meth.sig.returnType = ret ∧ c.maxLocals = 9 ∧ s.vm.findClass R_law = some m.cls ∧ (∀ w ∈ lw_tbl, w.before #[Value.ref b] s = true) ∧ va_X b L xs s s.heap ∧ b < s.heap.size ∧ meth.locks = false ∧ (Jvm.Cond.and given_1 narrow_1).before #[Value.ref b] s = true
abbrev yLw : gY := (code, RL, 9, room_1)
/-- what holds all along the law: its activation, the tables, the two worlds' addresses, the script -/
def zL (X : gX) (V V2 : gEnv) (b L : Nat) (xs : Nat → Int32) : Prop := gC X yLw ∧ gPre V (gXs X) ∧ gPre V2 (gXs X) ∧ gInj V gShC.length ∧ gInj V2 gShM.length ∧ (∀ i j, i < gShC.length → j < gShM.length → gAd V i ≠ gAd V2 j) ∧ gZ V = (gXs X).heap.size ∧ gZ V2 = (gXs X).heap.size ∧ va_X b L xs (gXs X) (gXs X).heap ∧ b < (gXs X).heap.size ∧ X.2.1.stackTraces = false
def gB (X : gX) (V V2 : gEnv) (M N : gMem) (k n pc : Nat) (ls : List (Nat × Value)) (st : List Value) : Prop :=
  ∀ (H : Heap) (locs : List Loc) (la : Array Slot), va_P (gD V) vwCl (gWs V gShC M) H → va_P (gD V2) vwCl (gWs V2 gShM N) H → va_S (fun q : Nat => (gXs X).heap.size ≤ q) (gXs X).heap H locs → lv_has la 9 ls → gW X H locs k n (F0 (gXm X) pc la st)
theorem zI_cl {a : Nat} (h : a < 2147483648) : (nI a).toNatClampNeg = a := by
  show (nI a).toInt.toNat = a
  rw [nI_toInt (by omega)]
  rfl
theorem zI_in {a n : Nat} (h : a < n) (hn : n < 2147483648) : vp_in (nI a) n := by
  rw [vp_in_iff, nI_toInt (by omega)]
  omega
section ZB
variable {X : gX} {V V2 : gEnv} {b L : Nat} {xs : Nat → Int32} {M N M' N' : gMem} {k n pc : Nat} {ls : List (Nat × Value)} {st : List Value}
theorem zb_iconst (hC : zL X V V2 b L xs) {i : Int} {v : Int32} (hv : Int32.ofInt i = v) (d : decode yLw.1 pc = .ok (.iconst i, 1)) (kk : gB X V V2 M N k n (pc + 1) ls (.int v :: st)) : gB X V V2 M N k n pc ls (st) :=
  fun H locs la hP hP2 hS hl => lv_iconst hC.1.1 hC.1.2.1 d hv (kk H locs la hP hP2 hS hl)
theorem zb_bipush (hC : zL X V V2 b L xs) {i : Int} {v : Int32} (hv : (Int8.ofInt i).toInt32 = v) (d : decode yLw.1 pc = .ok (.bipush i, 2)) (kk : gB X V V2 M N k n (pc + 2) ls (.int v :: st)) : gB X V V2 M N k n pc ls (st) :=
  fun H locs la hP hP2 hS hl => lv_bipush hC.1.1 hC.1.2.1 d hv (kk H locs la hP hP2 hS hl)
theorem zb_lconst (hC : zL X V V2 b L xs) {i : Fin 2} {v : Int64} (hv : Int64.ofNat (i : Nat) = v) (d : decode yLw.1 pc = .ok (.lconst i, 1)) (kk : gB X V V2 M N k n (pc + 1) ls (.long v :: st)) : gB X V V2 M N k n pc ls (st) :=
  fun H locs la hP hP2 hS hl => lv_lconst hC.1.1 hC.1.2.1 d hv (kk H locs la hP hP2 hS hl)
theorem zb_iadd (hC : zL X V V2 b L xs) {x y : Int32} (d : decode yLw.1 pc = .ok (.iadd, 1)) (kk : gB X V V2 M N k n (pc + 1) ls (.int (x + y) :: st)) : gB X V V2 M N k n pc ls (.int y :: .int x :: st) :=
  fun H locs la hP hP2 hS hl => lv_iadd hC.1.1 hC.1.2.1 d (kk H locs la hP hP2 hS hl)
theorem zb_isub (hC : zL X V V2 b L xs) {x y : Int32} (d : decode yLw.1 pc = .ok (.isub, 1)) (kk : gB X V V2 M N k n (pc + 1) ls (.int (x - y) :: st)) : gB X V V2 M N k n pc ls (.int y :: .int x :: st) :=
  fun H locs la hP hP2 hS hl => lv_isub hC.1.1 hC.1.2.1 d (kk H locs la hP hP2 hS hl)
theorem zb_iand (hC : zL X V V2 b L xs) {x y : Int32} (d : decode yLw.1 pc = .ok (.iand, 1)) (kk : gB X V V2 M N k n (pc + 1) ls (.int (x &&& y) :: st)) : gB X V V2 M N k n pc ls (.int y :: .int x :: st) :=
  fun H locs la hP hP2 hS hl => lv_iand hC.1.1 hC.1.2.1 d (kk H locs la hP hP2 hS hl)
theorem zb_i2l (hC : zL X V V2 b L xs) {x : Int32} (d : decode yLw.1 pc = .ok (.i2l, 1)) (kk : gB X V V2 M N k n (pc + 1) ls (.long x.toInt64 :: st)) : gB X V V2 M N k n pc ls (.int x :: st) :=
  fun H locs la hP hP2 hS hl => lv_i2l hC.1.1 hC.1.2.1 d rfl (kk H locs la hP hP2 hS hl)
theorem zb_f2d (hC : zL X V V2 b L xs) {x : UInt32} (hne : vf_n64 (FP.f2d x)) (d : decode yLw.1 pc = .ok (.f2d, 1)) (kk : gB X V V2 M N k n (pc + 1) ls (.double (FP.f2d x) :: st)) : gB X V V2 M N k n pc ls (.float x :: st) :=
  fun H locs la hP hP2 hS hl => lv_f2d hC.1.1 hC.1.2.1 d hne (kk H locs la hP hP2 hS hl)
theorem zb_lcmp (hC : zL X V V2 b L xs) {x y : Int64} (d : decode yLw.1 pc = .ok (.lcmp, 1)) (kk : gB X V V2 M N k n (pc + 1) ls (.int (lg_cmp x y) :: st)) : gB X V V2 M N k n pc ls (.long y :: .long x :: st) :=
  fun H locs la hP hP2 hS hl => W.lcmp hC.1.1 hC.1.2.1 d (kk H locs la hP hP2 hS hl)
theorem zb_dcmp (hC : zL X V V2 b L xs) {x y : UInt64} {op : CmpOp} (d : decode yLw.1 pc = .ok (.dcmp op, 1)) (kk : gB X V V2 M N k n (pc + 1) ls (.int (Op.cmpValue (FP.dcmp x y) op) :: st)) : gB X V V2 M N k n pc ls (.double y :: .double x :: st) :=
  fun H locs la hP hP2 hS hl => lv_dcmp hC.1.1 hC.1.2.1 d (kk H locs la hP hP2 hS hl)
theorem zb_iload (hC : zL X V V2 b L xs) {i : Nat} {x : Int32} (j : Nat) (hj : ls[j]? = some (i, .int x)) (d : decode yLw.1 pc = .ok (.iload i, 2)) (kk : gB X V V2 M N k n (pc + 2) ls (.int x :: st)) : gB X V V2 M N k n pc ls (st) :=
  fun H locs la hP hP2 hS hl => lv_iload hC.1.1 hC.1.2.1 d (lv_at hl j hj) (kk H locs la hP hP2 hS hl)
theorem zb_iload_n (hC : zL X V V2 b L xs) {q : Fin 4} {i : Nat} {x : Int32} (j : Nat) (hi : (q : Nat) = i) (hj : ls[j]? = some (i, .int x)) (d : decode yLw.1 pc = .ok (.iload_n q, 1)) (kk : gB X V V2 M N k n (pc + 1) ls (.int x :: st)) : gB X V V2 M N k n pc ls (st) :=
  fun H locs la hP hP2 hS hl => lv_iload_n hC.1.1 hC.1.2.1 d hi (lv_at hl j hj) (kk H locs la hP hP2 hS hl)
theorem zb_istore (hC : zL X V V2 b L xs) {i : Nat} {x : Int32} {ls' : List (Nat × Value)} (hn : i < yLw.2.2.1) (hl' : (i, Value.int x) :: ls.filter (fun q => !(q.1 == i) && !(q.1 + 1 == i && q.2.category == 2)) = ls') (d : decode yLw.1 pc = .ok (.istore i, 2)) (kk : gB X V V2 M N k n (pc + 2) ls' st) : gB X V V2 M N k n pc ls (.int x :: st) :=
  fun H locs la hP hP2 hS hl => lv_istore hC.1.1 hC.1.2.1 d hl hn hl' (fun la hl => kk H locs la hP hP2 hS hl)
theorem zb_lload (hC : zL X V V2 b L xs) {i : Nat} {x : Int64} (j : Nat) (hj : ls[j]? = some (i, .long x)) (d : decode yLw.1 pc = .ok (.lload i, 2)) (kk : gB X V V2 M N k n (pc + 2) ls (.long x :: st)) : gB X V V2 M N k n pc ls (st) :=
  fun H locs la hP hP2 hS hl => lv_lload hC.1.1 hC.1.2.1 d (lv_at hl j hj) (kk H locs la hP hP2 hS hl)
theorem zb_lstore (hC : zL X V V2 b L xs) {i : Nat} {x : Int64} {ls' : List (Nat × Value)} (hn : i + 1 < yLw.2.2.1) (hl' : (i, Value.long x) :: ls.filter (fun q => !(q.1 == i) && (!(q.1 == i + 1) && !(q.1 + 1 == i && q.2.category == 2))) = ls') (d : decode yLw.1 pc = .ok (.lstore i, 2)) (kk : gB X V V2 M N k n (pc + 2) ls' st) : gB X V V2 M N k n pc ls (.long x :: st) :=
  fun H locs la hP hP2 hS hl => lv_lstore hC.1.1 hC.1.2.1 d hl hn hl' (fun la hl => kk H locs la hP hP2 hS hl)
theorem zb_dload (hC : zL X V V2 b L xs) {i : Nat} {x : UInt64} (j : Nat) (hj : ls[j]? = some (i, .double x)) (d : decode yLw.1 pc = .ok (.dload i, 2)) (kk : gB X V V2 M N k n (pc + 2) ls (.double x :: st)) : gB X V V2 M N k n pc ls (st) :=
  fun H locs la hP hP2 hS hl => lv_dload hC.1.1 hC.1.2.1 d (lv_at hl j hj) (kk H locs la hP hP2 hS hl)
theorem zb_dstore (hC : zL X V V2 b L xs) {i : Nat} {x : UInt64} {ls' : List (Nat × Value)} (hn : i + 1 < yLw.2.2.1) (hl' : (i, Value.double x) :: ls.filter (fun q => !(q.1 == i) && (!(q.1 == i + 1) && !(q.1 + 1 == i && q.2.category == 2))) = ls') (d : decode yLw.1 pc = .ok (.dstore i, 2)) (kk : gB X V V2 M N k n (pc + 2) ls' st) : gB X V V2 M N k n pc ls (.double x :: st) :=
  fun H locs la hP hP2 hS hl => lv_dstore hC.1.1 hC.1.2.1 d hl hn hl' (fun la hl => kk H locs la hP hP2 hS hl)
theorem zb_aload_n (hC : zL X V V2 b L xs) {q : Fin 4} {i : Nat} {x : Nat} (j : Nat) (hi : (q : Nat) = i) (hj : ls[j]? = some (i, .ref x)) (d : decode yLw.1 pc = .ok (.aload_n q, 1)) (kk : gB X V V2 M N k n (pc + 1) ls (.ref x :: st)) : gB X V V2 M N k n pc ls (st) :=
  fun H locs la hP hP2 hS hl => lv_aload_n hC.1.1 hC.1.2.1 d hi (lv_at hl j hj) (kk H locs la hP hP2 hS hl)
theorem zb_iinc (hC : zL X V V2 b L xs) {i j : Nat} {z : Int} {x v : Int32} {ls' : List (Nat × Value)} (hj : ls[j]? = some (i, .int x)) (hv : x + Int32.ofInt z = v) (hn : i < yLw.2.2.1) (hl' : (i, Value.int v) :: ls.filter (fun q => !(q.1 == i) && !(q.1 + 1 == i && q.2.category == 2)) = ls') (d : decode yLw.1 pc = .ok (.iinc i z, 3)) (kk : gB X V V2 M N k n (pc + 3) ls' st) : gB X V V2 M N k n pc ls st :=
  fun H locs la hP hP2 hS hl => lv_iinc hC.1.1 hC.1.2.1 d hl (k := j) hj hv hn hl' (fun la hl => kk H locs la hP hP2 hS hl)
theorem zb_if_eq_t (hC : zL X V V2 b L xs) {x : Int32} {off : Int} {tgt : Nat} (h : x = 0) (ht : (pc : Int) + off = (tgt : Int)) (d : decode yLw.1 pc = .ok (.ifCond .eq off, 3)) (kk : gB X V V2 M N k n tgt ls st) : gB X V V2 M N k n pc ls (.int x :: st) :=
  fun H locs la hP hP2 hS hl => lv_if_eq hC.1.1 hC.1.2.1 d ht (fun _ => kk H locs la hP hP2 hS hl) (fun z => absurd h z)
theorem zb_if_eq_f (hC : zL X V V2 b L xs) {x : Int32} {off : Int} {tgt : Nat} (h : ¬ (x = 0)) (ht : (pc : Int) + off = (tgt : Int)) (d : decode yLw.1 pc = .ok (.ifCond .eq off, 3)) (kk : gB X V V2 M N k n (pc + 3) ls st) : gB X V V2 M N k n pc ls (.int x :: st) :=
  fun H locs la hP hP2 hS hl => lv_if_eq hC.1.1 hC.1.2.1 d ht (fun z => absurd z h) (fun _ => kk H locs la hP hP2 hS hl)
theorem zb_if_ne_t (hC : zL X V V2 b L xs) {x : Int32} {off : Int} {tgt : Nat} (h : ¬ x = 0) (ht : (pc : Int) + off = (tgt : Int)) (d : decode yLw.1 pc = .ok (.ifCond .ne off, 3)) (kk : gB X V V2 M N k n tgt ls st) : gB X V V2 M N k n pc ls (.int x :: st) :=
  fun H locs la hP hP2 hS hl => lv_if_ne hC.1.1 hC.1.2.1 d ht (fun _ => kk H locs la hP hP2 hS hl) (fun z => absurd z h)
theorem zb_if_ne_f (hC : zL X V V2 b L xs) {x : Int32} {off : Int} {tgt : Nat} (h : x = 0) (ht : (pc : Int) + off = (tgt : Int)) (d : decode yLw.1 pc = .ok (.ifCond .ne off, 3)) (kk : gB X V V2 M N k n (pc + 3) ls st) : gB X V V2 M N k n pc ls (.int x :: st) :=
  fun H locs la hP hP2 hS hl => lv_if_ne hC.1.1 hC.1.2.1 d ht (fun z => absurd h z) (fun _ => kk H locs la hP hP2 hS hl)
theorem zb_icmp_eq_t (hC : zL X V V2 b L xs) {x y : Int32} {off : Int} {tgt : Nat} (h : x = y) (ht : (pc : Int) + off = (tgt : Int)) (d : decode yLw.1 pc = .ok (.if_icmp .eq off, 3)) (kk : gB X V V2 M N k n tgt ls st) : gB X V V2 M N k n pc ls (.int y :: .int x :: st) :=
  fun H locs la hP hP2 hS hl => lv_icmp_eq hC.1.1 hC.1.2.1 d ht (fun _ => kk H locs la hP hP2 hS hl) (fun z => absurd h z)
theorem zb_icmp_gt_t (hC : zL X V V2 b L xs) {x y : Int32} {off : Int} {tgt : Nat} (h : y < x) (ht : (pc : Int) + off = (tgt : Int)) (d : decode yLw.1 pc = .ok (.if_icmp .gt off, 3)) (kk : gB X V V2 M N k n tgt ls st) : gB X V V2 M N k n pc ls (.int y :: .int x :: st) :=
  fun H locs la hP hP2 hS hl => lv_icmp_gt hC.1.1 hC.1.2.1 d ht (fun _ => kk H locs la hP hP2 hS hl) (fun z => absurd h z)
theorem zb_icmp_gt_f (hC : zL X V V2 b L xs) {x y : Int32} {off : Int} {tgt : Nat} (h : ¬ (y < x)) (ht : (pc : Int) + off = (tgt : Int)) (d : decode yLw.1 pc = .ok (.if_icmp .gt off, 3)) (kk : gB X V V2 M N k n (pc + 3) ls st) : gB X V V2 M N k n pc ls (.int y :: .int x :: st) :=
  fun H locs la hP hP2 hS hl => lv_icmp_gt hC.1.1 hC.1.2.1 d ht (fun z => absurd z h) (fun _ => kk H locs la hP hP2 hS hl)
theorem zb_goto (hC : zL X V V2 b L xs) {off : Int} {tgt : Nat} (ht : (pc : Int) + off = (tgt : Int)) (d : decode yLw.1 pc = .ok (.goto off, 3)) (kk : gB X V V2 M N k n tgt ls st) : gB X V V2 M N k n pc ls st :=
  fun H locs la hP hP2 hS hl => lv_goto hC.1.1 hC.1.2.1 d ht (kk H locs la hP hP2 hS hl)
theorem zb_dup (hC : zL X V V2 b L xs) {va : Value} (hva : va.category = 1) (d : decode yLw.1 pc = .ok (.dup, 1)) (kk : gB X V V2 M N k n (pc + 1) ls (va :: va :: st)) : gB X V V2 M N k n pc ls (va :: st) :=
  fun H locs la hP hP2 hS hl => lv_dup hC.1.1 hC.1.2.1 d hva (kk H locs la hP hP2 hS hl)
theorem zb_pop (hC : zL X V V2 b L xs) {va : Value} (hva : va.category = 1) (d : decode yLw.1 pc = .ok (.pop, 1)) (kk : gB X V V2 M N k n (pc + 1) ls (st)) : gB X V V2 M N k n pc ls (va :: st) :=
  fun H locs la hP hP2 hS hl => lv_pop hC.1.1 hC.1.2.1 d hva (kk H locs la hP hP2 hS hl)
theorem zb_sub {ls' : List (Nat × Value)} (ps : List Nat) (h : lv_pick ls ps = ls') (kk : gB X V V2 M N k n pc ls' st) : gB X V V2 M N k n pc ls st :=
  fun H locs la hP hP2 hS hl => kk H locs la hP hP2 hS (lv_sub hl ps h)
theorem zb_wid {k' n' : Nat} (h : k ≤ k' ∧ n ≤ n') (kk : gB X V V2 M N k' n' pc ls st) : gB X V V2 M N k n pc ls st :=
  fun H locs la hP hP2 hS hl => W.widen h.1 h.2 (kk H locs la hP hP2 hS hl)
/-- the law's own answer cell -/
theorem zb_out (hC : zL X V V2 b L xs) {x : Int64} (h : M.2.1 137 0 = x) (d : decode yLw.1 pc = .ok (.laload, 1)) (kk : gB X V V2 M N k n (pc + 1) ls (.long x :: st)) : gB X V V2 M N k n pc ls (.int 0 :: .ref (gAd V 137) :: st) := by
  subst h
  exact fun H locs la hP hP2 hS hl => va_lald hC.1.1 hC.1.2.1 hC.2.1.1 hP 137 1 (gWs_at (sh := .inl (1, 1)) rfl) rfl (show ¬ ((0 : Int32) < 0 ∨ 1 ≤ (0 : Int32).toNatClampNeg) by decide) d (kk H locs la hP hP2 hS hl)
/-- the script -/
theorem zb_sld (hC : zL X V V2 b L xs) {i : Int32} (hi : vp_in i L) (d : decode yLw.1 pc = .ok (.iaload, 1)) (kk : gB X V V2 M N k n (pc + 1) ls (.int (xs i.toNatClampNeg) :: st)) : gB X V V2 M N k n pc ls (.int i :: .ref b :: st) :=
  fun H locs la hP hP2 hS hl => va_sld hC.1.1 hC.1.2.1 hC.2.2.2.2.2.2.2.2.1 hC.2.2.2.2.2.2.2.2.2.1 (Nat.not_le.mpr hC.2.2.2.2.2.2.2.2.2.1) hS hi d (kk H locs la hP hP2 hS hl)
theorem zb_slen (hC : zL X V V2 b L xs) (d : decode yLw.1 pc = .ok (.arraylength, 1)) (kk : gB X V V2 M N k n (pc + 1) ls (.int (nI L) :: st)) : gB X V V2 M N k n pc ls (.ref b :: st) :=
  fun H locs la hP hP2 hS hl => va_slen hC.1.1 hC.1.2.1 hC.2.2.2.2.2.2.2.2.1 hC.2.2.2.2.2.2.2.2.2.1 (Nat.not_le.mpr hC.2.2.2.2.2.2.2.2.2.1) hS d (kk H locs la hP hP2 hS hl)
/-- the law's locals along its loop: the place in the script, the script, the class's object, the reference's, the answer's cell -/
abbrev zLS (V V2 : gEnv) (b a : Nat) : List (Nat × Value) := [(4, .int (nI a)), (0, .ref b), (1, .ref (gAd V 0)), (2, .ref (gAd V2 0)), (3, .ref (gAd V 137))]
/-- an argument of a call, out of the script -/
theorem zb_arg (hC : zL X V V2 b L xs) {a j : Nat} {jj : Int} {ja jb : Nat} (h0 : ls[ja]? = some (0, .ref b)) (h4 : ls[jb]? = some (4, .int (nI a))) (hj : Int32.ofInt jj = nI j) (hi : a + j < L) (hL : L ≤ 3072) (d0 : decode yLw.1 pc = .ok (.aload_n 0, 1)) (d1 : decode yLw.1 (pc + 1) = .ok (.iload 4, 2)) (d2 : decode yLw.1 (pc + 3) = .ok (.iconst jj, 1)) (d3 : decode yLw.1 (pc + 4) = .ok (.iadd, 1)) (d4 : decode yLw.1 (pc + 5) = .ok (.iaload, 1)) (kk : gB X V V2 M N k n (pc + 6) ls (.int (xs (a + j)) :: st)) : gB X V V2 M N k n pc ls st := by
  refine zb_aload_n hC ja rfl h0 d0 ?_
  refine zb_iload hC jb h4 d1 ?_
  refine zb_iconst hC hj d2 ?_
  refine zb_iadd hC d3 ?_
  rw [nI_add]
  refine zb_sld hC (zI_in hi (by omega)) d4 ?_
  rw [zI_cl (by omega)]
  exact kk
/-- behind a call over the class's world -/
theorem zb_go1 (hC : zL X V V2 b L xs) {H : Heap} {locs : List Loc} {mc ms : Nat} {la : Array Slot} {st0 rest : List Value} {a : Array Value} {rv : Option Value}
    (hr : va_Run X.1 X.2.1 X.2.2.1 (gXR X) (gXs X) (gXm X) (gXa X) (gXb X) (gXh X) (gXc X) H locs k n mc ms (F0 (gXm X) pc la st0) rest (gQ V gShC H.size rv M' a) (gA V gShC.length H.size))
    (hP2 : va_P (gD V2) vwCl (gWs V2 gShM N) H) (hS : va_S (fun q : Nat => (gXs X).heap.size ≤ q) (gXs X).heap H locs)
    (kk : ∀ (H1 : Heap) (locs1 : List Loc), va_P (gD V) vwCl (gWs V gShC M') H1 → va_P (gD V2) vwCl (gWs V2 gShM N) H1 → va_S (fun q : Nat => (gXs X).heap.size ≤ q) (gXs X).heap H1 locs1 → gW X H1 locs1 (k + mc) (n + ms) (F0 (gXm X) (pc + 3) la (rv.toList ++ rest))) : gW X H locs k n (F0 (gXm X) pc la st0) := by
  intro T hT Z
  obtain ⟨v, st₀, t, T', Ls, h0, Z', hL, e1, e2, ⟨⟨hv, hp⟩, hz, hk⟩, stp⟩ := hr T hT Z
  cases hv
  rw [h0] at hz hk
  have hA : ∀ q, gA V gShC.length H.size q → (gXs X).heap.size ≤ q := by
    intro q hq
    rcases hq with ⟨c, hc, rfl⟩ | hq
    · rw [← hC.2.2.2.2.2.2.1]; exact hC.2.2.2.1.2 c hc
    · exact Nat.le_trans hS.1 hq
  obtain ⟨t2, a1, b1⟩ := kk T'.heap (locs ++ Ls) (by rw [e1]; exact hp)
    (hP2.kept (fun i q hq => by
      obtain ⟨sh, hsh, rfl⟩ := gWs_of hq
      have hlt := (hP2 i _ hq).lt
      rw [e1]
      refine hk _ hlt (fun z => ?_)
      rcases z with ⟨c, hc, e⟩ | z
      · exact hC.2.2.2.2.2.1 c i hc (List.getElem?_eq_some_iff.mp hsh).1 e.symm
      · exact absurd z (Nat.not_le.mpr hlt)))
    ⟨Nat.le_trans hS.1 (by rw [e1]; exact hz), fun q h1 h2 => by rw [e1, hk q (Nat.lt_of_lt_of_le h1 hS.1) (fun z => h2 (hA q z))]; exact hS.2.1 q h1 h2, fun q hq => by
      rcases List.mem_append.mp hq with h | h
      · exact hS.2.2 q h
      · exact hA _ (hL q h)⟩ T' rfl Z'
  exact ⟨t2, stp t2 a1, b1⟩
/-- behind a call over the reference's world -/
theorem zb_go2 (hC : zL X V V2 b L xs) {H : Heap} {locs : List Loc} {mc ms : Nat} {la : Array Slot} {st0 rest : List Value} {a : Array Value} {rv : Option Value}
    (hr : va_Run X.1 X.2.1 X.2.2.1 (gXR X) (gXs X) (gXm X) (gXa X) (gXb X) (gXh X) (gXc X) H locs k n mc ms (F0 (gXm X) pc la st0) rest (gQ V2 gShM H.size rv N' a) (gA V2 gShM.length H.size))
    (hP2 : va_P (gD V) vwCl (gWs V gShC M) H) (hS : va_S (fun q : Nat => (gXs X).heap.size ≤ q) (gXs X).heap H locs)
    (kk : ∀ (H1 : Heap) (locs1 : List Loc), va_P (gD V) vwCl (gWs V gShC M) H1 → va_P (gD V2) vwCl (gWs V2 gShM N') H1 → va_S (fun q : Nat => (gXs X).heap.size ≤ q) (gXs X).heap H1 locs1 → gW X H1 locs1 (k + mc) (n + ms) (F0 (gXm X) (pc + 3) la (rv.toList ++ rest))) : gW X H locs k n (F0 (gXm X) pc la st0) := by
  intro T hT Z
  obtain ⟨v, st₀, t, T', Ls, h0, Z', hL, e1, e2, ⟨⟨hv, hp⟩, hz, hk⟩, stp⟩ := hr T hT Z
  cases hv
  rw [h0] at hz hk
  have hA : ∀ q, gA V2 gShM.length H.size q → (gXs X).heap.size ≤ q := by
    intro q hq
    rcases hq with ⟨c, hc, rfl⟩ | hq
    · rw [← hC.2.2.2.2.2.2.2.1]; exact hC.2.2.2.2.1.2 c hc
    · exact Nat.le_trans hS.1 hq
  obtain ⟨t2, a1, b1⟩ := kk T'.heap (locs ++ Ls) (hP2.kept (fun i q hq => by
      obtain ⟨sh, hsh, rfl⟩ := gWs_of hq
      have hlt := (hP2 i _ hq).lt
      rw [e1]
      refine hk _ hlt (fun z => ?_)
      rcases z with ⟨c, hc, e⟩ | z
      · exact hC.2.2.2.2.2.1 i c (List.getElem?_eq_some_iff.mp hsh).1 hc e
      · exact absurd z (Nat.not_le.mpr hlt)))
    (by rw [e1]; exact hp)
    ⟨Nat.le_trans hS.1 (by rw [e1]; exact hz), fun q h1 h2 => by rw [e1, hk q (Nat.lt_of_lt_of_le h1 hS.1) (fun z => h2 (hA q z))]; exact hS.2.1 q h1 h2, fun q hq => by
      rcases List.mem_append.mp hq with h | h
      · exact hS.2.2 q h
      · exact hA _ (hL q h)⟩ T' rfl Z'
  exact ⟨t2, stp t2 a1, b1⟩
theorem zS_C {H : Heap} {locs : List Loc} (hS : va_S (fun q : Nat => (gXs X).heap.size ≤ q) (gXs X).heap H locs) {c : Nat} : va_S (gA V c (gXs X).heap.size) (gXs X).heap H locs := gS_up (fun _ h => Or.inr h) hS
/-- a call of the class's object -/
theorem zb_call1 (hC : zL X V V2 b L xs) {nA : Nat} {idx nL : Nat} {y : MethodName} {cc : ByteArray} {ret : Option FieldType} {rm : Room} {As st0 : List Value} {rv : Value} (Lw : gLv RL idx y cc nL ret nA) (hy : y.cls = RX10)
    (hM : gM X.2.1 y cc nL ret rm V gShC (.ref (gAd V 0) :: As) M (some rv) M') (hA : As.length = nA) (hst : st0 = As.reverse ++ .ref (gAd V 0) :: st) (hw : (st.map fun v => v.category).sum ≤ 8) (hR : rm.frames + 1 ≤ 13 ∧ 8 + (nL + 11) + rm.locals ≤ 490) (hf : k + rm.cells ≤ 601024 ∧ n + rm.slots ≤ 7293034) (d : decode yLw.1 pc = .ok (.invokevirtual idx, 3))
    (kk : gB X V V2 M' N (k + rm.cells) (n + rm.slots) (pc + 3) ls (rv :: st)) : gB X V V2 M N k n pc ls st0 := by
  subst hA
  intro H locs la hP hP2 hS hl
  obtain ⟨hx, hb, hml, hown, hts, hlk, hrm⟩ := id hC.1
  have hG := g_goodV Lw
  obtain ⟨l1, l2, l3, l4, l5, l6, l7, l8⟩ := Lw
  have hR : rm.frames + 1 ≤ (gXR X).frames ∧ 8 + (nL + 11) + rm.locals ≤ (gXR X).locals := by rw [hrm]; exact hR
  have hf : k + rm.cells ≤ (gXR X).cells ∧ n + rm.slots ≤ (gXR X).slots := by rw [hrm]; exact hf
  refine zb_go1 hC (rv := some rv) (M' := M') (mc := rm.cells) (ms := rm.slots) (va_runV (As := As) (rest := st) (C := y.cls) (b := gAd V 0) ⟨hx, hb, hml, hown, hts⟩ (hM H.size) (cwV As.length hts hG rfl rfl rfl ⟨rfl, l6, l7, l8⟩ hR) ⟨gPc_blind, by rw [hy]; exact g_recv hC.2.1 hP sC_0 (q := (RX10, TX10, 14)) rfl, gPc_at hC.2.1 hC.2.2.2.1 hP (zS_C hS)⟩ rfl rfl hl.1 hst (lv_room hw) d hf) hP2 hS (fun H1 locs1 hP1 hP21 hS1 => ?_)
  exact kk H1 locs1 la hP1 hP21 hS1 hl
/-- a call of the reference's object -/
theorem zb_call2 (hC : zL X V V2 b L xs) {nA : Nat} {idx nL : Nat} {y : MethodName} {cc : ByteArray} {ret : Option FieldType} {rm : Room} {As st0 : List Value} {rv : Value} (Lw : gLv RL idx y cc nL ret nA) (hy : y.cls = RX11)
    (hM : gM X.2.1 y cc nL ret rm V2 gShM (.ref (gAd V2 0) :: As) N (some rv) N') (hA : As.length = nA) (hst : st0 = As.reverse ++ .ref (gAd V2 0) :: st) (hw : (st.map fun v => v.category).sum ≤ 8) (hR : rm.frames + 1 ≤ 13 ∧ 8 + (nL + 11) + rm.locals ≤ 490) (hf : k + rm.cells ≤ 601024 ∧ n + rm.slots ≤ 7293034) (d : decode yLw.1 pc = .ok (.invokevirtual idx, 3))
    (kk : gB X V V2 M N' (k + rm.cells) (n + rm.slots) (pc + 3) ls (rv :: st)) : gB X V V2 M N k n pc ls st0 := by
  subst hA
  intro H locs la hP hP2 hS hl
  obtain ⟨hx, hb, hml, hown, hts, hlk, hrm⟩ := id hC.1
  have hG := g_goodV Lw
  obtain ⟨l1, l2, l3, l4, l5, l6, l7, l8⟩ := Lw
  have hR : rm.frames + 1 ≤ (gXR X).frames ∧ 8 + (nL + 11) + rm.locals ≤ (gXR X).locals := by rw [hrm]; exact hR
  have hf : k + rm.cells ≤ (gXR X).cells ∧ n + rm.slots ≤ (gXR X).slots := by rw [hrm]; exact hf
  refine zb_go2 hC (rv := some rv) (N' := N') (mc := rm.cells) (ms := rm.slots) (va_runV (As := As) (rest := st) (C := y.cls) (b := gAd V2 0) ⟨hx, hb, hml, hown, hts⟩ (hM H.size) (cwV As.length hts hG rfl rfl rfl ⟨rfl, l6, l7, l8⟩ hR) ⟨gPc_blind, by rw [hy]; exact g_recv hC.2.2.1 hP2 sM_0 (q := (RX11, TX11, 41)) rfl, gPc_at hC.2.2.1 hC.2.2.2.2.1 hP2 (zS_C hS)⟩ rfl rfl hl.1 hst (lv_room hw) d hf) hP hS (fun H1 locs1 hP1 hP21 hS1 => ?_)
  exact kk H1 locs1 la hP1 hP21 hS1 hl
end ZB
/-! a static call of a method with a table of handlers -/
section ZSW
variable {p : Program} {l : Launch} {e : Env} {R : Room} {s : State} {m : MethodId} {args : Array Value} {below : List Frame} {meth : Method} {c : Code} {H : Heap} {locs : List Loc} {cells slots : Nat}
theorem z_callSW {T : State} (X : Stand p l e R s m args below meth c T locs cells slots) (hexec : p.tables.exec = Jvm.exec) {own : String} {index : Nat} {y : MethodName} {bytes : ByteArray} {maxL : Nat} {ret : Option FieldType} {hh : List (Nat × Nat × Nat × Nat)}
    (hown : s.vm.findClass own = some m.cls) (hlink : (Cond.methodLink own index y).before args s = true) (hstat : (Cond.static y).before args s = true) (hinit : (Cond.initialized y.cls).before args s = true)
    (hcode : (Cond.codeWith y bytes maxL ret hh).before args s = true) (hy : y.cls ≠ "java/lang/invoke/MethodHandle" ∧ y.cls ≠ "java/lang/invoke/VarHandle")
    {W : Nat} {Pre : Pt → Array Value → Prop} {Post : Pt → Array Value → Option Value → Pt → Prop} (hK : Back l R p e below s args y 3 W Pre Post)
    {g : JFrame} (hg : g.method = m) (hsize : g.locals.size = c.maxLocals) {argsL rest : List Value} (hlen : ∀ sig, parseMethodDescriptor y.desc = some sig → argsL.length = sig.parameters.length)
    (hstack : g.stack = argsL.reverse ++ rest) (hW : 2 * g.monitorRoom + (rest.map fun v => v.category).sum ≤ W) (hdg : decode c.code g.pc = .ok (.invokestatic index, 3))
    (hpre : ∀ vm₁, s.WarmedH vm₁ → Pre ⟨T.setVm vm₁, locs, cells, slots⟩ argsL.toArray) :
    ∃ (v : Option Value) (vm₁ : Vm) (B : Pt), s.WarmedH vm₁ ∧ Stand p l e R s m args below meth c B.U B.locs B.cells B.slots ∧ Post ⟨T.setVm vm₁, locs, cells, slots⟩ argsL.toArray v B ∧
      ∀ target, Steps p.tables e below (B.U.setTop { g with pc := g.pc + 3, stack := v.toList ++ rest }) target → Steps p.tables e below (T.setTop g) target := by
  obtain ⟨mk, methM, cM, hnamed, hmethM, -, -, -, -, -, -, hsigM⟩ := Cond.codeWith_spec hcode
  have hstatic : methM.isStatic = true := Cond.static_spec hnamed hmethM hstat
  obtain ⟨kP, hkP, -⟩ := className_of_methodNamed hnamed
  have hinitP : kP.init = .initialized := Cond.initialized_spec (findClass_of_methodNamed hnamed) hkP hinit
  obtain ⟨vm₁, X₁, hstep₁⟩ := X.invokestatic hexec hown hlink hnamed hmethM hstatic hkP hinitP hy (g := g) hg (argsL := argsL) (rest := rest) (hlen _ hsigM) hstack hdg
  obtain ⟨v, B, X', hpost, hsteps⟩ := hK m meth c ⟨T.setVm vm₁, locs, cells, slots⟩ { g with stack := rest } (.invokestatic index) mk argsL.toArray X₁ hg hsize hdg hW (X₁.named hnamed) (hpre vm₁ X₁.warmed)
  exact ⟨v, vm₁, B, X₁.warmed, X', hpost, fun target h => hstep₁ _ fun acts => by rw [doInvoke_state]; exact hsteps.trans h⟩
theorem z_runSW {y : MethodName} {bytes cc : ByteArray} {maxL nL n index : Nat} {ret : Option FieldType} {hh : List (Nat × Nat × Nat × Nat)} {ws : List Cond} {rm : Room} {Pc : Array Value → State → Prop} {Qc : Array Value → State → Outcome → State → Prop} {free : Addr → Prop} {Ts : List Cond} {own : String} {As rest : List Value} {g : JFrame}
    (S : CallFix p m c cc nL s args Ts own) (hM : Met l y ws rm Pc Qc rm.cells rm.slots free) (hR : rm.frames + 1 ≤ R.frames ∧ 8 + (maxL + 11) + rm.locals ≤ R.locals) (hG : GoodIn Ts ws) (hcw : Cond.codeWith y bytes maxL ret hh ∈ ws) (hini : (Cond.initialized y.cls).before args s = true) (hstt : (Cond.static y).before args s = true) (hlk : (Cond.methodLink own index y).before args s = true)
    (hd : y.cls ≠ "java/lang/invoke/MethodHandle" ∧ y.cls ≠ "java/lang/invoke/VarHandle" ∧ (parseMethodDescriptor y.desc).map (fun d => d.parameters.length) = some n) (hp : PreS s H Pc As)
    (hg : g.method = m) (hn : As.length = n) (hsize : g.locals.size = nL) (hstack : g.stack = As.reverse ++ rest) (hW : 2 * g.monitorRoom + (rest.map fun v => v.category).sum ≤ 8) (hdg : decode cc g.pc = .ok (.invokestatic index, 3)) (hf : cells + rm.cells ≤ R.cells ∧ slots + rm.slots ≤ R.slots) :
    va_Run p l e R s m args below meth c H locs cells slots rm.cells rm.slots g rest (Qc As.toArray) (free) := by
  obtain ⟨hx, hb, hml, ho, hts⟩ := S
  have hK : Back l R p e below s args y 3 8 (PreOf R rm.cells rm.slots Pc) (PostOf Qc rm.cells rm.slots free) := va_backW (bytes := bytes) (maxL := maxL) (ret := ret) (hh := hh) hM hp.1 rfl rfl hR.1 hR.2 (pay_in hts hG) hcw (fun a' U hW => word_at hW (Or.inl (by first | rfl | simp [Cond.onTables, Cond.keeps, Cond.steady])) hini)
  have hlen : ∀ sig, parseMethodDescriptor y.desc = some sig → n = sig.parameters.length := by
    intro sig h
    have h2 := hd.2.2
    rw [h] at h2
    exact (Option.some.inj h2).symm
  intro T hT X
  obtain ⟨v, vm₁, ⟨U', l2, c2, s2⟩, hW₁, X', ⟨g', mk, t, L, e1, e2, hq, h1, hL, h2, h3⟩, st⟩ := z_callSW X hx (bytes := bytes) (maxL := maxL) (ret := ret) (hh := hh) ho hlk hstt hini (hts _ (hG _ hcw).1) ⟨hd.1, hd.2.1⟩ hK hg (hsize.trans hml.symm) (argsL := As) (rest := rest) (fun sig h => hn.trans (hlen sig h)) hstack hW (by rw [hb]; exact hdg)
    (fun vm₁ hW₁ => ⟨hf.1, hf.2, hp.2 (T.setVm vm₁) hT hW₁⟩)
  dsimp only [Pt.U, Pt.locs, Pt.cells, Pt.slots] at X' e1 e2 h1 h2 h3 st
  subst h1; subst h2; subst h3
  exact ⟨v, (T.setVm vm₁).calling g' mk As.toArray, t, U', L, hT, X', hL, e1, e2, hq, st⟩
end ZSW
/-- the words of a call of one of the law's helpers -/
def gLh (own : String) (idx : Nat) (y : MethodName) (cc : ByteArray) (nL : Nat) (ret : Option FieldType) (hh : List (Nat × Nat × Nat × Nat)) (n : Nat) : Prop := Cond.codeWith y cc nL ret hh ∈ gBW ∧ Cond.methodLink own idx y ∈ gBW ∧ Cond.static y ∈ gBW ∧ Cond.initialized y.cls ∈ gBW ∧ y.cls ≠ "java/lang/invoke/MethodHandle" ∧ y.cls ≠ "java/lang/invoke/VarHandle" ∧ (parseMethodDescriptor y.desc).map (fun d => d.parameters.length) = some n
/-- a call of a helper -/
theorem zb_help {X : gX} {V V2 : gEnv} {b L : Nat} {xs : Nat → Int32} {M N M' : gMem} {k n pc : Nat} {ls : List (Nat × Value)} {st : List Value} (hC : zL X V V2 b L xs) {nA : Nat} {idx nL : Nat} {y : MethodName} {cc : ByteArray} {ret : Option FieldType} {hh : List (Nat × Nat × Nat × Nat)} {rm : Room} {As st0 : List Value} {rv : Value} (Lw : gLh RL idx y cc nL ret hh nA)
    (hM : gMT X.2.1 y cc nL ret hh rm V gShC As M (some rv) M') (hA : As.length = nA) (hst : st0 = As.reverse ++ st) (hw : (st.map fun v => v.category).sum ≤ 8) (hR : rm.frames + 1 ≤ 13 ∧ 8 + (nL + 11) + rm.locals ≤ 490) (hf : k + rm.cells ≤ 601024 ∧ n + rm.slots ≤ 7293034) (d : decode yLw.1 pc = .ok (.invokestatic idx, 3))
    (kk : gB X V V2 M' N (k + rm.cells) (n + rm.slots) (pc + 3) ls (rv :: st)) : gB X V V2 M N k n pc ls st0 := by
  subst hA
  intro H locs la hP hP2 hS hl
  obtain ⟨hx, hb, hml, hown, hts, hlk, hrm⟩ := id hC.1
  obtain ⟨l1, l2, l3, l5, l6, l7, l8⟩ := Lw
  have hG : GoodIn gBW (Cond.codeWith y cc nL ret hh :: gBW) := fun w hw => (List.mem_cons.mp hw).elim (fun e => e ▸ ⟨l1, gBW_good _ l1⟩) (fun hw => ⟨hw, gBW_good _ hw⟩)
  have hR : rm.frames + 1 ≤ (gXR X).frames ∧ 8 + (nL + 11) + rm.locals ≤ (gXR X).locals := by rw [hrm]; exact hR
  have hf : k + rm.cells ≤ (gXR X).cells ∧ n + rm.slots ≤ (gXR X).slots := by rw [hrm]; exact hf
  refine zb_go1 hC (rv := some rv) (M' := M') (mc := rm.cells) (ms := rm.slots) (z_runSW (As := As) (rest := st) (hh := hh) ⟨hx, hb, hml, hown, hts⟩ (hM H.size) hR hG List.mem_cons_self (hts _ l5) (hts _ l3) (hts _ l2) ⟨l6, l7, l8⟩ ⟨gPc_blind, gPc_at hC.2.1 hC.2.2.2.1 hP (zS_C hS)⟩ rfl rfl hl.1 hst (lv_room hw) d hf) hP2 hS (fun H1 locs1 hP1 hP21 hS1 => ?_)
  exact kk H1 locs1 la hP1 hP21 hS1 hl
theorem LL_110 : gLh RL 110 yL_append cL_append 8 (some .int) [(0, 16, 19, 13)] 7 := ⟨gT3 101 rfl rfl, gT3 99 rfl rfl, gT3 100 rfl rfl, gT1 0 rfl rfl, by decide, by decide, by decide +kernel⟩
theorem LL_119 : gLh RL 119 yL_truncate cL_truncate 4 (some .int) [(0, 9, 12, 19)] 3 := ⟨gT3 180 rfl rfl, gT3 178 rfl rfl, gT3 179 rfl rfl, gT1 0 rfl rfl, by decide, by decide, by decide +kernel⟩
theorem LL_123 : gLh RL 123 yL_readText cL_readText 3 (some .int) [(0, 8, 11, 19)] 2 := ⟨gT3 204 rfl rfl, gT3 202 rfl rfl, gT3 203 rfl rfl, gT1 0 rfl rfl, by decide, by decide, by decide +kernel⟩
theorem LL_127 : gLh RL 127 yL_runOrders cL_runOrders 3 (some .int) [(0, 8, 11, 19)] 2 := ⟨gT4 178 rfl rfl, gT4 176 rfl rfl, gT4 177 rfl rfl, gT1 0 rfl rfl, by decide, by decide, by decide +kernel⟩
theorem LL_138 : gLh RL 138 yL_size cL_size 4 (some .int) [(0, 9, 12, 19)] 3 := ⟨gT5 23 rfl rfl, gT5 21 rfl rfl, gT5 22 rfl rfl, gT1 0 rfl rfl, by decide, by decide, by decide +kernel⟩
theorem LL_141 : gLh RL 141 yL_task cL_task 5 (some .int) [(0, 10, 13, 35), (0, 10, 17, 19)] 4 := ⟨gT5 41 rfl rfl, gT5 39 rfl rfl, gT5 40 rfl rfl, gT1 0 rfl rfl, by decide, by decide, by decide +kernel⟩
theorem LL_145 : gLh RL 145 yL_letter cL_letter 5 (some .int) [(0, 10, 13, 35)] 4 := ⟨gT5 80 rfl rfl, gT5 78 rfl rfl, gT5 79 rfl rfl, gT1 0 rfl rfl, by decide, by decide, by decide +kernel⟩
theorem LL_148 : gLh RL 148 yL_group cL_group 5 (some .int) [(0, 10, 13, 35), (0, 10, 17, 19)] 4 := ⟨gT5 87 rfl rfl, gT5 85 rfl rfl, gT5 86 rfl rfl, gT1 0 rfl rfl, by decide, by decide, by decide +kernel⟩
theorem LL_151 : gLh RL 151 yL_arrow cL_arrow 5 (some .int) [(0, 10, 13, 35), (0, 10, 17, 19)] 4 := ⟨gT5 103 rfl rfl, gT5 101 rfl rfl, gT5 102 rfl rfl, gT1 0 rfl rfl, by decide, by decide, by decide +kernel⟩
theorem LL_154 : gLh RL 154 yL_arrowOf cL_arrowOf 5 (some .int) [(0, 10, 13, 35)] 4 := ⟨gT5 116 rfl rfl, gT5 114 rfl rfl, gT5 115 rfl rfl, gT1 0 rfl rfl, by decide, by decide, by decide +kernel⟩
theorem LL_157 : gLh RL 157 yL_reaches cL_reaches 5 (some .int) [(0, 17, 20, 35)] 4 := ⟨gT5 124 rfl rfl, gT5 122 rfl rfl, gT5 123 rfl rfl, gT1 0 rfl rfl, by decide, by decide, by decide +kernel⟩
theorem LL_160 : gLh RL 160 yL_far cL_far 5 (some .int) [(0, 10, 13, 35)] 4 := ⟨gT5 132 rfl rfl, gT5 130 rfl rfl, gT5 131 rfl rfl, gT1 0 rfl rfl, by decide, by decide, by decide +kernel⟩
theorem LL_163 : gLh RL 163 yL_on cL_on 6 (some .int) [(0, 12, 15, 35)] 5 := ⟨gT5 144 rfl rfl, gT5 142 rfl rfl, gT5 143 rfl rfl, gT1 0 rfl rfl, by decide, by decide, by decide +kernel⟩
theorem LL_167 : gLh RL 167 yL_trial cL_trial 6 (some .int) [(0, 12, 15, 35), (0, 12, 19, 19)] 5 := ⟨gT5 156 rfl rfl, gT5 154 rfl rfl, gT5 155 rfl rfl, gT1 0 rfl rfl, by decide, by decide, by decide +kernel⟩
theorem LL_170 : gLh RL 170 yL_why cL_why 6 (some .int) [(0, 12, 15, 35), (0, 12, 19, 19)] 5 := ⟨gT5 168 rfl rfl, gT5 166 rfl rfl, gT5 167 rfl rfl, gT1 0 rfl rfl, by decide, by decide, by decide +kernel⟩
theorem LL_173 : gLh RL 173 yL_bestMode cL_bestMode 5 (some .int) [(0, 10, 13, 35)] 4 := ⟨gT5 176 rfl rfl, gT5 174 rfl rfl, gT5 175 rfl rfl, gT1 0 rfl rfl, by decide, by decide, by decide +kernel⟩
theorem LL_176 : gLh RL 176 yL_leastPlace cL_leastPlace 4 (some .int) [(0, 9, 12, 35)] 3 := ⟨gT5 183 rfl rfl, gT5 181 rfl rfl, gT5 182 rfl rfl, gT1 0 rfl rfl, by decide, by decide, by decide +kernel⟩
theorem LL_179 : gLh RL 179 yL_mostPlace cL_mostPlace 4 (some .int) [(0, 9, 12, 35)] 3 := ⟨gT5 191 rfl rfl, gT5 189 rfl rfl, gT5 190 rfl rfl, gT1 0 rfl rfl, by decide, by decide, by decide +kernel⟩
theorem LL_182 : gLh RL 182 yL_fresh cL_fresh 4 (some .int) [(0, 9, 12, 35)] 3 := ⟨gT5 201 rfl rfl, gT5 199 rfl rfl, gT5 200 rfl rfl, gT1 0 rfl rfl, by decide, by decide, by decide +kernel⟩
theorem LL_209 : gLh RL 209 yL_account cL_account 4 (some .int) [(0, 8, 11, 19)] 3 := ⟨gT5 208 rfl rfl, gT5 206 rfl rfl, gT5 207 rfl rfl, gT1 0 rfl rfl, by decide, by decide, by decide +kernel⟩
theorem LL_222 : gLh RL 222 yL_make cL_make 4 (some .int) [(0, 9, 12, 19)] 3 := ⟨gT5 216 rfl rfl, gT5 214 rfl rfl, gT5 215 rfl rfl, gT1 0 rfl rfl, by decide, by decide, by decide +kernel⟩
theorem LL_225 : gLh RL 225 yL_add cL_add 5 (some .int) [(0, 10, 13, 35)] 4 := ⟨gT5 232 rfl rfl, gT5 230 rfl rfl, gT5 231 rfl rfl, gT1 0 rfl rfl, by decide, by decide, by decide +kernel⟩
theorem LL_228 : gLh RL 228 yL_cut cL_cut 4 (some .int) [(0, 9, 12, 35)] 3 := ⟨gT6 0 rfl rfl, gT5 238 rfl rfl, gT5 239 rfl rfl, gT1 0 rfl rfl, by decide, by decide, by decide +kernel⟩
theorem LL_231 : gLh RL 231 yL_swap cL_swap 4 (some .int) [(0, 9, 12, 35)] 3 := ⟨gT6 8 rfl rfl, gT6 6 rfl rfl, gT6 7 rfl rfl, gT1 0 rfl rfl, by decide, by decide, by decide +kernel⟩
theorem LL_234 : gLh RL 234 yL_setHours cL_setHours 5 (some .int) [(0, 10, 13, 35), (0, 10, 17, 19)] 4 := ⟨gT6 17 rfl rfl, gT6 15 rfl rfl, gT6 16 rfl rfl, gT1 0 rfl rfl, by decide, by decide, by decide +kernel⟩
theorem LL_237 : gLh RL 237 yL_set cL_set 5 (some .int) [(0, 10, 13, 19)] 4 := ⟨gT6 24 rfl rfl, gT6 22 rfl rfl, gT6 23 rfl rfl, gT1 0 rfl rfl, by decide, by decide, by decide +kernel⟩
theorem LL_248 : gLh RL 248 yL_writeArrows cL_writeArrows 4 (some .int) [(0, 9, 12, 35)] 3 := ⟨gT6 32 rfl rfl, gT6 30 rfl rfl, gT6 31 rfl rfl, gT1 0 rfl rfl, by decide, by decide, by decide +kernel⟩
theorem LL_263 : gLh RL 263 yL_restore cL_restore 3 (some .int) [(0, 8, 11, 13)] 2 := ⟨gT6 40 rfl rfl, gT6 38 rfl rfl, gT6 39 rfl rfl, gT1 0 rfl rfl, by decide, by decide, by decide +kernel⟩
