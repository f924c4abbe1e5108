/-! ===== NoSuchElementException("..") is made and thrown: its constructor hands the text on by entry 13 of its pool ===== -/
def nseB : ByteArray := ⟨#[0x2a, 0x2b, 0xb7, 0x00, 0x0d, 0xb1]⟩
theorem nse_code : decode nseB 0 = .ok (.aload_n 0, 1) ∧ decode nseB 1 = .ok (.aload_n 1, 1) ∧ decode nseB 2 = .ok (.invokespecial 13, 3) ∧ decode nseB 5 = .ok (.return_, 1) := by decide +kernel
abbrev nseN : String := "java/util/NoSuchElementException"
abbrev nseR : String := "java/lang/RuntimeException"
abbrev nseE : String := "java/lang/Exception"
/-- three constructors, each handing the text on to the next, the last to Throwable's -/
def nse_up : List Cond := Bundle.passSAtoms nseN nseR 13 nseB ++ (Bundle.passSAtoms nseR nseE 7 Bundle.six ++ Bundle.passSAtoms nseE Bundle.tN 7 Bundle.six)
/-- an object of the class: how it is made, what it answers with -/
def nse_ob (own : String) (ic : Nat) : List Cond := [.methodLink own ic (Bundle.initS nseN), .instantiable nseN 6, .selects nseN Bundle.tFill0 Bundle.tFill0, .selects nseN Bundle.tFill Bundle.tFill]
/-- the five fields of Throwable in such an object -/
def nse_la : List Cond := [("cause", "Ljava/lang/Throwable;"), ("stackTrace", Bundle.steD), ("suppressedExceptions", Bundle.listD), ("detailMessage", "Ljava/lang/String;"), ("backtrace", "Ljava/lang/Object;")].map (fun (x : String × String) => Cond.lays nseN Bundle.tN x.1 x.2)
/-- Throwable's two statics, and its link to the trace -/
def nse_st : List Cond := [("UNASSIGNED_STACK", Bundle.steD), ("SUPPRESSED_SENTINEL", Bundle.listD)].map (fun (x : String × String) => Cond.isRef (.static Bundle.tN x.1 x.2)) ++ [Cond.fieldLink Bundle.tN 198, Cond.lays Bundle.tN].map (fun f => f Bundle.tN "backtrace" "Ljava/lang/Object;")
def nse_ws (own : String) (ic : Nat) : List Cond := (Bundle.throwableAtoms ++ Bundle.throwableSAtoms) ++ ((nse_up ++ nse_ob own ic) ++ (nse_la ++ nse_st))
def nse_at (own : String) (ic : Nat) : List Cond := (nse_ws own ic).filter vx_no
section NseFacts
variable {args : Array Value} {s : State} {pl : Platform}
theorem nse_both {P : Cond → Prop} {a b : List Cond} (h : ∀ w ∈ a ++ b, P w) : (∀ w ∈ a, P w) ∧ ∀ w ∈ b, P w := ⟨fun w m => h w (List.mem_append_left _ m), fun w m => h w (List.mem_append_right _ m)⟩
theorem nse_chain (hpl : pl.magicAccessors = ({} : Platform).magicAccessors) {top : MethodId} (htop : s.methodNamed? (Bundle.initS Bundle.tN) = some top) (h : ∀ w ∈ nse_up, w.before args s = true) :
    ∃ Ps : List PassC, Ps.length = 3 ∧ (∀ P, P ∈ Ps → P.LinksS pl s) ∧ PassesOn top (Ps.map (·.toPassT)) ∧ s.methodNamed? (Bundle.initS nseN) = some (firstOf top (Ps.map (·.toPassT))) := by
  obtain ⟨hA, hBC⟩ := nse_both h
  obtain ⟨hB, hC⟩ := nse_both hBC
  obtain ⟨A, lA, mA, sA⟩ := PassC.ofS_atoms hpl (by decide +kernel) (by decide) nse_code.1 nse_code.2.1 nse_code.2.2.1 nse_code.2.2.2 hA
  obtain ⟨B, lB, mB, sB⟩ := PassC.ofS_atoms hpl (by decide +kernel) (by decide) Bundle.six_0 Bundle.six_1 Bundle.six_2 Bundle.six_5 hB
  obtain ⟨C, lC, mC, sC⟩ := PassC.ofS_atoms hpl (by decide +kernel) (by decide) Bundle.six_0 Bundle.six_1 Bundle.six_2 Bundle.six_5 hC
  rw [mB] at sA
  rw [mC] at sB
  rw [htop] at sC
  refine ⟨[A, B, C], rfl, ?_, ⟨(Option.some.inj sA).symm, (Option.some.inj sB).symm, (Option.some.inj sC).symm, trivial⟩, mA⟩
  intro P hP
  simp only [List.mem_cons, List.not_mem_nil, or_false] at hP
  rcases hP with e | e | e <;> rw [e] <;> assumption
/-- field f lies in objects of class c -/
def nse_F (s : State) (c : ClassId) (k : Class) (f : Field) : Prop := k.instanceTypes[f.slot]? = some f.type ∧ ∃ d, Jmm.declares? s.vm f.slot (c + 1) c = some d ∧ d.2.name = f.name
theorem nse_F.apart {c : ClassId} {k : Class} {f g : Field} (hf : nse_F s c k f) (hg : nse_F s c k g) (hne : g.name ≠ f.name) : g.slot ≠ f.slot := by
  obtain ⟨-, x, hx, nx⟩ := hf
  obtain ⟨-, y, hy, ny⟩ := hg
  exact Cond.laysApart hy hx ny nx hne
/-- a slot that the constructor's three stores pass by -/
theorem nse_still {T : ThrowableT} {c : ClassId} {k : Class} {f : Field} {a : Addr} {u v : RefV} {t : ThreadId} (hf : nse_F s c k f) (hn : defaultValue f.type = .null) (h1 : T.fCause.slot ≠ f.slot) (h2 : T.fStack.slot ≠ f.slot) (h3 : T.fSupp.slot ≠ f.slot) :
    ((preparedCellV T (freshCell c k) a u v).withEntry t).slots[f.slot]? = some .null := by
  show (((((freshCell c k).slots.setIfInBounds T.fCause.slot (.ref a)).setIfInBounds T.fStack.slot u.v).setIfInBounds T.fSupp.slot v.v))[f.slot]? = some .null
  rw [Array.getElem?_setIfInBounds_ne h3, Array.getElem?_setIfInBounds_ne h2, Array.getElem?_setIfInBounds_ne h1, fresh_default hf.1, hn]
/-- which of an object's methods is meant by a name of Throwable's -/
theorem nse_sel {c : ClassId} {x : MethodName} {m : MethodId} (hpl : ∀ r, selectMethod pl s.vm c r = selectMethod {} s.vm c r) (hc : s.vm.findClass nseN = some c) (hm : s.methodNamed? x = some m) (hx : x.cls ≠ "java/lang/invoke/MethodHandle" ∧ x.cls ≠ "java/lang/invoke/VarHandle")
    (h : (Cond.selects nseN x x).before args s = true) : selectMethod pl s.vm c m = .method m := by
  obtain ⟨c', r, n, e1, e2, e3, e4, -⟩ := Cond.selects_spec h
  rw [hc] at e1
  rw [State.methodFound?_of_named hm hx] at e2
  rw [hm] at e3
  cases e1; cases e2; cases e3
  exact (hpl m).trans e4
end NseFacts
section NseWalk
variable {p : Program} {l : Launch} {e : Env} {R : Room} {s : State} {m₀ : MethodId} {args : Array Value} {below : List Frame} {meth : Method} {c : Code} {V : State} {cells slots : Nat}
/-- Throwable's statics, as they lie while nothing old has been written -/
theorem nse_stat (X : Stand p l e R s m₀ args below meth c V [] cells slots) {T : ThrowableC} {Z : Init0T} (L : T.Links e.platform s) (Y : Bundle.Ties T Z s)
    (hU : (Cond.isRef (.static Bundle.tN "UNASSIGNED_STACK" Bundle.steD)).before args s = true) (hN : (Cond.isRef (.static Bundle.tN "SUPPRESSED_SENTINEL" Bundle.listD)).before args s = true) :
    ∃ (q : Cell) (u v : RefV), V.heap[T.aS]? = some q ∧ q.vm ≠ .unknown ∧ q.slots[T.fUnassigned.slot]? = some u.v ∧ q.slots[T.fSentinel.slot]? = some v.v ∧ T.aS < s.heap.size := by
  obtain ⟨q0, at0, is0⟩ := Y.statics
  obtain ⟨u, hu⟩ := Cond.staticRefV Y.unassigned L.unassignedStatic L.statics at0 is0 hU
  obtain ⟨v, hv⟩ := Cond.staticRefV Y.sentinel L.sentinelStatic L.statics at0 is0 hN
  obtain ⟨q, hq, eq, -, keep⟩ := X.same.2.2.2.2.2 _ _ at0
  have keep' : ∀ i, q.slots[i]? = q0.slots[i]? := fun i => keep i List.not_mem_nil
  have hvm : q.vm = q0.vm := by rw [eq]
  refine ⟨q, u, v, hq, fun hx => ?_, (keep' _).trans hu, (keep' _).trans hv, (Array.getElem?_eq_some_iff.mp at0).1⟩
  rw [← hvm, hx] at is0
  exact Bool.noConfusion is0
/-- the constructor, run from its call to its return: the object has its class still, and only its own slots were written -/
theorem nse_made (X : Stand p l e R s m₀ args below meth c V [] cells slots) (hexec : p.tables.exec = Jvm.exec) (htr : e.platform.stackTraces = false) {own : String} {ic : Nat} (h : ∀ w ∈ nse_ws own ic, w.before args s = true)
    {a : Addr} {cX : ClassId} {kX : Class} (hfX : s.vm.findClass nseN = some cX) (hkX : s.vm.classes[cX]? = some kX) (hcell : V.heap[a]? = some (freshCell cX kX)) (hnew : s.heap.size ≤ a) {msg : Value} (hmsg : msg.isRef = true)
    {tm : MethodId} (htm : s.methodNamed? (Bundle.initS nseN) = some tm) {g : JFrame} (hg : g.method = m₀) (hsize : g.locals.size = c.maxLocals) {ig : Instr} {len : Nat} (hd : decode c.code g.pc = .ok (ig, len))
    (hRf : 5 < R.frames) (hRl : 2 * g.monitorRoom + (g.stack.map fun v => v.category).sum + 81 ≤ R.locals) :
    ∃ (vm' : Vm) (q : Cell) (L : List Loc), q.vm = .none ∧ q.cls = cX ∧ (∀ x ∈ L, x.base = a) ∧ Stand p l e R s m₀ args below meth c ((V.setVm vm').setCell a q) L cells slots ∧
      ∀ acts target, Steps p.tables e below (((V.setVm vm').setCell a q).setTop { g with pc := g.pc + len }) target → Steps p.tables e below (doInvoke e (V.setTop g) acts tm #[.ref a, msg]).1 target := by
  have hP := X.admits.platform
  have hpl : e.platform.magicAccessors = ({} : Platform).magicAccessors := by rw [hP]
  obtain ⟨hT, hO⟩ := nse_both h
  obtain ⟨hT, hTS⟩ := nse_both hT
  obtain ⟨hU, hF⟩ := nse_both hO
  obtain ⟨hU, hO⟩ := nse_both hU
  obtain ⟨hF, hS⟩ := nse_both hF
  simp only [nse_ob, nse_la, nse_st, List.map_cons, List.map_nil, List.cons_append, List.nil_append, List.forall_mem_cons] at hO hF hS
  obtain ⟨-, oI, o0, oF, -⟩ := hO
  obtain ⟨fC, fS, fP, fM, fB, -⟩ := hF
  obtain ⟨sU, sN, sL, sB, -⟩ := hS
  obtain ⟨T, Z0, L, -, Y⟩ := ThrowableC.of_atoms (by rw [hP]) (by rw [hP]) hpl hT
  obtain ⟨Z, M, lZ, lM, nZ⟩ := Init0T.ofS_atoms hpl L Y hTS
  obtain ⟨Ps, len3, lPs, hon, hfirst⟩ := nse_chain hpl nZ hU
  obtain ⟨q, u, v, hq, hqv, hqu, hqs, hlt⟩ := nse_stat X L Y sU sN
  obtain ⟨_, _, i1, i2, hord, -⟩ := Cond.instantiable_spec oI
  rw [hfX] at i1
  cases i1
  rw [hkX] at i2
  cases i2
  obtain ⟨iM, yM⟩ := Y.msg
  obtain ⟨ciB, iB, f, b1, b2, b3, b4, -, b5, b6, b7⟩ := Cond.ownField (t := .object "java/lang/Object") Y.found L.cls (by decide +kernel) sL sB e.platform hpl
  have aC : nse_F s cX kX T.fCause := Cond.laysAt hfX hkX Y.cause fC
  have aS : nse_F s cX kX T.fStack := Cond.laysAt hfX hkX Y.stack fS
  have aP : nse_F s cX kX T.fSupp := Cond.laysAt hfX hkX Y.supp fP
  have aM : nse_F s cX kX T.fMsg := Cond.laysAt hfX hkX yM fM
  have aB : nse_F s cX kX f := Cond.laysAt hfX hkX b7 fB
  have hnull : ((preparedCellV T.toThrowableT (freshCell cX kX) a u v).withEntry V.cur).slots[f.slot]? = some .null :=
    nse_still aB (by rw [b6]; rfl) (aB.apart aC (by rw [b5, Y.causeName]; decide)) (aB.apart aS (by rw [b5, Y.stackName]; decide)) (aB.apart aP (by rw [b5, Y.suppName]; decide))
  have hsel : ∀ r, selectMethod e.platform s.vm cX r = selectMethod {} s.vm cX r := Launch.admits_selectMethod X.admits s.vm cX
  have takes : ∀ {f : Field} {w : Value}, nse_F s cX kX f → fits f.type w = true → Takes s (freshCell cX kX) f w := fun hf hw => Takes.of_laid hkX hord hf.1 hw
  rw [hfirst] at htm
  cases htm
  have K := fun acts => X.ctorMessageOffV hexec hg hsize T L Z lZ M lM Ps lPs hon hmsg hcell (fun _ hx => nomatch hx) (fun hx => nomatch hx) rfl rfl
    (nse_sel hsel hfX Y.fill0 (by decide) o0) (nse_sel hsel hfX Y.fill (by decide) oF) hq (fun hx => Nat.lt_irrefl _ (Nat.lt_of_lt_of_le (hx ▸ hlt) hnew)) hqv hqu hqs
    (takes aC (by rw [Y.causeType]; rfl)) (takes aS (by rw [Y.stackType]; exact fits_refV_array _ u)) (takes aP (by rw [Y.suppType]; exact fits_refV_object _ v)) (takes aM (by rw [Y.msgType]; exact fits_refV_object _ ⟨msg, hmsg⟩))
    Y.objLocals ⟨⟨ciB, iB, f⟩, ⟨b1, b2, b3, b4⟩, hnull, fun _ _ => rfl⟩ htr acts hd (by omega) (by omega)
  obtain ⟨vm', X', st⟩ := K []
  refine ⟨vm', _, _, ?_, ?_, ?_, X', fun acts target ht => ?_⟩
  · rfl
  · rfl
  · intro x hx
    simp only [List.nil_append, List.mem_cons, List.not_mem_nil, or_false] at hx
    rcases hx with hx | hx | hx | hx | hx <;> rw [hx]
  · rw [doInvoke_state]
    exact st target ht
/-- call of the constructor, and athrow behind it -/
theorem nse_thrown (X : Stand p l e R s m₀ args below meth c V [] cells slots) (hexec : p.tables.exec = Jvm.exec) (htr : e.platform.stackTraces = false) {own : String} {ic : Nat} (hown : s.vm.findClass own = some m₀.cls) (h : ∀ w ∈ nse_ws own ic, w.before args s = true)
    {a : Addr} {cX : ClassId} {kX : Class} (hfX : s.vm.findClass nseN = some cX) (hkX : s.vm.classes[cX]? = some kX) (hcell : V.heap[a]? = some (freshCell cX kX)) (hnew : s.heap.size ≤ a) {msg : Value} (hmsg : msg.isRef = true)
    {g : JFrame} (hg : g.method = m₀) (hsize : g.locals.size = c.maxLocals) (hlocked : g.locked = none) (hentered : g.entered = []) {rest : List Value} (hstack : g.stack = msg :: .ref a :: .ref a :: rest)
    (d0 : decode c.code g.pc = .ok (.invokespecial ic, 3)) (d3 : decode c.code (g.pc + 3) = .ok (.athrow, 1)) (hout : ∀ x ∈ c.exceptionTable.toList, covers x (g.pc + 3) = false)
    (hRf : 5 < R.frames) (hRl : 2 * g.monitorRoom + ((Value.ref a :: rest).map fun v => v.category).sum + 81 ≤ R.locals) (hlocks : meth.locks = false) :
    ∃ U : State, Steps p.tables e below (V.setTop g) U ∧ U.status = .running ∧ Ended U below (.threw a) ∧ s.WarmedH U.vm ∧ s.sameButNew ({ U with vm := s.vm } : State) [] cells slots ∧ ∃ ce, U.heap[a]? = some ce ∧ ce.vm = .none ∧ s.vm.findClass nseN = some ce.cls := by
  have hU := (nse_both (nse_both (nse_both h).2).1).1
  have hO := (nse_both (nse_both (nse_both h).2).1).2
  have hA := (nse_both hU).1
  have hpl : e.platform.magicAccessors = ({} : Platform).magicAccessors := by rw [X.admits.platform]
  obtain ⟨tm, _, _, _, vm1, htm, -, -, -, -, -, -, -, hW1, st1⟩ := Steps.initColdS (tb := p.tables) X.here hexec X.warmed hpl hown (t := Bundle.initS nseN) rfl rfl (by decide) (hO _ List.mem_cons_self) (hA _ List.mem_cons_self) (hA _ (List.mem_cons_of_mem _ List.mem_cons_self)) hg hstack d0
  obtain ⟨vm2, q, L, hqv, hqc, hL, X2, st2⟩ := nse_made (X.noted hW1) hexec htr h hfX hkX hcell hnew hmsg htm (g := { g with stack := .ref a :: rest }) hg hsize d0 hRf hRl
  obtain ⟨w, hrun, hend, hW, hsame⟩ := X2.athrowLeaves hexec (g := { g with stack := .ref a :: rest, pc := g.pc + 3 }) hg hlocked hentered hout rfl d3 hlocks
  refine ⟨_, st1 _ (fun acts => st2 acts _ w), hrun, hend, hW, hsame.weaken (fun x hx hlt => ?_) (Nat.le_refl _) (Nat.le_refl _), q, heapAt_setCell_self q (Array.getElem?_eq_some_iff.mp hcell).1, hqv, by rw [hqc]; exact hfX⟩
  rw [hL x hx] at hlt
  exact absurd hlt (Nat.not_lt.mpr hnew)
end NseWalk
section EndsX
variable {p : Program} {l : Launch} {e : Env} {R : Room} {s : State} {m : MethodId} {args : Array Value} {below : List Frame} {meth : Method} {c : Code} {H : Heap} {locs : List Loc} {cells slots : Nat} {Q : State → Prop}
variable {mc ms : Nat} {free : Addr → Prop} {A0 A1 : Nat → Prop} {H0 : Heap} {a : Array Value} {ls : Array Slot} {st0 rest : List Value}
variable {Qc : Array Value → State → Outcome → State → Prop} {XC : String → State → State → Prop}
/-- 'throw new E("text")': new; dup; ldc; invokespecial; athrow -/
theorem vx_throwX {cc : ByteArray} {pc : Nat} (hexec : p.tables.exec = Jvm.exec) (hb : c.code = cc) (hl : l.stackTraces = false) {own text : String} {ik is ic mc ms sa : Nat} {A : Nat → Prop}
    (hown : s.vm.findClass own = some m.cls)
    (hk : (Cond.classLink own ik nseN).before args s = true) (hini : (Cond.initialized nseN).before args s = true) (hstr : vk_R own is text sa s) (hat : ∀ w ∈ nse_at own ic, w.before args s = true)
    (hgood : ∀ w ∈ Cond.classLink own ik nseN :: Cond.initialized nseN :: nse_at own ic, vx_ot w = true)
    (hU : vx_Zq Bundle.tN "UNASSIGNED_STACK" Bundle.steD A s s.heap) (hN : vx_Zq Bundle.tN "SUPPRESSED_SENTINEL" Bundle.listD A s s.heap) (hS : va_S A s.heap H locs) (hsize : ls.size = c.maxLocals)
    (d0 : decode cc pc = .ok (.new ik, 3)) (d3 : decode cc (pc + 3) = .ok (.dup, 1)) (d4 : decode cc (pc + 4) = .ok (.ldc is, 2)) (d6 : decode cc (pc + 6) = .ok (.invokespecial ic, 3)) (d9 : decode cc (pc + 9) = .ok (.athrow, 1))
    (hout : ∀ x ∈ c.exceptionTable.toList, covers x (pc + 9) = false)
    (hRframes : 5 < R.frames) (hRlocals : (rest.map fun v => v.category).sum + 82 ≤ R.locals) (hRcells : cells + 1 ≤ R.cells) (hRslots : slots + 6 ≤ R.slots) (hlocks : meth.locks = false)
    (hx : ∀ t : State, s.vm.Alike t.vm → H.size ≤ t.heap.size → (∀ q : Nat, q < H.size → t.heap[q]? = H[q]?) → XC nseN s t)
    (hf : ∀ z ∈ locs, free z.base) (hc : cells + 1 ≤ mc) (hs : slots + 6 ≤ ms) :
    W p l e R s m args below meth c H locs cells slots (vx_MQ below Qc XC args s mc ms free) (F0 m pc ls rest) := by
  intro T hT X
  have htr : e.platform.stackTraces = false := (show e.platform.stackTraces = l.stackTraces by rw [X.admits.platform]).trans hl
  have Y := vx_rebase X (R' := { frames := R.frames, locals := R.locals, cells := 1, slots := 6 }) (Nat.le_refl _) (Nat.le_refl _) hRcells hRslots
  obtain ⟨s', hA⟩ : ∃ z, z = (T.setVm s.vm).setFrames (.invoking m args :: below) := ⟨_, rfl⟩
  rw [← hA] at Y
  have hvm : s'.vm = s.vm := by rw [hA]; rfl
  have hhp : s'.heap = H := by rw [hA]; exact hT
  have hW0 : s.WarmedH s'.vm := by rw [hvm]; exact State.WarmedH.refl s
  have hat' : ∀ w ∈ nse_at own ic, w.before args s' = true := fun w hw => vx_ot_at hW0 hvm.symm (hgood w (List.mem_cons_of_mem _ (List.mem_cons_of_mem _ hw))) (hat w hw)
  have hk' : (Cond.classLink own ik nseN).before args s' = true := vx_ot_at hW0 hvm.symm (hgood _ List.mem_cons_self) hk
  have hini' : (Cond.initialized nseN).before args s' = true := vx_ot_at hW0 hvm.symm (hgood _ (List.mem_cons_of_mem _ List.mem_cons_self)) hini
  have hU' : vx_Zq Bundle.tN "UNASSIGNED_STACK" Bundle.steD A s' s'.heap := by rw [hhp]; exact vx_Zq.moved hW0.alike (hU.kept hS.2.1)
  have hN' : vx_Zq Bundle.tN "SUPPRESSED_SENTINEL" Bundle.listD A s' s'.heap := by rw [hhp]; exact vx_Zq.moved hW0.alike (hN.kept hS.2.1)
  have h : ∀ w ∈ nse_ws own ic, w.before args s' = true := vx_own hat' (vx_isRefq hU'.1) (vx_isRefq hN'.1) hU'.2.word hN'.2.word
  have hown' : s'.vm.findClass own = some m.cls := by rw [hvm]; exact hown
  have hins : (Cond.instantiable nseN 6).before args s' = true := h _ (List.mem_append_right _ (List.mem_append_left _ (List.mem_append_right _ (List.mem_cons_of_mem _ List.mem_cons_self))))
  obtain ⟨vm₁, cX, kX, hfX, hkX, -, -, X₁, st1⟩ := Y.newCold hexec (own := own) (C := nseN) (index := ik) (n := 6) hown' hk' hins hini'
    (g := F0 m pc ls rest) rfl (by rw [hb]; exact d0) (Nat.le_refl _) (Nat.le_refl _)
  generalize hT1 : (T.setVm vm₁).pushCell { cls := cX, slots := kX.instanceTypes.map defaultValue, vm := .none } = T1 at X₁ st1
  have hcat : (Value.ref T.heap.size).category = 1 := rfl
  have hcellA : T1.heap[T.heap.size]? = some (freshCell cX kX) := by rw [← hT1]; exact State.heap_pushCell_size _ _
  have d3' : decode c.code (pc + 3) = .ok (.dup, 1) := by rw [hb]; exact d3
  have d4' : decode c.code (pc + 4) = .ok (.ldc is, 2) := by rw [hb]; exact d4
  have hstr' : vk_R own is text sa s' := vk_R.warm hW0 hstr
  obtain ⟨U, hsteps, hrun, hend, hW, hsame, ce, hce, hO, hO2⟩ := nse_thrown X₁ hexec htr (own := own) (ic := ic) hown' h hfX hkX hcellA (by rw [hhp, hT]; exact Nat.le_refl _) (msg := .ref sa) rfl
    (g := { method := m, pc := pc + 6, locals := ls, stack := .ref sa :: .ref T.heap.size :: .ref T.heap.size :: rest, locked := none }) rfl hsize rfl rfl (rest := rest) rfl
    (by rw [hb]; exact d6) (by rw [hb]; exact d9) hout hRframes (by simp only [List.map_cons, List.sum_cons, hcat]; omega) hlocks
  obtain ⟨f1, f2⟩ := vx_frame hsame
  rw [hhp] at f1 f2
  have hWs : s.WarmedH U.vm := State.WarmedH.trans hW0 hW
  have hcl : s.vm.findClass nseN = some ce.cls := by
    have h9 := hO2
    rw [hvm] at h9
    exact h9
  have hall : s.sameButNew ({ U with vm := s.vm } : State) locs mc ms := by
    subst hA
    obtain ⟨e1, e2⟩ := hsame
    rw [State.setFrames_setFrames] at e1
    have h2 : (T.setVm s.vm).sameButNew ({ U with vm := s.vm } : State) [] (0 + 1) (0 + 6) := ⟨e1, e2⟩
    have h3 := X.same.trans h2
    rw [List.append_nil] at h3
    exact h3.mono hc hs
  refine ⟨U, ?_, .threw T.heap.size, hrun, hend, Or.inr ⟨T.heap.size, rfl, nseN, ce, locs, hx U hWs.alike f1 (fun q hq => f2 q hq (fun z hz => nomatch hz)), hce, hO, hcl, hWs, hall, hf⟩⟩
  refine st1 _ ?_
  show Steps p.tables e below (T1.setTop { method := m, pc := pc + 3, locals := ls, stack := .ref T.heap.size :: rest, locked := none }) _
  jvm_step X₁.here [X₁.here.top, hexec, d3', Value.category]
  exact X₁.ldcString hexec (own := own) (text := text) (index := is) (a := sa) hown' hstr'.1 hstr'.2
    (g := { method := m, pc := pc + 4, locals := ls, stack := .ref T.heap.size :: .ref T.heap.size :: rest, locked := none }) rfl d4' _ hsteps
end EndsX
