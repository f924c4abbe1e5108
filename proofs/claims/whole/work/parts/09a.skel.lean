/-! THE CLAIM OUT OF ONE WALK OF THE LAW'S BODY. Your part is whole_start (and what it stands on); all else here is the same for every law, but numbers. -/
def R_law : String := "SandLettersLaw"
def lw_P (b : Addr) (xs : List Int32) (args : Array Value) (s : State) : Prop := args = #[.ref b] ∧ s.IntsAt b xs ∧ xs.length ≤ 384 ∧ (Jvm.Cond.and given_1 narrow_1).before args s = true
def lw_Q (_ : Array Value) (s : State) (o : Outcome) (t : State) : Prop := o = .returned (some (.int 1)) ∧ Framed s o t [] 600128 7301098
def lw_Z (below : List Frame) (a : Array Value) (s : State) : State → Prop := fun t => ∃ o, t.status = .running ∧ Ended t below o ∧ lw_Q a s o t
/-- the law's own end, with 1 on the stack, nothing written that was there before, its room as the claim has it -/
theorem lw_ret {p : Program} {l : Launch} {e : Env} {s : State} {m : MethodId} {below : List Frame} {meth : Method} {c : Code} {b : Nat} (hx : p.tables.exec = Jvm.exec) (hb : c.code = code) (hr : meth.sig.returnType = ret) (hlocks : meth.locks = false) {pc : Nat} {H : Heap} {ls : Array Slot} (hdg : decode code pc = .ok (.ireturn, 1)) : W p l e room_1 s m #[Value.ref b] below meth c H [] 600128 7301098 (lw_Z below #[Value.ref b] s) (F0 m pc ls [.int 1]) := by
  intro T hT X
  obtain ⟨fs, hret, hrun, hended, hW, hframe⟩ := X.leave (v := some (.int 1)) (hlocks := hlocks) (fun h => by rw [hr] at h; cases h)
  have hmeth' : T.vm.method? m = some meth := X.method'
  refine ⟨T.setFrames fs, ?_, .returned (some (.int 1)), hrun, hended, rfl, ⟨_, rfl⟩, hW, hframe⟩
  jvm_step X.here [X.here.top, hx, hb, hdg, hmeth', hr, ret, narrow_b1]
  (try refine ⟨rfl, ?_⟩); (try refine ⟨rfl, ?_⟩)
  first | (intro acts; rw [hret _ acts rfl rfl rfl]) | rw [hret _ _ rfl rfl rfl]
  exact Steps.refl _
/-- what holds at the law's entry: the machine, the code, the tables' words (any of lw_tbl by 'hts w (by decide +kernel)'), the script of L ints xs at the cell b, what the Statement gives of the start (any of its parts by flat_of_before) -/
def lw_At (p : Program) (s : State) (m : MethodId) (meth : Method) (c : Code) (b L : Nat) (xs : Nat → Int32) : Prop :=
  p.tables.exec = Jvm.exec ∧ c.code = code ∧ meth.sig.returnType = ret ∧ c.maxLocals = 7 ∧ s.vm.findClass R_law = some m.cls ∧ (∀ w ∈ lw_tbl, w.before #[Value.ref b] s = true) ∧ va_X b L xs s s.heap ∧ b < s.heap.size ∧ meth.locks = false ∧ (Jvm.Cond.and given_1 narrow_1).before #[Value.ref b] s = true
/-! ===== rows of the law's own method ===== -/
section LAWR
variable {p : Program} {l : Launch} {e : Env} {R : Room} {s : State} {m : MethodId} {args : Array Value} {below : List Frame} {meth : Method} {c : Code} {Q : State → Prop}
variable {cc : ByteArray} {nL : Nat} {own : String} {b : Nat} {D : va_G} {cy : Nat → ClassId} {cells slots : Nat} {M : Mem} {pc : Nat} {lv : List (Nat × Value)} {rest : List Value}
def sc (xs : Nat → Int32) (L : Nat) (i : Int32) : Option Int32 := if ib i L then some (xs i.toNatClampNeg) else none
def fg (M : Mem) : Mem := (mI M, mL M, mR M, mK M, mN M, 0)
theorem x_fg {st : List Value} (k : X p l e R s m args below meth c Q nL b D cy cells slots (fg M) pc lv st) : X p l e R s m args below meth c Q nL b D cy cells slots M pc lv st := fun H locs ls h1 h2 h3 => k H locs ls h1.forget h2 h3
theorem x_sI (F : Fx p s m args c cc nL own b D cy) {sb L : Nat} {xs : Nat → Int32} (hX : va_X sb L xs s s.heap) (hbl : sb < s.heap.size) (hsb : sb < b) {i v : Int32} (hv : sc xs L i = some v) (d : decode cc pc = .ok (.iaload, 1)) (kk : X p l e R s m args below meth c Q nL b D cy cells slots M (pc + 1) lv (.int v :: rest)) : X p l e R s m args below meth c Q nL b D cy cells slots M pc lv (.int i :: .ref sb :: rest) := by
  intro H locs ls h1 h2 h3
  obtain ⟨hi, hv⟩ := gdS hv
  cases hv
  exact va_sld (A := fun q => b ≤ q) F.1 F.2.1 hX hbl (Nat.not_le.mpr hsb) h2 hi d (kk H locs ls h1 h2 h3)
theorem x_sL (F : Fx p s m args c cc nL own b D cy) {sb L : Nat} {xs : Nat → Int32} (hX : va_X sb L xs s s.heap) (hbl : sb < s.heap.size) (hsb : sb < b) (d : decode cc pc = .ok (.arraylength, 1)) (kk : X p l e R s m args below meth c Q nL b D cy cells slots M (pc + 1) lv (.int (Int32.ofNat L) :: rest)) : X p l e R s m args below meth c Q nL b D cy cells slots M pc lv (.ref sb :: rest) := fun H locs ls h1 h2 h3 => va_slen (A := fun q => b ≤ q) F.1 F.2.1 hX hbl (Nat.not_le.mpr hsb) h2 d (kk H locs ls h1 h2 h3)
theorem x_ret1 {sb : Nat} (F : Fx p s m #[Value.ref sb] c cL_law_ 7 RL b D cy) (hb : b = s.heap.size) (hr : meth.sig.returnType = ret) (hl : meth.locks = false) (hc : cells ≤ 600128) (hs : slots ≤ 7301098) (d : decode cL_law_ pc = .ok (.ireturn, 1)) : X p l e room_1 s m #[Value.ref sb] below meth c (lw_Z below #[Value.ref sb] s) 7 b D cy cells slots M pc lv [.int 1] := fun H locs ls h1 h2 h3 => va_forget (fun q hq => hb ▸ h2.2.2 q hq) (W.widen hc hs (lw_ret F.1 F.2.1 hr hl d))
theorem WL_SW {own : String} {index : Nat} {y : MethodName} {bytes : ByteArray} {maxL : Nat} {ret : Option FieldType} {hh : List (Nat × Nat × Nat × Nat)} (h1 : Cond.methodLink own index y ∈ WL) (h2 : Cond.static y ∈ WL) (h4 : Cond.initialized y.cls ∈ WL) (h5 : Cond.codeWith y bytes maxL ret hh ∈ WL) : GoodIn WL (va_wsS own index y (Cond.codeWith y bytes maxL ret hh :: WL)) := by
  intro w h
  have hw : w ∈ WL := by
    unfold va_wsS at h
    simp only [List.cons_append, List.nil_append, List.mem_cons] at h
    rcases h with rfl | rfl | rfl | rfl | h
    · exact h1
    · exact h2
    · exact h4
    · exact h5
    · exact h
  exact WL_GI w hw
theorem x_callW (F : Fx p s m args c cc nL own b D cy) {y : MethodName} {bytes : ByteArray} {maxL index n dz ds : Nat} {ret : Option FieldType} {hh : List (Nat × Nat × Nat × Nat)} {As st0 : List Value} {Mf : Mem} {res : Option Value} (hM : Met l y (Cond.codeWith y bytes maxL ret hh :: WL) ({ frames := n, cells := dz, slots := ds, locals := 100 * n }) (va_Pc As (Pre b D cy M)) (Qm b D cy res Mf) dz ds (fun q => b ≤ q)) (m1 : Cond.methodLink own index y ∈ WL) (m2 : Cond.static y ∈ WL) (m4 : Cond.initialized y.cls ∈ WL) (m5 : Cond.codeWith y bytes maxL ret hh ∈ WL) (hd : y.cls ≠ "java/lang/invoke/MethodHandle" ∧ y.cls ≠ "java/lang/invoke/VarHandle" ∧ (parseMethodDescriptor y.desc).map (fun d => d.parameters.length) = some As.length) (hR : n + 1 ≤ R.frames ∧ 8 + (maxL + 11) + 100 * n ≤ R.locals) (hcap : cells + dz ≤ R.cells ∧ slots + ds ≤ R.slots) (hW : (rest.map fun v => v.category).sum ≤ 8) (hst : st0 = As.reverse ++ rest) (d : decode cc pc = .ok (.invokestatic index, 3)) (kk : X p l e R s m args below meth c Q nL b D cy (cells + dz) (slots + ds) Mf (pc + 3) lv (res.toList ++ rest)) : X p l e R s m args below meth c Q nL b D cy cells slots M pc lv st0 := fun H locs ls h1 h2 h3 =>
  w_call (vx_runSW (As := As) (rest := rest) ⟨F.1, F.2.1, F.2.2.1, F.2.2.2.1, F.2.2.2.2.1⟩ hM (vx_cwSW As.length F.2.2.2.2.1 (WL_SW m1 m2 m4 m5) rfl rfl rfl hd hR) (w_preS F h1 h2) rfl rfl h3.1 hst (lv_room hW) d hcap) h2 h3 kk
end LAWR
