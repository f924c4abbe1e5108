/-! ===== ROWS over the memory ===== -/
def stk : Nat → Int32 := fun j => match j with
  | 0 => 6
  | 1 => 1
  | 2 => 5
  | 3 => 5
  | 4 => 4
  | 5 => 5
  | 6 => 6
  | 7 => 3
  | 8 => 7
  | _ => 6
def nestWs : List Cond := [.methodLinkNest RX10 18 yX8_init RX10, .methodLinkNest RX0 67 yX10_placeIndex RX10, .methodLinkNest RX4 37 yX10_placeIndex RX10, .methodLinkNest RX4 46 yX8_nothingAgainst RX10, .fieldLinkNest RX0 71 RX10 "STROKES" "[I" RX10, .fieldLinkNest RX4 57 RX10 "STROKES" "[I" RX10, .fieldLinkNest RX8 155 RX10 "STROKES" "[I" RX10]
theorem nest_warm {s U : State} (hW : s.WarmedH U.vm) (h : ∀ w ∈ nestWs, va_Nw w s) : ∀ w ∈ nestWs, va_Nw w U := by
  intro w hw
  have h1 := h w hw
  simp only [nestWs, List.mem_cons, List.mem_nil_iff, or_false] at hw
  rcases hw with rfl | rfl | rfl | rfl | rfl | rfl | rfl
  · exact va_Nw.warmM hW h1
  · exact va_Nw.warmM hW h1
  · exact va_Nw.warmM hW h1
  · exact va_Nw.warmM hW h1
  · exact va_Nw.warmF hW h1
  · exact va_Nw.warmF hW h1
  · exact va_Nw.warmF hW h1
theorem nest_same {s U : State} (hv : s.vm = U.vm) (h : ∀ w ∈ nestWs, va_Nw w s) : ∀ w ∈ nestWs, va_Nw w U := by
  intro w hw
  have h1 := h w hw
  simp only [nestWs, List.mem_cons, List.mem_nil_iff, or_false] at hw
  rcases hw with rfl | rfl | rfl | rfl | rfl | rfl | rfl <;> exact va_Nw.same rfl hv h1
def kwT : String := "band tide writer law lapse writes tread hour or and not bare full wet holds by height signs washed number"
def kwB : List Int32 := [98, 97, 110, 100, 32, 116, 105, 100, 101, 32, 119, 114, 105, 116, 101, 114, 32, 108, 97, 119, 32, 108, 97, 112, 115, 101, 32, 119, 114, 105, 116, 101, 115, 32, 116, 114, 101, 97, 100, 32, 104, 111, 117, 114, 32, 111, 114, 32, 97, 110, 100, 32, 110, 111, 116, 32, 98, 97, 114, 101, 32, 102, 117, 108, 108, 32, 119, 101, 116, 32, 104, 111, 108, 100, 115, 32, 98, 121, 32, 104, 101, 105, 103, 104, 116, 32, 115, 105, 103, 110, 115, 32, 119, 97, 115, 104, 101, 100, 32, 110, 117, 109, 98, 101, 114]
def msgs : List (Nat × String) := [(148, "no such BAND"), (169, "nothing such is known of a BAND"), (188, "no such LAW"), (205, "nothing such is known of a LAW")]
def thrW : List Cond := [.castable "java/util/NoSuchElementException" "java/util/NoSuchElementException", .declares (Bundle.initS "java/lang/RuntimeException"), .declares (Bundle.initS "java/lang/Exception"), .declares (Bundle.initS Bundle.tN)]
theorem thr_warm {s U : State} (hW : s.WarmedH U.vm) (h : ∀ w ∈ thrW, va_Nw w s) : ∀ w ∈ thrW, va_Nw w U := by
  intro w hw
  have h1 := h w hw
  simp only [thrW, List.mem_cons, List.mem_nil_iff, or_false] at hw
  rcases hw with rfl | rfl | rfl | rfl
  · exact va_Nw.warmC hW h1
  · exact va_Nw.warmD hW h1
  · exact va_Nw.warmD hW h1
  · exact va_Nw.warmD hW h1
theorem thr_same {s U : State} (hv : s.vm = U.vm) (h : ∀ w ∈ thrW, va_Nw w s) : ∀ w ∈ thrW, va_Nw w U := by
  intro w hw
  have h1 := h w hw
  simp only [thrW, List.mem_cons, List.mem_nil_iff, or_false] at hw
  rcases hw with rfl | rfl | rfl | rfl <;> exact va_Nw.same rfl hv h1
/-- what a method finds beside the memory -/
def Ext (b : Nat) (U : State) : Prop := (∃ aS : Nat, va_Z RX10 "STROKES" "[I" (.ref aS) (fun q => b ≤ q) U U.heap ∧ va_T .int aS 10 (fun j => .int (stk j)) (fun q => b ≤ q) U U.heap) ∧ (∀ w ∈ nestWs, va_Nw w U) ∧ (∃ adK adV : Nat → Nat, vk_S 1 [105] [kwB] adK adV (fun q => b ≤ q) U U.heap ∧ vk_R RX9 51 kwT (adK 0) U) ∧ va_Z RJ0 "COMPACT_STRINGS" "Z" (.int 1) (fun q => b ≤ q) U U.heap ∧ va_Zq RJ3 "SIOOBE_FORMATTER" "Ljava/util/function/BiFunction;" (fun q => b ≤ q) U U.heap ∧ vx_Zq Bundle.tN "UNASSIGNED_STACK" Bundle.steD (fun q => b ≤ q) U U.heap ∧ vx_Zq Bundle.tN "SUPPRESSED_SENTINEL" Bundle.listD (fun q => b ≤ q) U U.heap ∧ (∀ q ∈ msgs, ∃ a : Nat, vk_R RX10 q.1 q.2 a U) ∧ va_AO RX0 U ∧ va_AO RX7 U ∧ va_AO RX8 U ∧ ∀ w ∈ thrW, va_Nw w U
theorem Ext.move {b : Nat} {s U : State} {H : Heap} {locs : List Loc} (hE : Ext b s) (hS : va_S (fun q => b ≤ q) s.heap H locs) (hU : U.heap = H) (hW : s.WarmedH U.vm) : Ext b U := by
  obtain ⟨⟨aS, h1, h2⟩, h5, ⟨adK, adV, h6, h7⟩, h8, h9, h10, h11, h12, h13, h14, h15, h16⟩ := hE
  subst hU
  exact ⟨⟨aS, (h1.moved hW.alike).kept (fun a z1 z2 => hS.2.1 a z1 z2), (h2.moved hW.alike).kept (fun a z1 z2 => hS.2.1 a z1 z2)⟩, nest_warm hW h5, ⟨adK, adV, (h6.moved hW.alike).kept (fun a z1 z2 => hS.2.1 a z1 z2), h7.warm hW⟩, (h8.moved hW.alike).kept (fun a z1 z2 => hS.2.1 a z1 z2), (h9.moved hW.alike).kept (fun a z1 z2 => hS.2.1 a z1 z2), (h10.moved hW.alike).kept (fun a z1 z2 => hS.2.1 a z1 z2), (h11.moved hW.alike).kept (fun a z1 z2 => hS.2.1 a z1 z2), fun q hq => (h12 q hq).elim (fun a ha => ⟨a, ha.warm hW⟩), h13.moved hW.alike, h14.moved hW.alike, h15.moved hW.alike, thr_warm hW h16⟩
theorem Ext.calling {b : Nat} {U : State} {g : JFrame} {mk : MethodId} {a : Array Value} (hE : Ext b U) : Ext b (U.calling g mk a) := by
  obtain ⟨⟨aS, h1, h2⟩, h5, ⟨adK, adV, h6, h7⟩, h8, h9, h10, h11, h12, h13, h14, h15, h16⟩ := hE
  have hv : U.vm.Alike (U.calling g mk a).vm := Vm.Alike.refl U.vm
  exact ⟨⟨aS, h1.moved hv, h2.moved hv⟩, nest_same (s := U) (U := U.calling g mk a) rfl h5, ⟨adK, adV, h6.moved hv, vk_R.same (u := U) (U := U.calling g mk a) rfl h7⟩, h8.moved hv, h9.moved hv, h10.moved hv, h11.moved hv, fun q hq => (h12 q hq).elim (fun z hz => ⟨z, vk_R.same (u := U) (U := U.calling g mk a) rfl hz⟩), h13.moved hv, h14.moved hv, h15.moved hv, thr_same (s := U) (U := U.calling g mk a) rfl h16⟩
def Pre (b : Nat) (D : va_G) (cy : Nat → ClassId) (M : Mem) (U : State) : Prop := Rl b D cy M U.heap ∧ va_K D vwCl (ty6 cy) U ∧ b ≤ U.heap.size ∧ Ext b U
theorem Pre.blind {b : Nat} {D : va_G} {cy : Nat → ClassId} {M : Mem} {av : List Value} : FrameBlind (va_Pc av (Pre b D cy M)) := fun a U g mk h => ⟨h.1, h.2.1, va_K.moved (u := U) (U := U.calling g mk a) (Vm.Alike.refl U.vm) h.2.2.1, h.2.2.2.1, h.2.2.2.2.calling⟩
def Qm (b : Nat) (D : va_G) (cy : Nat → ClassId) (res : Option Value) (Mf : Mem) : Array Value → State → Outcome → State → Prop := fun _ st oc t => oc = .returned res ∧ Rl b D cy Mf t.heap ∧ va_F (fun q => b ≤ q) st t
/-- a method's contract: from the memory M to Mf, with the answer res; n: how deep it calls; dz, ds: cells and slots that it makes -/
def Ct (l : Launch) (y : MethodName) (cc : ByteArray) (nL : Nat) (ret : Option FieldType) (n dz ds : Nat) (b : Nat) (D : va_G) (cy : Nat → ClassId) (av : List Value) (M : Mem) (res : Option Value) (Mf : Mem) : Prop :=
  Met l y (Cond.code y cc nL ret :: WL) ({ frames := n, cells := dz, slots := ds, locals := 100 * n }) (va_Pc av (Pre b D cy M)) (Qm b D cy res Mf) dz ds (fun q => b ≤ q)
def Fx (p : Program) (s : State) (m : MethodId) (args : Array Value) (c : Code) (cc : ByteArray) (nL : Nat) (own : String) (b : Nat) (D : va_G) (cy : Nat → ClassId) : Prop :=
  p.tables.exec = Jvm.exec ∧ c.code = cc ∧ c.maxLocals = nL ∧ s.vm.findClass own = some m.cls ∧ (∀ w ∈ WL, w.before args s = true) ∧ va_K D vwCl (ty6 cy) s ∧ b ≤ s.heap.size ∧ Ext b s
def X (p : Program) (l : Launch) (e : Env) (R : Room) (s : State) (m : MethodId) (args : Array Value) (below : List Frame) (meth : Method) (c : Code) (Q : State → Prop) (nL b : Nat) (D : va_G) (cy : Nat → ClassId) (cells slots : Nat) (M : Mem) (pc : Nat) (lv : List (Nat × Value)) (st : List Value) : Prop :=
  ∀ (H : Heap) (locs : List Loc) (ls : Array Slot), Rl b D cy M H → va_S (fun q => b ≤ q) s.heap H locs → lv_has ls nL lv → W p l e R s m args below meth c H locs cells slots Q (F0 m pc ls st)
theorem Ct_of {l : Launch} {y : MethodName} {n dz ds b : Nat} {D : va_G} {cy : Nat → ClassId} {av : List Value} {M Mf : Mem} {res : Option Value} {cc : ByteArray} {nL : Nat} {ret : Option FieldType} {own : String} (hy : plainName y.cls = true) (hown : y.cls = own) (hlen : (lg_sl av).length ≤ nL)
    (body : ∀ (p : Program) (e : Env) (s : State) (m : MethodId) (args : Array Value) (below : List Frame) (meth : Method) (c : Code), Fx p s m args c cc nL own b D cy → meth.sig.returnType = ret → meth.locks = false → meth.name = y.name →
      X p l e ({ frames := n, cells := dz, slots := ds, locals := 100 * n }) s m args below meth c (MQ below (Qm b D cy res Mf) args s dz ds (fun q => b ≤ q)) nL b D cy 0 0 M 0 (lv_args 0 av) []) : Ct l y cc nL ret n dz ds b D cy av M res Mf := by
  refine Met.ofW (cc := cc) (maxL := nL) (ret := ret) hy rfl ?_
  intro p e s m args below meth c s₁ B hml hv
  obtain ⟨rfl, hP, hK, hb, hE⟩ := hv
  have hown' : s.vm.findClass own = some m.cls := by rw [← hown]; exact findClass_of_methodNamed B.named
  have K := body p e s m av.toArray below meth c ⟨B.exec, B.bytes, hml, hown', fun w hw => atoms_spec (ws := Cond.code y cc nL ret :: WL) B.pre w (List.mem_cons_of_mem _ hw), hK, hb, hE⟩ B.returns B.notSynchronized (name_of_methodNamed B.named B.method).1 s.heap [] _ hP va_S.rf (lv_entry av hlen)
  rw [lg_entry_eq]
  exact K
section ROWS
variable {p : Program} {l : Launch} {e : Env} {R : Room} {s : State} {m : MethodId} {args : Array Value} {below : List Frame} {meth : Method} {c : Code} {Q : State → Prop}
variable {cc : ByteArray} {nL : Nat} {own : String} {b : Nat} {D : va_G} {cy : Nat → ClassId} {cells slots : Nat} {M : Mem} {pc : Nat} {lv : List (Nat × Value)} {rest : List Value}

theorem x_iconst (F : Fx p s m args c cc nL own b D cy) {n : Int} {v : Int32} (d : decode cc pc = .ok (.iconst n, 1)) (hv : Int32.ofInt n = v) (k : X p l e R s m args below meth c Q nL b D cy cells slots M (pc + 1) lv (.int v :: rest)) : X p l e R s m args below meth c Q nL b D cy cells slots M pc lv rest := fun H locs ls h1 h2 h3 => lv_iconst F.1 F.2.1 d hv (k H locs ls h1 h2 h3)
theorem x_bipush (F : Fx p s m args c cc nL own b D cy) {n : Int} {v : Int32} (d : decode cc pc = .ok (.bipush n, 2)) (hv : (Int8.ofInt n).toInt32 = v) (k : X p l e R s m args below meth c Q nL b D cy cells slots M (pc + 2) lv (.int v :: rest)) : X p l e R s m args below meth c Q nL b D cy cells slots M pc lv rest := fun H locs ls h1 h2 h3 => lv_bipush F.1 F.2.1 d hv (k H locs ls h1 h2 h3)
theorem x_sipush (F : Fx p s m args c cc nL own b D cy) {n : Int} {v : Int32} (d : decode cc pc = .ok (.sipush n, 3)) (hv : (Int16.ofInt n).toInt32 = v) (k : X p l e R s m args below meth c Q nL b D cy cells slots M (pc + 3) lv (.int v :: rest)) : X p l e R s m args below meth c Q nL b D cy cells slots M pc lv rest := fun H locs ls h1 h2 h3 => lv_sipush F.1 F.2.1 d hv (k H locs ls h1 h2 h3)
theorem x_lconst (F : Fx p s m args c cc nL own b D cy) {n : Fin 2} {v : Int64} (d : decode cc pc = .ok (.lconst n, 1)) (hv : Int64.ofNat (n : Nat) = v) (k : X p l e R s m args below meth c Q nL b D cy cells slots M (pc + 1) lv (.long v :: rest)) : X p l e R s m args below meth c Q nL b D cy cells slots M pc lv rest := fun H locs ls h1 h2 h3 => lv_lconst F.1 F.2.1 d hv (k H locs ls h1 h2 h3)
theorem x_ldc (F : Fx p s m args c cc nL own b D cy) {index : Nat} {v : Int32} (d : decode cc pc = .ok (.ldc index, 2)) (hc : Jvm.Cond.constant own index v ∈ WL) (k : X p l e R s m args below meth c Q nL b D cy cells slots M (pc + 2) lv (.int v :: rest)) : X p l e R s m args below meth c Q nL b D cy cells slots M pc lv rest := fun H locs ls h1 h2 h3 => lv_ldc F.1 F.2.1 F.2.2.2.1 (F.2.2.2.2.1 _ hc) d (k H locs ls h1 h2 h3)
theorem x_ldcw (F : Fx p s m args c cc nL own b D cy) {index : Nat} {v : Int32} (d : decode cc pc = .ok (.ldc_w index, 3)) (hc : Jvm.Cond.constant own index v ∈ WL) (k : X p l e R s m args below meth c Q nL b D cy cells slots M (pc + 3) lv (.int v :: rest)) : X p l e R s m args below meth c Q nL b D cy cells slots M pc lv rest := fun H locs ls h1 h2 h3 => lv_ldcw F.1 F.2.1 F.2.2.2.1 (F.2.2.2.2.1 _ hc) d (k H locs ls h1 h2 h3)
theorem x_ldc2 (F : Fx p s m args c cc nL own b D cy) {index : Nat} {v : Int64} (d : decode cc pc = .ok (.ldc2_w index, 3)) (hc : Jvm.Cond.constantLong own index v ∈ WL) (k : X p l e R s m args below meth c Q nL b D cy cells slots M (pc + 3) lv (.long v :: rest)) : X p l e R s m args below meth c Q nL b D cy cells slots M pc lv rest := fun H locs ls h1 h2 h3 => lv_ldc2 F.1 F.2.1 F.2.2.2.1 (F.2.2.2.2.1 _ hc) d (k H locs ls h1 h2 h3)
theorem x_iload_n (F : Fx p s m args c cc nL own b D cy) {kk : Fin 4} {i : Nat} {x : Int32} (d : decode cc pc = .ok (.iload_n kk, 1)) (hi : (kk : Nat) = i) (j : Nat) (hj : lv[j]? = some (i, .int x)) (k : X p l e R s m args below meth c Q nL b D cy cells slots M (pc + 1) lv (.int x :: rest)) : X p l e R s m args below meth c Q nL b D cy cells slots M pc lv rest := fun H locs ls h1 h2 h3 => lv_iload_n F.1 F.2.1 d hi (lv_at h3 j hj) (k H locs ls h1 h2 h3)
theorem x_iload (F : Fx p s m args c cc nL own b D cy) {i : Nat} {x : Int32} (d : decode cc pc = .ok (.iload i, 2)) (j : Nat) (hj : lv[j]? = some (i, .int x)) (k : X p l e R s m args below meth c Q nL b D cy cells slots M (pc + 2) lv (.int x :: rest)) : X p l e R s m args below meth c Q nL b D cy cells slots M pc lv rest := fun H locs ls h1 h2 h3 => lv_iload F.1 F.2.1 d (lv_at h3 j hj) (k H locs ls h1 h2 h3)
theorem x_lload_n (F : Fx p s m args c cc nL own b D cy) {kk : Fin 4} {i : Nat} {x : Int64} (d : decode cc pc = .ok (.lload_n kk, 1)) (hi : (kk : Nat) = i) (j : Nat) (hj : lv[j]? = some (i, .long x)) (k : X p l e R s m args below meth c Q nL b D cy cells slots M (pc + 1) lv (.long x :: rest)) : X p l e R s m args below meth c Q nL b D cy cells slots M pc lv rest := fun H locs ls h1 h2 h3 => lv_lload_n F.1 F.2.1 d hi (lv_at h3 j hj) (k H locs ls h1 h2 h3)
theorem x_lload (F : Fx p s m args c cc nL own b D cy) {i : Nat} {x : Int64} (d : decode cc pc = .ok (.lload i, 2)) (j : Nat) (hj : lv[j]? = some (i, .long x)) (k : X p l e R s m args below meth c Q nL b D cy cells slots M (pc + 2) lv (.long x :: rest)) : X p l e R s m args below meth c Q nL b D cy cells slots M pc lv rest := fun H locs ls h1 h2 h3 => lv_lload F.1 F.2.1 d (lv_at h3 j hj) (k H locs ls h1 h2 h3)
theorem x_aload_n (F : Fx p s m args c cc nL own b D cy) {kk : Fin 4} {i : Nat} {x : Nat} (d : decode cc pc = .ok (.aload_n kk, 1)) (hi : (kk : Nat) = i) (j : Nat) (hj : lv[j]? = some (i, .ref x)) (k : X p l e R s m args below meth c Q nL b D cy cells slots M (pc + 1) lv (.ref x :: rest)) : X p l e R s m args below meth c Q nL b D cy cells slots M pc lv rest := fun H locs ls h1 h2 h3 => lv_aload_n F.1 F.2.1 d hi (lv_at h3 j hj) (k H locs ls h1 h2 h3)
theorem x_aload (F : Fx p s m args c cc nL own b D cy) {i : Nat} {x : Nat} (d : decode cc pc = .ok (.aload i, 2)) (j : Nat) (hj : lv[j]? = some (i, .ref x)) (k : X p l e R s m args below meth c Q nL b D cy cells slots M (pc + 2) lv (.ref x :: rest)) : X p l e R s m args below meth c Q nL b D cy cells slots M pc lv rest := fun H locs ls h1 h2 h3 => lv_aload F.1 F.2.1 d (lv_at h3 j hj) (k H locs ls h1 h2 h3)
theorem x_istore_n (F : Fx p s m args c cc nL own b D cy) {kk : Fin 4} {i : Nat} {x : Int32} {lv' : List (Nat × Value)} (d : decode cc pc = .ok (.istore_n kk, 1)) (hi : (kk : Nat) = i) (hn : i < nL) (hl : (i, Value.int x) :: lv.filter (fun q => !(q.1 == i) && !(q.1 + 1 == i && q.2.category == 2)) = lv') (k : X p l e R s m args below meth c Q nL b D cy cells slots M (pc + 1) lv' rest) : X p l e R s m args below meth c Q nL b D cy cells slots M pc lv (.int x :: rest) := fun H locs ls h1 h2 h3 => lv_istore_n F.1 F.2.1 d hi h3 hn hl (fun ls' h' => k H locs ls' h1 h2 h')
theorem x_istore (F : Fx p s m args c cc nL own b D cy) {i : Nat} {x : Int32} {lv' : List (Nat × Value)} (d : decode cc pc = .ok (.istore i, 2)) (hn : i < nL) (hl : (i, Value.int x) :: lv.filter (fun q => !(q.1 == i) && !(q.1 + 1 == i && q.2.category == 2)) = lv') (k : X p l e R s m args below meth c Q nL b D cy cells slots M (pc + 2) lv' rest) : X p l e R s m args below meth c Q nL b D cy cells slots M pc lv (.int x :: rest) := fun H locs ls h1 h2 h3 => lv_istore F.1 F.2.1 d h3 hn hl (fun ls' h' => k H locs ls' h1 h2 h')
theorem x_lstore_n (F : Fx p s m args c cc nL own b D cy) {kk : Fin 4} {i : Nat} {x : Int64} {lv' : List (Nat × Value)} (d : decode cc pc = .ok (.lstore_n kk, 1)) (hi : (kk : Nat) = i) (hn : i + 1 < nL) (hl : (i, Value.long x) :: lv.filter (fun q => !(q.1 == i) && (!(q.1 == i + 1) && !(q.1 + 1 == i && q.2.category == 2))) = lv') (k : X p l e R s m args below meth c Q nL b D cy cells slots M (pc + 1) lv' rest) : X p l e R s m args below meth c Q nL b D cy cells slots M pc lv (.long x :: rest) := fun H locs ls h1 h2 h3 => lv_lstore_n F.1 F.2.1 d hi h3 hn hl (fun ls' h' => k H locs ls' h1 h2 h')
theorem x_lstore (F : Fx p s m args c cc nL own b D cy) {i : Nat} {x : Int64} {lv' : List (Nat × Value)} (d : decode cc pc = .ok (.lstore i, 2)) (hn : i + 1 < nL) (hl : (i, Value.long x) :: lv.filter (fun q => !(q.1 == i) && (!(q.1 == i + 1) && !(q.1 + 1 == i && q.2.category == 2))) = lv') (k : X p l e R s m args below meth c Q nL b D cy cells slots M (pc + 2) lv' rest) : X p l e R s m args below meth c Q nL b D cy cells slots M pc lv (.long x :: rest) := fun H locs ls h1 h2 h3 => lv_lstore F.1 F.2.1 d h3 hn hl (fun ls' h' => k H locs ls' h1 h2 h')
theorem x_astore_n (F : Fx p s m args c cc nL own b D cy) {kk : Fin 4} {i : Nat} {x : Nat} {lv' : List (Nat × Value)} (d : decode cc pc = .ok (.astore_n kk, 1)) (hi : (kk : Nat) = i) (hn : i < nL) (hl : (i, Value.ref x) :: lv.filter (fun q => !(q.1 == i) && !(q.1 + 1 == i && q.2.category == 2)) = lv') (k : X p l e R s m args below meth c Q nL b D cy cells slots M (pc + 1) lv' rest) : X p l e R s m args below meth c Q nL b D cy cells slots M pc lv (.ref x :: rest) := fun H locs ls h1 h2 h3 => lv_astore_n F.1 F.2.1 d hi h3 hn hl (fun ls' h' => k H locs ls' h1 h2 h')
theorem x_astore (F : Fx p s m args c cc nL own b D cy) {i : Nat} {x : Nat} {lv' : List (Nat × Value)} (d : decode cc pc = .ok (.astore i, 2)) (hn : i < nL) (hl : (i, Value.ref x) :: lv.filter (fun q => !(q.1 == i) && !(q.1 + 1 == i && q.2.category == 2)) = lv') (k : X p l e R s m args below meth c Q nL b D cy cells slots M (pc + 2) lv' rest) : X p l e R s m args below meth c Q nL b D cy cells slots M pc lv (.ref x :: rest) := fun H locs ls h1 h2 h3 => lv_astore F.1 F.2.1 d h3 hn hl (fun ls' h' => k H locs ls' h1 h2 h')
theorem x_iinc (F : Fx p s m args c cc nL own b D cy) {i : Nat} {n : Int} {x v : Int32} {lv' : List (Nat × Value)} (d : decode cc pc = .ok (.iinc i n, 3)) (j : Nat) (hj : lv[j]? = some (i, .int x)) (hv : x + Int32.ofInt n = v) (hn : i < nL) (hl : (i, Value.int v) :: lv.filter (fun q => !(q.1 == i) && !(q.1 + 1 == i && q.2.category == 2)) = lv') (k : X p l e R s m args below meth c Q nL b D cy cells slots M (pc + 3) lv' rest) : X p l e R s m args below meth c Q nL b D cy cells slots M pc lv rest := fun H locs ls h1 h2 h3 => lv_iinc F.1 F.2.1 d h3 (k := j) hj hv hn hl (fun ls' h' => k H locs ls' h1 h2 h')
theorem x_iadd (F : Fx p s m args c cc nL own b D cy) {x y : Int32} (d : decode cc pc = .ok (.iadd, 1))  (k : X p l e R s m args below meth c Q nL b D cy cells slots M (pc + 1) lv (.int (x + y) :: rest)) : X p l e R s m args below meth c Q nL b D cy cells slots M pc lv (.int y :: .int x :: rest) := fun H locs ls h1 h2 h3 => lv_iadd F.1 F.2.1 d (k H locs ls h1 h2 h3)
theorem x_isub (F : Fx p s m args c cc nL own b D cy) {x y : Int32} (d : decode cc pc = .ok (.isub, 1))  (k : X p l e R s m args below meth c Q nL b D cy cells slots M (pc + 1) lv (.int (x - y) :: rest)) : X p l e R s m args below meth c Q nL b D cy cells slots M pc lv (.int y :: .int x :: rest) := fun H locs ls h1 h2 h3 => lv_isub F.1 F.2.1 d (k H locs ls h1 h2 h3)
theorem x_imul (F : Fx p s m args c cc nL own b D cy) {x y : Int32} (d : decode cc pc = .ok (.imul, 1))  (k : X p l e R s m args below meth c Q nL b D cy cells slots M (pc + 1) lv (.int (x * y) :: rest)) : X p l e R s m args below meth c Q nL b D cy cells slots M pc lv (.int y :: .int x :: rest) := fun H locs ls h1 h2 h3 => lv_imul F.1 F.2.1 d (k H locs ls h1 h2 h3)
theorem x_iand (F : Fx p s m args c cc nL own b D cy) {x y : Int32} (d : decode cc pc = .ok (.iand, 1))  (k : X p l e R s m args below meth c Q nL b D cy cells slots M (pc + 1) lv (.int (x &&& y) :: rest)) : X p l e R s m args below meth c Q nL b D cy cells slots M pc lv (.int y :: .int x :: rest) := fun H locs ls h1 h2 h3 => lv_iand F.1 F.2.1 d (k H locs ls h1 h2 h3)
theorem x_ior (F : Fx p s m args c cc nL own b D cy) {x y : Int32} (d : decode cc pc = .ok (.ior, 1))  (k : X p l e R s m args below meth c Q nL b D cy cells slots M (pc + 1) lv (.int (x ||| y) :: rest)) : X p l e R s m args below meth c Q nL b D cy cells slots M pc lv (.int y :: .int x :: rest) := fun H locs ls h1 h2 h3 => lv_ior F.1 F.2.1 d (k H locs ls h1 h2 h3)
theorem x_ixor (F : Fx p s m args c cc nL own b D cy) {x y : Int32} (d : decode cc pc = .ok (.ixor, 1))  (k : X p l e R s m args below meth c Q nL b D cy cells slots M (pc + 1) lv (.int (x ^^^ y) :: rest)) : X p l e R s m args below meth c Q nL b D cy cells slots M pc lv (.int y :: .int x :: rest) := fun H locs ls h1 h2 h3 => lv_ixor F.1 F.2.1 d (k H locs ls h1 h2 h3)
theorem x_ishl (F : Fx p s m args c cc nL own b D cy) {x y : Int32} (d : decode cc pc = .ok (.ishl, 1))  (k : X p l e R s m args below meth c Q nL b D cy cells slots M (pc + 1) lv (.int (x <<< (y &&& 31)) :: rest)) : X p l e R s m args below meth c Q nL b D cy cells slots M pc lv (.int y :: .int x :: rest) := fun H locs ls h1 h2 h3 => lv_ishl F.1 F.2.1 d (k H locs ls h1 h2 h3)
theorem x_ishr (F : Fx p s m args c cc nL own b D cy) {x y : Int32} (d : decode cc pc = .ok (.ishr, 1))  (k : X p l e R s m args below meth c Q nL b D cy cells slots M (pc + 1) lv (.int (x >>> (y &&& 31)) :: rest)) : X p l e R s m args below meth c Q nL b D cy cells slots M pc lv (.int y :: .int x :: rest) := fun H locs ls h1 h2 h3 => lv_ishr F.1 F.2.1 d (k H locs ls h1 h2 h3)
theorem x_idiv (F : Fx p s m args c cc nL own b D cy) {x y : Int32} (d : decode cc pc = .ok (.idiv, 1)) (hne : ¬ y = 0) (k : X p l e R s m args below meth c Q nL b D cy cells slots M (pc + 1) lv (.int (x / y) :: rest)) : X p l e R s m args below meth c Q nL b D cy cells slots M pc lv (.int y :: .int x :: rest) := fun H locs ls h1 h2 h3 => lv_idiv F.1 F.2.1 d hne (k H locs ls h1 h2 h3)
theorem x_irem (F : Fx p s m args c cc nL own b D cy) {x y : Int32} (d : decode cc pc = .ok (.irem, 1)) (hne : ¬ y = 0) (k : X p l e R s m args below meth c Q nL b D cy cells slots M (pc + 1) lv (.int (x - x / y * y) :: rest)) : X p l e R s m args below meth c Q nL b D cy cells slots M pc lv (.int y :: .int x :: rest) := fun H locs ls h1 h2 h3 => lv_irem F.1 F.2.1 d hne (k H locs ls h1 h2 h3)
theorem x_iushr (F : Fx p s m args c cc nL own b D cy) {x y : Int32} (d : decode cc pc = .ok (.iushr, 1))  (k : X p l e R s m args below meth c Q nL b D cy cells slots M (pc + 1) lv (.int (x.toUInt32 >>> (y.toUInt32 &&& Int32.toUInt32 31)).toInt32 :: rest)) : X p l e R s m args below meth c Q nL b D cy cells slots M pc lv (.int y :: .int x :: rest) := fun H locs ls h1 h2 h3 => lv_iushr F.1 F.2.1 d rfl (k H locs ls h1 h2 h3)
theorem x_ladd (F : Fx p s m args c cc nL own b D cy) {x y : Int64} (d : decode cc pc = .ok (.ladd, 1))  (k : X p l e R s m args below meth c Q nL b D cy cells slots M (pc + 1) lv (.long (x + y) :: rest)) : X p l e R s m args below meth c Q nL b D cy cells slots M pc lv (.long y :: .long x :: rest) := fun H locs ls h1 h2 h3 => lv_ladd F.1 F.2.1 d (k H locs ls h1 h2 h3)
theorem x_lsub (F : Fx p s m args c cc nL own b D cy) {x y : Int64} (d : decode cc pc = .ok (.lsub, 1))  (k : X p l e R s m args below meth c Q nL b D cy cells slots M (pc + 1) lv (.long (x - y) :: rest)) : X p l e R s m args below meth c Q nL b D cy cells slots M pc lv (.long y :: .long x :: rest) := fun H locs ls h1 h2 h3 => lv_lsub F.1 F.2.1 d (k H locs ls h1 h2 h3)
theorem x_lmul (F : Fx p s m args c cc nL own b D cy) {x y : Int64} (d : decode cc pc = .ok (.lmul, 1))  (k : X p l e R s m args below meth c Q nL b D cy cells slots M (pc + 1) lv (.long (x * y) :: rest)) : X p l e R s m args below meth c Q nL b D cy cells slots M pc lv (.long y :: .long x :: rest) := fun H locs ls h1 h2 h3 => lv_lmul F.1 F.2.1 d (k H locs ls h1 h2 h3)
theorem x_land (F : Fx p s m args c cc nL own b D cy) {x y : Int64} (d : decode cc pc = .ok (.land, 1))  (k : X p l e R s m args below meth c Q nL b D cy cells slots M (pc + 1) lv (.long (x &&& y) :: rest)) : X p l e R s m args below meth c Q nL b D cy cells slots M pc lv (.long y :: .long x :: rest) := fun H locs ls h1 h2 h3 => lv_land F.1 F.2.1 d (k H locs ls h1 h2 h3)
theorem x_ldiv (F : Fx p s m args c cc nL own b D cy) {x y : Int64} (d : decode cc pc = .ok (.ldiv, 1)) (hne : ¬ y = 0) (k : X p l e R s m args below meth c Q nL b D cy cells slots M (pc + 1) lv (.long (x / y) :: rest)) : X p l e R s m args below meth c Q nL b D cy cells slots M pc lv (.long y :: .long x :: rest) := fun H locs ls h1 h2 h3 => lv_ldiv F.1 F.2.1 d hne (k H locs ls h1 h2 h3)
theorem x_lrem (F : Fx p s m args c cc nL own b D cy) {x y : Int64} (d : decode cc pc = .ok (.lrem, 1)) (hne : ¬ y = 0) (k : X p l e R s m args below meth c Q nL b D cy cells slots M (pc + 1) lv (.long (x - x / y * y) :: rest)) : X p l e R s m args below meth c Q nL b D cy cells slots M pc lv (.long y :: .long x :: rest) := fun H locs ls h1 h2 h3 => lv_lrem F.1 F.2.1 d hne (k H locs ls h1 h2 h3)
theorem x_lushr (F : Fx p s m args c cc nL own b D cy) {x : Int64} {y : Int32} (d : decode cc pc = .ok (.lushr, 1))  (k : X p l e R s m args below meth c Q nL b D cy cells slots M (pc + 1) lv (.long (x.toUInt64 >>> (y.toInt64.toUInt64 &&& Int64.toUInt64 63)).toInt64 :: rest)) : X p l e R s m args below meth c Q nL b D cy cells slots M pc lv (.int y :: .long x :: rest) := fun H locs ls h1 h2 h3 => lv_lushr F.1 F.2.1 d rfl (k H locs ls h1 h2 h3)
theorem x_i2l (F : Fx p s m args c cc nL own b D cy) {x : Int32} (d : decode cc pc = .ok (.i2l, 1))  (k : X p l e R s m args below meth c Q nL b D cy cells slots M (pc + 1) lv (.long x.toInt64 :: rest)) : X p l e R s m args below meth c Q nL b D cy cells slots M pc lv (.int x :: rest) := fun H locs ls h1 h2 h3 => lv_i2l F.1 F.2.1 d rfl (k H locs ls h1 h2 h3)
theorem x_l2i (F : Fx p s m args c cc nL own b D cy) {x : Int64} (d : decode cc pc = .ok (.l2i, 1))  (k : X p l e R s m args below meth c Q nL b D cy cells slots M (pc + 1) lv (.int x.toInt32 :: rest)) : X p l e R s m args below meth c Q nL b D cy cells slots M pc lv (.long x :: rest) := fun H locs ls h1 h2 h3 => lv_l2i F.1 F.2.1 d rfl (k H locs ls h1 h2 h3)
theorem x_i2c (F : Fx p s m args c cc nL own b D cy) {x : Int32} (d : decode cc pc = .ok (.i2c, 1))  (k : X p l e R s m args below meth c Q nL b D cy cells slots M (pc + 1) lv (.int (x.toUInt32 % 65536).toInt32 :: rest)) : X p l e R s m args below meth c Q nL b D cy cells slots M pc lv (.int x :: rest) := fun H locs ls h1 h2 h3 => lv_i2c F.1 F.2.1 d rfl (k H locs ls h1 h2 h3)
theorem x_lcmp (F : Fx p s m args c cc nL own b D cy) {x y : Int64} (d : decode cc pc = .ok (.lcmp, 1))  (k : X p l e R s m args below meth c Q nL b D cy cells slots M (pc + 1) lv (.int (lg_cmp x y) :: rest)) : X p l e R s m args below meth c Q nL b D cy cells slots M pc lv (.long y :: .long x :: rest) := fun H locs ls h1 h2 h3 => W.lcmp F.1 F.2.1 d (k H locs ls h1 h2 h3)
theorem x_dup (F : Fx p s m args c cc nL own b D cy) {va : Value} (d : decode cc pc = .ok (.dup, 1)) (ha : va.category = 1) (k : X p l e R s m args below meth c Q nL b D cy cells slots M (pc + 1) lv (va :: va :: rest)) : X p l e R s m args below meth c Q nL b D cy cells slots M pc lv (va :: rest) := fun H locs ls h1 h2 h3 => lv_dup F.1 F.2.1 d ha (k H locs ls h1 h2 h3)
theorem x_pop (F : Fx p s m args c cc nL own b D cy) {va : Value} (d : decode cc pc = .ok (.pop, 1)) (ha : va.category = 1) (k : X p l e R s m args below meth c Q nL b D cy cells slots M (pc + 1) lv rest) : X p l e R s m args below meth c Q nL b D cy cells slots M pc lv (va :: rest) := fun H locs ls h1 h2 h3 => lv_pop F.1 F.2.1 d ha (k H locs ls h1 h2 h3)
theorem x_dup_x1 (F : Fx p s m args c cc nL own b D cy) {va vb : Value} (d : decode cc pc = .ok (.dup_x1, 1)) (ha : va.category = 1) (hb : vb.category = 1) (k : X p l e R s m args below meth c Q nL b D cy cells slots M (pc + 1) lv (va :: vb :: va :: rest)) : X p l e R s m args below meth c Q nL b D cy cells slots M pc lv (va :: vb :: rest) := fun H locs ls h1 h2 h3 => lv_dup_x1 F.1 F.2.1 d ha hb (k H locs ls h1 h2 h3)
theorem x_dup2 (F : Fx p s m args c cc nL own b D cy) {va vb : Value} (d : decode cc pc = .ok (.dup2, 1)) (ha : va.category = 1) (hb : vb.category = 1) (k : X p l e R s m args below meth c Q nL b D cy cells slots M (pc + 1) lv (va :: vb :: va :: vb :: rest)) : X p l e R s m args below meth c Q nL b D cy cells slots M pc lv (va :: vb :: rest) := fun H locs ls h1 h2 h3 => lv_dup2_11 F.1 F.2.1 d ha hb (k H locs ls h1 h2 h3)
theorem x_goto (F : Fx p s m args c cc nL own b D cy) {off : Int} {tgt : Nat} (d : decode cc pc = .ok (.goto off, 3)) (ht : (pc : Int) + off = (tgt : Int)) (k : X p l e R s m args below meth c Q nL b D cy cells slots M tgt lv rest) : X p l e R s m args below meth c Q nL b D cy cells slots M pc lv rest := fun H locs ls h1 h2 h3 => lv_goto F.1 F.2.1 d ht (k H locs ls h1 h2 h3)
theorem x_icmp_eq (F : Fx p s m args c cc nL own b D cy) {x y : Int32} {off : Int} {tgt : Nat} (d : decode cc pc = .ok (.if_icmp .eq off, 3)) (ht : (pc : Int) + off = (tgt : Int)) (kt : x = y → X p l e R s m args below meth c Q nL b D cy cells slots M tgt lv rest) (kf : ¬ x = y → X p l e R s m args below meth c Q nL b D cy cells slots M (pc + 3) lv rest) : X p l e R s m args below meth c Q nL b D cy cells slots M pc lv (.int y :: .int x :: rest) := fun H locs ls h1 h2 h3 => lv_icmp_eq F.1 F.2.1 d ht (fun z => kt z H locs ls h1 h2 h3) (fun z => kf z H locs ls h1 h2 h3)
theorem x_icmp_ne (F : Fx p s m args c cc nL own b D cy) {x y : Int32} {off : Int} {tgt : Nat} (d : decode cc pc = .ok (.if_icmp .ne off, 3)) (ht : (pc : Int) + off = (tgt : Int)) (kt : ¬ x = y → X p l e R s m args below meth c Q nL b D cy cells slots M tgt lv rest) (kf : x = y → X p l e R s m args below meth c Q nL b D cy cells slots M (pc + 3) lv rest) : X p l e R s m args below meth c Q nL b D cy cells slots M pc lv (.int y :: .int x :: rest) := fun H locs ls h1 h2 h3 => lv_icmp_ne F.1 F.2.1 d ht (fun z => kt z H locs ls h1 h2 h3) (fun z => kf z H locs ls h1 h2 h3)
theorem x_icmp_lt (F : Fx p s m args c cc nL own b D cy) {x y : Int32} {off : Int} {tgt : Nat} (d : decode cc pc = .ok (.if_icmp .lt off, 3)) (ht : (pc : Int) + off = (tgt : Int)) (kt : x < y → X p l e R s m args below meth c Q nL b D cy cells slots M tgt lv rest) (kf : ¬ x < y → X p l e R s m args below meth c Q nL b D cy cells slots M (pc + 3) lv rest) : X p l e R s m args below meth c Q nL b D cy cells slots M pc lv (.int y :: .int x :: rest) := fun H locs ls h1 h2 h3 => lv_icmp_lt F.1 F.2.1 d ht (fun z => kt z H locs ls h1 h2 h3) (fun z => kf z H locs ls h1 h2 h3)
theorem x_icmp_ge (F : Fx p s m args c cc nL own b D cy) {x y : Int32} {off : Int} {tgt : Nat} (d : decode cc pc = .ok (.if_icmp .ge off, 3)) (ht : (pc : Int) + off = (tgt : Int)) (kt : y ≤ x → X p l e R s m args below meth c Q nL b D cy cells slots M tgt lv rest) (kf : ¬ y ≤ x → X p l e R s m args below meth c Q nL b D cy cells slots M (pc + 3) lv rest) : X p l e R s m args below meth c Q nL b D cy cells slots M pc lv (.int y :: .int x :: rest) := fun H locs ls h1 h2 h3 => lv_icmp_ge F.1 F.2.1 d ht (fun z => kt z H locs ls h1 h2 h3) (fun z => kf z H locs ls h1 h2 h3)
theorem x_icmp_gt (F : Fx p s m args c cc nL own b D cy) {x y : Int32} {off : Int} {tgt : Nat} (d : decode cc pc = .ok (.if_icmp .gt off, 3)) (ht : (pc : Int) + off = (tgt : Int)) (kt : y < x → X p l e R s m args below meth c Q nL b D cy cells slots M tgt lv rest) (kf : ¬ y < x → X p l e R s m args below meth c Q nL b D cy cells slots M (pc + 3) lv rest) : X p l e R s m args below meth c Q nL b D cy cells slots M pc lv (.int y :: .int x :: rest) := fun H locs ls h1 h2 h3 => lv_icmp_gt F.1 F.2.1 d ht (fun z => kt z H locs ls h1 h2 h3) (fun z => kf z H locs ls h1 h2 h3)
theorem x_icmp_le (F : Fx p s m args c cc nL own b D cy) {x y : Int32} {off : Int} {tgt : Nat} (d : decode cc pc = .ok (.if_icmp .le off, 3)) (ht : (pc : Int) + off = (tgt : Int)) (kt : x ≤ y → X p l e R s m args below meth c Q nL b D cy cells slots M tgt lv rest) (kf : ¬ x ≤ y → X p l e R s m args below meth c Q nL b D cy cells slots M (pc + 3) lv rest) : X p l e R s m args below meth c Q nL b D cy cells slots M pc lv (.int y :: .int x :: rest) := fun H locs ls h1 h2 h3 => lv_icmp_le F.1 F.2.1 d ht (fun z => kt z H locs ls h1 h2 h3) (fun z => kf z H locs ls h1 h2 h3)
theorem x_if_eq (F : Fx p s m args c cc nL own b D cy) {x : Int32} {off : Int} {tgt : Nat} (d : decode cc pc = .ok (.ifCond .eq off, 3)) (ht : (pc : Int) + off = (tgt : Int)) (kt : x = 0 → X p l e R s m args below meth c Q nL b D cy cells slots M tgt lv rest) (kf : ¬ x = 0 → X p l e R s m args below meth c Q nL b D cy cells slots M (pc + 3) lv rest) : X p l e R s m args below meth c Q nL b D cy cells slots M pc lv (.int x :: rest) := fun H locs ls h1 h2 h3 => lv_if_eq F.1 F.2.1 d ht (fun z => kt z H locs ls h1 h2 h3) (fun z => kf z H locs ls h1 h2 h3)
theorem x_if_ne (F : Fx p s m args c cc nL own b D cy) {x : Int32} {off : Int} {tgt : Nat} (d : decode cc pc = .ok (.ifCond .ne off, 3)) (ht : (pc : Int) + off = (tgt : Int)) (kt : ¬ x = 0 → X p l e R s m args below meth c Q nL b D cy cells slots M tgt lv rest) (kf : x = 0 → X p l e R s m args below meth c Q nL b D cy cells slots M (pc + 3) lv rest) : X p l e R s m args below meth c Q nL b D cy cells slots M pc lv (.int x :: rest) := fun H locs ls h1 h2 h3 => lv_if_ne F.1 F.2.1 d ht (fun z => kt z H locs ls h1 h2 h3) (fun z => kf z H locs ls h1 h2 h3)
theorem x_if_lt (F : Fx p s m args c cc nL own b D cy) {x : Int32} {off : Int} {tgt : Nat} (d : decode cc pc = .ok (.ifCond .lt off, 3)) (ht : (pc : Int) + off = (tgt : Int)) (kt : x < 0 → X p l e R s m args below meth c Q nL b D cy cells slots M tgt lv rest) (kf : ¬ x < 0 → X p l e R s m args below meth c Q nL b D cy cells slots M (pc + 3) lv rest) : X p l e R s m args below meth c Q nL b D cy cells slots M pc lv (.int x :: rest) := fun H locs ls h1 h2 h3 => lv_if_lt F.1 F.2.1 d ht (fun z => kt z H locs ls h1 h2 h3) (fun z => kf z H locs ls h1 h2 h3)
theorem x_if_ge (F : Fx p s m args c cc nL own b D cy) {x : Int32} {off : Int} {tgt : Nat} (d : decode cc pc = .ok (.ifCond .ge off, 3)) (ht : (pc : Int) + off = (tgt : Int)) (kt : 0 ≤ x → X p l e R s m args below meth c Q nL b D cy cells slots M tgt lv rest) (kf : ¬ 0 ≤ x → X p l e R s m args below meth c Q nL b D cy cells slots M (pc + 3) lv rest) : X p l e R s m args below meth c Q nL b D cy cells slots M pc lv (.int x :: rest) := fun H locs ls h1 h2 h3 => lv_if_ge F.1 F.2.1 d ht (fun z => kt z H locs ls h1 h2 h3) (fun z => kf z H locs ls h1 h2 h3)
theorem x_if_gt (F : Fx p s m args c cc nL own b D cy) {x : Int32} {off : Int} {tgt : Nat} (d : decode cc pc = .ok (.ifCond .gt off, 3)) (ht : (pc : Int) + off = (tgt : Int)) (kt : 0 < x → X p l e R s m args below meth c Q nL b D cy cells slots M tgt lv rest) (kf : ¬ 0 < x → X p l e R s m args below meth c Q nL b D cy cells slots M (pc + 3) lv rest) : X p l e R s m args below meth c Q nL b D cy cells slots M pc lv (.int x :: rest) := fun H locs ls h1 h2 h3 => lv_if_gt F.1 F.2.1 d ht (fun z => kt z H locs ls h1 h2 h3) (fun z => kf z H locs ls h1 h2 h3)
theorem x_if_le (F : Fx p s m args c cc nL own b D cy) {x : Int32} {off : Int} {tgt : Nat} (d : decode cc pc = .ok (.ifCond .le off, 3)) (ht : (pc : Int) + off = (tgt : Int)) (kt : x ≤ 0 → X p l e R s m args below meth c Q nL b D cy cells slots M tgt lv rest) (kf : ¬ x ≤ 0 → X p l e R s m args below meth c Q nL b D cy cells slots M (pc + 3) lv rest) : X p l e R s m args below meth c Q nL b D cy cells slots M pc lv (.int x :: rest) := fun H locs ls h1 h2 h3 => lv_if_le F.1 F.2.1 d ht (fun z => kt z H locs ls h1 h2 h3) (fun z => kf z H locs ls h1 h2 h3)
theorem x_tableIn (F : Fx p s m args c cc nL own b D cy) {dflt lo hi : Int} {offs : Array Int} {len : Nat} {x : Int32} {off : Int} {tgt : Nat} (d : decode cc pc = .ok (.tableswitch dflt lo hi offs, len)) (g1 : ¬ x.toInt < lo) (g2 : ¬ hi < x.toInt) (ho : offs[(x.toInt - lo).toNat]? = some off) (ht : (pc : Int) + off = (tgt : Int)) (k : X p l e R s m args below meth c Q nL b D cy cells slots M tgt lv rest) : X p l e R s m args below meth c Q nL b D cy cells slots M pc lv (.int x :: rest) := fun H locs ls h1 h2 h3 => lv_tableIn F.1 F.2.1 d g1 g2 ho ht (k H locs ls h1 h2 h3)
theorem x_tableOut (F : Fx p s m args c cc nL own b D cy) {dflt lo hi : Int} {offs : Array Int} {len : Nat} {x : Int32} {tgt : Nat} (d : decode cc pc = .ok (.tableswitch dflt lo hi offs, len)) (g : x.toInt < lo ∨ hi < x.toInt) (ht : (pc : Int) + dflt = (tgt : Int)) (k : X p l e R s m args below meth c Q nL b D cy cells slots M tgt lv rest) : X p l e R s m args below meth c Q nL b D cy cells slots M pc lv (.int x :: rest) := fun H locs ls h1 h2 h3 => lv_tableOut F.1 F.2.1 d g ht (k H locs ls h1 h2 h3)
theorem x_lookup (F : Fx p s m args c cc nL own b D cy) {dflt : Int} {ps : Array (Int × Int)} {len : Nat} {x : Int32} {off : Int} {tgt : Nat} (d : decode cc pc = .ok (.lookupswitch dflt ps, len)) (hp : (ps.toList.zip (ps.toList.drop 1)).all (fun (a, next) => a.1 < next.1) = true) (ho : Op.lookupswitch.offset ps.toList dflt x.toInt = off) (ht : (pc : Int) + off = (tgt : Int)) (k : X p l e R s m args below meth c Q nL b D cy cells slots M tgt lv rest) : X p l e R s m args below meth c Q nL b D cy cells slots M pc lv (.int x :: rest) := fun H locs ls h1 h2 h3 => lv_lookup F.1 F.2.1 d hp ho ht (k H locs ls h1 h2 h3)
theorem x_sub {st : List Value} (ks : List Nat) {lv' : List (Nat × Value)} (hl : lv_pick lv ks = lv') (k : X p l e R s m args below meth c Q nL b D cy cells slots M pc lv' st) : X p l e R s m args below meth c Q nL b D cy cells slots M pc lv st := fun H locs ls h1 h2 h3 => k H locs ls h1 h2 (lv_sub h3 ks hl)
theorem retS {α : Type} {a r : α} {M Mf : Mem} (h : some (a, M) = some (r, Mf)) : r = a ∧ Mf = M := by
  have h1 := Option.some.inj h
  exact ⟨(congrArg Prod.fst h1).symm, (congrArg Prod.snd h1).symm⟩
theorem nar_z (v : Int32) : narrow .boolean (.int v) = .int (vp_nar .boolean v) := rfl
theorem ix_b1 (v : Int32) : v &&& 1 = 0 ∨ v &&& 1 = 1 := by
  obtain ⟨j, hj, e⟩ := pk_andE v (m := 1) 1 (by decide)
  rcases (show j = 0 ∨ j = 1 by omega) with rfl | rfl
  · exact Or.inl e
  · exact Or.inr e
abbrev ib (i : Int32) (n : Nat) : Prop := ¬ (i < 0 ∨ n ≤ i.toNatClampNeg)
/-- fields: int or boolean, long, ref; of an object of class c -/
def fI (M : Mem) (c a k : Nat) : Option Int32 := if mK M a = c + 1 then some (mI M a k) else none
def fL (M : Mem) (c a k : Nat) : Option Int64 := if mK M a = c + 1 then some (mL M a k) else none
def fR (M : Mem) (c a k : Nat) : Option Nat := if mK M a = c + 1 then gR M a k else none
def pI (M : Mem) (c a k : Nat) (v : Int32) : Option Mem := if mK M a = c + 1 then some (sI M a k v) else none
def pZ (M : Mem) (c a k : Nat) (v : Int32) : Option Mem := if mK M a = c + 1 ∧ vp_nar .boolean v = v then some (sI M a k v) else none
def pL (M : Mem) (c a k : Nat) (v : Int64) : Option Mem := if mK M a = c + 1 then some (sL M a k v) else none
def pR (M : Mem) (c a k v : Nat) : Option Mem := if mK M a = c + 1 then some (sR M a k v) else none
/-- rows: int (20), long (21), boolean (22), refs (23 and on) -/
def aI (M : Mem) (a : Nat) (i : Int32) : Option Int32 := if mK M a = 20 ∧ ib i (mN M a) then some (mI M a i.toNatClampNeg) else none
def aL (M : Mem) (a : Nat) (i : Int32) : Option Int64 := if mK M a = 21 ∧ ib i (mN M a) then some (mL M a i.toNatClampNeg) else none
def aZ (M : Mem) (a : Nat) (i : Int32) : Option Int32 := if mK M a = 22 ∧ ib i (mN M a) then some (mI M a i.toNatClampNeg) else none
def aR (M : Mem) (c a : Nat) (i : Int32) : Option Nat := if mK M a = c ∧ ib i (mN M a) then gR M a i.toNatClampNeg else none
def tI (M : Mem) (a : Nat) (i v : Int32) : Option Mem := if mK M a = 20 ∧ ib i (mN M a) then some (sI M a i.toNatClampNeg v) else none
def tL (M : Mem) (a : Nat) (i : Int32) (v : Int64) : Option Mem := if mK M a = 21 ∧ ib i (mN M a) then some (sL M a i.toNatClampNeg v) else none
def tZ (M : Mem) (a : Nat) (i v : Int32) : Option Mem := if mK M a = 22 ∧ ib i (mN M a) then some (sI M a i.toNatClampNeg (vp_nar .boolean v)) else none
/-- c: the rows' kind, cv: the class of what they hold -/
def tR (M : Mem) (c cv a : Nat) (i : Int32) (v : Nat) : Option Mem := if mK M a = c ∧ ib i (mN M a) ∧ mK M v = cv + 1 then some (sR M a i.toNatClampNeg v) else none
def nA (M : Mem) (a : Nat) : Option Int32 := if 20 ≤ mK M a ∧ mK M a ≤ 25 then some (Int32.ofNat (mN M a)) else none
def kS (i : Int32) : Option Int32 := if ib i 10 then some (stk i.toNatClampNeg) else none

theorem x_getI (F : Fx p s m args c cc nL own b D cy) {ci : Nat} {C : String} {T : u_T} {N index : Nat} (hc : vwCl[ci]? = some (C, T, N)) (hci : ci < 12 ∧ fN ci = N) (hin : ∀ w ∈ u_ws C T N, w ∈ WL) {a : Nat} (k : Nat) (hkN : k < N) (hty : ∀ (i : Int32) (l : Int64) (r : Nat), fv b (fT ci k) i l r = .int i) (hlink : Cond.fieldLink own index (T k).1 (T k).2.1 (T k).2.2.1 ∈ WL) {v : Int32} (hv : fI M ci a k = some v) (d : decode cc pc = .ok (.getfield index, 3)) (kk : X p l e R s m args below meth c Q nL b D cy cells slots M (pc + 3) lv (.int v :: rest)) : X p l e R s m args below meth c Q nL b D cy cells slots M pc lv (.ref (b + a) :: rest) := by
  intro H locs ls h1 h2 h3
  obtain ⟨hk, hv⟩ := gdS hv
  have hg := h1.2 a (by rw [hk]; exact Nat.succ_ne_zero _)
  rw [cE_obj hk hci.1] at hg
  refine va_get (D := D) (ci := ci) F.1 F.2.1 F.2.2.2.2.1 hin F.2.2.2.1 F.2.2.2.2.2.1 (P1 hg) 0 rfl hc k hkN (F.2.2.2.2.1 _ hlink) (fun _ h => h) (v := .int v) ?_ d (kk H locs ls h1 h2 h3)
  rw [fE_get (by rw [hci.2]; exact hkN), hty]
  exact congrArg (fun z => some (Value.int z)) (Option.some.inj hv)
theorem x_getL (F : Fx p s m args c cc nL own b D cy) {ci : Nat} {C : String} {T : u_T} {N index : Nat} (hc : vwCl[ci]? = some (C, T, N)) (hci : ci < 12 ∧ fN ci = N) (hin : ∀ w ∈ u_ws C T N, w ∈ WL) {a : Nat} (k : Nat) (hkN : k < N) (hty : ∀ (i : Int32) (l : Int64) (r : Nat), fv b (fT ci k) i l r = .long l) (hlink : Cond.fieldLink own index (T k).1 (T k).2.1 (T k).2.2.1 ∈ WL) {v : Int64} (hv : fL M ci a k = some v) (d : decode cc pc = .ok (.getfield index, 3)) (kk : X p l e R s m args below meth c Q nL b D cy cells slots M (pc + 3) lv (.long v :: rest)) : X p l e R s m args below meth c Q nL b D cy cells slots M pc lv (.ref (b + a) :: rest) := by
  intro H locs ls h1 h2 h3
  obtain ⟨hk, hv⟩ := gdS hv
  have hg := h1.2 a (by rw [hk]; exact Nat.succ_ne_zero _)
  rw [cE_obj hk hci.1] at hg
  refine va_get (D := D) (ci := ci) F.1 F.2.1 F.2.2.2.2.1 hin F.2.2.2.1 F.2.2.2.2.2.1 (P1 hg) 0 rfl hc k hkN (F.2.2.2.2.1 _ hlink) (fun _ h => h) (v := .long v) ?_ d (kk H locs ls h1 h2 h3)
  rw [fE_get (by rw [hci.2]; exact hkN), hty]
  exact congrArg (fun z => some (Value.long z)) (Option.some.inj hv)
theorem x_getR (F : Fx p s m args c cc nL own b D cy) {ci : Nat} {C : String} {T : u_T} {N index : Nat} (hc : vwCl[ci]? = some (C, T, N)) (hci : ci < 12 ∧ fN ci = N) (hin : ∀ w ∈ u_ws C T N, w ∈ WL) {a : Nat} (k : Nat) (hkN : k < N) (hty : ∀ (i : Int32) (l : Int64) (r : Nat), fv b (fT ci k) i l r = va_rf (ro b r)) (hlink : Cond.fieldLink own index (T k).1 (T k).2.1 (T k).2.2.1 ∈ WL) {v : Nat} (hv : fR M ci a k = some v) (d : decode cc pc = .ok (.getfield index, 3)) (kk : X p l e R s m args below meth c Q nL b D cy cells slots M (pc + 3) lv (.ref (b + v) :: rest)) : X p l e R s m args below meth c Q nL b D cy cells slots M pc lv (.ref (b + a) :: rest) := by
  intro H locs ls h1 h2 h3
  obtain ⟨hk, hv⟩ := gdS hv
  have hg := h1.2 a (by rw [hk]; exact Nat.succ_ne_zero _)
  rw [cE_obj hk hci.1] at hg
  refine va_get (D := D) (ci := ci) F.1 F.2.1 F.2.2.2.2.1 hin F.2.2.2.1 F.2.2.2.2.2.1 (P1 hg) 0 rfl hc k hkN (F.2.2.2.2.1 _ hlink) (fun _ h => h) (v := .ref (b + v)) ?_ d (kk H locs ls h1 h2 h3)
  rw [fE_get (by rw [hci.2]; exact hkN), hty]
  rw [gR_some hv]; rfl
/-- field k of class ci in the tables: where it lies, and what it takes -/
theorem fd_k (F : Fx p s m args c cc nL own b D cy) {ci : Nat} {C : String} {T : u_T} {N : Nat} (hc : vwCl[ci]? = some (C, T, N)) (hin : ∀ w ∈ u_ws C T N, w ∈ WL) (hto : ∀ k, k < N → parseFieldDescriptor (T k).2.2.1 = some (fT ci k)) {k : Nat} (hkN : k < N) :
    ∃ (cf : Nat) (kf : Class) (fi : Nat) (f : Field), s.fieldFound? (T k).1 (T k).2.1 (T k).2.2.1 = some (cf, kf, fi, f) ∧ f.slot = D.2 ci k ∧ f.isStatic = false ∧ ∀ v, narrow (fT ci k) v = v → fits (fT ci k) v = true → narrow f.type v = v ∧ s.fitsSlot (D.1 ci) .none f.slot v = true := by
  have K := F.2.2.2.2.2.1.1 ci _ hc
  have w := u_lays F.2.2.2.2.1 hin hkN
  obtain ⟨kC, c1, c2⟩ := K.2.2
  obtain ⟨cf, kf, fi, f, e1, e2⟩ := K.1 k hkN
  exact ⟨cf, kf, fi, f, e1, e2, (u_facts K.2.1 c1 w e1).1, fun v n1 n2 => u_fits K.2.1 c1 c2 w e1 (hto k hkN) n1 n2⟩
/-- one slot of an object written: one entry of its list of fields -/
theorem ob_put {cell : Cell} {N k : Nat} {iS : Nat → Nat} {fs : List Value} (h : ∀ j, j < N → cell.slots[iS j]? = some (vp_V fs j)) (ap : ∀ x y, x < N → y < N → x ≠ y → iS x ≠ iS y) (hk : k < N) (hl : k < fs.length) (v : Value) (j : Nat) (hj : j < N) :
    (cell.setSlot (iS k) v).slots[iS j]? = some (vp_V (fs.set k v) j) := by
  show (cell.slots.setIfInBounds (iS k) v)[iS j]? = some ((fs.set k v).getD j .null)
  rw [List.getD_eq_getElem?_getD]
  by_cases ejk : k = j
  · subst ejk
    rw [Array.getElem?_setIfInBounds_self_of_lt (Array.getElem?_eq_some_iff.mp (h k hj)).1, List.getElem?_set_self hl]
    rfl
  · rw [Array.getElem?_setIfInBounds_ne (ap k j hk hj ejk), List.getElem?_set_ne ejk, ← List.getD_eq_getElem?_getD]
    exact h j hj
/-- a field that may be written here, is written -/
theorem w_fld (F : Fx p s m args c cc nL own b D cy) {ci : Nat} {C : String} {T : u_T} {N index : Nat} (hc : vwCl[ci]? = some (C, T, N)) (hci : ci < 12 ∧ fN ci = N) (hin : ∀ w ∈ u_ws C T N, w ∈ WL) (hto : ∀ k, k < N → parseFieldDescriptor (T k).2.2.1 = some (fT ci k)) (hnm : ∀ a, a < N → ∀ b, b < N → a ≠ b → (T a).2.1 ≠ (T b).2.1) {a : Nat} (k : Nat) (hkN : k < N) (may : ∀ cf kf fi f, s.fieldFound? (T k).1 (T k).2.1 (T k).2.2.1 = some (cf, kf, fi, f) → hasFlag f.accessFlags Acc.final = false ∨ (m.cls = cf ∧ meth.name = "<init>")) (hlink : Cond.fieldLink own index (T k).1 (T k).2.1 (T k).2.2.1 ∈ WL) {v : Value} (hn : narrow (fT ci k) v = v) (hfit : fits (fT ci k) v = true) (hk : mK M a = ci + 1) {H : Heap} {locs : List Loc} {ls : Array Slot} (h1 : Rl b D cy M H) (h2 : va_S (fun q => b ≤ q) s.heap H locs) (d : decode cc pc = .ok (.putfield index, 3))
    (kk : ∀ (H1 : Heap) (locs1 : List Loc), va_at D vwCl (b + a, .inr (ci, (fE b M a ci).set k v)) H1 → H1.size = H.size → (∀ q, q ≠ b + a → H1[q]? = H[q]?) → va_S (fun q => b ≤ q) s.heap H1 locs1 → W p l e R s m args below meth c H1 locs1 cells slots Q (F0 m (pc + 3) ls rest)) : W p l e R s m args below meth c H locs cells slots Q (F0 m pc ls (v :: .ref (b + a) :: rest)) := by
  obtain ⟨cf, kf, fi, f, e1, e2, e3, e4⟩ := fd_k F hc hin hto hkN
  obtain ⟨n1, n2⟩ := e4 v hn hfit
  have ob := h1.2 a (by omega)
  rw [cE_obj hk hci.1] at ob
  obtain ⟨r, hr, cell, at1, cl1, vm1, sl1⟩ := ob
  rw [hc] at hr
  cases hr
  have ap := va_apart (D := D) (tys := ty6 cy) (own := own) F.2.2.2.2.1 hin (fT ci) hto hnm F.2.2.2.2.2.1 hc
  have oq : ∀ q, q ≠ b + a → (H.setIfInBounds (b + a) (cell.setSlot f.slot v))[q]? = H[q]? := fun q hq => Array.getElem?_setIfInBounds_ne (Ne.symm hq)
  have sz : (H.setIfInBounds (b + a) (cell.setSlot f.slot v)).size = H.size := Array.size_setIfInBounds
  refine W.putf F.1 F.2.1 F.2.2.2.1 (F.2.2.2.2.1 _ hlink) e1 e3 (may _ _ _ _ e1) at1 (fun z => nomatch vm1.symm.trans z) (by rw [e2]; exact (Array.getElem?_eq_some_iff.mp (sl1 k hkN)).1) n1 (by rw [cl1, vm1]; exact n2) rfl rfl d ?_
  refine kk _ _ ⟨_, hc, cell.setSlot f.slot v, Array.getElem?_setIfInBounds_self_of_lt (Array.getElem?_eq_some_iff.mp at1).1, cl1, vm1, ?_⟩ sz oq (h2.put sz oq (Nat.le_add_right _ _))
  rw [e2]
  exact ob_put sl1 ap hkN (by rw [fE_len, hci.2]; exact hkN) v
theorem w_put (F : Fx p s m args c cc nL own b D cy) {ci : Nat} {C : String} {T : u_T} {N index : Nat} (hc : vwCl[ci]? = some (C, T, N)) (hci : ci < 12 ∧ fN ci = N) (hin : ∀ w ∈ u_ws C T N, w ∈ WL) (hto : ∀ k, k < N → parseFieldDescriptor (T k).2.2.1 = some (fT ci k)) (hnm : ∀ a, a < N → ∀ b, b < N → a ≠ b → (T a).2.1 ≠ (T b).2.1) {a : Nat} (k : Nat) (hkN : k < N) (hfin : (T k).2.2.2 = false) (hlink : Cond.fieldLink own index (T k).1 (T k).2.1 (T k).2.2.1 ∈ WL) {v : Value} (hn : narrow (fT ci k) v = v) (hfit : fits (fT ci k) v = true) (hk : mK M a = ci + 1) {H : Heap} {locs : List Loc} {ls : Array Slot} (h1 : Rl b D cy M H) (h2 : va_S (fun q => b ≤ q) s.heap H locs) (d : decode cc pc = .ok (.putfield index, 3))
    (kk : ∀ (H1 : Heap) (locs1 : List Loc), va_at D vwCl (b + a, .inr (ci, (fE b M a ci).set k v)) H1 → H1.size = H.size → (∀ q, q ≠ b + a → H1[q]? = H[q]?) → va_S (fun q => b ≤ q) s.heap H1 locs1 → W p l e R s m args below meth c H1 locs1 cells slots Q (F0 m (pc + 3) ls rest)) : W p l e R s m args below meth c H locs cells slots Q (F0 m pc ls (v :: .ref (b + a) :: rest)) := by
  have w : (Cond.lays C (T k).1 (T k).2.1 (T k).2.2.1).before args s = true := by
    have z := F.2.2.2.2.1 _ (hin _ (u_in_lay hkN))
    rw [u_lay, hfin] at z
    exact z
  refine w_fld F hc hci hin hto hnm k hkN (fun cf kf fi f hf => Or.inl ?_) hlink hn hfit hk h1 h2 d kk
  obtain ⟨_, _, _, _, _, _, _, _, hf2, _, hw, _⟩ := Cond.lays_spec w
  rw [hf] at hf2
  cases hf2
  exact hw
theorem w_putF (F : Fx p s m args c cc nL own b D cy) {ci : Nat} {C : String} {T : u_T} {N index : Nat} (hc : vwCl[ci]? = some (C, T, N)) (hci : ci < 12 ∧ fN ci = N) (hin : ∀ w ∈ u_ws C T N, w ∈ WL) (hto : ∀ k, k < N → parseFieldDescriptor (T k).2.2.1 = some (fT ci k)) (hnm : ∀ a, a < N → ∀ b, b < N → a ≠ b → (T a).2.1 ≠ (T b).2.1) {a : Nat} (k : Nat) (hkN : k < N) (hfin : (T k).2.2.2 = true) (hini : meth.name = "<init>") (hdecl : (T k).1 = own) (hlink : Cond.fieldLink own index (T k).1 (T k).2.1 (T k).2.2.1 ∈ WL) {v : Value} (hn : narrow (fT ci k) v = v) (hfit : fits (fT ci k) v = true) (hk : mK M a = ci + 1) {H : Heap} {locs : List Loc} {ls : Array Slot} (h1 : Rl b D cy M H) (h2 : va_S (fun q => b ≤ q) s.heap H locs) (d : decode cc pc = .ok (.putfield index, 3))
    (kk : ∀ (H1 : Heap) (locs1 : List Loc), va_at D vwCl (b + a, .inr (ci, (fE b M a ci).set k v)) H1 → H1.size = H.size → (∀ q, q ≠ b + a → H1[q]? = H[q]?) → va_S (fun q => b ≤ q) s.heap H1 locs1 → W p l e R s m args below meth c H1 locs1 cells slots Q (F0 m (pc + 3) ls rest)) : W p l e R s m args below meth c H locs cells slots Q (F0 m pc ls (v :: .ref (b + a) :: rest)) := by
  have w : (Cond.laysFinal C (T k).1 (T k).2.1 (T k).2.2.1).before args s = true := by
    have z := F.2.2.2.2.1 _ (hin _ (u_in_lay hkN))
    rw [u_lay, hfin] at z
    exact z
  refine w_fld F hc hci hin hto hnm k hkN (fun cf kf fi f hf => Or.inr ⟨?_, hini⟩) hlink hn hfit hk h1 h2 d kk
  obtain ⟨_, _, _, _, _, _, _, _, hf2, _, _, _, hw, _⟩ := Cond.laysFinal_spec w
  rw [hf] at hf2
  cases hf2
  rw [hdecl, F.2.2.2.1] at hw
  exact Option.some.inj hw
theorem x_putI (F : Fx p s m args c cc nL own b D cy) {ci : Nat} {C : String} {T : u_T} {N index : Nat} (hc : vwCl[ci]? = some (C, T, N)) (hci : ci < 12 ∧ fN ci = N) (hin : ∀ w ∈ u_ws C T N, w ∈ WL) (hto : ∀ k, k < N → parseFieldDescriptor (T k).2.2.1 = some (fT ci k)) (hnm : ∀ a, a < N → ∀ b, b < N → a ≠ b → (T a).2.1 ≠ (T b).2.1) {a : Nat} (k : Nat) (hkN : k < N) {v : Int32} (hT0 : fT ci k = .int) (hfin : (T k).2.2.2 = false) (hlink : Cond.fieldLink own index (T k).1 (T k).2.1 (T k).2.2.1 ∈ WL) {M1 : Mem} (hv : pI M ci a k v = some M1) (d : decode cc pc = .ok (.putfield index, 3)) (kk : X p l e R s m args below meth c Q nL b D cy cells slots M1 (pc + 3) lv rest) : X p l e R s m args below meth c Q nL b D cy cells slots M pc lv (.int v :: .ref (b + a) :: rest) := by
  intro H locs ls h1 h2 h3
  obtain ⟨hk, hv⟩ := gdS hv
  have hty2 : ∀ (i : Int32) (l : Int64) (r : Nat), fv b (fT ci k) i l r = .int i := by intro i l r; rw [hT0]; rfl
  refine w_put F hc hci hin hto hnm k hkN hfin hlink (v := .int v) (by rw [hT0]; rfl) (by rw [hT0]; rfl) hk h1 h2 d (fun H1 locs1 g1 g2 g3 g4 => kk H1 locs1 ls ?_ g4 h3)
  cases hv
  refine h1.put (a := a) rfl rfl cE_wI ?_ g2 g3
  rw [cE_obj (M := sI M a k v) hk hci.1]
  rw [fE_set (M' := sI M a k v) (fun j hj => ?_) ?_] at g1
  · exact g1
  · rw [hty2]; simp only [sI, sL, sR, wI, wL, wR, mI, mL, mR, va_up_self, upd, vp_updL, va_up, if_true, ro, va_rf]
  · simp only [sI, sL, sR, wI, wL, wR, mI, mL, mR, va_up_self, upd, vp_updL, va_up, if_true, if_neg hj, true_and, and_self]
theorem x_zfit (v : Int32) : fits .boolean (.int (vp_nar .boolean v)) = true := by
  have h : vp_nar .boolean v = v &&& 1 := rfl
  rw [h]
  rcases ix_b1 v with e | e <;> rw [e] <;> rfl
theorem x_putZ (F : Fx p s m args c cc nL own b D cy) {ci : Nat} {C : String} {T : u_T} {N index : Nat} (hc : vwCl[ci]? = some (C, T, N)) (hci : ci < 12 ∧ fN ci = N) (hin : ∀ w ∈ u_ws C T N, w ∈ WL) (hto : ∀ k, k < N → parseFieldDescriptor (T k).2.2.1 = some (fT ci k)) (hnm : ∀ a, a < N → ∀ b, b < N → a ≠ b → (T a).2.1 ≠ (T b).2.1) {a : Nat} (k : Nat) (hkN : k < N) {v : Int32} (hT0 : fT ci k = .boolean) (hfin : (T k).2.2.2 = false) (hlink : Cond.fieldLink own index (T k).1 (T k).2.1 (T k).2.2.1 ∈ WL) {M1 : Mem} (hv : pZ M ci a k v = some M1) (d : decode cc pc = .ok (.putfield index, 3)) (kk : X p l e R s m args below meth c Q nL b D cy cells slots M1 (pc + 3) lv rest) : X p l e R s m args below meth c Q nL b D cy cells slots M pc lv (.int v :: .ref (b + a) :: rest) := by
  intro H locs ls h1 h2 h3
  obtain ⟨⟨hk, hz⟩, hv⟩ := gdS hv
  have hty2 : ∀ (i : Int32) (l : Int64) (r : Nat), fv b (fT ci k) i l r = .int i := by intro i l r; rw [hT0]; rfl
  refine w_put F hc hci hin hto hnm k hkN hfin hlink (v := .int v) (by rw [hT0]; exact congrArg Value.int hz) (by rw [hT0, ← hz]; exact x_zfit v) hk h1 h2 d (fun H1 locs1 g1 g2 g3 g4 => kk H1 locs1 ls ?_ g4 h3)
  cases hv
  refine h1.put (a := a) rfl rfl cE_wI ?_ g2 g3
  rw [cE_obj (M := sI M a k v) hk hci.1]
  rw [fE_set (M' := sI M a k v) (fun j hj => ?_) ?_] at g1
  · exact g1
  · rw [hty2]; simp only [sI, sL, sR, wI, wL, wR, mI, mL, mR, va_up_self, upd, vp_updL, va_up, if_true, ro, va_rf]
  · simp only [sI, sL, sR, wI, wL, wR, mI, mL, mR, va_up_self, upd, vp_updL, va_up, if_true, if_neg hj, true_and, and_self]
theorem x_putL (F : Fx p s m args c cc nL own b D cy) {ci : Nat} {C : String} {T : u_T} {N index : Nat} (hc : vwCl[ci]? = some (C, T, N)) (hci : ci < 12 ∧ fN ci = N) (hin : ∀ w ∈ u_ws C T N, w ∈ WL) (hto : ∀ k, k < N → parseFieldDescriptor (T k).2.2.1 = some (fT ci k)) (hnm : ∀ a, a < N → ∀ b, b < N → a ≠ b → (T a).2.1 ≠ (T b).2.1) {a : Nat} (k : Nat) (hkN : k < N) {v : Int64} (hT0 : fT ci k = .long) (hfin : (T k).2.2.2 = false) (hlink : Cond.fieldLink own index (T k).1 (T k).2.1 (T k).2.2.1 ∈ WL) {M1 : Mem} (hv : pL M ci a k v = some M1) (d : decode cc pc = .ok (.putfield index, 3)) (kk : X p l e R s m args below meth c Q nL b D cy cells slots M1 (pc + 3) lv rest) : X p l e R s m args below meth c Q nL b D cy cells slots M pc lv (.long v :: .ref (b + a) :: rest) := by
  intro H locs ls h1 h2 h3
  obtain ⟨hk, hv⟩ := gdS hv
  have hty2 : ∀ (i : Int32) (l : Int64) (r : Nat), fv b (fT ci k) i l r = .long l := by intro i l r; rw [hT0]; rfl
  refine w_put F hc hci hin hto hnm k hkN hfin hlink (v := .long v) (by rw [hT0]; rfl) (by rw [hT0]; rfl) hk h1 h2 d (fun H1 locs1 g1 g2 g3 g4 => kk H1 locs1 ls ?_ g4 h3)
  cases hv
  refine h1.put (a := a) rfl rfl cE_wL ?_ g2 g3
  rw [cE_obj (M := sL M a k v) hk hci.1]
  rw [fE_set (M' := sL M a k v) (fun j hj => ?_) ?_] at g1
  · exact g1
  · rw [hty2]; simp only [sI, sL, sR, wI, wL, wR, mI, mL, mR, va_up_self, upd, vp_updL, va_up, if_true, ro, va_rf]
  · simp only [sI, sL, sR, wI, wL, wR, mI, mL, mR, va_up_self, upd, vp_updL, va_up, if_true, if_neg hj, true_and, and_self]
theorem x_putR (F : Fx p s m args c cc nL own b D cy) {ci : Nat} {C : String} {T : u_T} {N index : Nat} (hc : vwCl[ci]? = some (C, T, N)) (hci : ci < 12 ∧ fN ci = N) (hin : ∀ w ∈ u_ws C T N, w ∈ WL) (hto : ∀ k, k < N → parseFieldDescriptor (T k).2.2.1 = some (fT ci k)) (hnm : ∀ a, a < N → ∀ b, b < N → a ≠ b → (T a).2.1 ≠ (T b).2.1) {a : Nat} (k : Nat) (hkN : k < N) {v : Nat} (hT0 : narrow (fT ci k) (.ref (b + v)) = .ref (b + v) ∧ fits (fT ci k) (.ref (b + v)) = true) (hty : ∀ (i : Int32) (l : Int64) (r : Nat), fv b (fT ci k) i l r = va_rf (ro b r)) (hfin : (T k).2.2.2 = false) (hlink : Cond.fieldLink own index (T k).1 (T k).2.1 (T k).2.2.1 ∈ WL) {M1 : Mem} (hv : pR M ci a k v = some M1) (d : decode cc pc = .ok (.putfield index, 3)) (kk : X p l e R s m args below meth c Q nL b D cy cells slots M1 (pc + 3) lv rest) : X p l e R s m args below meth c Q nL b D cy cells slots M pc lv (.ref (b + v) :: .ref (b + a) :: rest) := by
  intro H locs ls h1 h2 h3
  obtain ⟨hk, hv⟩ := gdS hv
  have hty2 : ∀ (i : Int32) (l : Int64) (r : Nat), fv b (fT ci k) i l r = va_rf (ro b r) := by exact hty
  refine w_put F hc hci hin hto hnm k hkN hfin hlink (v := .ref (b + v)) hT0.1 hT0.2 hk h1 h2 d (fun H1 locs1 g1 g2 g3 g4 => kk H1 locs1 ls ?_ g4 h3)
  cases hv
  refine h1.put (a := a) rfl rfl cE_wR ?_ g2 g3
  rw [cE_obj (M := sR M a k v) hk hci.1]
  rw [fE_set (M' := sR M a k v) (fun j hj => ?_) ?_] at g1
  · exact g1
  · rw [hty2]; simp only [sI, sL, sR, wI, wL, wR, mI, mL, mR, va_up_self, upd, vp_updL, va_up, if_true, ro, va_rf]
  · simp only [sI, sL, sR, wI, wL, wR, mI, mL, mR, va_up_self, upd, vp_updL, va_up, if_true, if_neg hj, true_and, and_self]
theorem x_putRF (F : Fx p s m args c cc nL own b D cy) {ci : Nat} {C : String} {T : u_T} {N index : Nat} (hc : vwCl[ci]? = some (C, T, N)) (hci : ci < 12 ∧ fN ci = N) (hin : ∀ w ∈ u_ws C T N, w ∈ WL) (hto : ∀ k, k < N → parseFieldDescriptor (T k).2.2.1 = some (fT ci k)) (hnm : ∀ a, a < N → ∀ b, b < N → a ≠ b → (T a).2.1 ≠ (T b).2.1) {a : Nat} (k : Nat) (hkN : k < N) {v : Nat} (hT0 : narrow (fT ci k) (.ref (b + v)) = .ref (b + v) ∧ fits (fT ci k) (.ref (b + v)) = true) (hty : ∀ (i : Int32) (l : Int64) (r : Nat), fv b (fT ci k) i l r = va_rf (ro b r)) (hfin : (T k).2.2.2 = true) (hini : meth.name = "<init>") (hdecl : (T k).1 = own) (hlink : Cond.fieldLink own index (T k).1 (T k).2.1 (T k).2.2.1 ∈ WL) {M1 : Mem} (hv : pR M ci a k v = some M1) (d : decode cc pc = .ok (.putfield index, 3)) (kk : X p l e R s m args below meth c Q nL b D cy cells slots M1 (pc + 3) lv rest) : X p l e R s m args below meth c Q nL b D cy cells slots M pc lv (.ref (b + v) :: .ref (b + a) :: rest) := by
  intro H locs ls h1 h2 h3
  obtain ⟨hk, hv⟩ := gdS hv
  have hty2 : ∀ (i : Int32) (l : Int64) (r : Nat), fv b (fT ci k) i l r = va_rf (ro b r) := by exact hty
  refine w_putF F hc hci hin hto hnm k hkN hfin hini hdecl hlink (v := .ref (b + v)) hT0.1 hT0.2 hk h1 h2 d (fun H1 locs1 g1 g2 g3 g4 => kk H1 locs1 ls ?_ g4 h3)
  cases hv
  refine h1.put (a := a) rfl rfl cE_wR ?_ g2 g3
  rw [cE_obj (M := sR M a k v) hk hci.1]
  rw [fE_set (M' := sR M a k v) (fun j hj => ?_) ?_] at g1
  · exact g1
  · rw [hty2]; simp only [sI, sL, sR, wI, wL, wR, mI, mL, mR, va_up_self, upd, vp_updL, va_up, if_true, ro, va_rf]
  · simp only [sI, sL, sR, wI, wL, wR, mI, mL, mR, va_up_self, upd, vp_updL, va_up, if_true, if_neg hj, true_and, and_self]
theorem x_aI (F : Fx p s m args c cc nL own b D cy) {a : Nat} {i : Int32} {v : Int32} (hv : aI M a i = some v) (d : decode cc pc = .ok (.iaload, 1)) (kk : X p l e R s m args below meth c Q nL b D cy cells slots M (pc + 1) lv (.int v :: rest)) : X p l e R s m args below meth c Q nL b D cy cells slots M pc lv (.int i :: .ref (b + a) :: rest) := by
  intro H locs ls h1 h2 h3
  obtain ⟨⟨hk, hi⟩, hv⟩ := gdS hv
  have hg := h1.2 a (by rw [hk]; decide)
  rw [cE_20 hk] at hg
  cases hv
  exact va_iald (D := D) F.1 F.2.1 F.2.2.2.2.2.1 (P1 hg) 0 0 rfl rfl hi d (kk H locs ls h1 h2 h3)
theorem x_aL (F : Fx p s m args c cc nL own b D cy) {a : Nat} {i : Int32} {v : Int64} (hv : aL M a i = some v) (d : decode cc pc = .ok (.laload, 1)) (kk : X p l e R s m args below meth c Q nL b D cy cells slots M (pc + 1) lv (.long v :: rest)) : X p l e R s m args below meth c Q nL b D cy cells slots M pc lv (.int i :: .ref (b + a) :: rest) := by
  intro H locs ls h1 h2 h3
  obtain ⟨⟨hk, hi⟩, hv⟩ := gdS hv
  have hg := h1.2 a (by rw [hk]; decide)
  rw [cE_21 hk] at hg
  cases hv
  exact va_lald (D := D) F.1 F.2.1 F.2.2.2.2.2.1 (P1 hg) 0 1 rfl rfl hi d (kk H locs ls h1 h2 h3)
theorem x_aZ (F : Fx p s m args c cc nL own b D cy) {a : Nat} {i : Int32} {v : Int32} (hv : aZ M a i = some v) (d : decode cc pc = .ok (.baload, 1)) (kk : X p l e R s m args below meth c Q nL b D cy cells slots M (pc + 1) lv (.int v :: rest)) : X p l e R s m args below meth c Q nL b D cy cells slots M pc lv (.int i :: .ref (b + a) :: rest) := by
  intro H locs ls h1 h2 h3
  obtain ⟨⟨hk, hi⟩, hv⟩ := gdS hv
  have hg := h1.2 a (by rw [hk]; decide)
  rw [cE_22 hk] at hg
  cases hv
  exact va_zald (D := D) F.1 F.2.1 F.2.2.2.2.2.1 (P1 hg) 0 2 rfl rfl hi d (kk H locs ls h1 h2 h3)
theorem x_aR (F : Fx p s m args c cc nL own b D cy) {kd a : Nat} (t0 : Nat) {C : String} (ht : (ty6 cy)[t0]? = some (cy (kd - 20), .object C)) (h23 : 23 ≤ kd) {i : Int32} {v : Nat} (hv : aR M kd a i = some v) (d : decode cc pc = .ok (.aaload, 1)) (kk : X p l e R s m args below meth c Q nL b D cy cells slots M (pc + 1) lv (.ref (b + v) :: rest)) : X p l e R s m args below meth c Q nL b D cy cells slots M pc lv (.int i :: .ref (b + a) :: rest) := by
  intro H locs ls h1 h2 h3
  obtain ⟨⟨hk, hi⟩, hv⟩ := gdS hv
  have hg := h1.2 a (by rw [hk]; omega)
  rw [cE_23 (by rw [hk]; exact h23), hk] at hg
  refine va_aldq (D := D) F.1 F.2.1 F.2.2.2.2.2.1 (P1 hg) 0 t0 rfl ht hi d ?_
  rw [gR_some hv]
  exact kk H locs ls h1 h2 h3
/-- stores: the place is within; one place of a row written; what the memory says of the row then -/
theorem st_in {cl : ClassId} {n : Nat} {g : Nat → Value} {i : Int32} (h : ib i n) : ¬ (i < 0 ∨ (arrV cl n g).slots.size ≤ i.toNatClampNeg) := (arrV_size cl n g).symm ▸ h
theorem st_row {α : Type} (wr : α → Value) (cl : ClassId) (n k : Nat) (u : Nat → α) (v : α) : (arrV cl n (fun j => wr (u j))).setSlot k (wr v) = arrV cl n (fun j => wr (if j = k then v else u j)) :=
  (arrV_store cl n k _ _).trans (congrArg (arrV cl n) (funext fun j => (apply_ite wr (j = k) v (u j)).symm))
theorem sI_row {M : Mem} {a k : Nat} {v : Int32} : mI (sI M a k v) a = fun j => if j = k then v else mI M a j := va_up_self ..
theorem sL_row {M : Mem} {a k : Nat} {v : Int64} : mL (sL M a k v) a = fun j => if j = k then v else mL M a j := va_up_self ..
theorem sR_row {M : Mem} {a k v : Nat} : mR (sR M a k v) a = fun j => if j = k then v + 1 else mR M a j := va_up_self ..
theorem x_tI (F : Fx p s m args c cc nL own b D cy) {a : Nat} {i : Int32} {v : Int32} {M1 : Mem} (hv : tI M a i v = some M1) (d : decode cc pc = .ok (.iastore, 1)) (kk : X p l e R s m args below meth c Q nL b D cy cells slots M1 (pc + 1) lv rest) : X p l e R s m args below meth c Q nL b D cy cells slots M pc lv (.int v :: .int i :: .ref (b + a) :: rest) := by
  obtain ⟨⟨kd, pl⟩, eq⟩ := gdS hv
  cases eq
  intro H locs ls mem fr ok
  have old := mem.2 a (by omega)
  rw [cE_20 kd] at old
  have kind := (F.2.2.2.2.2.1.2 0 _ rfl).1 (mN M a) (fun j => .int (mI M a j))
  exact W.iast F.1 F.2.1 old kind nofun (st_in pl) rfl rfl d fun H1 new sz same =>
    kk H1 _ ls (mem.put rfl rfl cE_wI (by rw [cE_20 (M := sI M a i.toNatClampNeg v) kd, sI_row]; exact new.trans (congrArg some (st_row .int ..))) sz same) (fr.put sz same (Nat.le_add_right b a)) ok
theorem x_tL (F : Fx p s m args c cc nL own b D cy) {a : Nat} {i : Int32} {v : Int64} {M1 : Mem} (hv : tL M a i v = some M1) (d : decode cc pc = .ok (.lastore, 1)) (kk : X p l e R s m args below meth c Q nL b D cy cells slots M1 (pc + 1) lv rest) : X p l e R s m args below meth c Q nL b D cy cells slots M pc lv (.long v :: .int i :: .ref (b + a) :: rest) := by
  obtain ⟨⟨kd, pl⟩, eq⟩ := gdS hv
  cases eq
  intro H locs ls mem fr ok
  have old := mem.2 a (by omega)
  rw [cE_21 kd] at old
  have kind := (F.2.2.2.2.2.1.2 1 _ rfl).1 (mN M a) (fun j => .long (mL M a j))
  exact W.last F.1 F.2.1 old kind nofun (st_in pl) rfl rfl d fun H1 new sz same =>
    kk H1 _ ls (mem.put rfl rfl cE_wL (by rw [cE_21 (M := sL M a i.toNatClampNeg v) kd, sL_row]; exact new.trans (congrArg some (st_row .long ..))) sz same) (fr.put sz same (Nat.le_add_right b a)) ok
theorem x_tZ (F : Fx p s m args c cc nL own b D cy) {a : Nat} {i : Int32} {v : Int32} {M1 : Mem} (hv : tZ M a i v = some M1) (d : decode cc pc = .ok (.bastore, 1)) (kk : X p l e R s m args below meth c Q nL b D cy cells slots M1 (pc + 1) lv rest) : X p l e R s m args below meth c Q nL b D cy cells slots M pc lv (.int v :: .int i :: .ref (b + a) :: rest) := by
  obtain ⟨⟨kd, pl⟩, eq⟩ := gdS hv
  cases eq
  intro H locs ls mem fr ok
  have old := mem.2 a (by omega)
  rw [cE_22 kd] at old
  have kind := (F.2.2.2.2.2.1.2 2 _ rfl).1 (mN M a) (fun j => .int (mI M a j))
  exact W.zast F.1 F.2.1 old kind nofun (st_in pl) rfl rfl d fun H1 new sz same =>
    kk H1 _ ls (mem.put rfl rfl cE_wI (by rw [cE_22 (M := sI M a i.toNatClampNeg (vp_nar .boolean v)) kd, sI_row]; exact new.trans (congrArg some (st_row .int ..))) sz same) (fr.put sz same (Nat.le_add_right b a)) ok
theorem x_tR (F : Fx p s m args c cc nL own b D cy) {kd cv a : Nat} (t0 : Nat) {r : vw_C} (ht : (ty6 cy)[t0]? = some (cy (kd - 20), .object r.1)) (hcv : vwCl[cv]? = some r) (hc12 : cv < 12) (h23 : 23 ≤ kd) {i : Int32} {v : Nat} {M1 : Mem} (hv : tR M kd cv a i v = some M1) (d : decode cc pc = .ok (.aastore, 1)) (kk : X p l e R s m args below meth c Q nL b D cy cells slots M1 (pc + 1) lv rest) : X p l e R s m args below meth c Q nL b D cy cells slots M pc lv (.ref (b + v) :: .int i :: .ref (b + a) :: rest) := by
  intro H locs ls h1 h2 h3
  obtain ⟨⟨hk, hi, hkv⟩, hv⟩ := gdS hv
  have row := h1.2 a (by omega)
  have val := h1.2 v (by omega)
  rw [cE_23 (by omega), hk] at row
  rw [cE_obj hkv hc12] at val
  obtain ⟨_, _, vc, at2, cl2, vm2, _⟩ := val
  have known := (F.2.2.2.2.2.1.1 cv r hcv).2
  obtain ⟨kC, cl3, _⟩ := known.2
  have same := va_assign known
  obtain ⟨_, comp, k1, k2, k3, _⟩ := (F.2.2.2.2.2.1.2 t0 _ ht).2
  rw [known.1] at k3
  cases k3
  rw [← cl2] at cl3
  have fit : s.vm.assignable vc.cls (D.1 cv) = true := by rw [cl2]; exact same
  have ins : ¬ i < 0 ∧ i.toNatClampNeg < (arrV (cy (kd - 20)) (mN M a) (fun j => va_rf (ro b (mR M a j)))).slots.size := by
    rw [arrV_size]
    exact ⟨fun z => hi (Or.inl z), Nat.lt_of_not_le fun z => hi (Or.inr z)⟩
  cases hv
  have hk' : mK (sR M a i.toNatClampNeg v) a = kd := hk
  exact W.aast F.1 F.2.1 row (fun _ z => nomatch z) (fun z => nomatch z) k1 k2 rfl (cl2 ▸ cl3) ins at2 (fun _ z => nomatch vm2.symm.trans z) cl3 fit rfl rfl d fun H1 new sz same =>
    kk H1 _ ls (h1.put rfl rfl cE_wR (by rw [cE_23 (M := sR M a i.toNatClampNeg v) (by rw [hk']; exact h23), hk', sR_row]; exact new.trans (congrArg some (st_row (fun r => va_rf (ro b r)) _ _ _ _ (v + 1)))) sz same) (h2.put sz same (Nat.le_add_right b a)) h3
theorem x_nA (F : Fx p s m args c cc nL own b D cy) {a : Nat} {v : Int32} (hv : nA M a = some v) (d : decode cc pc = .ok (.arraylength, 1)) (kk : X p l e R s m args below meth c Q nL b D cy cells slots M (pc + 1) lv (.int v :: rest)) : X p l e R s m args below meth c Q nL b D cy cells slots M pc lv (.ref (b + a) :: rest) := by
  intro H locs ls h1 h2 h3
  obtain ⟨⟨hk, hk2⟩, hv⟩ := gdS hv
  have hg := h1.2 a (by omega)
  cases hv
  by_cases e0 : mK M a = 20
  · rw [cE_20 e0] at hg
    exact va_alen (D := D) F.1 F.2.1 F.2.2.2.2.2.1 (P1 hg) 0 0 rfl rfl rfl d (kk H locs ls h1 h2 h3)
  · by_cases e1 : mK M a = 21
    · rw [cE_21 e1] at hg
      exact va_alen (D := D) F.1 F.2.1 F.2.2.2.2.2.1 (P1 hg) 0 1 rfl rfl rfl d (kk H locs ls h1 h2 h3)
    · by_cases e2 : mK M a = 22
      · rw [cE_22 e2] at hg
        exact va_alen (D := D) F.1 F.2.1 F.2.2.2.2.2.1 (P1 hg) 0 2 rfl rfl rfl d (kk H locs ls h1 h2 h3)
      · rw [cE_23 (by omega)] at hg
        have ht : ∃ ty, (ty6 cy)[mK M a - 20]? = some (cy (mK M a - 20), ty) := by
          rcases (show mK M a = 23 ∨ mK M a = 24 ∨ mK M a = 25 by omega) with e | e | e <;> rw [e] <;> exact ⟨_, rfl⟩
        obtain ⟨ty, ht⟩ := ht
        exact va_alen (D := D) F.1 F.2.1 F.2.2.2.2.2.1 (P1 hg) 0 (mK M a - 20) rfl ht rfl d (kk H locs ls h1 h2 h3)
theorem x_stk (F : Fx p s m args c cc nL own b D cy) {index : Nat} (hn : Cond.fieldLinkNest own index RX10 "STROKES" "[I" RX10 ∈ nestWs) (d : decode cc pc = .ok (.getstatic index, 3)) (kk : ∀ aS : Nat, va_T .int aS 10 (fun j => .int (stk j)) (fun q => b ≤ q) s s.heap → X p l e R s m args below meth c Q nL b D cy cells slots M (pc + 3) lv (.ref aS :: rest)) : X p l e R s m args below meth c Q nL b D cy cells slots M pc lv rest := by
  intro H locs ls h1 h2 h3
  obtain ⟨⟨aS, g1, g2⟩, g5, -⟩ := F.2.2.2.2.2.2.2
  exact va_getsN (A := fun q => b ≤ q) F.1 F.2.1 g1 h2 F.2.2.2.1 (va_Nw.use rfl (g5 _ hn)) (fun _ h => h) d (kk aS g2 H locs ls h1 h2 h3)
theorem x_kS (F : Fx p s m args c cc nL own b D cy) {aS : Nat} (g2 : va_T .int aS 10 (fun j => .int (stk j)) (fun q => b ≤ q) s s.heap) {i v : Int32} (hv : kS i = some v) (d : decode cc pc = .ok (.iaload, 1)) (kk : X p l e R s m args below meth c Q nL b D cy cells slots M (pc + 1) lv (.int v :: rest)) : X p l e R s m args below meth c Q nL b D cy cells slots M pc lv (.int i :: .ref aS :: rest) := by
  intro H locs ls h1 h2 h3
  obtain ⟨hi, hv⟩ := gdS hv
  cases hv
  exact va_ti (A := fun q => b ≤ q) F.1 F.2.1 g2 h2 hi rfl d (kk H locs ls h1 h2 h3)
theorem x_iret (F : Fx p s m args c cc nL own b D cy) (hr : meth.sig.returnType = some .int) (hl : meth.locks = false) {v : Int32} (d : decode cc pc = .ok (.ireturn, 1)) : X p l e R s m args below meth c (MQ below (Qm b D cy (some (.int v)) M) args s cells slots (fun q => b ≤ q)) nL b D cy cells slots M pc lv [.int v] := fun H locs ls h1 h2 h3 => W.iret F.1 F.2.1 hr (fun t ht hW => ⟨rfl, by rw [ht]; exact h1, h2.F ht⟩) h2.2.2 d hl
theorem x_lret (F : Fx p s m args c cc nL own b D cy) (hr : meth.sig.returnType = some .long) (hl : meth.locks = false) {v : Int64} (d : decode cc pc = .ok (.lreturn, 1)) : X p l e R s m args below meth c (MQ below (Qm b D cy (some (.long v)) M) args s cells slots (fun q => b ≤ q)) nL b D cy cells slots M pc lv [.long v] := fun H locs ls h1 h2 h3 => W.lret F.1 F.2.1 hr (fun t ht hW => ⟨rfl, by rw [ht]; exact h1, h2.F ht⟩) h2.2.2 d hl
theorem x_zret (F : Fx p s m args c cc nL own b D cy) (hr : meth.sig.returnType = some .boolean) (hl : meth.locks = false) {v : Int32} (hz : vp_nar .boolean v = v) (d : decode cc pc = .ok (.ireturn, 1)) : X p l e R s m args below meth c (MQ below (Qm b D cy (some (.int v)) M) args s cells slots (fun q => b ≤ q)) nL b D cy cells slots M pc lv [.int v] := fun H locs ls h1 h2 h3 => W.zret F.1 F.2.1 hr (by rw [nar_z, hz]) (fun t ht hW => ⟨rfl, by rw [ht]; exact h1, h2.F ht⟩) h2.2.2 d hl
theorem x_vret (F : Fx p s m args c cc nL own b D cy) (hr : meth.sig.returnType = none) (hl : meth.locks = false) (d : decode cc pc = .ok (.return_, 1)) : X p l e R s m args below meth c (MQ below (Qm b D cy none M) args s cells slots (fun q => b ≤ q)) nL b D cy cells slots M pc lv [] := fun H locs ls h1 h2 h3 => W.vret F.1 F.2.1 hr (fun t ht hW => ⟨rfl, by rw [ht]; exact h1, h2.F ht⟩) h2.2.2 d hl
/-- more was done on the heap, within A -/
theorem s_on {A : Nat → Prop} {H0 H H' : Heap} {locs : List Loc} (x : va_S A H0 H locs) (sz : H.size ≤ H'.size) (same : ∀ q, q < H.size → ¬ A q → H'[q]? = H[q]?) : va_S A H0 H' locs := ⟨Nat.le_trans x.1 sz, fun q lt no => (same q (Nat.lt_of_lt_of_le lt x.1) no).trans (x.2.1 q lt no), x.2.2⟩
theorem s_cat {A : Nat → Prop} {H0 H : Heap} {locs more : List Loc} (x : va_S A H0 H locs) (y : ∀ z ∈ more, A z.base) : va_S A H0 H (locs ++ more) := ⟨x.1, x.2.1, List.forall_mem_append.mpr ⟨x.2.2, y⟩⟩
theorem w_call {Mf : Mem} {res : Option Value} {dz ds : Nat} {a : Array Value} {st0 : List Value} {H : Heap} {locs : List Loc} {ls : Array Slot} (hr : va_Run p l e R s m args below meth c H locs cells slots dz ds (F0 m pc ls st0) rest (Qm b D cy res Mf a) (fun q => b ≤ q)) (h2 : va_S (fun q => b ≤ q) s.heap H locs) (h3 : lv_has ls nL lv)
    (kk : X p l e R s m args below meth c Q nL b D cy (cells + dz) (slots + ds) Mf (pc + 3) lv (res.toList ++ rest)) : W p l e R s m args below meth c H locs cells slots Q (F0 m pc ls st0) := fun U atU S => by
  obtain ⟨_, u, t, V, more, same, SV, within, atV, -, ⟨ans, mem, fr⟩, back⟩ := hr U atU S
  cases ans
  subst same
  have rest' := kk t.heap (locs ++ more) ls mem (s_cat (s_on h2 fr.1 fr.2) within) h3 V atV SV
  exact rest'.imp fun w hw => ⟨back w hw.1, hw.2⟩
theorem w_preS (F : Fx p s m args c cc nL own b D cy) {As : List Value} {H : Heap} {locs : List Loc} (h1 : Rl b D cy M H) (h2 : va_S (fun q => b ≤ q) s.heap H locs) : PreS s H (va_Pc As (Pre b D cy M)) As := ⟨Pre.blind, fun U hU hW => ⟨rfl, by rw [hU]; exact h1, va_K.moved hW.alike F.2.2.2.2.2.1, by rw [hU]; exact Nat.le_trans F.2.2.2.2.2.2.1 h2.1, F.2.2.2.2.2.2.2.move h2 hU hW⟩⟩
theorem w_preV (F : Fx p s m args c cc nL own b D cy) {As : List Value} {a ci : Nat} {q : vw_C} (hc : vwCl[ci]? = some q) (hci : ci < 12) (hk : mK M a = ci + 1) {H : Heap} {locs : List Loc} (h1 : Rl b D cy M H) (h2 : va_S (fun q => b ≤ q) s.heap H locs) : PreV s H q.1 (b + a) (va_Pc (.ref (b + a) :: As) (Pre b D cy M)) As := by
  have hg := h1.2 a (by rw [hk]; exact Nat.succ_ne_zero _)
  rw [cE_obj hk hci] at hg
  exact ⟨Pre.blind, va_recv F.2.2.2.2.2.1 (P1 hg) hc (q0 := 0) rfl, (w_preS F h1 h2).2⟩
theorem x_callV (F : Fx p s m args c cc nL own b D cy) {y : MethodName} {bytes : ByteArray} {maxL index n dz ds : Nat} {ret : Option FieldType} {As st0 : List Value} {Mf : Mem} {res : Option Value} {a ci : Nat} {q : vw_C} (hc : vwCl[ci]? = some q) (hci : ci < 12) (hk : mK M a = ci + 1) (hM : Ct l y bytes maxL ret n dz ds b D cy (.ref (b + a) :: As) M res Mf) (m1 : Cond.methodLink own index y ∈ WL) (m2 : Cond.instanceMethod y ∈ WL) (m3 : Cond.selects q.1 y y ∈ WL) (m4 : Cond.initialized q.1 ∈ WL) (m5 : Cond.code y bytes maxL ret ∈ WL) (hd : y.cls = q.1 ∧ y.cls ≠ "java/lang/invoke/MethodHandle" ∧ y.cls ≠ "java/lang/invoke/VarHandle" ∧ (parseMethodDescriptor y.desc).map (fun d => d.parameters.length) = some As.length) (hR : n + 1 ≤ R.frames ∧ 8 + (maxL + 11) + 100 * n ≤ R.locals) (hcap : cells + dz ≤ R.cells ∧ slots + ds ≤ R.slots) (hW : (rest.map fun v => v.category).sum ≤ 8) (hst : st0 = As.reverse ++ .ref (b + a) :: rest) (d : decode cc pc = .ok (.invokevirtual index, 3)) (kk : X p l e R s m args below meth c Q nL b D cy (cells + dz) (slots + ds) Mf (pc + 3) lv (res.toList ++ rest)) : X p l e R s m args below meth c Q nL b D cy cells slots M pc lv st0 := fun H locs ls h1 h2 h3 =>
  w_call (va_runV (As := As) (rest := rest) ⟨F.1, F.2.1, F.2.2.1, F.2.2.2.1, F.2.2.2.2.1⟩ hM (cwV As.length F.2.2.2.2.1 (WL_V m1 m2 m3 m4 m5) rfl rfl rfl hd hR) (w_preV F hc hci hk h1 h2) rfl rfl h3.1 hst (lv_room hW) d hcap) h2 h3 kk
theorem x_callS (F : Fx p s m args c cc nL own b D cy) {y : MethodName} {bytes : ByteArray} {maxL index n dz ds : Nat} {ret : Option FieldType} {As st0 : List Value} {Mf : Mem} {res : Option Value}  (hM : Ct l y bytes maxL ret n dz ds b D cy As M res Mf) (m1 : Cond.methodLink own index y ∈ WL) (m2 : Cond.static y ∈ WL) (m4 : Cond.initialized y.cls ∈ WL) (m5 : Cond.code y bytes maxL ret ∈ WL) (hd : y.cls ≠ "java/lang/invoke/MethodHandle" ∧ y.cls ≠ "java/lang/invoke/VarHandle" ∧ (parseMethodDescriptor y.desc).map (fun d => d.parameters.length) = some As.length) (hR : n + 1 ≤ R.frames ∧ 8 + (maxL + 11) + 100 * n ≤ R.locals) (hcap : cells + dz ≤ R.cells ∧ slots + ds ≤ R.slots) (hW : (rest.map fun v => v.category).sum ≤ 8) (hst : st0 = As.reverse ++ rest) (d : decode cc pc = .ok (.invokestatic index, 3)) (kk : X p l e R s m args below meth c Q nL b D cy (cells + dz) (slots + ds) Mf (pc + 3) lv (res.toList ++ rest)) : X p l e R s m args below meth c Q nL b D cy cells slots M pc lv st0 := fun H locs ls h1 h2 h3 =>
  w_call (va_runS (As := As) (rest := rest) ⟨F.1, F.2.1, F.2.2.1, F.2.2.2.1, F.2.2.2.2.1⟩ hM (va_cwS As.length F.2.2.2.2.1 (WL_S m1 m2 m4 m5) rfl rfl rfl hd hR) (w_preS F h1 h2) rfl rfl h3.1 hst (lv_room hW) d hcap) h2 h3 kk
theorem x_callI (F : Fx p s m args c cc nL own b D cy) {y : MethodName} {bytes : ByteArray} {maxL index n dz ds : Nat} {As st0 : List Value} {Mf : Mem} {res : Option Value} {a : Nat} (hM : Ct l y bytes maxL none n dz ds b D cy (.ref (b + a) :: As) M res Mf) (m5 : Cond.code y bytes maxL none ∈ WL) (hi1 : Cond.initialized y.cls ∈ WL) (hi2 : Cond.methodLink own index y ∈ WL) (hi3 : Cond.instanceMethod y ∈ WL) (hy1 : y.name = "<init>") (hd : y.cls ≠ "java/lang/invoke/MethodHandle" ∧ y.cls ≠ "java/lang/invoke/VarHandle" ∧ (parseMethodDescriptor y.desc).map (fun d => d.parameters.length) = some As.length) (hR : n + 1 ≤ R.frames ∧ 8 + (maxL + 11) + 100 * n ≤ R.locals) (hcap : cells + dz ≤ R.cells ∧ slots + ds ≤ R.slots) (hW : (rest.map fun v => v.category).sum ≤ 8) (hst : st0 = As.reverse ++ .ref (b + a) :: rest) (d : decode cc pc = .ok (.invokespecial index, 3)) (kk : X p l e R s m args below meth c Q nL b D cy (cells + dz) (slots + ds) Mf (pc + 3) lv (res.toList ++ rest)) : X p l e R s m args below meth c Q nL b D cy cells slots M pc lv st0 := fun H locs ls h1 h2 h3 =>
  w_call (va_runI (As := As) (rest := rest) ⟨F.1, F.2.1, F.2.2.1, F.2.2.2.1, F.2.2.2.2.1⟩ hM (cwI As.length F.2.2.2.2.1 (WL_C m5) rfl rfl rfl (F.2.2.2.2.1 _ hi1) (F.2.2.2.2.1 _ hi2) (F.2.2.2.2.1 _ hi3) hy1 hd hR) (w_preS F h1 h2) rfl rfl h3.1 hst (lv_room hW) d hcap) h2 h3 kk
theorem x_callSN (F : Fx p s m args c cc nL own b D cy) {y : MethodName} {bytes : ByteArray} {maxL index n dz ds : Nat} {ret : Option FieldType} {As st0 : List Value} {Mf : Mem} {res : Option Value} {host : String} (hM : Ct l y bytes maxL ret n dz ds b D cy As M res Mf) (m5 : Cond.code y bytes maxL ret ∈ WL) (hn : Cond.methodLinkNest own index y host ∈ nestWs) (hi1 : Cond.initialized y.cls ∈ WL) (hi2 : Cond.static y ∈ WL) (hd : y.cls ≠ "java/lang/invoke/MethodHandle" ∧ y.cls ≠ "java/lang/invoke/VarHandle" ∧ (parseMethodDescriptor y.desc).map (fun d => d.parameters.length) = some As.length) (hR : n + 1 ≤ R.frames ∧ 8 + (maxL + 11) + 100 * n ≤ R.locals) (hcap : cells + dz ≤ R.cells ∧ slots + ds ≤ R.slots) (hW : (rest.map fun v => v.category).sum ≤ 8) (hst : st0 = As.reverse ++ rest) (d : decode cc pc = .ok (.invokestatic index, 3)) (kk : X p l e R s m args below meth c Q nL b D cy (cells + dz) (slots + ds) Mf (pc + 3) lv (res.toList ++ rest)) : X p l e R s m args below meth c Q nL b D cy cells slots M pc lv st0 := fun H locs ls h1 h2 h3 =>
  w_call (va_runSN (As := As) (rest := rest) ⟨F.1, F.2.1, F.2.2.1, F.2.2.2.1, F.2.2.2.2.1⟩ hM ⟨(va_cnB As.length F.2.2.2.2.1 (WL_C m5) rfl rfl rfl (F.2.2.2.2.2.2.2.2.1 _ hn) (F.2.2.2.2.1 _ hi1) hd hR), F.2.2.2.2.1 _ hi2, trivial⟩ (w_preS F h1 h2) rfl rfl h3.1 hst (lv_room hW) d hcap) h2 h3 kk
theorem x_callVN (F : Fx p s m args c cc nL own b D cy) {y : MethodName} {bytes : ByteArray} {maxL index n dz ds : Nat} {ret : Option FieldType} {As st0 : List Value} {Mf : Mem} {res : Option Value} {host : String} {a ci : Nat} {q : vw_C} (hc : vwCl[ci]? = some q) (hci : ci < 12) (hk : mK M a = ci + 1) (hM : Ct l y bytes maxL ret n dz ds b D cy (.ref (b + a) :: As) M res Mf) (m5 : Cond.code y bytes maxL ret ∈ WL) (hn : Cond.methodLinkNest own index y host ∈ nestWs) (hi1 : Cond.initialized y.cls ∈ WL) (hi2 : Cond.instanceMethod y ∈ WL) (hi3 : Cond.selects q.1 y y ∈ WL) (hd : y.cls ≠ "java/lang/invoke/MethodHandle" ∧ y.cls ≠ "java/lang/invoke/VarHandle" ∧ (parseMethodDescriptor y.desc).map (fun d => d.parameters.length) = some As.length) (hR : n + 1 ≤ R.frames ∧ 8 + (maxL + 11) + 100 * n ≤ R.locals) (hcap : cells + dz ≤ R.cells ∧ slots + ds ≤ R.slots) (hW : (rest.map fun v => v.category).sum ≤ 8) (hst : st0 = As.reverse ++ .ref (b + a) :: rest) (d : decode cc pc = .ok (.invokevirtual index, 3)) (kk : X p l e R s m args below meth c Q nL b D cy (cells + dz) (slots + ds) Mf (pc + 3) lv (res.toList ++ rest)) : X p l e R s m args below meth c Q nL b D cy cells slots M pc lv st0 := fun H locs ls h1 h2 h3 =>
  w_call (va_runVN (As := As) (rest := rest) ⟨F.1, F.2.1, F.2.2.1, F.2.2.2.1, F.2.2.2.2.1⟩ hM ⟨(va_cnB As.length F.2.2.2.2.1 (WL_C m5) rfl rfl rfl (F.2.2.2.2.2.2.2.2.1 _ hn) (F.2.2.2.2.1 _ hi1) hd hR), F.2.2.2.2.1 _ hi2, F.2.2.2.2.1 _ hi3⟩ (w_preV F hc hci hk h1 h2) rfl rfl h3.1 hst (lv_room hW) d hcap) h2 h3 kk
theorem x_callIN (F : Fx p s m args c cc nL own b D cy) {y : MethodName} {bytes : ByteArray} {maxL index n dz ds : Nat} {As st0 : List Value} {Mf : Mem} {res : Option Value} {host : String} {a : Nat} (hM : Ct l y bytes maxL none n dz ds b D cy (.ref (b + a) :: As) M res Mf) (m5 : Cond.code y bytes maxL none ∈ WL) (hn : Cond.methodLinkNest own index y host ∈ nestWs) (hi1 : Cond.initialized y.cls ∈ WL) (hi2 : Cond.instanceMethod y ∈ WL) (hy1 : y.name = "<init>") (hd : y.cls ≠ "java/lang/invoke/MethodHandle" ∧ y.cls ≠ "java/lang/invoke/VarHandle" ∧ (parseMethodDescriptor y.desc).map (fun d => d.parameters.length) = some As.length) (hR : n + 1 ≤ R.frames ∧ 8 + (maxL + 11) + 100 * n ≤ R.locals) (hcap : cells + dz ≤ R.cells ∧ slots + ds ≤ R.slots) (hW : (rest.map fun v => v.category).sum ≤ 8) (hst : st0 = As.reverse ++ .ref (b + a) :: rest) (d : decode cc pc = .ok (.invokespecial index, 3)) (kk : X p l e R s m args below meth c Q nL b D cy (cells + dz) (slots + ds) Mf (pc + 3) lv (res.toList ++ rest)) : X p l e R s m args below meth c Q nL b D cy cells slots M pc lv st0 := fun H locs ls h1 h2 h3 =>
  w_call (va_runIN (As := As) (rest := rest) ⟨F.1, F.2.1, F.2.2.1, F.2.2.2.1, F.2.2.2.2.1⟩ hM ⟨(va_cnB As.length F.2.2.2.2.1 (WL_C m5) rfl rfl rfl (F.2.2.2.2.2.2.2.2.1 _ hn) (F.2.2.2.2.1 _ hi1) hd hR), hy1, F.2.2.2.2.1 _ hi2⟩ (w_preS F h1 h2) rfl rfl h3.1 hst (lv_room hW) d hcap) h2 h3 kk
theorem x_min (F : Fx p s m args c cc nL own b D cy) {index : Nat} {x y : Int32} (hl : Cond.methodLink own index Lib.Math.min.name ∈ WL) (hs : Cond.static Lib.Math.min.name ∈ WL) (hi : Cond.initialized "java/lang/Math" ∈ WL) (hc : Cond.code Lib.Math.min.name Lib.Math.min.code 2 (some .int) ∈ WL) (hf : 1 ≤ R.frames) (hlo : (rest.map fun v => v.category).sum + 13 ≤ R.locals) (hcap : cells ≤ R.cells ∧ slots ≤ R.slots) (d : decode cc pc = .ok (.invokestatic index, 3)) (kk : X p l e R s m args below meth c Q nL b D cy cells slots M (pc + 3) lv (.int (if y < x then y else x) :: rest)) : X p l e R s m args below meth c Q nL b D cy cells slots M pc lv (.int y :: .int x :: rest) := fun H locs ls h1 h2 h3 => va_mmin F.1 F.2.1 (F.2.2.1.trans h3.1.symm) F.2.2.2.1 (F.2.2.2.2.1 _ hl) (F.2.2.2.2.1 _ hs) (F.2.2.2.2.1 _ hi) (F.2.2.2.2.1 _ hc) hf hlo hcap.1 hcap.2 d (kk H locs ls h1 h2 h3)
theorem x_max (F : Fx p s m args c cc nL own b D cy) {index : Nat} {x y : Int32} (hl : Cond.methodLink own index Lib.Math.max.name ∈ WL) (hs : Cond.static Lib.Math.max.name ∈ WL) (hi : Cond.initialized "java/lang/Math" ∈ WL) (hc : Cond.code Lib.Math.max.name Lib.Math.max.code 2 (some .int) ∈ WL) (hf : 1 ≤ R.frames) (hlo : (rest.map fun v => v.category).sum + 13 ≤ R.locals) (hcap : cells ≤ R.cells ∧ slots ≤ R.slots) (d : decode cc pc = .ok (.invokestatic index, 3)) (kk : X p l e R s m args below meth c Q nL b D cy cells slots M (pc + 3) lv (.int (if x < y then y else x) :: rest)) : X p l e R s m args below meth c Q nL b D cy cells slots M pc lv (.int y :: .int x :: rest) := fun H locs ls h1 h2 h3 => va_mmax F.1 F.2.1 (F.2.2.1.trans h3.1.symm) F.2.2.2.1 (F.2.2.2.2.1 _ hl) (F.2.2.2.2.1 _ hs) (F.2.2.2.2.1 _ hi) (F.2.2.2.2.1 _ hc) hf hlo hcap.1 hcap.2 d (kk H locs ls h1 h2 h3)
def cI (M : Mem) (a0 : Nat) (sp : Int32) (a1 : Nat) (dp n : Int32) : Option Mem := if mK M a0 = 20 ∧ mK M a1 = 20 ∧ ¬ sp < 0 ∧ ¬ dp < 0 ∧ ¬ n < 0 ∧ sp.toNatClampNeg + n.toNatClampNeg ≤ mN M a0 ∧ dp.toNatClampNeg + n.toNatClampNeg ≤ mN M a1 then some (wI M a1 (va_cpy (mI M a0) (mI M a1) sp.toNatClampNeg dp.toNatClampNeg n.toNatClampNeg)) else none
def cL (M : Mem) (a0 : Nat) (sp : Int32) (a1 : Nat) (dp n : Int32) : Option Mem := if mK M a0 = 21 ∧ mK M a1 = 21 ∧ ¬ sp < 0 ∧ ¬ dp < 0 ∧ ¬ n < 0 ∧ sp.toNatClampNeg + n.toNatClampNeg ≤ mN M a0 ∧ dp.toNatClampNeg + n.toNatClampNeg ≤ mN M a1 then some (wL M a1 (va_cpy (mL M a0) (mL M a1) sp.toNatClampNeg dp.toNatClampNeg n.toNatClampNeg)) else none
theorem up_i {z : Int32} (hz : ¬ z < 0) : z.toInt = (z.toNatClampNeg : Int) := (Int.toNat_of_nonneg (Int.not_lt.mp (fun h => hz (Int32.lt_iff_toInt_lt.mpr h)))).symm
/-- rows of one kind of number: a stretch of one copied into another -/
theorem w_copy (F : Fx p s m args c cc nL own b D cy) {α : Type} (wr : α → Value) {t0 : Nat} {ty : FieldType} (ht : (ty6 cy)[t0]? = some (cy t0, ty)) (hprim : refKind ty = false) (hfit : ∀ z, fits ty (wr z) = true) (htk : ∀ (U : State) (k : ClassId) (z : α), U.takes k (wr z)) {u w : Nat → α} {n0 n1 x0 x1 index : Nat} {sp dp n : Int32} {H : Heap} {locs : List Loc} {ls : Array Slot}
    (r0 : H[x0]? = some (arrV (cy t0) n0 (fun j => wr (u j)))) (r1 : H[x1]? = some (arrV (cy t0) n1 (fun j => wr (w j)))) (hx : b ≤ x1) (g1 : ¬ sp < 0) (g2 : ¬ dp < 0) (g3 : ¬ n < 0) (g4 : sp.toNatClampNeg + n.toNatClampNeg ≤ n0) (g5 : dp.toNatClampNeg + n.toNatClampNeg ≤ n1)
    (hlink : Cond.methodLink own index arraycopyName ∈ WL) (hnat : Cond.native arraycopyName ∈ WL) (hstat : Cond.static arraycopyName ∈ WL) (hini : Cond.initialized "java/lang/System" ∈ WL) (hfr : 1 ≤ R.frames) (hlo : (rest.map fun v => v.category).sum + (nativeFrameWords "java/lang/System" "arraycopy" 5 + 11) ≤ R.locals) (h2 : va_S (fun q => b ≤ q) s.heap H locs) (hls : ls.size = nL) (d : decode cc pc = .ok (.invokestatic index, 3))
    (kk : ∀ (H1 : Heap) (locs1 : List Loc), H1[x1]? = some (arrV (cy t0) n1 (fun j => wr (va_cpy u w sp.toNatClampNeg dp.toNatClampNeg n.toNatClampNeg j))) → H1.size = H.size → (∀ q, q ≠ x1 → H1[q]? = H[q]?) → va_S (fun q => b ≤ q) s.heap H1 locs1 → W p l e R s m args below meth c H1 locs1 cells slots Q (F0 m (pc + 3) ls rest)) : W p l e R s m args below meth c H locs cells slots Q (F0 m pc ls (.int n :: .int dp :: .ref x1 :: .int sp :: .ref x0 :: rest)) := by
  obtain ⟨no0, _, c0, _, y0⟩ := (F.2.2.2.2.2.1.2 t0 _ ht).1 n0 (fun j => wr (u j))
  obtain ⟨no1, _, c1, _, y1⟩ := (F.2.2.2.2.2.1.2 t0 _ ht).1 n1 (fun j => wr (w j))
  have got : ∀ i, i < n.toNatClampNeg → (arrV (cy t0) n0 (fun j => wr (u j))).slots.getD (sp.toNatClampNeg + i) .null = wr (u (sp.toNatClampNeg + i)) := fun i hi => by
    rw [Array.getD_eq_getD_getElem?, arrV_read _ _ (Nat.lt_of_lt_of_le (Nat.add_lt_add_left hi _) g4), Option.getD_some]
  have cop := va_copied wr (cy t0) (cy t0) (n1 := n1) (dp := dp.toNatClampNeg) u w g4
  intro U hU S
  subst hU
  obtain ⟨vm', S', go⟩ := S.arraycopy F.1 F.2.2.2.1 (F.2.2.2.2.1 _ hlink) (F.2.2.2.2.1 _ hnat) (F.2.2.2.2.1 _ hstat) (F.2.2.2.2.1 _ hini) r0 r1 no0 no1 (fun z => nomatch z) (fun z => nomatch z) c0 c1 y0 y1 (by rw [hprim]; simp) g1 g2 g3
    (by rw [arrV_size, up_i g1, up_i g3]; omega) (by rw [arrV_size, up_i g2, up_i g3]; omega) (fun _ _ i hi => by rw [got i hi]; exact ⟨hfit _, htk _ _ _⟩) (g := F0 m pc ls (.int n :: .int dp :: .ref x1 :: .int sp :: .ref x0 :: rest)) rfl (hls.trans F.2.2.1.symm) rfl (by rw [F.2.1]; exact d) hfr (by rw [show (F0 m pc ls (.int n :: .int dp :: .ref x1 :: .int sp :: .ref x0 :: rest)).monitorRoom = 0 from rfl]; omega)
  have oq : ∀ q, q ≠ x1 → (((U.setVm vm').setCell x1 (copied (arrV (cy t0) n0 (fun j => wr (u j))) (arrV (cy t0) n1 (fun j => wr (w j))) sp dp n)).heap)[q]? = U.heap[q]? := fun q hq => Array.getElem?_setIfInBounds_ne (Ne.symm hq)
  have sz : ((U.setVm vm').setCell x1 (copied (arrV (cy t0) n0 (fun j => wr (u j))) (arrV (cy t0) n1 (fun j => wr (w j))) sp dp n)).heap.size = U.heap.size := Array.size_setIfInBounds
  obtain ⟨t, t1, t2⟩ := kk _ _ ((Array.getElem?_setIfInBounds_self_of_lt (Array.getElem?_eq_some_iff.mp r1).1).trans (congrArg some cop)) sz oq ⟨Nat.le_trans h2.1 (Nat.le_of_eq sz.symm), fun q z1 z2 => (oq q (fun z => z2 (by rw [z]; exact hx))).trans (h2.2.1 q z1 z2), fun y hy => (List.mem_append.mp hy).elim (h2.2.2 y) (fun hz => by
    obtain ⟨_, _, rfl⟩ := List.mem_map.mp hz
    exact hx)⟩ _ rfl S'
  exact ⟨t, go t t1, t2⟩
theorem x_cI (F : Fx p s m args c cc nL own b D cy) {index a0 a1 : Nat} {sp dp n : Int32} {M1 : Mem} (hlink : Cond.methodLink own index arraycopyName ∈ WL) (hnat : Cond.native arraycopyName ∈ WL) (hstat : Cond.static arraycopyName ∈ WL) (hini : Cond.initialized "java/lang/System" ∈ WL) (hfr : 1 ≤ R.frames) (hlo : (rest.map fun v => v.category).sum + (nativeFrameWords "java/lang/System" "arraycopy" 5 + 11) ≤ R.locals) (hv : cI M a0 sp a1 dp n = some M1) (d : decode cc pc = .ok (.invokestatic index, 3)) (kk : X p l e R s m args below meth c Q nL b D cy cells slots M1 (pc + 3) lv rest) : X p l e R s m args below meth c Q nL b D cy cells slots M pc lv (.int n :: .int dp :: .ref (b + a1) :: .int sp :: .ref (b + a0) :: rest) := by
  intro H locs ls h1 h2 h3
  obtain ⟨⟨k0, k1, g1, g2, g3, g4, g5⟩, hv⟩ := gdS hv
  cases hv
  have r0 := h1.2 a0 (by omega)
  have r1 := h1.2 a1 (by omega)
  rw [cE_20 k0] at r0
  rw [cE_20 k1] at r1
  refine w_copy F (fun z => .int z) (t0 := 0) rfl rfl (fun _ => rfl) (fun _ _ _ => trivial) r0 r1 (Nat.le_add_right _ _) g1 g2 g3 g4 g5 hlink hnat hstat hini hfr hlo h2 h3.1 d (fun H1 locs1 e z oq hS => kk H1 locs1 ls (h1.put (a := a1) rfl rfl cE_wI ?_ z oq) hS h3)
  rw [cE_20 (M := wI M a1 (va_cpy (mI M a0) (mI M a1) sp.toNatClampNeg dp.toNatClampNeg n.toNatClampNeg)) k1]
  refine e.trans (congrArg some ?_)
  simp only [wI, mI, mN, va_up_self]
  rfl
theorem x_cL (F : Fx p s m args c cc nL own b D cy) {index a0 a1 : Nat} {sp dp n : Int32} {M1 : Mem} (hlink : Cond.methodLink own index arraycopyName ∈ WL) (hnat : Cond.native arraycopyName ∈ WL) (hstat : Cond.static arraycopyName ∈ WL) (hini : Cond.initialized "java/lang/System" ∈ WL) (hfr : 1 ≤ R.frames) (hlo : (rest.map fun v => v.category).sum + (nativeFrameWords "java/lang/System" "arraycopy" 5 + 11) ≤ R.locals) (hv : cL M a0 sp a1 dp n = some M1) (d : decode cc pc = .ok (.invokestatic index, 3)) (kk : X p l e R s m args below meth c Q nL b D cy cells slots M1 (pc + 3) lv rest) : X p l e R s m args below meth c Q nL b D cy cells slots M pc lv (.int n :: .int dp :: .ref (b + a1) :: .int sp :: .ref (b + a0) :: rest) := by
  intro H locs ls h1 h2 h3
  obtain ⟨⟨k0, k1, g1, g2, g3, g4, g5⟩, hv⟩ := gdS hv
  cases hv
  have r0 := h1.2 a0 (by omega)
  have r1 := h1.2 a1 (by omega)
  rw [cE_21 k0] at r0
  rw [cE_21 k1] at r1
  refine w_copy F (fun z => .long z) (t0 := 1) rfl rfl (fun _ => rfl) (fun _ _ _ => trivial) r0 r1 (Nat.le_add_right _ _) g1 g2 g3 g4 g5 hlink hnat hstat hini hfr hlo h2 h3.1 d (fun H1 locs1 e z oq hS => kk H1 locs1 ls (h1.put (a := a1) rfl rfl cE_wL ?_ z oq) hS h3)
  rw [cE_21 (M := wL M a1 (va_cpy (mL M a0) (mL M a1) sp.toNatClampNeg dp.toNatClampNeg n.toNatClampNeg)) k1]
  refine e.trans (congrArg some ?_)
  simp only [wL, mL, mN, va_up_self]
  rfl
end ROWS
