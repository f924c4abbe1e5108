/-! ===== what is thrown, and the law's own two catchers ===== -/
def QX (b : Nat) (D : va_G) (cy : Nat → ClassId) (o : Option Int32) (Mf : Mem) : Array Value → State → Outcome → State → Prop := fun a st oc t => ∃ v, o = some v ∧ Qm b D cy (some (.int v)) Mf a st oc t
def XCX (b : Nat) (D : va_G) (cy : Nat → ClassId) (o : Option Int32) (Mf : Mem) : String → State → State → Prop := fun E st t => o = none ∧ E = "java/util/NoSuchElementException" ∧ Rl b D cy Mf t.heap ∧ va_F (fun q => b ≤ q) st t
def CtX (l : Launch) (y : MethodName) (cc : ByteArray) (nL : Nat) (ret : Option FieldType) (n b : Nat) (D : va_G) (cy : Nat → ClassId) (av : List Value) (M : Mem) (o : Option Int32) (Mf : Mem) : Prop :=
  vx_Met l y (Cond.code y cc nL ret :: WL) ({ frames := n, cells := 1, slots := 6, locals := 100 * n }) (va_Pc av (Pre b D cy M)) (QX b D cy o Mf) (XCX b D cy o Mf) 1 6 (fun q => b ≤ q)
theorem CtX_of {l : Launch} {y : MethodName} {n b : Nat} {D : va_G} {cy : Nat → ClassId} {av : List Value} {M Mf : Mem} {o : Option Int32} {cc : ByteArray} {nL : Nat} {ret : Option FieldType} {own : String} (hy : plainName y.cls = true) (hown : y.cls = own) (hlen : (lg_sl av).length ≤ nL)
    (body : ∀ (p : Program) (e : Env) (s : State) (m : MethodId) (args : Array Value) (below : List Frame) (meth : Method) (c : Code), Fx p s m args c cc nL own b D cy → meth.sig.returnType = ret → meth.locks = false → (∀ x ∈ c.exceptionTable.toList, False) →
      X p l e ({ frames := n, cells := 1, slots := 6, locals := 100 * n }) s m args below meth c (vx_MQ below (QX b D cy o Mf) (XCX b D cy o Mf) args s 1 6 (fun q => b ≤ q)) nL b D cy 0 0 M 0 (lv_args 0 av) []) : CtX l y cc nL ret n b D cy av M o Mf := by
  refine vx_ofW (cc := cc) (maxL := nL) (ret := ret) hy rfl ?_
  intro p e s m args below meth c s₁ B hml hno hv
  obtain ⟨rfl, hP, hK, hb, hE⟩ := hv
  have hown' : s.vm.findClass own = some m.cls := by rw [← hown]; exact findClass_of_methodNamed B.named
  have K := body p e s m av.toArray below meth c ⟨B.exec, B.bytes, hml, hown', fun w hw => atoms_spec (ws := Cond.code y cc nL ret :: WL) B.pre w (List.mem_cons_of_mem _ hw), hK, hb, hE⟩ B.returns B.notSynchronized hno s.heap [] _ hP va_S.rf (lv_entry av hlen)
  rw [lg_entry_eq]
  exact K
section THR
variable {p : Program} {l : Launch} {e : Env} {R : Room} {s : State} {m : MethodId} {args : Array Value} {below : List Frame} {meth : Method} {c : Code} {Q : State → Prop}
variable {cc : ByteArray} {nL : Nat} {own : String} {b : Nat} {D : va_G} {cy : Nat → ClassId} {cells slots : Nat} {M : Mem} {pc : Nat} {lv : List (Nat × Value)} {rest : List Value}
theorem x_iretX (F : Fx p s m args c cc nL own b D cy) (hr : meth.sig.returnType = some .int) (hl : meth.locks = false) {v : Int32} (d : decode cc pc = .ok (.ireturn, 1)) : X p l e R s m args below meth c (vx_MQ below (QX b D cy (some v) M) (XCX b D cy (some v) M) args s 1 6 (fun q => b ≤ q)) nL b D cy 0 0 M pc lv [.int v] := fun H locs ls h1 h2 h3 => W.widen (Nat.zero_le 1) (Nat.zero_le 6) (vx_ret (W.iret F.1 F.2.1 hr (fun t ht hW => ⟨v, rfl, rfl, by rw [ht]; exact h1, h2.F ht⟩) h2.2.2 d hl))
theorem thr_bad : ∀ w ∈ (nse_at RX10 150).filter (fun w => !goodWord w), w ∈ thrW := by decide +kernel
theorem thr_use {args : Array Value} {s : State} (h : ∀ w ∈ thrW, va_Nw w s) : ∀ w ∈ thrW, w.before args s = true := by
  intro w hw
  have h1 := h w hw
  simp only [thrW, List.mem_cons, List.mem_nil_iff, or_false] at hw
  rcases hw with rfl | rfl | rfl | rfl <;> exact va_Nw.use rfl h1
theorem thr_ot : ∀ w ∈ Cond.classLink RX10 146 "java/util/NoSuchElementException" :: Cond.initialized "java/util/NoSuchElementException" :: nse_at RX10 150, vx_ot w = true := by decide +kernel
theorem x_throwX (F : Fx p s m args c cc nL own b D cy) (hlt : l.stackTraces = false) (hno : ∀ x ∈ c.exceptionTable.toList, False) (hl : meth.locks = false) {is : Nat} {text : String} (hmsg : (is, text) ∈ msgs) (hown : own = RX10) (hz : mZ M = 0) (d0 : decode cc pc = .ok (.new 146, 3)) (d3 : decode cc (pc + 3) = .ok (.dup, 1)) (d4 : decode cc (pc + 4) = .ok (.ldc is, 2)) (d6 : decode cc (pc + 6) = .ok (.invokespecial 150, 3)) (d9 : decode cc (pc + 9) = .ok (.athrow, 1)) (hRf : 5 < R.frames) (hRl : (rest.map fun v => v.category).sum + 82 ≤ R.locals) (hRc : 0 + 1 ≤ R.cells) (hRs : 0 + 6 ≤ R.slots) : X p l e R s m args below meth c (vx_MQ below (QX b D cy none M) (XCX b D cy none M) args s 1 6 (fun q => b ≤ q)) nL b D cy 0 0 M pc lv rest := by
  intro H locs ls h1 h2 h3
  subst hown
  obtain ⟨-, -, -, -, -, gU, gN, gm, -, -, -, gc⟩ := F.2.2.2.2.2.2.2
  obtain ⟨sa, hsa⟩ := gm _ hmsg
  refine vx_throwX (A := fun q => b ≤ q) (sa := sa) F.1 F.2.1 hlt F.2.2.2.1 (F.2.2.2.2.1 _ wl_697) (F.2.2.2.2.1 _ wl_698) hsa (vx_hat (fun w hw => F.2.2.2.2.1 w (inWX w hw)) thr_bad (fun w hw => thr_use gc w hw)) thr_ot gU gN h2 (by rw [F.2.2.1]; exact h3.1) d0 d3 d4 d6 d9 (fun x hx => (hno x hx).elim) hRf hRl hRc hRs hl (fun t ha hs ho => ⟨rfl, rfl, ⟨fun z => absurd hz z, fun q hq => (h1.2 q hq).kept (ho _ (h1.2 q hq).lt)⟩, Nat.le_trans h2.1 hs, fun q g1 g2 => (ho q (Nat.lt_of_lt_of_le g1 h2.1)).trans (h2.2.1 q g1 g2)⟩) h2.2.2 (Nat.le_refl _) (Nat.le_refl _)
/-- a call that returns or throws, in a method that catches -/
theorem w_callX {Mf : Mem} {o : Option Int32} {a : Array Value} {st0 : List Value} {H : Heap} {locs : List Loc} {ls : Array Slot} (F : Fx p s m args c cc nL own b D cy) (hpcr : pc < 10) (htab : c.exceptionTable.toList = [⟨0, 10, 13, 13⟩]) (hown : own = RL) (hr : vx_Run p l e R s m args below meth c H locs cells slots 1 6 (F0 m pc ls st0) rest (QX b D cy o Mf a) (XCX b D cy o Mf) (fun q => b ≤ q)) (h2 : va_S (fun q => b ≤ q) s.heap H locs) (h3 : lv_has ls nL lv)
    (kk : ∀ v, o = some v → X p l e R s m args below meth c Q nL b D cy (cells + 1) (slots + 6) Mf (pc + 3) lv (.int v :: rest)) (kx : o = none → ∀ q : Nat, X p l e R s m args below meth c Q nL b D cy (cells + 1) (slots + 6) Mf 13 lv [.ref q]) : W p l e R s m args below meth c H locs cells slots Q (F0 m pc ls st0) := by
  intro T hT X0
  have hSS : ∀ (st₀ t T' : State) (L : List Loc), st₀.heap = H → T'.heap = t.heap → (∀ q ∈ L, b ≤ q.base) → va_F (fun q => b ≤ q) st₀ t → va_S (fun q => b ≤ q) s.heap T'.heap (locs ++ L) := by
    intro st₀ t T' L h0 e1 hL hF
    exact (vx_keep (A0 := fun q => b ≤ q) (A1 := fun q => b ≤ q) (free := fun q => b ≤ q) h0 e1 h2 (fun q _ z => z) (fun q z => z) hL hF).2.2
  rcases hr T hT X0 with ⟨v, st₀, t, T', L, h0, X', hL, e1, e2, ⟨r, ho, hv, hp, hF⟩, st⟩ | ⟨q, st₀, t, T', L, E, ce, h0, X', hL, e1, e2, ⟨ho, hE, hp, hF⟩, hce, hcv, hcl, st⟩
  · cases hv
    obtain ⟨t2, a1, b1⟩ := kk r ho T'.heap (locs ++ L) ls (by rw [e1]; exact hp) (hSS st₀ t T' L h0 e1 hL hF) h3 T' rfl X'
    exact ⟨t2, st t2 a1, b1⟩
  · subst hE
    subst hown
    have K := kx ho q T'.heap (locs ++ L) ls (by rw [e1]; exact hp) (hSS st₀ t T' L h0 e1 hL hF) h3
    have gc := F.2.2.2.2.2.2.2.2.2.2.2.2.2.2.2.2.2.2
    obtain ⟨t2, a1, b1⟩ := vx_catch (own := RL) (name := "java/util/NoSuchElementException") (E := "java/util/NoSuchElementException") (ce := ce) F.2.2.2.1 [] ⟨0, 10, 13, 13⟩ [] htab (fun z hz => by cases hz) (by simp [covers]; omega) (by decide) (F.2.2.2.2.1 _ wl_1276) (thr_use gc _ List.mem_cons_self) (by rw [e1]; exact hce) hcv hcl K T' rfl X'
    exact ⟨t2, st.trans a1, b1⟩
end THR
