/-! ===== the text of keywords: String.length, String.charAt on it ===== -/
def KE (b : Nat) (adK adV : Nat → Nat) (U : State) : Prop := vk_S 1 [105] [kwB] adK adV (fun q => b ≤ q) U U.heap
theorem KE.move {b : Nat} {adK adV : Nat → Nat} {s U : State} {H : Heap} {locs : List Loc} (h : KE b adK adV s) (hS : va_S (fun q => b ≤ q) s.heap H locs) (hU : U.heap = H) (hW : s.WarmedH U.vm) : KE b adK adV U := by
  subst hU
  exact (vk_S.moved hW.alike h).kept (fun a z1 z2 => hS.2.1 a z1 z2)
theorem KE.calling {b : Nat} {adK adV : Nat → Nat} {U : State} {g : JFrame} {mk : MethodId} {a : Array Value} (h : KE b adK adV U) : KE b adK adV (U.calling g mk a) := vk_S.moved (u := U) (U := U.calling g mk a) (Vm.Alike.refl U.vm) h
def CtK (l : Launch) (y : MethodName) (cc : ByteArray) (nL : Nat) (ret : Option FieldType) (n : Nat) (b : Nat) (D : va_G) (cy : Nat → ClassId) (adK adV : Nat → Nat) (av : List Value) (M : Mem) (res : Option Value) : Prop :=
  Met l y (Cond.code y cc nL ret :: WL) ({ frames := n, cells := 0, slots := 0, locals := 100 * n }) (va_Pc av (fun U => Pre b D cy M U ∧ KE b adK adV U)) (Qm b D cy res M) 0 0 (fun q => b ≤ q)
theorem CtK_of {l : Launch} {y : MethodName} {n b : Nat} {D : va_G} {cy : Nat → ClassId} {adK adV : Nat → Nat} {av : List Value} {M : Mem} {res : Option Value} {cc : ByteArray} {nL : Nat} {ret : Option FieldType} {own : String} (hy : plainName y.cls = true) (hown : y.cls = own) (hlen : (lg_sl av).length ≤ nL)
    (body : ∀ (p : Program) (e : Env) (s : State) (m : MethodId) (args : Array Value) (below : List Frame) (meth : Method) (c : Code), Fx p s m args c cc nL own b D cy → KE b adK adV s → meth.sig.returnType = ret → meth.locks = false →
      X p l e ({ frames := n, cells := 0, slots := 0, locals := 100 * n }) s m args below meth c (MQ below (Qm b D cy res M) args s 0 0 (fun q => b ≤ q)) nL b D cy 0 0 M 0 (lv_args 0 av) []) : CtK l y cc nL ret n b D cy adK adV av M res := by
  refine Met.ofW (cc := cc) (maxL := nL) (ret := ret) hy rfl ?_
  intro p e s m args below meth c s₁ B hml hv
  obtain ⟨rfl, ⟨hP, hK, hb, hE⟩, hKE⟩ := hv
  have hown' : s.vm.findClass own = some m.cls := by rw [← hown]; exact findClass_of_methodNamed B.named
  have K := body p e s m av.toArray below meth c ⟨B.exec, B.bytes, hml, hown', fun w hw => atoms_spec (ws := Cond.code y cc nL ret :: WL) B.pre w (List.mem_cons_of_mem _ hw), hK, hb, hE⟩ hKE B.returns B.notSynchronized s.heap [] _ hP va_S.rf (lv_entry av hlen)
  rw [lg_entry_eq]
  exact K
section STR
variable {p : Program} {l : Launch} {e : Env} {R : Room} {s : State} {m : MethodId} {args : Array Value} {below : List Frame} {meth : Method} {c : Code} {Q : State → Prop}
variable {cc : ByteArray} {nL : Nat} {own : String} {b : Nat} {D : va_G} {cy : Nat → ClassId} {cells slots : Nat} {M : Mem} {pc : Nat} {lv : List (Nat × Value)} {rest : List Value} {adK adV : Nat → Nat}
theorem x_gst (F : Fx p s m args c cc nL own b D cy) {index : Nat} (m1 : Cond.fieldLink own index RJ0 "COMPACT_STRINGS" "Z" ∈ WL) (d : decode cc pc = .ok (.getstatic index, 3)) (kk : X p l e R s m args below meth c Q nL b D cy cells slots M (pc + 3) lv (.int 1 :: rest)) : X p l e R s m args below meth c Q nL b D cy cells slots M pc lv rest := fun H locs ls h1 h2 h3 =>
  va_gets (A := fun q => b ≤ q) F.1 F.2.1 F.2.2.2.2.2.2.2.2.2.2.1 h2 F.2.2.2.1 (F.2.2.2.2.1 _ m1) (fun _ h => h) d (kk H locs ls h1 h2 h3)
theorem x_sio (F : Fx p s m args c cc nL own b D cy) {index : Nat} (m1 : Cond.fieldLink own index RJ3 "SIOOBE_FORMATTER" "Ljava/util/function/BiFunction;" ∈ WL) (d : decode cc pc = .ok (.getstatic index, 3)) (kk : ∀ v : Value, (v = .null ∨ ∃ t : Nat, v = .ref t) → X p l e R s m args below meth c Q nL b D cy cells slots M (pc + 3) lv (v :: rest)) : X p l e R s m args below meth c Q nL b D cy cells slots M pc lv rest := by
  intro H locs ls h1 h2 h3
  rcases F.2.2.2.2.2.2.2.2.2.2.2.1 with hz | ⟨t, hz⟩
  · exact va_gets (A := fun q => b ≤ q) F.1 F.2.1 hz h2 F.2.2.2.1 (F.2.2.2.2.1 _ m1) (fun _ h => h) d (kk _ (Or.inl rfl) H locs ls h1 h2 h3)
  · exact va_gets (A := fun q => b ≤ q) F.1 F.2.1 hz h2 F.2.2.2.1 (F.2.2.2.2.1 _ m1) (fun _ h => h) d (kk _ (Or.inr ⟨t, rfl⟩) H locs ls h1 h2 h3)
theorem x_kco (F : Fx p s m args c cc nL own b D cy) (hE : KE b adK adV s) {index : Nat} (m1 : Cond.fieldLink own index RJ0 "coder" "B" ∈ WL) (d : decode cc pc = .ok (.getfield index, 3)) (kk : X p l e R s m args below meth c Q nL b D cy cells slots M (pc + 3) lv (.int 0 :: rest)) : X p l e R s m args below meth c Q nL b D cy cells slots M pc lv (.ref (adK 0) :: rest) := fun H locs ls h1 h2 h3 =>
  vk_getf (A := fun q => b ≤ q) F.1 F.2.1 (hE.1 0 (by decide)).2.1 h2 F.2.2.2.1 (F.2.2.2.2.1 _ m1) (fun _ h => h) d (kk H locs ls h1 h2 h3)
theorem x_kva (F : Fx p s m args c cc nL own b D cy) (hE : KE b adK adV s) {index : Nat} (m1 : Cond.fieldLink own index RJ0 "value" "[B" ∈ WL) (d : decode cc pc = .ok (.getfield index, 3)) (kk : X p l e R s m args below meth c Q nL b D cy cells slots M (pc + 3) lv (.ref (adV 0) :: rest)) : X p l e R s m args below meth c Q nL b D cy cells slots M pc lv (.ref (adK 0) :: rest) := fun H locs ls h1 h2 h3 =>
  vk_getf (A := fun q => b ≤ q) F.1 F.2.1 (hE.1 0 (by decide)).2.2.1 h2 F.2.2.2.1 (F.2.2.2.2.1 _ m1) (fun _ h => h) d (kk H locs ls h1 h2 h3)
theorem x_kln (F : Fx p s m args c cc nL own b D cy) (hE : KE b adK adV s) (d : decode cc pc = .ok (.arraylength, 1)) (kk : X p l e R s m args below meth c Q nL b D cy cells slots M (pc + 1) lv (.int 105 :: rest)) : X p l e R s m args below meth c Q nL b D cy cells slots M pc lv (.ref (adV 0) :: rest) := fun H locs ls h1 h2 h3 =>
  va_tlen (A := fun q => b ≤ q) F.1 F.2.1 (hE.1 0 (by decide)).2.2.2 h2 (by decide) d (kk H locs ls h1 h2 h3)
theorem x_kby (F : Fx p s m args c cc nL own b D cy) (hE : KE b adK adV s) {i : Int32} (hi : vp_in i 105) (d : decode cc pc = .ok (.baload, 1)) (kk : X p l e R s m args below meth c Q nL b D cy cells slots M (pc + 1) lv (.int (kwB.getD i.toNatClampNeg 0) :: rest)) : X p l e R s m args below meth c Q nL b D cy cells slots M pc lv (.int i :: .ref (adV 0) :: rest) := fun H locs ls h1 h2 h3 =>
  va_tb (A := fun q => b ≤ q) F.1 F.2.1 (hE.1 0 (by decide)).2.2.2 h2 hi rfl d (kk H locs ls h1 h2 h3)
theorem w_preK (F : Fx p s m args c cc nL own b D cy) (hE : KE b adK adV s) {As : List Value} {H : Heap} {locs : List Loc} (h1 : Rl b D cy M H) (h2 : va_S (fun q => b ≤ q) s.heap H locs) : PreS s H (va_Pc As (fun U => Pre b D cy M U ∧ KE b adK adV U)) As := ⟨fun a U g mk h => ⟨h.1, (Pre.blind (av := As) a U g mk ⟨h.1, h.2.1⟩).2, h.2.2.calling⟩, fun U hU hW => ⟨rfl, ((w_preS F (As := As) h1 h2).2 U hU hW).2, hE.move h2 hU hW⟩⟩
theorem x_callVK (F : Fx p s m args c cc nL own b D cy) (hE : KE b adK adV s) {y : MethodName} {bytes : ByteArray} {maxL index n : Nat} {ret : Option FieldType} {As st0 : List Value} {res : Option Value} (hM : CtK l y bytes maxL ret n b D cy adK adV (.ref (adK 0) :: As) M res) (m1 : Cond.methodLink own index y ∈ WL) (m2 : Cond.instanceMethod y ∈ WL) (m3 : Cond.selects RJ0 y y ∈ WL) (m4 : Cond.initialized RJ0 ∈ WL) (m5 : Cond.code y bytes maxL ret ∈ WL) (hd : y.cls = RJ0 ∧ y.cls ≠ "java/lang/invoke/MethodHandle" ∧ y.cls ≠ "java/lang/invoke/VarHandle" ∧ (parseMethodDescriptor y.desc).map (fun d => d.parameters.length) = some As.length) (hR : n + 1 ≤ R.frames ∧ 8 + (maxL + 11) + 100 * n ≤ R.locals) (hcap : cells + 0 ≤ R.cells ∧ slots + 0 ≤ R.slots) (hW : (rest.map fun v => v.category).sum ≤ 8) (hst : st0 = As.reverse ++ .ref (adK 0) :: rest) (d : decode cc pc = .ok (.invokevirtual index, 3)) (kk : X p l e R s m args below meth c Q nL b D cy (cells + 0) (slots + 0) M (pc + 3) lv (res.toList ++ rest)) : X p l e R s m args below meth c Q nL b D cy cells slots M pc lv st0 := fun H locs ls h1 h2 h3 =>
  w_call (va_runV (As := As) (rest := rest) ⟨F.1, F.2.1, F.2.2.1, F.2.2.2.1, F.2.2.2.2.1⟩ hM (cwV As.length F.2.2.2.2.1 (WL_V m1 m2 m3 m4 m5) rfl rfl rfl hd hR) ⟨(w_preK F hE h1 h2).1, vk_recv (A := fun q => b ≤ q) (i := 0) hE (by decide) h2, (w_preK F hE h1 h2).2⟩ rfl rfl h3.1 hst (lv_room hW) d hcap) h2 h3 kk
theorem x_callSK (F : Fx p s m args c cc nL own b D cy) (hE : KE b adK adV s) {y : MethodName} {bytes : ByteArray} {maxL index n : Nat} {ret : Option FieldType} {As st0 : List Value} {res : Option Value} (hM : CtK l y bytes maxL ret n b D cy adK adV As M res) (m1 : Cond.methodLink own index y ∈ WL) (m2 : Cond.static y ∈ WL) (m4 : Cond.initialized y.cls ∈ WL) (m5 : Cond.code y bytes maxL ret ∈ WL) (hd : y.cls ≠ "java/lang/invoke/MethodHandle" ∧ y.cls ≠ "java/lang/invoke/VarHandle" ∧ (parseMethodDescriptor y.desc).map (fun d => d.parameters.length) = some As.length) (hR : n + 1 ≤ R.frames ∧ 8 + (maxL + 11) + 100 * n ≤ R.locals) (hcap : cells + 0 ≤ R.cells ∧ slots + 0 ≤ R.slots) (hW : (rest.map fun v => v.category).sum ≤ 8) (hst : st0 = As.reverse ++ rest) (d : decode cc pc = .ok (.invokestatic index, 3)) (kk : X p l e R s m args below meth c Q nL b D cy (cells + 0) (slots + 0) M (pc + 3) lv (res.toList ++ rest)) : X p l e R s m args below meth c Q nL b D cy cells slots M pc lv st0 := fun H locs ls h1 h2 h3 =>
  w_call (va_runS (As := As) (rest := rest) ⟨F.1, F.2.1, F.2.2.1, F.2.2.2.1, F.2.2.2.2.1⟩ hM (va_cwS As.length F.2.2.2.2.1 (WL_S m1 m2 m4 m5) rfl rfl rfl hd hR) (w_preK F hE h1 h2) rfl rfl h3.1 hst (lv_room hW) d hcap) h2 h3 kk
theorem x_nret (F : Fx p s m args c cc nL own b D cy) {ty : FieldType} (hr : meth.sig.returnType = some ty) (hl : meth.locks = false) {v : Int32} (hz : narrow ty (.int v) = .int v) (d : decode cc pc = .ok (.ireturn, 1)) : X p l e R s m args below meth c (MQ below (Qm b D cy (some (.int v)) M) args s cells slots (fun q => b ≤ q)) nL b D cy cells slots M pc lv [.int v] := fun H locs ls h1 h2 h3 => W.zret F.1 F.2.1 hr hz (fun t ht hW => ⟨rfl, by rw [ht]; exact h1, h2.F ht⟩) h2.2.2 d hl
theorem x_ldcK (F : Fx p s m args c cc nL own b D cy) (d : decode cc pc = .ok (.ldc 51, 2)) (hown : own = RX9) (kk : ∀ adK adV : Nat → Nat, KE b adK adV s → X p l e R s m args below meth c Q nL b D cy cells slots M (pc + 2) lv (.ref (adK 0) :: rest)) : X p l e R s m args below meth c Q nL b D cy cells slots M pc lv rest := by
  intro H locs ls h1 h2 h3
  obtain ⟨adK, adV, g1, g2⟩ := F.2.2.2.2.2.2.2.2.2.1
  subst hown
  exact va_ldcS F.1 F.2.1 F.2.2.2.1 g2 d (kk adK adV g1 H locs ls h1 h2 h3)
def kwc (i : Int32) : Option Int32 := if ib i 105 then some (kwB.getD i.toNatClampNeg 0) else none
end STR
theorem dJ0_coder_7d493_0 : decode cJ0_coder_7d493 0 = .ok (.getstatic 38, 3) := by decide +kernel
theorem dJ0_coder_7d493_3 : decode cJ0_coder_7d493 3 = .ok (.ifCond .eq 10, 3) := by decide +kernel
theorem dJ0_coder_7d493_6 : decode cJ0_coder_7d493 6 = .ok (.aload_n 0, 1) := by decide +kernel
theorem dJ0_coder_7d493_7 : decode cJ0_coder_7d493 7 = .ok (.getfield 15, 3) := by decide +kernel
theorem dJ0_coder_7d493_10 : decode cJ0_coder_7d493 10 = .ok (.goto 4, 3) := by decide +kernel
theorem dJ0_coder_7d493_13 : decode cJ0_coder_7d493 13 = .ok (.iconst 1, 1) := by decide +kernel
theorem dJ0_coder_7d493_14 : decode cJ0_coder_7d493 14 = .ok (.ireturn, 1) := by decide +kernel
theorem hd_J0_coder_7d493 : (yJ0_coder_7d493).cls = RJ0 ∧ (yJ0_coder_7d493).cls ≠ "java/lang/invoke/MethodHandle" ∧ (yJ0_coder_7d493).cls ≠ "java/lang/invoke/VarHandle" ∧ (parseMethodDescriptor (yJ0_coder_7d493).desc).map (fun d => d.parameters.length) = some 0 := by decide +kernel
theorem dJ0_isLatin1_aae02_0 : decode cJ0_isLatin1_aae02 0 = .ok (.getstatic 38, 3) := by decide +kernel
theorem dJ0_isLatin1_aae02_3 : decode cJ0_isLatin1_aae02 3 = .ok (.ifCond .eq 14, 3) := by decide +kernel
theorem dJ0_isLatin1_aae02_6 : decode cJ0_isLatin1_aae02 6 = .ok (.aload_n 0, 1) := by decide +kernel
theorem dJ0_isLatin1_aae02_7 : decode cJ0_isLatin1_aae02 7 = .ok (.getfield 15, 3) := by decide +kernel
theorem dJ0_isLatin1_aae02_10 : decode cJ0_isLatin1_aae02 10 = .ok (.ifCond .ne 7, 3) := by decide +kernel
theorem dJ0_isLatin1_aae02_13 : decode cJ0_isLatin1_aae02 13 = .ok (.iconst 1, 1) := by decide +kernel
theorem dJ0_isLatin1_aae02_14 : decode cJ0_isLatin1_aae02 14 = .ok (.goto 4, 3) := by decide +kernel
theorem dJ0_isLatin1_aae02_17 : decode cJ0_isLatin1_aae02 17 = .ok (.iconst 0, 1) := by decide +kernel
theorem dJ0_isLatin1_aae02_18 : decode cJ0_isLatin1_aae02 18 = .ok (.ireturn, 1) := by decide +kernel
theorem hd_J0_isLatin1_aae02 : (yJ0_isLatin1_aae02).cls = RJ0 ∧ (yJ0_isLatin1_aae02).cls ≠ "java/lang/invoke/MethodHandle" ∧ (yJ0_isLatin1_aae02).cls ≠ "java/lang/invoke/VarHandle" ∧ (parseMethodDescriptor (yJ0_isLatin1_aae02).desc).map (fun d => d.parameters.length) = some 0 := by decide +kernel
theorem dJ0_length_8abf5_0 : decode cJ0_length_8abf5 0 = .ok (.aload_n 0, 1) := by decide +kernel
theorem dJ0_length_8abf5_1 : decode cJ0_length_8abf5 1 = .ok (.getfield 9, 3) := by decide +kernel
theorem dJ0_length_8abf5_4 : decode cJ0_length_8abf5 4 = .ok (.arraylength, 1) := by decide +kernel
theorem dJ0_length_8abf5_5 : decode cJ0_length_8abf5 5 = .ok (.aload_n 0, 1) := by decide +kernel
theorem dJ0_length_8abf5_6 : decode cJ0_length_8abf5 6 = .ok (.invokevirtual 335, 3) := by decide +kernel
theorem dJ0_length_8abf5_9 : decode cJ0_length_8abf5 9 = .ok (.ishr, 1) := by decide +kernel
theorem dJ0_length_8abf5_10 : decode cJ0_length_8abf5 10 = .ok (.ireturn, 1) := by decide +kernel
theorem hd_J0_length_8abf5 : (yJ0_length_8abf5).cls = RJ0 ∧ (yJ0_length_8abf5).cls ≠ "java/lang/invoke/MethodHandle" ∧ (yJ0_length_8abf5).cls ≠ "java/lang/invoke/VarHandle" ∧ (parseMethodDescriptor (yJ0_length_8abf5).desc).map (fun d => d.parameters.length) = some 0 := by decide +kernel
theorem dJ3_checkIndex_8e157_0 : decode cJ3_checkIndex_8e157 0 = .ok (.iload_n 0, 1) := by decide +kernel
theorem dJ3_checkIndex_8e157_1 : decode cJ3_checkIndex_8e157 1 = .ok (.ifCond .lt 8, 3) := by decide +kernel
theorem dJ3_checkIndex_8e157_4 : decode cJ3_checkIndex_8e157 4 = .ok (.iload_n 0, 1) := by decide +kernel
theorem dJ3_checkIndex_8e157_5 : decode cJ3_checkIndex_8e157 5 = .ok (.iload_n 1, 1) := by decide +kernel
theorem dJ3_checkIndex_8e157_6 : decode cJ3_checkIndex_8e157 6 = .ok (.if_icmp .lt 10, 3) := by decide +kernel
theorem dJ3_checkIndex_8e157_9 : decode cJ3_checkIndex_8e157 9 = .ok (.aload_n 2, 1) := by decide +kernel
theorem dJ3_checkIndex_8e157_10 : decode cJ3_checkIndex_8e157 10 = .ok (.iload_n 0, 1) := by decide +kernel
theorem dJ3_checkIndex_8e157_11 : decode cJ3_checkIndex_8e157 11 = .ok (.iload_n 1, 1) := by decide +kernel
theorem dJ3_checkIndex_8e157_12 : decode cJ3_checkIndex_8e157 12 = .ok (.invokestatic 95, 3) := by decide +kernel
theorem dJ3_checkIndex_8e157_15 : decode cJ3_checkIndex_8e157 15 = .ok (.athrow, 1) := by decide +kernel
theorem dJ3_checkIndex_8e157_16 : decode cJ3_checkIndex_8e157 16 = .ok (.iload_n 0, 1) := by decide +kernel
theorem dJ3_checkIndex_8e157_17 : decode cJ3_checkIndex_8e157 17 = .ok (.ireturn, 1) := by decide +kernel
theorem hd_J3_checkIndex_8e157 : (yJ3_checkIndex_8e157).cls = RJ3 ∧ (yJ3_checkIndex_8e157).cls ≠ "java/lang/invoke/MethodHandle" ∧ (yJ3_checkIndex_8e157).cls ≠ "java/lang/invoke/VarHandle" ∧ (parseMethodDescriptor (yJ3_checkIndex_8e157).desc).map (fun d => d.parameters.length) = some 3 := by decide +kernel
theorem dJ0_checkIndex_df160_0 : decode cJ0_checkIndex_df160 0 = .ok (.iload_n 0, 1) := by decide +kernel
theorem dJ0_checkIndex_df160_1 : decode cJ0_checkIndex_df160 1 = .ok (.iload_n 1, 1) := by decide +kernel
theorem dJ0_checkIndex_df160_2 : decode cJ0_checkIndex_df160 2 = .ok (.getstatic 1053, 3) := by decide +kernel
theorem dJ0_checkIndex_df160_5 : decode cJ0_checkIndex_df160 5 = .ok (.invokestatic 1059, 3) := by decide +kernel
theorem dJ0_checkIndex_df160_8 : decode cJ0_checkIndex_df160 8 = .ok (.pop, 1) := by decide +kernel
theorem dJ0_checkIndex_df160_9 : decode cJ0_checkIndex_df160 9 = .ok (.return_, 1) := by decide +kernel
theorem hd_J0_checkIndex_df160 : (yJ0_checkIndex_df160).cls = RJ0 ∧ (yJ0_checkIndex_df160).cls ≠ "java/lang/invoke/MethodHandle" ∧ (yJ0_checkIndex_df160).cls ≠ "java/lang/invoke/VarHandle" ∧ (parseMethodDescriptor (yJ0_checkIndex_df160).desc).map (fun d => d.parameters.length) = some 2 := by decide +kernel
theorem dJ1_charAt_3b067_0 : decode cJ1_charAt_3b067 0 = .ok (.iload_n 1, 1) := by decide +kernel
theorem dJ1_charAt_3b067_1 : decode cJ1_charAt_3b067 1 = .ok (.aload_n 0, 1) := by decide +kernel
theorem dJ1_charAt_3b067_2 : decode cJ1_charAt_3b067 2 = .ok (.arraylength, 1) := by decide +kernel
theorem dJ1_charAt_3b067_3 : decode cJ1_charAt_3b067 3 = .ok (.invokestatic 9, 3) := by decide +kernel
theorem dJ1_charAt_3b067_6 : decode cJ1_charAt_3b067 6 = .ok (.aload_n 0, 1) := by decide +kernel
theorem dJ1_charAt_3b067_7 : decode cJ1_charAt_3b067 7 = .ok (.iload_n 1, 1) := by decide +kernel
theorem dJ1_charAt_3b067_8 : decode cJ1_charAt_3b067 8 = .ok (.baload, 1) := by decide +kernel
theorem dJ1_charAt_3b067_9 : decode cJ1_charAt_3b067 9 = .ok (.sipush 255, 3) := by decide +kernel
theorem dJ1_charAt_3b067_12 : decode cJ1_charAt_3b067 12 = .ok (.iand, 1) := by decide +kernel
theorem dJ1_charAt_3b067_13 : decode cJ1_charAt_3b067 13 = .ok (.i2c, 1) := by decide +kernel
theorem dJ1_charAt_3b067_14 : decode cJ1_charAt_3b067 14 = .ok (.ireturn, 1) := by decide +kernel
theorem hd_J1_charAt_3b067 : (yJ1_charAt_3b067).cls = RJ1 ∧ (yJ1_charAt_3b067).cls ≠ "java/lang/invoke/MethodHandle" ∧ (yJ1_charAt_3b067).cls ≠ "java/lang/invoke/VarHandle" ∧ (parseMethodDescriptor (yJ1_charAt_3b067).desc).map (fun d => d.parameters.length) = some 2 := by decide +kernel
theorem dJ0_charAt_5068e_0 : decode cJ0_charAt_5068e 0 = .ok (.aload_n 0, 1) := by decide +kernel
theorem dJ0_charAt_5068e_1 : decode cJ0_charAt_5068e 1 = .ok (.invokevirtual 492, 3) := by decide +kernel
theorem dJ0_charAt_5068e_4 : decode cJ0_charAt_5068e 4 = .ok (.ifCond .eq 12, 3) := by decide +kernel
theorem dJ0_charAt_5068e_7 : decode cJ0_charAt_5068e 7 = .ok (.aload_n 0, 1) := by decide +kernel
theorem dJ0_charAt_5068e_8 : decode cJ0_charAt_5068e 8 = .ok (.getfield 9, 3) := by decide +kernel
theorem dJ0_charAt_5068e_11 : decode cJ0_charAt_5068e 11 = .ok (.iload_n 1, 1) := by decide +kernel
theorem dJ0_charAt_5068e_12 : decode cJ0_charAt_5068e 12 = .ok (.invokestatic 495, 3) := by decide +kernel
theorem dJ0_charAt_5068e_15 : decode cJ0_charAt_5068e 15 = .ok (.ireturn, 1) := by decide +kernel
theorem dJ0_charAt_5068e_16 : decode cJ0_charAt_5068e 16 = .ok (.aload_n 0, 1) := by decide +kernel
theorem dJ0_charAt_5068e_17 : decode cJ0_charAt_5068e 17 = .ok (.getfield 9, 3) := by decide +kernel
theorem dJ0_charAt_5068e_20 : decode cJ0_charAt_5068e 20 = .ok (.iload_n 1, 1) := by decide +kernel
theorem dJ0_charAt_5068e_21 : decode cJ0_charAt_5068e 21 = .ok (.invokestatic 498, 3) := by decide +kernel
theorem dJ0_charAt_5068e_24 : decode cJ0_charAt_5068e 24 = .ok (.ireturn, 1) := by decide +kernel
theorem hd_J0_charAt_5068e : (yJ0_charAt_5068e).cls = RJ0 ∧ (yJ0_charAt_5068e).cls ≠ "java/lang/invoke/MethodHandle" ∧ (yJ0_charAt_5068e).cls ≠ "java/lang/invoke/VarHandle" ∧ (parseMethodDescriptor (yJ0_charAt_5068e).desc).map (fun d => d.parameters.length) = some 1 := by decide +kernel
set_option maxHeartbeats 4000000 in
set_option maxRecDepth 100000 in
theorem k_coder (l : Launch) (b : Nat) (D : va_G) (cy : Nat → ClassId) (adK adV : Nat → Nat) (M : Mem) : CtK l yJ0_coder_7d493 cJ0_coder_7d493 1 (some .byte) 1 b D cy adK adV [.ref (adK 0)] M (some (.int 0)) := by
  refine CtK_of (own := RJ0) (by decide) rfl (Nat.le_of_ble_eq_true rfl) ?_
  intro p e s m args below meth c F hE hr hl
  refine x_gst F wl_562 dJ0_coder_7d493_0 ?_
  refine x_if_eq F (tgt := 13) dJ0_coder_7d493_3 (by decide) (fun c3 => absurd c3 (by decide)) (fun _ => ?_)
  refine x_aload_n F dJ0_coder_7d493_6 rfl 0 rfl ?_
  refine x_kco F hE wl_563 dJ0_coder_7d493_7 ?_
  refine x_goto F (tgt := 14) dJ0_coder_7d493_10 (by decide) ?_
  exact x_nret F hr hl (by decide) dJ0_coder_7d493_14
set_option maxHeartbeats 4000000 in
set_option maxRecDepth 100000 in
theorem k_isLatin1 (l : Launch) (b : Nat) (D : va_G) (cy : Nat → ClassId) (adK adV : Nat → Nat) (M : Mem) : CtK l yJ0_isLatin1_aae02 cJ0_isLatin1_aae02 1 (some .boolean) 1 b D cy adK adV [.ref (adK 0)] M (some (.int 1)) := by
  refine CtK_of (own := RJ0) (by decide) rfl (Nat.le_of_ble_eq_true rfl) ?_
  intro p e s m args below meth c F hE hr hl
  refine x_gst F wl_562 dJ0_isLatin1_aae02_0 ?_
  refine x_if_eq F (tgt := 17) dJ0_isLatin1_aae02_3 (by decide) (fun c3 => absurd c3 (by decide)) (fun _ => ?_)
  refine x_aload_n F dJ0_isLatin1_aae02_6 rfl 0 rfl ?_
  refine x_kco F hE wl_563 dJ0_isLatin1_aae02_7 ?_
  refine x_if_ne F (tgt := 17) dJ0_isLatin1_aae02_10 (by decide) (fun c3 => absurd rfl c3) (fun _ => ?_)
  refine x_iconst F (v := 1) dJ0_isLatin1_aae02_13 (by decide) ?_
  refine x_goto F (tgt := 18) dJ0_isLatin1_aae02_14 (by decide) ?_
  exact x_nret F hr hl (by decide) dJ0_isLatin1_aae02_18
set_option maxHeartbeats 4000000 in
set_option maxRecDepth 100000 in
theorem k_slen (l : Launch) (b : Nat) (D : va_G) (cy : Nat → ClassId) (adK adV : Nat → Nat) (M : Mem) : CtK l yJ0_length_8abf5 cJ0_length_8abf5 1 (some .int) 2 b D cy adK adV [.ref (adK 0)] M (some (.int 105)) := by
  refine CtK_of (own := RJ0) (by decide) rfl (Nat.le_of_ble_eq_true rfl) ?_
  intro p e s m args below meth c F hE hr hl
  refine x_aload_n F dJ0_length_8abf5_0 rfl 0 rfl ?_
  refine x_kva F hE wl_565 dJ0_length_8abf5_1 ?_
  refine x_kln F hE dJ0_length_8abf5_4 ?_
  refine x_aload_n F dJ0_length_8abf5_5 rfl 0 rfl ?_
  refine x_callVK F hE (As := []) (rest := [.int 105]) (res := some (.int 0)) (k_coder l b D cy adK adV M) wl_566 wl_567 wl_568 wl_569 wl_561 hd_J0_coder_7d493 ⟨Nat.le_of_ble_eq_true rfl, Nat.le_of_ble_eq_true rfl⟩ ⟨Nat.le_refl _, Nat.le_refl _⟩ (Nat.le_of_ble_eq_true rfl) rfl dJ0_length_8abf5_6 ?_
  refine x_ishr F dJ0_length_8abf5_9 ?_
  exact x_iret F hr hl dJ0_length_8abf5_10
set_option maxHeartbeats 4000000 in
set_option maxRecDepth 100000 in
theorem k_pci (l : Launch) (b : Nat) (D : va_G) (cy : Nat → ClassId) (M : Mem) (i n : Int32) (v : Value) (hv : v = .null ∨ ∃ t : Nat, v = .ref t) (h0 : ¬ i < 0) (h1 : i < n) : Ct l yJ3_checkIndex_8e157 cJ3_checkIndex_8e157 3 (some .int) 1 0 0 b D cy [.int i, .int n, v] M (some (.int i)) M := by
  have hc : v.category = 1 := by rcases hv with rfl | ⟨t, rfl⟩ <;> rfl
  refine Ct_of (own := RJ3) (by decide) rfl (by rcases hv with rfl | ⟨t, rfl⟩ <;> exact Nat.le_of_ble_eq_true rfl) ?_
  intro p e s m args below meth c F hr hl hmn
  refine x_iload_n F dJ3_checkIndex_8e157_0 rfl 0 rfl ?_
  refine x_if_lt F (tgt := 9) dJ3_checkIndex_8e157_1 (by decide) (fun c3 => absurd c3 h0) (fun _ => ?_)
  refine x_iload_n F dJ3_checkIndex_8e157_4 rfl 0 rfl ?_
  refine x_iload_n F dJ3_checkIndex_8e157_5 rfl 1 rfl ?_
  refine x_icmp_lt F (tgt := 16) dJ3_checkIndex_8e157_6 (by decide) (fun _ => ?_) (fun c3 => absurd h1 c3)
  refine x_iload_n F dJ3_checkIndex_8e157_16 rfl 0 rfl ?_
  exact x_iret F hr hl dJ3_checkIndex_8e157_17
set_option maxHeartbeats 4000000 in
set_option maxRecDepth 100000 in
theorem k_sci (l : Launch) (b : Nat) (D : va_G) (cy : Nat → ClassId) (M : Mem) (i n : Int32) (h0 : ¬ i < 0) (h1 : i < n) : Ct l yJ0_checkIndex_df160 cJ0_checkIndex_df160 2 none 2 0 0 b D cy [.int i, .int n] M none M := by
  refine Ct_of (own := RJ0) (by decide) rfl (Nat.le_of_ble_eq_true rfl) ?_
  intro p e s m args below meth c F hr hl hmn
  refine x_iload_n F dJ0_checkIndex_df160_0 rfl 0 rfl ?_
  refine x_iload_n F dJ0_checkIndex_df160_1 rfl 1 rfl ?_
  refine x_sio F wl_573 dJ0_checkIndex_df160_2 (fun v hv => ?_)
  refine x_callS F (As := [.int i, .int n, v]) (rest := []) (res := some (.int i)) (k_pci l b D cy M i n v hv h0 h1) wl_574 wl_575 wl_576 wl_571 (hd_J3_checkIndex_8e157).2 ⟨Nat.le_of_ble_eq_true rfl, Nat.le_of_ble_eq_true rfl⟩ ⟨Nat.le_refl _, Nat.le_refl _⟩ (Nat.le_of_ble_eq_true rfl) rfl dJ0_checkIndex_df160_5 ?_
  refine x_pop F dJ0_checkIndex_df160_8 rfl ?_
  exact x_vret F hr hl dJ0_checkIndex_df160_9
theorem kwB_ok : ∀ j, j < 105 → ((kwB.getD j 0 &&& 255).toUInt32 % 65536).toInt32 = kwB.getD j 0 ∧ narrow .char (.int (kwB.getD j 0)) = .int (kwB.getD j 0) := by decide +kernel
set_option maxHeartbeats 4000000 in
set_option maxRecDepth 100000 in
theorem k_lch (l : Launch) (b : Nat) (D : va_G) (cy : Nat → ClassId) (adK adV : Nat → Nat) (M : Mem) (i : Int32) (hi : vp_in i 105) : CtK l yJ1_charAt_3b067 cJ1_charAt_3b067 2 (some .char) 3 b D cy adK adV [.ref (adV 0), .int i] M (some (.int (kwB.getD i.toNatClampNeg 0))) := by
  have h0 : ¬ i < 0 := fun q => hi (Or.inl q)
  have h1 : i.toNatClampNeg < 105 := Nat.not_le.mp fun q => hi (Or.inr q)
  have h2 : i < 105 := by
    obtain ⟨j, hj, e⟩ := vp_in_of hi (by decide)
    rw [e]
    exact nI_lt hj (by decide)
  refine CtK_of (own := RJ1) (by decide) rfl (Nat.le_of_ble_eq_true rfl) ?_
  intro p e s m args below meth c F hE hr hl
  refine x_iload_n F dJ1_charAt_3b067_0 rfl 1 rfl ?_
  refine x_aload_n F dJ1_charAt_3b067_1 rfl 0 rfl ?_
  refine x_kln F hE dJ1_charAt_3b067_2 ?_
  refine x_callS F (As := [.int i, .int 105]) (rest := []) (res := none) (k_sci l b D cy M i 105 h0 h2) wl_578 wl_579 wl_569 wl_572 (hd_J0_checkIndex_df160).2 ⟨Nat.le_of_ble_eq_true rfl, Nat.le_of_ble_eq_true rfl⟩ ⟨Nat.le_refl _, Nat.le_refl _⟩ (Nat.le_of_ble_eq_true rfl) rfl dJ1_charAt_3b067_3 ?_
  refine x_aload_n F dJ1_charAt_3b067_6 rfl 0 rfl ?_
  refine x_iload_n F dJ1_charAt_3b067_7 rfl 1 rfl ?_
  refine x_kby F hE hi dJ1_charAt_3b067_8 ?_
  refine x_sipush F (v := 255) dJ1_charAt_3b067_9 (by decide) ?_
  refine x_iand F dJ1_charAt_3b067_12 ?_
  refine x_i2c F dJ1_charAt_3b067_13 ?_
  rw [(kwB_ok _ h1).1]
  exact x_nret F hr hl (kwB_ok _ h1).2 dJ1_charAt_3b067_14
set_option maxHeartbeats 4000000 in
set_option maxRecDepth 100000 in
theorem k_sch (l : Launch) (b : Nat) (D : va_G) (cy : Nat → ClassId) (adK adV : Nat → Nat) (M : Mem) (i : Int32) (hi : vp_in i 105) : CtK l yJ0_charAt_5068e cJ0_charAt_5068e 2 (some .char) 4 b D cy adK adV [.ref (adK 0), .int i] M (some (.int (kwB.getD i.toNatClampNeg 0))) := by
  have h1 : i.toNatClampNeg < 105 := Nat.not_le.mp fun q => hi (Or.inr q)
  refine CtK_of (own := RJ0) (by decide) rfl (Nat.le_of_ble_eq_true rfl) ?_
  intro p e s m args below meth c F hE hr hl
  refine x_aload_n F dJ0_charAt_5068e_0 rfl 0 rfl ?_
  refine x_callVK F hE (As := []) (rest := []) (res := some (.int 1)) (k_isLatin1 l b D cy adK adV M) wl_595 wl_596 wl_597 wl_569 wl_570 hd_J0_isLatin1_aae02 ⟨Nat.le_of_ble_eq_true rfl, Nat.le_of_ble_eq_true rfl⟩ ⟨Nat.le_refl _, Nat.le_refl _⟩ (Nat.le_of_ble_eq_true rfl) rfl dJ0_charAt_5068e_1 ?_
  refine x_if_eq F (tgt := 16) dJ0_charAt_5068e_4 (by decide) (fun c3 => absurd c3 (by decide)) (fun _ => ?_)
  refine x_aload_n F dJ0_charAt_5068e_7 rfl 0 rfl ?_
  refine x_kva F hE wl_565 dJ0_charAt_5068e_8 ?_
  refine x_iload_n F dJ0_charAt_5068e_11 rfl 1 rfl ?_
  refine x_callSK F hE (As := [.ref (adV 0), .int i]) (rest := []) (res := some (.int (kwB.getD i.toNatClampNeg 0))) (k_lch l b D cy adK adV M i hi) wl_598 wl_599 wl_600 wl_577 (hd_J1_charAt_3b067).2 ⟨Nat.le_of_ble_eq_true rfl, Nat.le_of_ble_eq_true rfl⟩ ⟨Nat.le_refl _, Nat.le_refl _⟩ (Nat.le_of_ble_eq_true rfl) rfl dJ0_charAt_5068e_12 ?_
  exact x_nret F hr hl (kwB_ok _ h1).2 dJ0_charAt_5068e_15
