theorem dL_band_0 : decode cL_band 0 = .ok (.aload_n 3, 1) := by decide +kernel
theorem dL_band_1 : decode cL_band 1 = .ok (.iconst 0, 1) := by decide +kernel
theorem dL_band_2 : decode cL_band 2 = .ok (.aload_n 0, 1) := by decide +kernel
theorem dL_band_3 : decode cL_band 3 = .ok (.iload_n 1, 1) := by decide +kernel
theorem dL_band_4 : decode cL_band 4 = .ok (.iload_n 2, 1) := by decide +kernel
theorem dL_band_5 : decode cL_band 5 = .ok (.invokevirtual 7, 3) := by decide +kernel
theorem dL_band_8 : decode cL_band 8 = .ok (.i2l, 1) := by decide +kernel
theorem dL_band_9 : decode cL_band 9 = .ok (.lastore, 1) := by decide +kernel
theorem dL_band_10 : decode cL_band 10 = .ok (.goto 7, 3) := by decide +kernel
theorem dL_band_13 : decode cL_band 13 = .ok (.astore 4, 2) := by decide +kernel
theorem dL_band_15 : decode cL_band 15 = .ok (.iconst 1, 1) := by decide +kernel
theorem dL_band_16 : decode cL_band 16 = .ok (.ireturn, 1) := by decide +kernel
theorem dL_band_17 : decode cL_band 17 = .ok (.iconst 0, 1) := by decide +kernel
theorem dL_band_18 : decode cL_band 18 = .ok (.ireturn, 1) := by decide +kernel
theorem hd_L_band : (yL_band).cls = RL ∧ (yL_band).cls ≠ "java/lang/invoke/MethodHandle" ∧ (yL_band).cls ≠ "java/lang/invoke/VarHandle" ∧ (parseMethodDescriptor (yL_band).desc).map (fun d => d.parameters.length) = some 4 := by decide +kernel
theorem hd_X10_band : (yX10_band).cls = RX10 ∧ (yX10_band).cls ≠ "java/lang/invoke/MethodHandle" ∧ (yX10_band).cls ≠ "java/lang/invoke/VarHandle" ∧ (parseMethodDescriptor (yX10_band).desc).map (fun d => d.parameters.length) = some 2 := by decide +kernel
def fL_band (N : Nat) (v0 : Nat) (v1 v2 : Int32) (v3 : Nat) (M : Mem) : Option (Int32 × Mem) := if mK M v0 = 11 then (fX10_band N v0 v1 v2 M).bind fun (o, M1) => match o with | some v => (tL M1 v3 0 (Int32.toInt64 v)).bind fun M2 => some (0, M2) | none => some (1, M1) else none
set_option maxHeartbeats 4000000 in
set_option maxRecDepth 100000 in
theorem k_L_band (l : Launch) (hlt : l.stackTraces = false) (b : Nat) (D : va_G) (cy : Nat → ClassId) (N : Nat) (v0 : Nat) (v1 v2 : Int32) (v3 : Nat) (M : Mem) (r : Int32) (Mf : Mem) (h : fL_band N v0 v1 v2 v3 M = some (r, Mf)) : Met l yL_band (Cond.codeWith yL_band cL_band 5 (some .int) [(0, 10, 13, 13)] :: WL) ({ frames := 40, cells := 1, slots := 6, locals := 100 * 40 }) (va_Pc [.ref (b + v0), .int v1, .int v2, .ref (b + v3)] (Pre b D cy M)) (Qm b D cy (some (.int r)) Mf) 1 6 (fun q => b ≤ q) := by
  have K : vx_Met l yL_band (Cond.codeWith yL_band cL_band 5 (some .int) [(0, 10, 13, 13)] :: WL) ({ frames := 40, cells := 1, slots := 6, locals := 100 * 40 }) (va_Pc [.ref (b + v0), .int v1, .int v2, .ref (b + v3)] (Pre b D cy M)) (Qm b D cy (some (.int r)) Mf) (fun _ _ _ => False) 1 6 (fun q => b ≤ q) := by
    refine vx_ofWH (cc := cL_band) (maxL := 5) (ret := some .int) (by decide) rfl ?_
    intro p e s m args below meth c s₁ B hml hv
    obtain ⟨rfl, hP, hK, hb, hE⟩ := hv
    have hall := atoms_spec (ws := Cond.codeWith yL_band cL_band 5 (some .int) [(0, 10, 13, 13)] :: WL) B.pre
    have htab : c.exceptionTable.toList = [⟨0, 10, 13, 13⟩] := vx_table (x := yL_band) B (hall _ List.mem_cons_self)
    have F : Fx p s m _ c cL_band 5 RL b D cy := ⟨B.exec, B.bytes, hml, findClass_of_methodNamed B.named, fun w hw => hall w (List.mem_cons_of_mem _ hw), hK, hb, hE⟩
    have hr := B.returns
    have hl := B.notSynchronized
    unfold fL_band at h
    obtain ⟨k5, h⟩ := gdS h
    obtain ⟨⟨o, M1⟩, c5, h⟩ := bdS h
    have G : X p l e ({ frames := 40, cells := 1, slots := 6, locals := 100 * 40 }) s m [Value.ref (b + v0), .int v1, .int v2, .ref (b + v3)].toArray below meth c (MQ below (Qm b D cy (some (.int r)) Mf) [Value.ref (b + v0), .int v1, .int v2, .ref (b + v3)].toArray s 1 6 (fun q => b ≤ q)) 5 b D cy 0 0 M 0 [(0, .ref (b + v0)), (1, .int v1), (2, .int v2), (3, .ref (b + v3))] [] := by
      refine x_aload_n F dL_band_0 rfl 3 rfl ?_
      refine x_iconst F (v := 0) dL_band_1 (by decide) ?_
      refine x_aload_n F dL_band_2 rfl 0 rfl ?_
      refine x_iload_n F dL_band_3 rfl 1 rfl ?_
      refine x_iload_n F dL_band_4 rfl 2 rfl ?_
      intro H locs ls h1 h2 h3
      refine w_callX F (o := o) (Mf := M1) (rest := [.int 0, .ref (b + v3)]) (lv := [(0, .ref (b + v0)), (1, .int v1), (2, .int v2), (3, .ref (b + v3))]) (by decide) htab rfl (vx_runV (As := [.int v1, .int v2]) (rest := [.int 0, .ref (b + v3)]) ⟨F.1, F.2.1, F.2.2.1, F.2.2.2.1, F.2.2.2.2.1⟩ (kx_X10_band l hlt b D cy N v0 v1 v2 M o M1 c5) (cwV 2 F.2.2.2.2.1 (WL_V wl_1277 wl_1278 wl_1279 wl_31 wl_705) rfl rfl rfl hd_X10_band ⟨Nat.le_of_ble_eq_true rfl, Nat.le_of_ble_eq_true rfl⟩) (w_preV F (ci := 10) (q := (RX10, TX10, 19)) rfl (by decide) k5 h1 h2) rfl rfl h3.1 rfl (lv_room (Nat.le_of_ble_eq_true rfl)) dL_band_5 ⟨Nat.le_of_ble_eq_true rfl, Nat.le_of_ble_eq_true rfl⟩) h2 h3 (fun v ho => ?_) (fun ho q => ?_)
      · subst ho
        obtain ⟨M2, c9, h⟩ := bdS h
        obtain ⟨rfl, rfl⟩ := retS h
        refine x_i2l F dL_band_8 ?_
        refine x_tL F c9 dL_band_9 ?_
        refine x_goto F (tgt := 17) dL_band_10 (by decide) ?_
        refine x_iconst F (v := 0) dL_band_17 (by decide) ?_
        exact x_iret F hr hl dL_band_18
      · subst ho
        obtain ⟨rfl, rfl⟩ := retS h
        refine x_astore F (lv' := [(4, .ref q), (0, .ref (b + v0)), (1, .int v1), (2, .int v2), (3, .ref (b + v3))]) dL_band_13 (by decide) rfl ?_
        refine x_iconst F (v := 1) dL_band_15 (by decide) ?_
        exact x_iret F hr hl dL_band_16
    rw [lg_entry_eq]
    exact vx_ret (G s.heap [] _ hP va_S.rf (lv_entry _ (Nat.le_of_ble_eq_true rfl)))
  exact MetFree.mono K (fun _ _ z => z) (fun _ _ _ _ _ z => z) (fun a s o t _ z => by
    rcases z with z | ⟨q, -, E, ce, L, hx, -⟩
    · exact z
    · exact hx.elim)
theorem dL_law_0 : decode cL_law 0 = .ok (.aload_n 3, 1) := by decide +kernel
theorem dL_law_1 : decode cL_law 1 = .ok (.iconst 0, 1) := by decide +kernel
theorem dL_law_2 : decode cL_law 2 = .ok (.aload_n 0, 1) := by decide +kernel
theorem dL_law_3 : decode cL_law 3 = .ok (.iload_n 1, 1) := by decide +kernel
theorem dL_law_4 : decode cL_law 4 = .ok (.iload_n 2, 1) := by decide +kernel
theorem dL_law_5 : decode cL_law 5 = .ok (.invokevirtual 15, 3) := by decide +kernel
theorem dL_law_8 : decode cL_law 8 = .ok (.i2l, 1) := by decide +kernel
theorem dL_law_9 : decode cL_law 9 = .ok (.lastore, 1) := by decide +kernel
theorem dL_law_10 : decode cL_law 10 = .ok (.goto 7, 3) := by decide +kernel
theorem dL_law_13 : decode cL_law 13 = .ok (.astore 4, 2) := by decide +kernel
theorem dL_law_15 : decode cL_law 15 = .ok (.iconst 1, 1) := by decide +kernel
theorem dL_law_16 : decode cL_law 16 = .ok (.ireturn, 1) := by decide +kernel
theorem dL_law_17 : decode cL_law 17 = .ok (.iconst 0, 1) := by decide +kernel
theorem dL_law_18 : decode cL_law 18 = .ok (.ireturn, 1) := by decide +kernel
theorem hd_L_law : (yL_law).cls = RL ∧ (yL_law).cls ≠ "java/lang/invoke/MethodHandle" ∧ (yL_law).cls ≠ "java/lang/invoke/VarHandle" ∧ (parseMethodDescriptor (yL_law).desc).map (fun d => d.parameters.length) = some 4 := by decide +kernel
theorem hd_X10_law : (yX10_law).cls = RX10 ∧ (yX10_law).cls ≠ "java/lang/invoke/MethodHandle" ∧ (yX10_law).cls ≠ "java/lang/invoke/VarHandle" ∧ (parseMethodDescriptor (yX10_law).desc).map (fun d => d.parameters.length) = some 2 := by decide +kernel
def fL_law (N : Nat) (v0 : Nat) (v1 v2 : Int32) (v3 : Nat) (M : Mem) : Option (Int32 × Mem) := if mK M v0 = 11 then (fX10_law N v0 v1 v2 M).bind fun (o, M1) => match o with | some v => (tL M1 v3 0 (Int32.toInt64 v)).bind fun M2 => some (0, M2) | none => some (1, M1) else none
set_option maxHeartbeats 4000000 in
set_option maxRecDepth 100000 in
theorem k_L_law (l : Launch) (hlt : l.stackTraces = false) (b : Nat) (D : va_G) (cy : Nat → ClassId) (N : Nat) (v0 : Nat) (v1 v2 : Int32) (v3 : Nat) (M : Mem) (r : Int32) (Mf : Mem) (h : fL_law N v0 v1 v2 v3 M = some (r, Mf)) : Met l yL_law (Cond.codeWith yL_law cL_law 5 (some .int) [(0, 10, 13, 13)] :: WL) ({ frames := 40, cells := 1, slots := 6, locals := 100 * 40 }) (va_Pc [.ref (b + v0), .int v1, .int v2, .ref (b + v3)] (Pre b D cy M)) (Qm b D cy (some (.int r)) Mf) 1 6 (fun q => b ≤ q) := by
  have K : vx_Met l yL_law (Cond.codeWith yL_law cL_law 5 (some .int) [(0, 10, 13, 13)] :: WL) ({ frames := 40, cells := 1, slots := 6, locals := 100 * 40 }) (va_Pc [.ref (b + v0), .int v1, .int v2, .ref (b + v3)] (Pre b D cy M)) (Qm b D cy (some (.int r)) Mf) (fun _ _ _ => False) 1 6 (fun q => b ≤ q) := by
    refine vx_ofWH (cc := cL_law) (maxL := 5) (ret := some .int) (by decide) rfl ?_
    intro p e s m args below meth c s₁ B hml hv
    obtain ⟨rfl, hP, hK, hb, hE⟩ := hv
    have hall := atoms_spec (ws := Cond.codeWith yL_law cL_law 5 (some .int) [(0, 10, 13, 13)] :: WL) B.pre
    have htab : c.exceptionTable.toList = [⟨0, 10, 13, 13⟩] := vx_table (x := yL_law) B (hall _ List.mem_cons_self)
    have F : Fx p s m _ c cL_law 5 RL b D cy := ⟨B.exec, B.bytes, hml, findClass_of_methodNamed B.named, fun w hw => hall w (List.mem_cons_of_mem _ hw), hK, hb, hE⟩
    have hr := B.returns
    have hl := B.notSynchronized
    unfold fL_law at h
    obtain ⟨k5, h⟩ := gdS h
    obtain ⟨⟨o, M1⟩, c5, h⟩ := bdS h
    have G : X p l e ({ frames := 40, cells := 1, slots := 6, locals := 100 * 40 }) s m [Value.ref (b + v0), .int v1, .int v2, .ref (b + v3)].toArray below meth c (MQ below (Qm b D cy (some (.int r)) Mf) [Value.ref (b + v0), .int v1, .int v2, .ref (b + v3)].toArray s 1 6 (fun q => b ≤ q)) 5 b D cy 0 0 M 0 [(0, .ref (b + v0)), (1, .int v1), (2, .int v2), (3, .ref (b + v3))] [] := by
      refine x_aload_n F dL_law_0 rfl 3 rfl ?_
      refine x_iconst F (v := 0) dL_law_1 (by decide) ?_
      refine x_aload_n F dL_law_2 rfl 0 rfl ?_
      refine x_iload_n F dL_law_3 rfl 1 rfl ?_
      refine x_iload_n F dL_law_4 rfl 2 rfl ?_
      intro H locs ls h1 h2 h3
      refine w_callX F (o := o) (Mf := M1) (rest := [.int 0, .ref (b + v3)]) (lv := [(0, .ref (b + v0)), (1, .int v1), (2, .int v2), (3, .ref (b + v3))]) (by decide) htab rfl (vx_runV (As := [.int v1, .int v2]) (rest := [.int 0, .ref (b + v3)]) ⟨F.1, F.2.1, F.2.2.1, F.2.2.2.1, F.2.2.2.2.1⟩ (kx_X10_law l hlt b D cy N v0 v1 v2 M o M1 c5) (cwV 2 F.2.2.2.2.1 (WL_V wl_1280 wl_1281 wl_1282 wl_31 wl_720) rfl rfl rfl hd_X10_law ⟨Nat.le_of_ble_eq_true rfl, Nat.le_of_ble_eq_true rfl⟩) (w_preV F (ci := 10) (q := (RX10, TX10, 19)) rfl (by decide) k5 h1 h2) rfl rfl h3.1 rfl (lv_room (Nat.le_of_ble_eq_true rfl)) dL_law_5 ⟨Nat.le_of_ble_eq_true rfl, Nat.le_of_ble_eq_true rfl⟩) h2 h3 (fun v ho => ?_) (fun ho q => ?_)
      · subst ho
        obtain ⟨M2, c9, h⟩ := bdS h
        obtain ⟨rfl, rfl⟩ := retS h
        refine x_i2l F dL_law_8 ?_
        refine x_tL F c9 dL_law_9 ?_
        refine x_goto F (tgt := 17) dL_law_10 (by decide) ?_
        refine x_iconst F (v := 0) dL_law_17 (by decide) ?_
        exact x_iret F hr hl dL_law_18
      · subst ho
        obtain ⟨rfl, rfl⟩ := retS h
        refine x_astore F (lv' := [(4, .ref q), (0, .ref (b + v0)), (1, .int v1), (2, .int v2), (3, .ref (b + v3))]) dL_law_13 (by decide) rfl ?_
        refine x_iconst F (v := 1) dL_law_15 (by decide) ?_
        exact x_iret F hr hl dL_law_16
    rw [lg_entry_eq]
    exact vx_ret (G s.heap [] _ hP va_S.rf (lv_entry _ (Nat.le_of_ble_eq_true rfl)))
  exact MetFree.mono K (fun _ _ z => z) (fun _ _ _ _ _ z => z) (fun a s o t _ z => by
    rcases z with z | ⟨q, -, E, ce, L, hx, -⟩
    · exact z
    · exact hx.elim)
