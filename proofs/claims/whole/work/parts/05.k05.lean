theorem dX9_addFour_0 : decode cX9_addFour 0 = .ok (.bipush 24, 2) := by decide +kernel
theorem dX9_addFour_2 : decode cX9_addFour 2 = .ok (.istore_n 2, 1) := by decide +kernel
theorem dX9_addFour_3 : decode cX9_addFour 3 = .ok (.iload_n 2, 1) := by decide +kernel
theorem dX9_addFour_4 : decode cX9_addFour 4 = .ok (.ifCond .lt 45, 3) := by decide +kernel
theorem dX9_addFour_7 : decode cX9_addFour 7 = .ok (.aload_n 0, 1) := by decide +kernel
theorem dX9_addFour_8 : decode cX9_addFour 8 = .ok (.getfield 19, 3) := by decide +kernel
theorem dX9_addFour_11 : decode cX9_addFour 11 = .ok (.sipush 940, 3) := by decide +kernel
theorem dX9_addFour_14 : decode cX9_addFour 14 = .ok (.if_icmp .ge 29, 3) := by decide +kernel
theorem dX9_addFour_17 : decode cX9_addFour 17 = .ok (.aload_n 0, 1) := by decide +kernel
theorem dX9_addFour_18 : decode cX9_addFour 18 = .ok (.getfield 9, 3) := by decide +kernel
theorem dX9_addFour_21 : decode cX9_addFour 21 = .ok (.aload_n 0, 1) := by decide +kernel
theorem dX9_addFour_22 : decode cX9_addFour 22 = .ok (.getfield 19, 3) := by decide +kernel
theorem dX9_addFour_25 : decode cX9_addFour 25 = .ok (.iload_n 1, 1) := by decide +kernel
theorem dX9_addFour_26 : decode cX9_addFour 26 = .ok (.iload_n 2, 1) := by decide +kernel
theorem dX9_addFour_27 : decode cX9_addFour 27 = .ok (.iushr, 1) := by decide +kernel
theorem dX9_addFour_28 : decode cX9_addFour 28 = .ok (.sipush 255, 3) := by decide +kernel
theorem dX9_addFour_31 : decode cX9_addFour 31 = .ok (.iand, 1) := by decide +kernel
theorem dX9_addFour_32 : decode cX9_addFour 32 = .ok (.iastore, 1) := by decide +kernel
theorem dX9_addFour_33 : decode cX9_addFour 33 = .ok (.aload_n 0, 1) := by decide +kernel
theorem dX9_addFour_34 : decode cX9_addFour 34 = .ok (.dup, 1) := by decide +kernel
theorem dX9_addFour_35 : decode cX9_addFour 35 = .ok (.getfield 19, 3) := by decide +kernel
theorem dX9_addFour_38 : decode cX9_addFour 38 = .ok (.iconst 1, 1) := by decide +kernel
theorem dX9_addFour_39 : decode cX9_addFour 39 = .ok (.iadd, 1) := by decide +kernel
theorem dX9_addFour_40 : decode cX9_addFour 40 = .ok (.putfield 19, 3) := by decide +kernel
theorem dX9_addFour_43 : decode cX9_addFour 43 = .ok (.iinc 2 (-8), 3) := by decide +kernel
theorem dX9_addFour_46 : decode cX9_addFour 46 = .ok (.goto (-43), 3) := by decide +kernel
theorem dX9_addFour_49 : decode cX9_addFour 49 = .ok (.return_, 1) := by decide +kernel
def fX9_addFour_L3 (N : Nat) (v0 : Nat) (v1 : Int32) : Nat → Int32 → Mem → Option (Mem)
  | 0, _, _ => none
  | n + 1, v2, M => (if v2 < 0 then some M else ((fI M 9 v0 2).bind fun x8 => (if 940 ≤ x8 then fX9_addFour_L3 N v0 v1 n (v2 + (-8)) M else ((fR M 9 v0 0).bind fun x18 => ((fI M 9 v0 2).bind fun x22 => ((tI M x18 x22 ((UInt32.toInt32 ((Int32.toUInt32 v1) >>> ((Int32.toUInt32 v2) &&& Int32.toUInt32 31))) &&& 255)).bind fun M32 => ((fI M32 9 v0 2).bind fun x35 => ((pI M32 9 v0 2 (x35 + 1)).bind fun M40 => fX9_addFour_L3 N v0 v1 n (v2 + (-8)) M40))))))))
def fX9_addFour (N : Nat) (v0 : Nat) (v1 : Int32) (M : Mem) : Option (Unit × Mem) := ((fX9_addFour_L3 N v0 v1 N 24 M).bind fun o3 => some ((), o3))
set_option maxHeartbeats 4000000 in
set_option maxRecDepth 100000 in
theorem k_X9_addFour (l : Launch) (b : Nat) (D : va_G) (cy : Nat → ClassId) (N : Nat) (v0 : Nat) (v1 : Int32) (M : Mem) (r : Unit) (Mf : Mem) (h : fX9_addFour N v0 v1 M = some (r, Mf)) : Ct l yX9_addFour cX9_addFour 3 none 1 0 0 b D cy [.ref (b + v0), .int v1] M none Mf := by
  refine Ct_of (own := RX9) (by decide) rfl (Nat.le_of_ble_eq_true rfl) ?_
  intro p e s m args below meth c F hr hl hmn
  unfold fX9_addFour at h
  show X p l e ({ frames := 1, cells := 0, slots := 0, locals := 100 * 1 }) s m args below meth c (MQ below (Qm b D cy none Mf) args s 0 0 (fun q => b ≤ q)) 3 b D cy 0 0 M 0 [(0, .ref (b + v0)), (1, .int v1)] []
  refine x_bipush F (v := 24) dX9_addFour_0 (by decide) ?_
  refine x_istore_n F (lv' := [(2, .int 24), (0, .ref (b + v0)), (1, .int v1)]) dX9_addFour_2 rfl (by decide) rfl ?_
  have L3 : ∀ (v0 : Nat) (v1 : Int32) (n : Nat) (v2 : Int32) (M : Mem) (o : Mem), fX9_addFour_L3 N v0 v1 n v2 M = some o → X p l e ({ frames := 1, cells := 0, slots := 0, locals := 100 * 1 }) s m args below meth c (MQ below (Qm b D cy none Mf) args s 0 0 (fun q => b ≤ q)) 3 b D cy 0 0 o 49 [] [] → X p l e ({ frames := 1, cells := 0, slots := 0, locals := 100 * 1 }) s m args below meth c (MQ below (Qm b D cy none Mf) args s 0 0 (fun q => b ≤ q)) 3 b D cy 0 0 M 3 [(0, .ref (b + v0)), (1, .int v1), (2, .int v2)] [] := by
    intro v0 v1 n
    induction n with
    | zero => intro v2 M o h; exact absurd h (by rw [fX9_addFour_L3]; exact fun z => by cases z)
    | succ n ih =>
      intro v2 M o h hE
      rw [fX9_addFour_L3] at h
      refine x_iload_n F dX9_addFour_3 rfl 2 rfl ?_
      refine x_if_lt F (tgt := 49) dX9_addFour_4 (by decide) (fun c4 => ?_) (fun c4 => ?_)
      · rw [if_pos c4] at h
        obtain rfl := Option.some.inj h
        refine x_sub [] rfl ?_
        exact hE
      · rw [if_neg c4] at h
        refine x_aload_n F dX9_addFour_7 rfl 0 rfl ?_
        obtain ⟨x8, c8, h⟩ := bdS h
        refine x_getI F (ci := 9) (C := RX9) (T := TX9) (N := 12) rfl ⟨by decide, rfl⟩ inU9 2 (by decide) (fun _ _ _ => rfl) wl_148 c8 dX9_addFour_8 ?_
        refine x_sipush F (v := 940) dX9_addFour_11 (by decide) ?_
        refine x_icmp_ge F (tgt := 43) dX9_addFour_14 (by decide) (fun c14 => ?_) (fun c14 => ?_)
        · rw [if_pos c14] at h
          refine x_iinc F (v := v2 + (-8)) (lv' := [(2, .int (v2 + (-8))), (0, .ref (b + v0)), (1, .int v1)]) dX9_addFour_43 2 rfl rfl (by decide) rfl ?_
          refine x_goto F (tgt := 3) dX9_addFour_46 (by decide) ?_
          refine x_sub [1, 2, 0] rfl ?_
          exact ih (v2 + (-8)) M o h hE
        · rw [if_neg c14] at h
          refine x_aload_n F dX9_addFour_17 rfl 0 rfl ?_
          obtain ⟨x18, c18, h⟩ := bdS h
          refine x_getR F (ci := 9) (C := RX9) (T := TX9) (N := 12) rfl ⟨by decide, rfl⟩ inU9 0 (by decide) (fun _ _ _ => rfl) wl_149 c18 dX9_addFour_18 ?_
          refine x_aload_n F dX9_addFour_21 rfl 0 rfl ?_
          obtain ⟨x22, c22, h⟩ := bdS h
          refine x_getI F (ci := 9) (C := RX9) (T := TX9) (N := 12) rfl ⟨by decide, rfl⟩ inU9 2 (by decide) (fun _ _ _ => rfl) wl_148 c22 dX9_addFour_22 ?_
          refine x_iload_n F dX9_addFour_25 rfl 1 rfl ?_
          refine x_iload_n F dX9_addFour_26 rfl 2 rfl ?_
          refine x_iushr F dX9_addFour_27 ?_
          refine x_sipush F (v := 255) dX9_addFour_28 (by decide) ?_
          refine x_iand F dX9_addFour_31 ?_
          obtain ⟨M32, c32, h⟩ := bdS h
          refine x_tI F c32 dX9_addFour_32 ?_
          refine x_aload_n F dX9_addFour_33 rfl 0 rfl ?_
          refine x_dup F dX9_addFour_34 rfl ?_
          obtain ⟨x35, c35, h⟩ := bdS h
          refine x_getI F (ci := 9) (C := RX9) (T := TX9) (N := 12) rfl ⟨by decide, rfl⟩ inU9 2 (by decide) (fun _ _ _ => rfl) wl_148 c35 dX9_addFour_35 ?_
          refine x_iconst F (v := 1) dX9_addFour_38 (by decide) ?_
          refine x_iadd F dX9_addFour_39 ?_
          obtain ⟨M40, c40, h⟩ := bdS h
          refine x_putI F (ci := 9) (C := RX9) (T := TX9) (N := 12) rfl ⟨by decide, rfl⟩ inU9 tyX9_ok nmX9 2 (by decide) rfl rfl wl_148 c40 dX9_addFour_40 ?_
          refine x_iinc F (v := v2 + (-8)) (lv' := [(2, .int (v2 + (-8))), (0, .ref (b + v0)), (1, .int v1)]) dX9_addFour_43 2 rfl rfl (by decide) rfl ?_
          refine x_goto F (tgt := 3) dX9_addFour_46 (by decide) ?_
          refine x_sub [1, 2, 0] rfl ?_
          exact ih (v2 + (-8)) M40 o h hE
  obtain ⟨o3, h3, h⟩ := bdS h
  refine x_sub [1, 2, 0] rfl ?_
  refine L3 v0 v1 N 24 M o3 h3 ?_
  obtain ⟨rfl, rfl⟩ := retS h
  exact x_vret F hr hl dX9_addFour_49
theorem hd_X9_addFour : (yX9_addFour).cls = RX9 ∧ (yX9_addFour).cls ≠ "java/lang/invoke/MethodHandle" ∧ (yX9_addFour).cls ≠ "java/lang/invoke/VarHandle" ∧ (parseMethodDescriptor (yX9_addFour).desc).map (fun d => d.parameters.length) = some 1 := by decide +kernel
theorem dX10_feed_0 : decode cX10_feed 0 = .ok (.aload_n 0, 1) := by decide +kernel
theorem dX10_feed_1 : decode cX10_feed 1 = .ok (.getfield 12, 3) := by decide +kernel
theorem dX10_feed_4 : decode cX10_feed 4 = .ok (.getfield 114, 3) := by decide +kernel
theorem dX10_feed_7 : decode cX10_feed 7 = .ok (.bipush 20, 2) := by decide +kernel
theorem dX10_feed_9 : decode cX10_feed 9 = .ok (.iadd, 1) := by decide +kernel
theorem dX10_feed_10 : decode cX10_feed 10 = .ok (.sipush 940, 3) := by decide +kernel
theorem dX10_feed_13 : decode cX10_feed 13 = .ok (.if_icmp .le 5, 3) := by decide +kernel
theorem dX10_feed_16 : decode cX10_feed 16 = .ok (.iconst (-1), 1) := by decide +kernel
theorem dX10_feed_17 : decode cX10_feed 17 = .ok (.ireturn, 1) := by decide +kernel
theorem dX10_feed_18 : decode cX10_feed 18 = .ok (.aload_n 0, 1) := by decide +kernel
theorem dX10_feed_19 : decode cX10_feed 19 = .ok (.getfield 12, 3) := by decide +kernel
theorem dX10_feed_22 : decode cX10_feed 22 = .ok (.iload_n 1, 1) := by decide +kernel
theorem dX10_feed_23 : decode cX10_feed 23 = .ok (.invokevirtual 117, 3) := by decide +kernel
theorem dX10_feed_26 : decode cX10_feed 26 = .ok (.aload_n 0, 1) := by decide +kernel
theorem dX10_feed_27 : decode cX10_feed 27 = .ok (.getfield 12, 3) := by decide +kernel
theorem dX10_feed_30 : decode cX10_feed 30 = .ok (.iload_n 2, 1) := by decide +kernel
theorem dX10_feed_31 : decode cX10_feed 31 = .ok (.invokevirtual 117, 3) := by decide +kernel
theorem dX10_feed_34 : decode cX10_feed 34 = .ok (.aload_n 0, 1) := by decide +kernel
theorem dX10_feed_35 : decode cX10_feed 35 = .ok (.getfield 12, 3) := by decide +kernel
theorem dX10_feed_38 : decode cX10_feed 38 = .ok (.iload_n 3, 1) := by decide +kernel
theorem dX10_feed_39 : decode cX10_feed 39 = .ok (.invokevirtual 117, 3) := by decide +kernel
theorem dX10_feed_42 : decode cX10_feed 42 = .ok (.aload_n 0, 1) := by decide +kernel
theorem dX10_feed_43 : decode cX10_feed 43 = .ok (.getfield 12, 3) := by decide +kernel
theorem dX10_feed_46 : decode cX10_feed 46 = .ok (.iload 4, 2) := by decide +kernel
theorem dX10_feed_48 : decode cX10_feed 48 = .ok (.invokevirtual 117, 3) := by decide +kernel
theorem dX10_feed_51 : decode cX10_feed 51 = .ok (.aload_n 0, 1) := by decide +kernel
theorem dX10_feed_52 : decode cX10_feed 52 = .ok (.getfield 12, 3) := by decide +kernel
theorem dX10_feed_55 : decode cX10_feed 55 = .ok (.iload 5, 2) := by decide +kernel
theorem dX10_feed_57 : decode cX10_feed 57 = .ok (.invokevirtual 117, 3) := by decide +kernel
theorem dX10_feed_60 : decode cX10_feed 60 = .ok (.aload_n 0, 1) := by decide +kernel
theorem dX10_feed_61 : decode cX10_feed 61 = .ok (.getfield 12, 3) := by decide +kernel
theorem dX10_feed_64 : decode cX10_feed 64 = .ok (.getfield 114, 3) := by decide +kernel
theorem dX10_feed_67 : decode cX10_feed 67 = .ok (.ireturn, 1) := by decide +kernel
def fX10_feed (N : Nat) (v0 : Nat) (v1 : Int32) (v2 : Int32) (v3 : Int32) (v4 : Int32) (v5 : Int32) (M : Mem) : Option (Int32 × Mem) := ((fR M 10 v0 0).bind fun x1 => ((fI M 9 x1 2).bind fun x4 => (if (x4 + 20) ≤ 940 then ((fR M 10 v0 0).bind fun x19 => (if mK M x19 = 10 then ((fX9_addFour N x19 v1 M).bind fun (u23, M23) => ((fR M23 10 v0 0).bind fun x27 => (if mK M23 x27 = 10 then ((fX9_addFour N x27 v2 M23).bind fun (u31, M31) => ((fR M31 10 v0 0).bind fun x35 => (if mK M31 x35 = 10 then ((fX9_addFour N x35 v3 M31).bind fun (u39, M39) => ((fR M39 10 v0 0).bind fun x43 => (if mK M39 x43 = 10 then ((fX9_addFour N x43 v4 M39).bind fun (u48, M48) => ((fR M48 10 v0 0).bind fun x52 => (if mK M48 x52 = 10 then ((fX9_addFour N x52 v5 M48).bind fun (u57, M57) => ((fR M57 10 v0 0).bind fun x61 => ((fI M57 9 x61 2).bind fun x64 => some (x64, M57)))) else none))) else none))) else none))) else none))) else none)) else some ((-1), M))))
set_option maxHeartbeats 4000000 in
set_option maxRecDepth 100000 in
theorem k_X10_feed (l : Launch) (b : Nat) (D : va_G) (cy : Nat → ClassId) (N : Nat) (v0 : Nat) (v1 : Int32) (v2 : Int32) (v3 : Int32) (v4 : Int32) (v5 : Int32) (M : Mem) (r : Int32) (Mf : Mem) (h : fX10_feed N v0 v1 v2 v3 v4 v5 M = some (r, Mf)) : Ct l yX10_feed cX10_feed 6 (some .int) 2 0 0 b D cy [.ref (b + v0), .int v1, .int v2, .int v3, .int v4, .int v5] M (some (.int r)) Mf := by
  refine Ct_of (own := RX10) (by decide) rfl (Nat.le_of_ble_eq_true rfl) ?_
  intro p e s m args below meth c F hr hl hmn
  unfold fX10_feed at h
  show X p l e ({ frames := 2, cells := 0, slots := 0, locals := 100 * 2 }) s m args below meth c (MQ below (Qm b D cy (some (.int r)) Mf) args s 0 0 (fun q => b ≤ q)) 6 b D cy 0 0 M 0 [(0, .ref (b + v0)), (1, .int v1), (2, .int v2), (3, .int v3), (4, .int v4), (5, .int v5)] []
  refine x_aload_n F dX10_feed_0 rfl 0 rfl ?_
  obtain ⟨x1, c1, h⟩ := bdS h
  refine x_getR F (ci := 10) (C := RX10) (T := TX10) (N := 19) rfl ⟨by decide, rfl⟩ inU10 0 (by decide) (fun _ _ _ => rfl) wl_616 c1 dX10_feed_1 ?_
  obtain ⟨x4, c4, h⟩ := bdS h
  refine x_getI F (ci := 9) (C := RX9) (T := TX9) (N := 12) rfl ⟨by decide, rfl⟩ inU9 2 (by decide) (fun _ _ _ => rfl) wl_674 c4 dX10_feed_4 ?_
  refine x_bipush F (v := 20) dX10_feed_7 (by decide) ?_
  refine x_iadd F dX10_feed_9 ?_
  refine x_sipush F (v := 940) dX10_feed_10 (by decide) ?_
  refine x_icmp_le F (tgt := 18) dX10_feed_13 (by decide) (fun c13 => ?_) (fun c13 => ?_)
  · rw [if_pos c13] at h
    refine x_aload_n F dX10_feed_18 rfl 0 rfl ?_
    obtain ⟨x19, c19, h⟩ := bdS h
    refine x_getR F (ci := 10) (C := RX10) (T := TX10) (N := 19) rfl ⟨by decide, rfl⟩ inU10 0 (by decide) (fun _ _ _ => rfl) wl_616 c19 dX10_feed_19 ?_
    refine x_iload_n F dX10_feed_22 rfl 1 rfl ?_
    obtain ⟨k23, h⟩ := gdS h
    obtain ⟨⟨u23, M23⟩, c23, h⟩ := bdS h
    dsimp only at h
    refine x_callV F (As := [.int v1]) (rest := []) (res := none) (ci := 9) (q := (RX9, TX9, 12)) rfl (by decide) k23 (k_X9_addFour l b D cy N x19 v1 M _ _ c23) wl_675 wl_676 wl_677 wl_164 wl_612 hd_X9_addFour ⟨Nat.le_of_ble_eq_true rfl, Nat.le_of_ble_eq_true rfl⟩ ⟨Nat.le_refl _, Nat.le_refl _⟩ (Nat.le_of_ble_eq_true rfl) rfl dX10_feed_23 ?_
    refine x_aload_n F dX10_feed_26 rfl 0 rfl ?_
    obtain ⟨x27, c27, h⟩ := bdS h
    refine x_getR F (ci := 10) (C := RX10) (T := TX10) (N := 19) rfl ⟨by decide, rfl⟩ inU10 0 (by decide) (fun _ _ _ => rfl) wl_616 c27 dX10_feed_27 ?_
    refine x_iload_n F dX10_feed_30 rfl 2 rfl ?_
    obtain ⟨k31, h⟩ := gdS h
    obtain ⟨⟨u31, M31⟩, c31, h⟩ := bdS h
    dsimp only at h
    refine x_callV F (As := [.int v2]) (rest := []) (res := none) (ci := 9) (q := (RX9, TX9, 12)) rfl (by decide) k31 (k_X9_addFour l b D cy N x27 v2 M23 _ _ c31) wl_675 wl_676 wl_677 wl_164 wl_612 hd_X9_addFour ⟨Nat.le_of_ble_eq_true rfl, Nat.le_of_ble_eq_true rfl⟩ ⟨Nat.le_refl _, Nat.le_refl _⟩ (Nat.le_of_ble_eq_true rfl) rfl dX10_feed_31 ?_
    refine x_aload_n F dX10_feed_34 rfl 0 rfl ?_
    obtain ⟨x35, c35, h⟩ := bdS h
    refine x_getR F (ci := 10) (C := RX10) (T := TX10) (N := 19) rfl ⟨by decide, rfl⟩ inU10 0 (by decide) (fun _ _ _ => rfl) wl_616 c35 dX10_feed_35 ?_
    refine x_iload_n F dX10_feed_38 rfl 3 rfl ?_
    obtain ⟨k39, h⟩ := gdS h
    obtain ⟨⟨u39, M39⟩, c39, h⟩ := bdS h
    dsimp only at h
    refine x_callV F (As := [.int v3]) (rest := []) (res := none) (ci := 9) (q := (RX9, TX9, 12)) rfl (by decide) k39 (k_X9_addFour l b D cy N x35 v3 M31 _ _ c39) wl_675 wl_676 wl_677 wl_164 wl_612 hd_X9_addFour ⟨Nat.le_of_ble_eq_true rfl, Nat.le_of_ble_eq_true rfl⟩ ⟨Nat.le_refl _, Nat.le_refl _⟩ (Nat.le_of_ble_eq_true rfl) rfl dX10_feed_39 ?_
    refine x_aload_n F dX10_feed_42 rfl 0 rfl ?_
    obtain ⟨x43, c43, h⟩ := bdS h
    refine x_getR F (ci := 10) (C := RX10) (T := TX10) (N := 19) rfl ⟨by decide, rfl⟩ inU10 0 (by decide) (fun _ _ _ => rfl) wl_616 c43 dX10_feed_43 ?_
    refine x_iload F dX10_feed_46 4 rfl ?_
    obtain ⟨k48, h⟩ := gdS h
    obtain ⟨⟨u48, M48⟩, c48, h⟩ := bdS h
    dsimp only at h
    refine x_callV F (As := [.int v4]) (rest := []) (res := none) (ci := 9) (q := (RX9, TX9, 12)) rfl (by decide) k48 (k_X9_addFour l b D cy N x43 v4 M39 _ _ c48) wl_675 wl_676 wl_677 wl_164 wl_612 hd_X9_addFour ⟨Nat.le_of_ble_eq_true rfl, Nat.le_of_ble_eq_true rfl⟩ ⟨Nat.le_refl _, Nat.le_refl _⟩ (Nat.le_of_ble_eq_true rfl) rfl dX10_feed_48 ?_
    refine x_aload_n F dX10_feed_51 rfl 0 rfl ?_
    obtain ⟨x52, c52, h⟩ := bdS h
    refine x_getR F (ci := 10) (C := RX10) (T := TX10) (N := 19) rfl ⟨by decide, rfl⟩ inU10 0 (by decide) (fun _ _ _ => rfl) wl_616 c52 dX10_feed_52 ?_
    refine x_iload F dX10_feed_55 5 rfl ?_
    obtain ⟨k57, h⟩ := gdS h
    obtain ⟨⟨u57, M57⟩, c57, h⟩ := bdS h
    dsimp only at h
    refine x_callV F (As := [.int v5]) (rest := []) (res := none) (ci := 9) (q := (RX9, TX9, 12)) rfl (by decide) k57 (k_X9_addFour l b D cy N x52 v5 M48 _ _ c57) wl_675 wl_676 wl_677 wl_164 wl_612 hd_X9_addFour ⟨Nat.le_of_ble_eq_true rfl, Nat.le_of_ble_eq_true rfl⟩ ⟨Nat.le_refl _, Nat.le_refl _⟩ (Nat.le_of_ble_eq_true rfl) rfl dX10_feed_57 ?_
    refine x_aload_n F dX10_feed_60 rfl 0 rfl ?_
    obtain ⟨x61, c61, h⟩ := bdS h
    refine x_getR F (ci := 10) (C := RX10) (T := TX10) (N := 19) rfl ⟨by decide, rfl⟩ inU10 0 (by decide) (fun _ _ _ => rfl) wl_616 c61 dX10_feed_61 ?_
    obtain ⟨x64, c64, h⟩ := bdS h
    refine x_getI F (ci := 9) (C := RX9) (T := TX9) (N := 12) rfl ⟨by decide, rfl⟩ inU9 2 (by decide) (fun _ _ _ => rfl) wl_674 c64 dX10_feed_64 ?_
    obtain ⟨rfl, rfl⟩ := retS h
    exact x_iret F hr hl dX10_feed_67
  · rw [if_neg c13] at h
    refine x_iconst F (v := (-1)) dX10_feed_16 (by decide) ?_
    obtain ⟨rfl, rfl⟩ := retS h
    exact x_iret F hr hl dX10_feed_17
theorem dX10_end_0 : decode cX10_end 0 = .ok (.iload_n 1, 1) := by decide +kernel
theorem dX10_end_1 : decode cX10_end 1 = .ok (.ifCond .lt 14, 3) := by decide +kernel
theorem dX10_end_4 : decode cX10_end 4 = .ok (.iload_n 1, 1) := by decide +kernel
theorem dX10_end_5 : decode cX10_end 5 = .ok (.aload_n 0, 1) := by decide +kernel
theorem dX10_end_6 : decode cX10_end 6 = .ok (.getfield 12, 3) := by decide +kernel
theorem dX10_end_9 : decode cX10_end 9 = .ok (.getfield 114, 3) := by decide +kernel
theorem dX10_end_12 : decode cX10_end 12 = .ok (.if_icmp .le 5, 3) := by decide +kernel
theorem dX10_end_15 : decode cX10_end 15 = .ok (.iconst 0, 1) := by decide +kernel
theorem dX10_end_16 : decode cX10_end 16 = .ok (.ireturn, 1) := by decide +kernel
theorem dX10_end_17 : decode cX10_end 17 = .ok (.aload_n 0, 1) := by decide +kernel
theorem dX10_end_18 : decode cX10_end 18 = .ok (.getfield 12, 3) := by decide +kernel
theorem dX10_end_21 : decode cX10_end 21 = .ok (.iload_n 1, 1) := by decide +kernel
theorem dX10_end_22 : decode cX10_end 22 = .ok (.putfield 114, 3) := by decide +kernel
theorem dX10_end_25 : decode cX10_end 25 = .ok (.iconst 1, 1) := by decide +kernel
theorem dX10_end_26 : decode cX10_end 26 = .ok (.ireturn, 1) := by decide +kernel
def fX10_end (N : Nat) (v0 : Nat) (v1 : Int32) (M : Mem) : Option (Int32 × Mem) := (if v1 < 0 then some (0, M) else ((fR M 10 v0 0).bind fun x6 => ((fI M 9 x6 2).bind fun x9 => (if v1 ≤ x9 then ((fR M 10 v0 0).bind fun x18 => ((pI M 9 x18 2 v1).bind fun M22 => some (1, M22))) else some (0, M)))))
set_option maxHeartbeats 4000000 in
set_option maxRecDepth 100000 in
theorem k_X10_end (l : Launch) (b : Nat) (D : va_G) (cy : Nat → ClassId) (N : Nat) (v0 : Nat) (v1 : Int32) (M : Mem) (r : Int32) (Mf : Mem) (h : fX10_end N v0 v1 M = some (r, Mf)) : Ct l yX10_end cX10_end 2 (some .boolean) 1 0 0 b D cy [.ref (b + v0), .int v1] M (some (.int r)) Mf := by
  refine Ct_of (own := RX10) (by decide) rfl (Nat.le_of_ble_eq_true rfl) ?_
  intro p e s m args below meth c F hr hl hmn
  unfold fX10_end at h
  show X p l e ({ frames := 1, cells := 0, slots := 0, locals := 100 * 1 }) s m args below meth c (MQ below (Qm b D cy (some (.int r)) Mf) args s 0 0 (fun q => b ≤ q)) 2 b D cy 0 0 M 0 [(0, .ref (b + v0)), (1, .int v1)] []
  refine x_iload_n F dX10_end_0 rfl 1 rfl ?_
  refine x_if_lt F (tgt := 15) dX10_end_1 (by decide) (fun c1 => ?_) (fun c1 => ?_)
  · rw [if_pos c1] at h
    refine x_iconst F (v := 0) dX10_end_15 (by decide) ?_
    obtain ⟨rfl, rfl⟩ := retS h
    exact x_zret F hr hl (by decide) dX10_end_16
  · rw [if_neg c1] at h
    refine x_iload_n F dX10_end_4 rfl 1 rfl ?_
    refine x_aload_n F dX10_end_5 rfl 0 rfl ?_
    obtain ⟨x6, c6, h⟩ := bdS h
    refine x_getR F (ci := 10) (C := RX10) (T := TX10) (N := 19) rfl ⟨by decide, rfl⟩ inU10 0 (by decide) (fun _ _ _ => rfl) wl_616 c6 dX10_end_6 ?_
    obtain ⟨x9, c9, h⟩ := bdS h
    refine x_getI F (ci := 9) (C := RX9) (T := TX9) (N := 12) rfl ⟨by decide, rfl⟩ inU9 2 (by decide) (fun _ _ _ => rfl) wl_674 c9 dX10_end_9 ?_
    refine x_icmp_le F (tgt := 17) dX10_end_12 (by decide) (fun c12 => ?_) (fun c12 => ?_)
    · rw [if_pos c12] at h
      refine x_aload_n F dX10_end_17 rfl 0 rfl ?_
      obtain ⟨x18, c18, h⟩ := bdS h
      refine x_getR F (ci := 10) (C := RX10) (T := TX10) (N := 19) rfl ⟨by decide, rfl⟩ inU10 0 (by decide) (fun _ _ _ => rfl) wl_616 c18 dX10_end_18 ?_
      refine x_iload_n F dX10_end_21 rfl 1 rfl ?_
      obtain ⟨M22, c22, h⟩ := bdS h
      refine x_putI F (ci := 9) (C := RX9) (T := TX9) (N := 12) rfl ⟨by decide, rfl⟩ inU9 tyX9_ok nmX9 2 (by decide) rfl rfl wl_674 c22 dX10_end_22 ?_
      refine x_iconst F (v := 1) dX10_end_25 (by decide) ?_
      obtain ⟨rfl, rfl⟩ := retS h
      exact x_zret F hr hl (by decide) dX10_end_26
    · rw [if_neg c12] at h
      refine x_iconst F (v := 0) dX10_end_15 (by decide) ?_
      obtain ⟨rfl, rfl⟩ := retS h
      exact x_zret F hr hl (by decide) dX10_end_16
theorem hd_X8_readFrom : (yX8_readFrom).cls = RX8 ∧ (yX8_readFrom).cls ≠ "java/lang/invoke/MethodHandle" ∧ (yX8_readFrom).cls ≠ "java/lang/invoke/VarHandle" ∧ (parseMethodDescriptor (yX8_readFrom).desc).map (fun d => d.parameters.length) = some 1 := by decide +kernel
theorem hd_X8_copyFrom : (yX8_copyFrom).cls = RX8 ∧ (yX8_copyFrom).cls ≠ "java/lang/invoke/MethodHandle" ∧ (yX8_copyFrom).cls ≠ "java/lang/invoke/VarHandle" ∧ (parseMethodDescriptor (yX8_copyFrom).desc).map (fun d => d.parameters.length) = some 1 := by decide +kernel
theorem hd_X0_clear : (yX0_clear).cls = RX0 ∧ (yX0_clear).cls ≠ "java/lang/invoke/MethodHandle" ∧ (yX0_clear).cls ≠ "java/lang/invoke/VarHandle" ∧ (parseMethodDescriptor (yX0_clear).desc).map (fun d => d.parameters.length) = some 0 := by decide +kernel
theorem hd_X5_clear : (yX5_clear).cls = RX5 ∧ (yX5_clear).cls ≠ "java/lang/invoke/MethodHandle" ∧ (yX5_clear).cls ≠ "java/lang/invoke/VarHandle" ∧ (parseMethodDescriptor (yX5_clear).desc).map (fun d => d.parameters.length) = some 0 := by decide +kernel
theorem dX10_shore_0 : decode cX10_shore 0 = .ok (.aload_n 0, 1) := by decide +kernel
theorem dX10_shore_1 : decode cX10_shore 1 = .ok (.getfield 23, 3) := by decide +kernel
theorem dX10_shore_4 : decode cX10_shore 4 = .ok (.aload_n 0, 1) := by decide +kernel
theorem dX10_shore_5 : decode cX10_shore 5 = .ok (.getfield 12, 3) := by decide +kernel
theorem dX10_shore_8 : decode cX10_shore 8 = .ok (.invokevirtual 121, 3) := by decide +kernel
theorem dX10_shore_11 : decode cX10_shore 11 = .ok (.aload_n 0, 1) := by decide +kernel
theorem dX10_shore_12 : decode cX10_shore 12 = .ok (.getfield 12, 3) := by decide +kernel
theorem dX10_shore_15 : decode cX10_shore 15 = .ok (.iconst 0, 1) := by decide +kernel
theorem dX10_shore_16 : decode cX10_shore 16 = .ok (.putfield 114, 3) := by decide +kernel
theorem dX10_shore_19 : decode cX10_shore 19 = .ok (.aload_n 0, 1) := by decide +kernel
theorem dX10_shore_20 : decode cX10_shore 20 = .ok (.getfield 12, 3) := by decide +kernel
theorem dX10_shore_23 : decode cX10_shore 23 = .ok (.getfield 125, 3) := by decide +kernel
theorem dX10_shore_26 : decode cX10_shore 26 = .ok (.ifCond .eq 13, 3) := by decide +kernel
theorem dX10_shore_29 : decode cX10_shore 29 = .ok (.iconst (-1), 1) := by decide +kernel
theorem dX10_shore_30 : decode cX10_shore 30 = .ok (.aload_n 0, 1) := by decide +kernel
theorem dX10_shore_31 : decode cX10_shore 31 = .ok (.getfield 12, 3) := by decide +kernel
theorem dX10_shore_34 : decode cX10_shore 34 = .ok (.getfield 128, 3) := by decide +kernel
theorem dX10_shore_37 : decode cX10_shore 37 = .ok (.isub, 1) := by decide +kernel
theorem dX10_shore_38 : decode cX10_shore 38 = .ok (.ireturn, 1) := by decide +kernel
theorem dX10_shore_39 : decode cX10_shore 39 = .ok (.aload_n 0, 1) := by decide +kernel
theorem dX10_shore_40 : decode cX10_shore 40 = .ok (.getfield 19, 3) := by decide +kernel
theorem dX10_shore_43 : decode cX10_shore 43 = .ok (.aload_n 0, 1) := by decide +kernel
theorem dX10_shore_44 : decode cX10_shore 44 = .ok (.getfield 23, 3) := by decide +kernel
theorem dX10_shore_47 : decode cX10_shore 47 = .ok (.invokevirtual 131, 3) := by decide +kernel
theorem dX10_shore_50 : decode cX10_shore 50 = .ok (.aload_n 0, 1) := by decide +kernel
theorem dX10_shore_51 : decode cX10_shore 51 = .ok (.getfield 31, 3) := by decide +kernel
theorem dX10_shore_54 : decode cX10_shore 54 = .ok (.invokevirtual 134, 3) := by decide +kernel
theorem dX10_shore_57 : decode cX10_shore 57 = .ok (.aload_n 0, 1) := by decide +kernel
theorem dX10_shore_58 : decode cX10_shore 58 = .ok (.getfield 41, 3) := by decide +kernel
theorem dX10_shore_61 : decode cX10_shore 61 = .ok (.invokevirtual 137, 3) := by decide +kernel
theorem dX10_shore_64 : decode cX10_shore 64 = .ok (.aload_n 0, 1) := by decide +kernel
theorem dX10_shore_65 : decode cX10_shore 65 = .ok (.getfield 55, 3) := by decide +kernel
theorem dX10_shore_68 : decode cX10_shore 68 = .ok (.invokevirtual 138, 3) := by decide +kernel
theorem dX10_shore_71 : decode cX10_shore 71 = .ok (.aload_n 0, 1) := by decide +kernel
theorem dX10_shore_72 : decode cX10_shore 72 = .ok (.getfield 19, 3) := by decide +kernel
theorem dX10_shore_75 : decode cX10_shore 75 = .ok (.getfield 139, 3) := by decide +kernel
theorem dX10_shore_78 : decode cX10_shore 78 = .ok (.ireturn, 1) := by decide +kernel
def fX10_shore (N : Nat) (v0 : Nat) (M : Mem) : Option (Int32 × Mem) := ((fR M 10 v0 2).bind fun x1 => ((fR M 10 v0 0).bind fun x5 => (if mK M x1 = 9 then ((fX8_readFrom N x1 x5 M).bind fun (u8, M8) => ((fR M8 10 v0 0).bind fun x12 => ((pI M8 9 x12 2 0).bind fun M16 => ((fR M16 10 v0 0).bind fun x20 => ((fI M16 9 x20 10).bind fun x23 => (if x23 = 0 then ((fR M16 10 v0 1).bind fun x40 => ((fR M16 10 v0 2).bind fun x44 => (if mK M16 x40 = 9 then ((fX8_copyFrom N x40 x44 M16).bind fun (u47, M47) => ((fR M47 10 v0 3).bind fun x51 => (if mK M47 x51 = 1 then ((fX0_clear N x51 M47).bind fun (u54, M54) => ((fR M54 10 v0 5).bind fun x58 => (if mK M54 x58 = 6 then ((fX5_clear N x58 M54).bind fun (u61, M61) => ((fR M61 10 v0 7).bind fun x65 => (if mK M61 x65 = 8 then ((fX7_clear N x65 M61).bind fun (u68, M68) => ((fR M68 10 v0 1).bind fun x72 => ((fI M68 8 x72 16).bind fun x75 => some (x75, M68)))) else none))) else none))) else none))) else none))) else ((fR M16 10 v0 0).bind fun x31 => ((fI M16 9 x31 11).bind fun x34 => some (((-1)) - x34, M16))))))))) else none)))
set_option maxHeartbeats 4000000 in
set_option maxRecDepth 100000 in
theorem k_X10_shore (l : Launch) (b : Nat) (D : va_G) (cy : Nat → ClassId) (N : Nat) (v0 : Nat) (M : Mem) (r : Int32) (Mf : Mem) (h : fX10_shore N v0 M = some (r, Mf)) : Ct l yX10_shore cX10_shore 1 (some .int) 7 0 0 b D cy [.ref (b + v0)] M (some (.int r)) Mf := by
  refine Ct_of (own := RX10) (by decide) rfl (Nat.le_of_ble_eq_true rfl) ?_
  intro p e s m args below meth c F hr hl hmn
  unfold fX10_shore at h
  show X p l e ({ frames := 7, cells := 0, slots := 0, locals := 100 * 7 }) s m args below meth c (MQ below (Qm b D cy (some (.int r)) Mf) args s 0 0 (fun q => b ≤ q)) 1 b D cy 0 0 M 0 [(0, .ref (b + v0))] []
  refine x_aload_n F dX10_shore_0 rfl 0 rfl ?_
  obtain ⟨x1, c1, h⟩ := bdS h
  refine x_getR F (ci := 10) (C := RX10) (T := TX10) (N := 19) rfl ⟨by decide, rfl⟩ inU10 2 (by decide) (fun _ _ _ => rfl) wl_620 c1 dX10_shore_1 ?_
  refine x_aload_n F dX10_shore_4 rfl 0 rfl ?_
  obtain ⟨x5, c5, h⟩ := bdS h
  refine x_getR F (ci := 10) (C := RX10) (T := TX10) (N := 19) rfl ⟨by decide, rfl⟩ inU10 0 (by decide) (fun _ _ _ => rfl) wl_616 c5 dX10_shore_5 ?_
  obtain ⟨k8, h⟩ := gdS h
  obtain ⟨⟨u8, M8⟩, c8, h⟩ := bdS h
  dsimp only at h
  refine x_callV F (As := [.ref (b + x5)]) (rest := []) (res := none) (ci := 8) (q := (RX8, TX8, 17)) rfl (by decide) k8 (k_X8_readFrom l b D cy N x1 x5 M _ _ c8) wl_682 wl_683 wl_684 wl_75 wl_550 hd_X8_readFrom ⟨Nat.le_of_ble_eq_true rfl, Nat.le_of_ble_eq_true rfl⟩ ⟨Nat.le_refl _, Nat.le_refl _⟩ (Nat.le_of_ble_eq_true rfl) rfl dX10_shore_8 ?_
  refine x_aload_n F dX10_shore_11 rfl 0 rfl ?_
  obtain ⟨x12, c12, h⟩ := bdS h
  refine x_getR F (ci := 10) (C := RX10) (T := TX10) (N := 19) rfl ⟨by decide, rfl⟩ inU10 0 (by decide) (fun _ _ _ => rfl) wl_616 c12 dX10_shore_12 ?_
  refine x_iconst F (v := 0) dX10_shore_15 (by decide) ?_
  obtain ⟨M16, c16, h⟩ := bdS h
  refine x_putI F (ci := 9) (C := RX9) (T := TX9) (N := 12) rfl ⟨by decide, rfl⟩ inU9 tyX9_ok nmX9 2 (by decide) rfl rfl wl_674 c16 dX10_shore_16 ?_
  refine x_aload_n F dX10_shore_19 rfl 0 rfl ?_
  obtain ⟨x20, c20, h⟩ := bdS h
  refine x_getR F (ci := 10) (C := RX10) (T := TX10) (N := 19) rfl ⟨by decide, rfl⟩ inU10 0 (by decide) (fun _ _ _ => rfl) wl_616 c20 dX10_shore_20 ?_
  obtain ⟨x23, c23, h⟩ := bdS h
  refine x_getI F (ci := 9) (C := RX9) (T := TX9) (N := 12) rfl ⟨by decide, rfl⟩ inU9 10 (by decide) (fun _ _ _ => rfl) wl_679 c23 dX10_shore_23 ?_
  refine x_if_eq F (tgt := 39) dX10_shore_26 (by decide) (fun c26 => ?_) (fun c26 => ?_)
  · rw [if_pos c26] at h
    refine x_aload_n F dX10_shore_39 rfl 0 rfl ?_
    obtain ⟨x40, c40, h⟩ := bdS h
    refine x_getR F (ci := 10) (C := RX10) (T := TX10) (N := 19) rfl ⟨by decide, rfl⟩ inU10 1 (by decide) (fun _ _ _ => rfl) wl_619 c40 dX10_shore_40 ?_
    refine x_aload_n F dX10_shore_43 rfl 0 rfl ?_
    obtain ⟨x44, c44, h⟩ := bdS h
    refine x_getR F (ci := 10) (C := RX10) (T := TX10) (N := 19) rfl ⟨by decide, rfl⟩ inU10 2 (by decide) (fun _ _ _ => rfl) wl_620 c44 dX10_shore_44 ?_
    obtain ⟨k47, h⟩ := gdS h
    obtain ⟨⟨u47, M47⟩, c47, h⟩ := bdS h
    dsimp only at h
    refine x_callV F (As := [.ref (b + x44)]) (rest := []) (res := none) (ci := 8) (q := (RX8, TX8, 17)) rfl (by decide) k47 (k_X8_copyFrom l b D cy N x40 x44 M16 _ _ c47) wl_685 wl_686 wl_687 wl_75 wl_496 hd_X8_copyFrom ⟨Nat.le_of_ble_eq_true rfl, Nat.le_of_ble_eq_true rfl⟩ ⟨Nat.le_refl _, Nat.le_refl _⟩ (Nat.le_of_ble_eq_true rfl) rfl dX10_shore_47 ?_
    refine x_aload_n F dX10_shore_50 rfl 0 rfl ?_
    obtain ⟨x51, c51, h⟩ := bdS h
    refine x_getR F (ci := 10) (C := RX10) (T := TX10) (N := 19) rfl ⟨by decide, rfl⟩ inU10 3 (by decide) (fun _ _ _ => rfl) wl_622 c51 dX10_shore_51 ?_
    obtain ⟨k54, h⟩ := gdS h
    obtain ⟨⟨u54, M54⟩, c54, h⟩ := bdS h
    dsimp only at h
    refine x_callV F (As := []) (rest := []) (res := none) (ci := 0) (q := (RX0, TX0, 12)) rfl (by decide) k54 (k_X0_clear l b D cy N x51 M47 _ _ c54) wl_688 wl_689 wl_690 wl_52 wl_21 hd_X0_clear ⟨Nat.le_of_ble_eq_true rfl, Nat.le_of_ble_eq_true rfl⟩ ⟨Nat.le_refl _, Nat.le_refl _⟩ (Nat.le_of_ble_eq_true rfl) rfl dX10_shore_54 ?_
    refine x_aload_n F dX10_shore_57 rfl 0 rfl ?_
    obtain ⟨x58, c58, h⟩ := bdS h
    refine x_getR F (ci := 10) (C := RX10) (T := TX10) (N := 19) rfl ⟨by decide, rfl⟩ inU10 5 (by decide) (fun _ _ _ => rfl) wl_627 c58 dX10_shore_58 ?_
    obtain ⟨k61, h⟩ := gdS h
    obtain ⟨⟨u61, M61⟩, c61, h⟩ := bdS h
    dsimp only at h
    refine x_callV F (As := []) (rest := []) (res := none) (ci := 5) (q := (RX5, TX5, 3)) rfl (by decide) k61 (k_X5_clear l b D cy N x58 M54 _ _ c61) wl_691 wl_692 wl_693 wl_626 wl_379 hd_X5_clear ⟨Nat.le_of_ble_eq_true rfl, Nat.le_of_ble_eq_true rfl⟩ ⟨Nat.le_refl _, Nat.le_refl _⟩ (Nat.le_of_ble_eq_true rfl) rfl dX10_shore_61 ?_
    refine x_aload_n F dX10_shore_64 rfl 0 rfl ?_
    obtain ⟨x65, c65, h⟩ := bdS h
    refine x_getR F (ci := 10) (C := RX10) (T := TX10) (N := 19) rfl ⟨by decide, rfl⟩ inU10 7 (by decide) (fun _ _ _ => rfl) wl_633 c65 dX10_shore_65 ?_
    obtain ⟨k68, h⟩ := gdS h
    obtain ⟨⟨u68, M68⟩, c68, h⟩ := bdS h
    dsimp only at h
    refine x_callV F (As := []) (rest := []) (res := none) (ci := 7) (q := (RX7, TX7, 7)) rfl (by decide) k68 (k_X7_clear l b D cy N x65 M61 _ _ c68) wl_694 wl_452 wl_453 wl_430 wl_414 hd_X7_clear ⟨Nat.le_of_ble_eq_true rfl, Nat.le_of_ble_eq_true rfl⟩ ⟨Nat.le_refl _, Nat.le_refl _⟩ (Nat.le_of_ble_eq_true rfl) rfl dX10_shore_68 ?_
    refine x_aload_n F dX10_shore_71 rfl 0 rfl ?_
    obtain ⟨x72, c72, h⟩ := bdS h
    refine x_getR F (ci := 10) (C := RX10) (T := TX10) (N := 19) rfl ⟨by decide, rfl⟩ inU10 1 (by decide) (fun _ _ _ => rfl) wl_619 c72 dX10_shore_72 ?_
    obtain ⟨x75, c75, h⟩ := bdS h
    refine x_getI F (ci := 8) (C := RX8) (T := TX8) (N := 17) rfl ⟨by decide, rfl⟩ inU8 16 (by decide) (fun _ _ _ => rfl) wl_681 c75 dX10_shore_75 ?_
    obtain ⟨rfl, rfl⟩ := retS h
    exact x_iret F hr hl dX10_shore_78
  · rw [if_neg c26] at h
    refine x_iconst F (v := (-1)) dX10_shore_29 (by decide) ?_
    refine x_aload_n F dX10_shore_30 rfl 0 rfl ?_
    obtain ⟨x31, c31, h⟩ := bdS h
    refine x_getR F (ci := 10) (C := RX10) (T := TX10) (N := 19) rfl ⟨by decide, rfl⟩ inU10 0 (by decide) (fun _ _ _ => rfl) wl_616 c31 dX10_shore_31 ?_
    obtain ⟨x34, c34, h⟩ := bdS h
    refine x_getI F (ci := 9) (C := RX9) (T := TX9) (N := 12) rfl ⟨by decide, rfl⟩ inU9 11 (by decide) (fun _ _ _ => rfl) wl_680 c34 dX10_shore_34 ?_
    refine x_isub F dX10_shore_37 ?_
    obtain ⟨rfl, rfl⟩ := retS h
    exact x_iret F hr hl dX10_shore_38
theorem dX10_fault_0 : decode cX10_fault 0 = .ok (.aload_n 0, 1) := by decide +kernel
theorem dX10_fault_1 : decode cX10_fault 1 = .ok (.getfield 12, 3) := by decide +kernel
theorem dX10_fault_4 : decode cX10_fault 4 = .ok (.getfield 125, 3) := by decide +kernel
theorem dX10_fault_7 : decode cX10_fault 7 = .ok (.ireturn, 1) := by decide +kernel
def fX10_fault (N : Nat) (v0 : Nat) (M : Mem) : Option (Int32 × Mem) := ((fR M 10 v0 0).bind fun x1 => ((fI M 9 x1 10).bind fun x4 => some (x4, M)))
set_option maxHeartbeats 4000000 in
set_option maxRecDepth 100000 in
theorem k_X10_fault (l : Launch) (b : Nat) (D : va_G) (cy : Nat → ClassId) (N : Nat) (v0 : Nat) (M : Mem) (r : Int32) (Mf : Mem) (h : fX10_fault N v0 M = some (r, Mf)) : Ct l yX10_fault cX10_fault 1 (some .int) 1 0 0 b D cy [.ref (b + v0)] M (some (.int r)) Mf := by
  refine Ct_of (own := RX10) (by decide) rfl (Nat.le_of_ble_eq_true rfl) ?_
  intro p e s m args below meth c F hr hl hmn
  unfold fX10_fault at h
  show X p l e ({ frames := 1, cells := 0, slots := 0, locals := 100 * 1 }) s m args below meth c (MQ below (Qm b D cy (some (.int r)) Mf) args s 0 0 (fun q => b ≤ q)) 1 b D cy 0 0 M 0 [(0, .ref (b + v0))] []
  refine x_aload_n F dX10_fault_0 rfl 0 rfl ?_
  obtain ⟨x1, c1, h⟩ := bdS h
  refine x_getR F (ci := 10) (C := RX10) (T := TX10) (N := 19) rfl ⟨by decide, rfl⟩ inU10 0 (by decide) (fun _ _ _ => rfl) wl_616 c1 dX10_fault_1 ?_
  obtain ⟨x4, c4, h⟩ := bdS h
  refine x_getI F (ci := 9) (C := RX9) (T := TX9) (N := 12) rfl ⟨by decide, rfl⟩ inU9 10 (by decide) (fun _ _ _ => rfl) wl_679 c4 dX10_fault_4 ?_
  obtain ⟨rfl, rfl⟩ := retS h
  exact x_iret F hr hl dX10_fault_7
theorem dX10_sign_0 : decode cX10_sign 0 = .ok (.aload_n 0, 1) := by decide +kernel
theorem dX10_sign_1 : decode cX10_sign 1 = .ok (.getfield 19, 3) := by decide +kernel
theorem dX10_sign_4 : decode cX10_sign 4 = .ok (.iload_n 1, 1) := by decide +kernel
theorem dX10_sign_5 : decode cX10_sign 5 = .ok (.iload_n 2, 1) := by decide +kernel
theorem dX10_sign_6 : decode cX10_sign 6 = .ok (.invokevirtual 171, 3) := by decide +kernel
theorem dX10_sign_9 : decode cX10_sign 9 = .ok (.ifCond .eq 19, 3) := by decide +kernel
theorem dX10_sign_12 : decode cX10_sign 12 = .ok (.aload_n 0, 1) := by decide +kernel
theorem dX10_sign_13 : decode cX10_sign 13 = .ok (.getfield 31, 3) := by decide +kernel
theorem dX10_sign_16 : decode cX10_sign 16 = .ok (.getfield 175, 3) := by decide +kernel
theorem dX10_sign_19 : decode cX10_sign 19 = .ok (.iload_n 1, 1) := by decide +kernel
theorem dX10_sign_20 : decode cX10_sign 20 = .ok (.iload_n 2, 1) := by decide +kernel
theorem dX10_sign_21 : decode cX10_sign 21 = .ok (.invokestatic 178, 3) := by decide +kernel
theorem dX10_sign_24 : decode cX10_sign 24 = .ok (.iaload, 1) := by decide +kernel
theorem dX10_sign_25 : decode cX10_sign 25 = .ok (.goto 4, 3) := by decide +kernel
theorem dX10_sign_28 : decode cX10_sign 28 = .ok (.iconst (-1), 1) := by decide +kernel
theorem dX10_sign_29 : decode cX10_sign 29 = .ok (.ireturn, 1) := by decide +kernel
def fX10_sign (N : Nat) (v0 : Nat) (v1 : Int32) (v2 : Int32) (M : Mem) : Option (Int32 × Mem) := ((fR M 10 v0 1).bind fun x1 => (if mK M x1 = 9 then ((fX8_hasPlace N x1 v1 v2 M).bind fun (x6, M6) => (if x6 = 0 then some ((-1), M6) else ((fR M6 10 v0 3).bind fun x13 => ((fR M6 0 x13 1).bind fun x16 => ((fX10_placeIndex N v1 v2 M6).bind fun (x21, M21) => ((aI M21 x16 x21).bind fun x24 => some (x24, M21))))))) else none))
set_option maxHeartbeats 4000000 in
set_option maxRecDepth 100000 in
theorem k_X10_sign (l : Launch) (b : Nat) (D : va_G) (cy : Nat → ClassId) (N : Nat) (v0 : Nat) (v1 : Int32) (v2 : Int32) (M : Mem) (r : Int32) (Mf : Mem) (h : fX10_sign N v0 v1 v2 M = some (r, Mf)) : Ct l yX10_sign cX10_sign 3 (some .int) 3 0 0 b D cy [.ref (b + v0), .int v1, .int v2] M (some (.int r)) Mf := by
  refine Ct_of (own := RX10) (by decide) rfl (Nat.le_of_ble_eq_true rfl) ?_
  intro p e s m args below meth c F hr hl hmn
  unfold fX10_sign at h
  show X p l e ({ frames := 3, cells := 0, slots := 0, locals := 100 * 3 }) s m args below meth c (MQ below (Qm b D cy (some (.int r)) Mf) args s 0 0 (fun q => b ≤ q)) 3 b D cy 0 0 M 0 [(0, .ref (b + v0)), (1, .int v1), (2, .int v2)] []
  refine x_aload_n F dX10_sign_0 rfl 0 rfl ?_
  obtain ⟨x1, c1, h⟩ := bdS h
  refine x_getR F (ci := 10) (C := RX10) (T := TX10) (N := 19) rfl ⟨by decide, rfl⟩ inU10 1 (by decide) (fun _ _ _ => rfl) wl_619 c1 dX10_sign_1 ?_
  refine x_iload_n F dX10_sign_4 rfl 1 rfl ?_
  refine x_iload_n F dX10_sign_5 rfl 2 rfl ?_
  obtain ⟨k6, h⟩ := gdS h
  obtain ⟨⟨x6, M6⟩, c6, h⟩ := bdS h
  dsimp only at h
  refine x_callV F (As := [.int v1, .int v2]) (rest := []) (res := (some (.int x6))) (ci := 8) (q := (RX8, TX8, 17)) rfl (by decide) k6 (k_X8_hasPlace l b D cy N x1 v1 v2 M _ _ c6) wl_708 wl_245 wl_246 wl_75 wl_239 hd_X8_hasPlace ⟨Nat.le_of_ble_eq_true rfl, Nat.le_of_ble_eq_true rfl⟩ ⟨Nat.le_refl _, Nat.le_refl _⟩ (Nat.le_of_ble_eq_true rfl) rfl dX10_sign_6 ?_
  refine x_if_eq F (tgt := 28) dX10_sign_9 (by decide) (fun c9 => ?_) (fun c9 => ?_)
  · rw [if_pos c9] at h
    refine x_iconst F (v := (-1)) dX10_sign_28 (by decide) ?_
    obtain ⟨rfl, rfl⟩ := retS h
    exact x_iret F hr hl dX10_sign_29
  · rw [if_neg c9] at h
    refine x_aload_n F dX10_sign_12 rfl 0 rfl ?_
    obtain ⟨x13, c13, h⟩ := bdS h
    refine x_getR F (ci := 10) (C := RX10) (T := TX10) (N := 19) rfl ⟨by decide, rfl⟩ inU10 3 (by decide) (fun _ _ _ => rfl) wl_622 c13 dX10_sign_13 ?_
    obtain ⟨x16, c16, h⟩ := bdS h
    refine x_getR F (ci := 0) (C := RX0) (T := TX0) (N := 12) rfl ⟨by decide, rfl⟩ inU0 1 (by decide) (fun _ _ _ => rfl) wl_707 c16 dX10_sign_16 ?_
    refine x_iload_n F dX10_sign_19 rfl 1 rfl ?_
    refine x_iload_n F dX10_sign_20 rfl 2 rfl ?_
    obtain ⟨⟨x21, M21⟩, c21, h⟩ := bdS h
    dsimp only at h
    refine x_callS F (As := [.int v1, .int v2]) (rest := [.ref (b + x16)]) (res := (some (.int x21))) (k_X10_placeIndex l b D cy N v1 v2 M6 _ _ c21) wl_709 wl_30 wl_31 wl_27 (hd_X10_placeIndex).2 ⟨Nat.le_of_ble_eq_true rfl, Nat.le_of_ble_eq_true rfl⟩ ⟨Nat.le_refl _, Nat.le_refl _⟩ (Nat.le_of_ble_eq_true rfl) rfl dX10_sign_21 ?_
    obtain ⟨x24, c24, h⟩ := bdS h
    refine x_aI F c24 dX10_sign_24 ?_
    refine x_goto F (tgt := 29) dX10_sign_25 (by decide) ?_
    obtain ⟨rfl, rfl⟩ := retS h
    exact x_iret F hr hl dX10_sign_29
theorem dX10_hand_0 : decode cX10_hand 0 = .ok (.aload_n 0, 1) := by decide +kernel
theorem dX10_hand_1 : decode cX10_hand 1 = .ok (.getfield 19, 3) := by decide +kernel
theorem dX10_hand_4 : decode cX10_hand 4 = .ok (.iload_n 1, 1) := by decide +kernel
theorem dX10_hand_5 : decode cX10_hand 5 = .ok (.iload_n 2, 1) := by decide +kernel
theorem dX10_hand_6 : decode cX10_hand 6 = .ok (.invokevirtual 171, 3) := by decide +kernel
theorem dX10_hand_9 : decode cX10_hand 9 = .ok (.ifCond .eq 19, 3) := by decide +kernel
theorem dX10_hand_12 : decode cX10_hand 12 = .ok (.aload_n 0, 1) := by decide +kernel
theorem dX10_hand_13 : decode cX10_hand 13 = .ok (.getfield 31, 3) := by decide +kernel
theorem dX10_hand_16 : decode cX10_hand 16 = .ok (.getfield 182, 3) := by decide +kernel
theorem dX10_hand_19 : decode cX10_hand 19 = .ok (.iload_n 1, 1) := by decide +kernel
theorem dX10_hand_20 : decode cX10_hand 20 = .ok (.iload_n 2, 1) := by decide +kernel
theorem dX10_hand_21 : decode cX10_hand 21 = .ok (.invokestatic 178, 3) := by decide +kernel
theorem dX10_hand_24 : decode cX10_hand 24 = .ok (.iaload, 1) := by decide +kernel
theorem dX10_hand_25 : decode cX10_hand 25 = .ok (.goto 4, 3) := by decide +kernel
theorem dX10_hand_28 : decode cX10_hand 28 = .ok (.iconst (-1), 1) := by decide +kernel
theorem dX10_hand_29 : decode cX10_hand 29 = .ok (.ireturn, 1) := by decide +kernel
def fX10_hand (N : Nat) (v0 : Nat) (v1 : Int32) (v2 : Int32) (M : Mem) : Option (Int32 × Mem) := ((fR M 10 v0 1).bind fun x1 => (if mK M x1 = 9 then ((fX8_hasPlace N x1 v1 v2 M).bind fun (x6, M6) => (if x6 = 0 then some ((-1), M6) else ((fR M6 10 v0 3).bind fun x13 => ((fR M6 0 x13 2).bind fun x16 => ((fX10_placeIndex N v1 v2 M6).bind fun (x21, M21) => ((aI M21 x16 x21).bind fun x24 => some (x24, M21))))))) else none))
set_option maxHeartbeats 4000000 in
set_option maxRecDepth 100000 in
theorem k_X10_hand (l : Launch) (b : Nat) (D : va_G) (cy : Nat → ClassId) (N : Nat) (v0 : Nat) (v1 : Int32) (v2 : Int32) (M : Mem) (r : Int32) (Mf : Mem) (h : fX10_hand N v0 v1 v2 M = some (r, Mf)) : Ct l yX10_hand cX10_hand 3 (some .int) 3 0 0 b D cy [.ref (b + v0), .int v1, .int v2] M (some (.int r)) Mf := by
  refine Ct_of (own := RX10) (by decide) rfl (Nat.le_of_ble_eq_true rfl) ?_
  intro p e s m args below meth c F hr hl hmn
  unfold fX10_hand at h
  show X p l e ({ frames := 3, cells := 0, slots := 0, locals := 100 * 3 }) s m args below meth c (MQ below (Qm b D cy (some (.int r)) Mf) args s 0 0 (fun q => b ≤ q)) 3 b D cy 0 0 M 0 [(0, .ref (b + v0)), (1, .int v1), (2, .int v2)] []
  refine x_aload_n F dX10_hand_0 rfl 0 rfl ?_
  obtain ⟨x1, c1, h⟩ := bdS h
  refine x_getR F (ci := 10) (C := RX10) (T := TX10) (N := 19) rfl ⟨by decide, rfl⟩ inU10 1 (by decide) (fun _ _ _ => rfl) wl_619 c1 dX10_hand_1 ?_
  refine x_iload_n F dX10_hand_4 rfl 1 rfl ?_
  refine x_iload_n F dX10_hand_5 rfl 2 rfl ?_
  obtain ⟨k6, h⟩ := gdS h
  obtain ⟨⟨x6, M6⟩, c6, h⟩ := bdS h
  dsimp only at h
  refine x_callV F (As := [.int v1, .int v2]) (rest := []) (res := (some (.int x6))) (ci := 8) (q := (RX8, TX8, 17)) rfl (by decide) k6 (k_X8_hasPlace l b D cy N x1 v1 v2 M _ _ c6) wl_708 wl_245 wl_246 wl_75 wl_239 hd_X8_hasPlace ⟨Nat.le_of_ble_eq_true rfl, Nat.le_of_ble_eq_true rfl⟩ ⟨Nat.le_refl _, Nat.le_refl _⟩ (Nat.le_of_ble_eq_true rfl) rfl dX10_hand_6 ?_
  refine x_if_eq F (tgt := 28) dX10_hand_9 (by decide) (fun c9 => ?_) (fun c9 => ?_)
  · rw [if_pos c9] at h
    refine x_iconst F (v := (-1)) dX10_hand_28 (by decide) ?_
    obtain ⟨rfl, rfl⟩ := retS h
    exact x_iret F hr hl dX10_hand_29
  · rw [if_neg c9] at h
    refine x_aload_n F dX10_hand_12 rfl 0 rfl ?_
    obtain ⟨x13, c13, h⟩ := bdS h
    refine x_getR F (ci := 10) (C := RX10) (T := TX10) (N := 19) rfl ⟨by decide, rfl⟩ inU10 3 (by decide) (fun _ _ _ => rfl) wl_622 c13 dX10_hand_13 ?_
    obtain ⟨x16, c16, h⟩ := bdS h
    refine x_getR F (ci := 0) (C := RX0) (T := TX0) (N := 12) rfl ⟨by decide, rfl⟩ inU0 2 (by decide) (fun _ _ _ => rfl) wl_711 c16 dX10_hand_16 ?_
    refine x_iload_n F dX10_hand_19 rfl 1 rfl ?_
    refine x_iload_n F dX10_hand_20 rfl 2 rfl ?_
    obtain ⟨⟨x21, M21⟩, c21, h⟩ := bdS h
    dsimp only at h
    refine x_callS F (As := [.int v1, .int v2]) (rest := [.ref (b + x16)]) (res := (some (.int x21))) (k_X10_placeIndex l b D cy N v1 v2 M6 _ _ c21) wl_709 wl_30 wl_31 wl_27 (hd_X10_placeIndex).2 ⟨Nat.le_of_ble_eq_true rfl, Nat.le_of_ble_eq_true rfl⟩ ⟨Nat.le_refl _, Nat.le_refl _⟩ (Nat.le_of_ble_eq_true rfl) rfl dX10_hand_21 ?_
    obtain ⟨x24, c24, h⟩ := bdS h
    refine x_aI F c24 dX10_hand_24 ?_
    refine x_goto F (tgt := 29) dX10_hand_25 (by decide) ?_
    obtain ⟨rfl, rfl⟩ := retS h
    exact x_iret F hr hl dX10_hand_29
theorem dX10_lawAt_0 : decode cX10_lawAt 0 = .ok (.aload_n 0, 1) := by decide +kernel
theorem dX10_lawAt_1 : decode cX10_lawAt 1 = .ok (.getfield 19, 3) := by decide +kernel
theorem dX10_lawAt_4 : decode cX10_lawAt 4 = .ok (.iload_n 1, 1) := by decide +kernel
theorem dX10_lawAt_5 : decode cX10_lawAt 5 = .ok (.invokevirtual 185, 3) := by decide +kernel
theorem dX10_lawAt_8 : decode cX10_lawAt 8 = .ok (.ifCond .eq 20, 3) := by decide +kernel
theorem dX10_lawAt_11 : decode cX10_lawAt 11 = .ok (.iload_n 2, 1) := by decide +kernel
theorem dX10_lawAt_12 : decode cX10_lawAt 12 = .ok (.ifCond .lt 16, 3) := by decide +kernel
theorem dX10_lawAt_15 : decode cX10_lawAt 15 = .ok (.iload_n 2, 1) := by decide +kernel
theorem dX10_lawAt_16 : decode cX10_lawAt 16 = .ok (.aload_n 0, 1) := by decide +kernel
theorem dX10_lawAt_17 : decode cX10_lawAt 17 = .ok (.getfield 19, 3) := by decide +kernel
theorem dX10_lawAt_20 : decode cX10_lawAt 20 = .ok (.getfield 190, 3) := by decide +kernel
theorem dX10_lawAt_23 : decode cX10_lawAt 23 = .ok (.iload_n 1, 1) := by decide +kernel
theorem dX10_lawAt_24 : decode cX10_lawAt 24 = .ok (.iaload, 1) := by decide +kernel
theorem dX10_lawAt_25 : decode cX10_lawAt 25 = .ok (.if_icmp .lt 5, 3) := by decide +kernel
theorem dX10_lawAt_28 : decode cX10_lawAt 28 = .ok (.iconst (-1), 1) := by decide +kernel
theorem dX10_lawAt_29 : decode cX10_lawAt 29 = .ok (.ireturn, 1) := by decide +kernel
theorem dX10_lawAt_30 : decode cX10_lawAt 30 = .ok (.aload_n 0, 1) := by decide +kernel
theorem dX10_lawAt_31 : decode cX10_lawAt 31 = .ok (.getfield 19, 3) := by decide +kernel
theorem dX10_lawAt_34 : decode cX10_lawAt 34 = .ok (.iload_n 1, 1) := by decide +kernel
theorem dX10_lawAt_35 : decode cX10_lawAt 35 = .ok (.iload_n 2, 1) := by decide +kernel
theorem dX10_lawAt_36 : decode cX10_lawAt 36 = .ok (.invokevirtual 207, 3) := by decide +kernel
theorem dX10_lawAt_39 : decode cX10_lawAt 39 = .ok (.ireturn, 1) := by decide +kernel
def fX10_lawAt (N : Nat) (v0 : Nat) (v1 : Int32) (v2 : Int32) (M : Mem) : Option (Int32 × Mem) := ((fR M 10 v0 1).bind fun x1 => (if mK M x1 = 9 then ((fX8_hasLaw N x1 v1 M).bind fun (x5, M5) => (if x5 = 0 then some ((-1), M5) else (if v2 < 0 then some ((-1), M5) else ((fR M5 10 v0 1).bind fun x17 => ((fR M5 8 x17 12).bind fun x20 => ((aI M5 x20 v1).bind fun x24 => (if v2 < x24 then ((fR M5 10 v0 1).bind fun x31 => (if mK M5 x31 = 9 then ((fX8_lawSign N x31 v1 v2 M5).bind fun (x36, M36) => some (x36, M36)) else none)) else some ((-1), M5)))))))) else none))
set_option maxHeartbeats 4000000 in
set_option maxRecDepth 100000 in
theorem k_X10_lawAt (l : Launch) (b : Nat) (D : va_G) (cy : Nat → ClassId) (N : Nat) (v0 : Nat) (v1 : Int32) (v2 : Int32) (M : Mem) (r : Int32) (Mf : Mem) (h : fX10_lawAt N v0 v1 v2 M = some (r, Mf)) : Ct l yX10_lawAt cX10_lawAt 3 (some .int) 2 0 0 b D cy [.ref (b + v0), .int v1, .int v2] M (some (.int r)) Mf := by
  refine Ct_of (own := RX10) (by decide) rfl (Nat.le_of_ble_eq_true rfl) ?_
  intro p e s m args below meth c F hr hl hmn
  unfold fX10_lawAt at h
  show X p l e ({ frames := 2, cells := 0, slots := 0, locals := 100 * 2 }) s m args below meth c (MQ below (Qm b D cy (some (.int r)) Mf) args s 0 0 (fun q => b ≤ q)) 3 b D cy 0 0 M 0 [(0, .ref (b + v0)), (1, .int v1), (2, .int v2)] []
  refine x_aload_n F dX10_lawAt_0 rfl 0 rfl ?_
  obtain ⟨x1, c1, h⟩ := bdS h
  refine x_getR F (ci := 10) (C := RX10) (T := TX10) (N := 19) rfl ⟨by decide, rfl⟩ inU10 1 (by decide) (fun _ _ _ => rfl) wl_619 c1 dX10_lawAt_1 ?_
  refine x_iload_n F dX10_lawAt_4 rfl 1 rfl ?_
  obtain ⟨k5, h⟩ := gdS h
  obtain ⟨⟨x5, M5⟩, c5, h⟩ := bdS h
  dsimp only at h
  refine x_callV F (As := [.int v1]) (rest := []) (res := (some (.int x5))) (ci := 8) (q := (RX8, TX8, 17)) rfl (by decide) k5 (k_X8_hasLaw l b D cy N x1 v1 M _ _ c5) wl_714 wl_465 wl_466 wl_75 wl_456 hd_X8_hasLaw ⟨Nat.le_of_ble_eq_true rfl, Nat.le_of_ble_eq_true rfl⟩ ⟨Nat.le_refl _, Nat.le_refl _⟩ (Nat.le_of_ble_eq_true rfl) rfl dX10_lawAt_5 ?_
  refine x_if_eq F (tgt := 28) dX10_lawAt_8 (by decide) (fun c8 => ?_) (fun c8 => ?_)
  · rw [if_pos c8] at h
    refine x_iconst F (v := (-1)) dX10_lawAt_28 (by decide) ?_
    obtain ⟨rfl, rfl⟩ := retS h
    exact x_iret F hr hl dX10_lawAt_29
  · rw [if_neg c8] at h
    refine x_iload_n F dX10_lawAt_11 rfl 2 rfl ?_
    refine x_if_lt F (tgt := 28) dX10_lawAt_12 (by decide) (fun c12 => ?_) (fun c12 => ?_)
    · rw [if_pos c12] at h
      refine x_iconst F (v := (-1)) dX10_lawAt_28 (by decide) ?_
      obtain ⟨rfl, rfl⟩ := retS h
      exact x_iret F hr hl dX10_lawAt_29
    · rw [if_neg c12] at h
      refine x_iload_n F dX10_lawAt_15 rfl 2 rfl ?_
      refine x_aload_n F dX10_lawAt_16 rfl 0 rfl ?_
      obtain ⟨x17, c17, h⟩ := bdS h
      refine x_getR F (ci := 10) (C := RX10) (T := TX10) (N := 19) rfl ⟨by decide, rfl⟩ inU10 1 (by decide) (fun _ _ _ => rfl) wl_619 c17 dX10_lawAt_17 ?_
      obtain ⟨x20, c20, h⟩ := bdS h
      refine x_getR F (ci := 8) (C := RX8) (T := TX8) (N := 17) rfl ⟨by decide, rfl⟩ inU8 12 (by decide) (fun _ _ _ => rfl) wl_712 c20 dX10_lawAt_20 ?_
      refine x_iload_n F dX10_lawAt_23 rfl 1 rfl ?_
      obtain ⟨x24, c24, h⟩ := bdS h
      refine x_aI F c24 dX10_lawAt_24 ?_
      refine x_icmp_lt F (tgt := 30) dX10_lawAt_25 (by decide) (fun c25 => ?_) (fun c25 => ?_)
      · rw [if_pos c25] at h
        refine x_aload_n F dX10_lawAt_30 rfl 0 rfl ?_
        obtain ⟨x31, c31, h⟩ := bdS h
        refine x_getR F (ci := 10) (C := RX10) (T := TX10) (N := 19) rfl ⟨by decide, rfl⟩ inU10 1 (by decide) (fun _ _ _ => rfl) wl_619 c31 dX10_lawAt_31 ?_
        refine x_iload_n F dX10_lawAt_34 rfl 1 rfl ?_
        refine x_iload_n F dX10_lawAt_35 rfl 2 rfl ?_
        obtain ⟨k36, h⟩ := gdS h
        obtain ⟨⟨x36, M36⟩, c36, h⟩ := bdS h
        dsimp only at h
        refine x_callV F (As := [.int v1, .int v2]) (rest := []) (res := (some (.int x36))) (ci := 8) (q := (RX8, TX8, 17)) rfl (by decide) k36 (k_X8_lawSign l b D cy N x31 v1 v2 M5 _ _ c36) wl_722 wl_103 wl_104 wl_75 wl_98 hd_X8_lawSign ⟨Nat.le_of_ble_eq_true rfl, Nat.le_of_ble_eq_true rfl⟩ ⟨Nat.le_refl _, Nat.le_refl _⟩ (Nat.le_of_ble_eq_true rfl) rfl dX10_lawAt_36 ?_
        obtain ⟨rfl, rfl⟩ := retS h
        exact x_iret F hr hl dX10_lawAt_39
      · rw [if_neg c25] at h
        refine x_iconst F (v := (-1)) dX10_lawAt_28 (by decide) ?_
        obtain ⟨rfl, rfl⟩ := retS h
        exact x_iret F hr hl dX10_lawAt_29
theorem hd_X8_hasWriter : (yX8_hasWriter).cls = RX8 ∧ (yX8_hasWriter).cls ≠ "java/lang/invoke/MethodHandle" ∧ (yX8_hasWriter).cls ≠ "java/lang/invoke/VarHandle" ∧ (parseMethodDescriptor (yX8_hasWriter).desc).map (fun d => d.parameters.length) = some 1 := by decide +kernel
theorem dX10_writer_0 : decode cX10_writer 0 = .ok (.aload_n 0, 1) := by decide +kernel
theorem dX10_writer_1 : decode cX10_writer 1 = .ok (.getfield 19, 3) := by decide +kernel
theorem dX10_writer_4 : decode cX10_writer 4 = .ok (.iload_n 1, 1) := by decide +kernel
theorem dX10_writer_5 : decode cX10_writer 5 = .ok (.invokevirtual 210, 3) := by decide +kernel
theorem dX10_writer_8 : decode cX10_writer 8 = .ok (.ifCond .ne 5, 3) := by decide +kernel
theorem dX10_writer_11 : decode cX10_writer 11 = .ok (.iconst (-1), 1) := by decide +kernel
theorem dX10_writer_12 : decode cX10_writer 12 = .ok (.ireturn, 1) := by decide +kernel
theorem dX10_writer_13 : decode cX10_writer 13 = .ok (.iload_n 2, 1) := by decide +kernel
theorem dX10_writer_14 : decode cX10_writer 14 = .ok (.lookupswitch 46 #[(0, 26), (1, 36)], 26) := by decide +kernel
theorem dX10_writer_40 : decode cX10_writer 40 = .ok (.aload_n 0, 1) := by decide +kernel
theorem dX10_writer_41 : decode cX10_writer 41 = .ok (.getfield 19, 3) := by decide +kernel
theorem dX10_writer_44 : decode cX10_writer 44 = .ok (.getfield 213, 3) := by decide +kernel
theorem dX10_writer_47 : decode cX10_writer 47 = .ok (.iload_n 1, 1) := by decide +kernel
theorem dX10_writer_48 : decode cX10_writer 48 = .ok (.iaload, 1) := by decide +kernel
theorem dX10_writer_49 : decode cX10_writer 49 = .ok (.ireturn, 1) := by decide +kernel
theorem dX10_writer_50 : decode cX10_writer 50 = .ok (.aload_n 0, 1) := by decide +kernel
theorem dX10_writer_51 : decode cX10_writer 51 = .ok (.getfield 31, 3) := by decide +kernel
theorem dX10_writer_54 : decode cX10_writer 54 = .ok (.getfield 216, 3) := by decide +kernel
theorem dX10_writer_57 : decode cX10_writer 57 = .ok (.iload_n 1, 1) := by decide +kernel
theorem dX10_writer_58 : decode cX10_writer 58 = .ok (.iaload, 1) := by decide +kernel
theorem dX10_writer_59 : decode cX10_writer 59 = .ok (.ireturn, 1) := by decide +kernel
theorem dX10_writer_60 : decode cX10_writer 60 = .ok (.iconst (-1), 1) := by decide +kernel
theorem dX10_writer_61 : decode cX10_writer 61 = .ok (.ireturn, 1) := by decide +kernel
def fX10_writer (N : Nat) (v0 : Nat) (v1 : Int32) (v2 : Int32) (M : Mem) : Option (Int32 × Mem) := ((fR M 10 v0 1).bind fun x1 => (if mK M x1 = 9 then ((fX8_hasWriter N x1 v1 M).bind fun (x5, M5) => (if x5 = 0 then some ((-1), M5) else (if v2 = 0 then ((fR M5 10 v0 1).bind fun x41 => ((fR M5 8 x41 8).bind fun x44 => ((aI M5 x44 v1).bind fun x48 => some (x48, M5)))) else (if v2 = 1 then ((fR M5 10 v0 3).bind fun x51 => ((fR M5 0 x51 6).bind fun x54 => ((aI M5 x54 v1).bind fun x58 => some (x58, M5)))) else some ((-1), M5))))) else none))
set_option maxHeartbeats 4000000 in
set_option maxRecDepth 100000 in
theorem k_X10_writer (l : Launch) (b : Nat) (D : va_G) (cy : Nat → ClassId) (N : Nat) (v0 : Nat) (v1 : Int32) (v2 : Int32) (M : Mem) (r : Int32) (Mf : Mem) (h : fX10_writer N v0 v1 v2 M = some (r, Mf)) : Ct l yX10_writer cX10_writer 3 (some .int) 2 0 0 b D cy [.ref (b + v0), .int v1, .int v2] M (some (.int r)) Mf := by
  refine Ct_of (own := RX10) (by decide) rfl (Nat.le_of_ble_eq_true rfl) ?_
  intro p e s m args below meth c F hr hl hmn
  unfold fX10_writer at h
  show X p l e ({ frames := 2, cells := 0, slots := 0, locals := 100 * 2 }) s m args below meth c (MQ below (Qm b D cy (some (.int r)) Mf) args s 0 0 (fun q => b ≤ q)) 3 b D cy 0 0 M 0 [(0, .ref (b + v0)), (1, .int v1), (2, .int v2)] []
  refine x_aload_n F dX10_writer_0 rfl 0 rfl ?_
  obtain ⟨x1, c1, h⟩ := bdS h
  refine x_getR F (ci := 10) (C := RX10) (T := TX10) (N := 19) rfl ⟨by decide, rfl⟩ inU10 1 (by decide) (fun _ _ _ => rfl) wl_619 c1 dX10_writer_1 ?_
  refine x_iload_n F dX10_writer_4 rfl 1 rfl ?_
  obtain ⟨k5, h⟩ := gdS h
  obtain ⟨⟨x5, M5⟩, c5, h⟩ := bdS h
  dsimp only at h
  refine x_callV F (As := [.int v1]) (rest := []) (res := (some (.int x5))) (ci := 8) (q := (RX8, TX8, 17)) rfl (by decide) k5 (k_X8_hasWriter l b D cy N x1 v1 M _ _ c5) wl_726 wl_727 wl_728 wl_75 wl_553 hd_X8_hasWriter ⟨Nat.le_of_ble_eq_true rfl, Nat.le_of_ble_eq_true rfl⟩ ⟨Nat.le_refl _, Nat.le_refl _⟩ (Nat.le_of_ble_eq_true rfl) rfl dX10_writer_5 ?_
  refine x_if_ne F (tgt := 13) dX10_writer_8 (by decide) (fun c8 => ?_) (fun c8 => ?_)
  · rw [if_neg c8] at h
    refine x_iload_n F dX10_writer_13 rfl 2 rfl ?_
    by_cases c14_0 : v2 = 0
    · rw [if_pos c14_0] at h
      refine x_lookup F (off := 26) (tgt := 40) dX10_writer_14 (by decide) (by rw [c14_0]; decide) (by decide) ?_
      refine x_aload_n F dX10_writer_40 rfl 0 rfl ?_
      obtain ⟨x41, c41, h⟩ := bdS h
      refine x_getR F (ci := 10) (C := RX10) (T := TX10) (N := 19) rfl ⟨by decide, rfl⟩ inU10 1 (by decide) (fun _ _ _ => rfl) wl_619 c41 dX10_writer_41 ?_
      obtain ⟨x44, c44, h⟩ := bdS h
      refine x_getR F (ci := 8) (C := RX8) (T := TX8) (N := 17) rfl ⟨by decide, rfl⟩ inU8 8 (by decide) (fun _ _ _ => rfl) wl_724 c44 dX10_writer_44 ?_
      refine x_iload_n F dX10_writer_47 rfl 1 rfl ?_
      obtain ⟨x48, c48, h⟩ := bdS h
      refine x_aI F c48 dX10_writer_48 ?_
      obtain ⟨rfl, rfl⟩ := retS h
      exact x_iret F hr hl dX10_writer_49
    rw [if_neg c14_0] at h
    by_cases c14_1 : v2 = 1
    · rw [if_pos c14_1] at h
      refine x_lookup F (off := 36) (tgt := 50) dX10_writer_14 (by decide) (by rw [c14_1]; decide) (by decide) ?_
      refine x_aload_n F dX10_writer_50 rfl 0 rfl ?_
      obtain ⟨x51, c51, h⟩ := bdS h
      refine x_getR F (ci := 10) (C := RX10) (T := TX10) (N := 19) rfl ⟨by decide, rfl⟩ inU10 3 (by decide) (fun _ _ _ => rfl) wl_622 c51 dX10_writer_51 ?_
      obtain ⟨x54, c54, h⟩ := bdS h
      refine x_getR F (ci := 0) (C := RX0) (T := TX0) (N := 12) rfl ⟨by decide, rfl⟩ inU0 6 (by decide) (fun _ _ _ => rfl) wl_725 c54 dX10_writer_54 ?_
      refine x_iload_n F dX10_writer_57 rfl 1 rfl ?_
      obtain ⟨x58, c58, h⟩ := bdS h
      refine x_aI F c58 dX10_writer_58 ?_
      obtain ⟨rfl, rfl⟩ := retS h
      exact x_iret F hr hl dX10_writer_59
    rw [if_neg c14_1] at h
    refine x_lookup F (off := 46) (tgt := 60) dX10_writer_14 (by decide) (by rw [lv_osw c14_0 (by decide), lv_osw c14_1 (by decide)]; rfl) (by decide) ?_
    refine x_iconst F (v := (-1)) dX10_writer_60 (by decide) ?_
    obtain ⟨rfl, rfl⟩ := retS h
    exact x_iret F hr hl dX10_writer_61
  · rw [if_pos c8] at h
    refine x_iconst F (v := (-1)) dX10_writer_11 (by decide) ?_
    obtain ⟨rfl, rfl⟩ := retS h
    exact x_iret F hr hl dX10_writer_12
theorem hd_X0_allSigns : (yX0_allSigns).cls = RX0 ∧ (yX0_allSigns).cls ≠ "java/lang/invoke/MethodHandle" ∧ (yX0_allSigns).cls ≠ "java/lang/invoke/VarHandle" ∧ (parseMethodDescriptor (yX0_allSigns).desc).map (fun d => d.parameters.length) = some 0 := by decide +kernel
theorem hd_X0_lawsRead : (yX0_lawsRead).cls = RX0 ∧ (yX0_lawsRead).cls ≠ "java/lang/invoke/MethodHandle" ∧ (yX0_lawsRead).cls ≠ "java/lang/invoke/VarHandle" ∧ (parseMethodDescriptor (yX0_lawsRead).desc).map (fun d => d.parameters.length) = some 0 := by decide +kernel
theorem dX10_now_0 : decode cX10_now 0 = .ok (.iload_n 1, 1) := by decide +kernel
theorem dX10_now_1 : decode cX10_now 1 = .ok (.tableswitch 106 0 6 #[43, 51, 66, 74, 82, 90, 98], 43) := by decide +kernel
theorem dX10_now_44 : decode cX10_now 44 = .ok (.aload_n 0, 1) := by decide +kernel
theorem dX10_now_45 : decode cX10_now 45 = .ok (.getfield 31, 3) := by decide +kernel
theorem dX10_now_48 : decode cX10_now 48 = .ok (.getfield 219, 3) := by decide +kernel
theorem dX10_now_51 : decode cX10_now 51 = .ok (.ireturn, 1) := by decide +kernel
theorem dX10_now_52 : decode cX10_now 52 = .ok (.aload_n 0, 1) := by decide +kernel
theorem dX10_now_53 : decode cX10_now 53 = .ok (.getfield 19, 3) := by decide +kernel
theorem dX10_now_56 : decode cX10_now 56 = .ok (.aload_n 0, 1) := by decide +kernel
theorem dX10_now_57 : decode cX10_now 57 = .ok (.getfield 31, 3) := by decide +kernel
theorem dX10_now_60 : decode cX10_now 60 = .ok (.getfield 219, 3) := by decide +kernel
theorem dX10_now_63 : decode cX10_now 63 = .ok (.invokevirtual 222, 3) := by decide +kernel
theorem dX10_now_66 : decode cX10_now 66 = .ok (.ireturn, 1) := by decide +kernel
theorem dX10_now_67 : decode cX10_now 67 = .ok (.aload_n 0, 1) := by decide +kernel
theorem dX10_now_68 : decode cX10_now 68 = .ok (.getfield 31, 3) := by decide +kernel
theorem dX10_now_71 : decode cX10_now 71 = .ok (.invokevirtual 225, 3) := by decide +kernel
theorem dX10_now_74 : decode cX10_now 74 = .ok (.ireturn, 1) := by decide +kernel
theorem dX10_now_75 : decode cX10_now 75 = .ok (.aload_n 0, 1) := by decide +kernel
theorem dX10_now_76 : decode cX10_now 76 = .ok (.getfield 31, 3) := by decide +kernel
theorem dX10_now_79 : decode cX10_now 79 = .ok (.invokevirtual 229, 3) := by decide +kernel
theorem dX10_now_82 : decode cX10_now 82 = .ok (.ireturn, 1) := by decide +kernel
theorem dX10_now_83 : decode cX10_now 83 = .ok (.aload_n 0, 1) := by decide +kernel
theorem dX10_now_84 : decode cX10_now 84 = .ok (.getfield 31, 3) := by decide +kernel
theorem dX10_now_87 : decode cX10_now 87 = .ok (.getfield 232, 3) := by decide +kernel
theorem dX10_now_90 : decode cX10_now 90 = .ok (.ireturn, 1) := by decide +kernel
theorem dX10_now_91 : decode cX10_now 91 = .ok (.aload_n 0, 1) := by decide +kernel
theorem dX10_now_92 : decode cX10_now 92 = .ok (.getfield 31, 3) := by decide +kernel
theorem dX10_now_95 : decode cX10_now 95 = .ok (.getfield 235, 3) := by decide +kernel
theorem dX10_now_98 : decode cX10_now 98 = .ok (.ireturn, 1) := by decide +kernel
theorem dX10_now_99 : decode cX10_now 99 = .ok (.aload_n 0, 1) := by decide +kernel
theorem dX10_now_100 : decode cX10_now 100 = .ok (.getfield 31, 3) := by decide +kernel
theorem dX10_now_103 : decode cX10_now 103 = .ok (.getfield 238, 3) := by decide +kernel
theorem dX10_now_106 : decode cX10_now 106 = .ok (.ireturn, 1) := by decide +kernel
theorem dX10_now_107 : decode cX10_now 107 = .ok (.iconst (-1), 1) := by decide +kernel
theorem dX10_now_108 : decode cX10_now 108 = .ok (.ireturn, 1) := by decide +kernel
def fX10_now (N : Nat) (v0 : Nat) (v1 : Int32) (M : Mem) : Option (Int32 × Mem) := (if v1 = 0 then ((fR M 10 v0 3).bind fun x45 => ((fI M 0 x45 9).bind fun x48 => some (x48, M))) else (if v1 = 1 then ((fR M 10 v0 1).bind fun x53 => ((fR M 10 v0 3).bind fun x57 => ((fI M 0 x57 9).bind fun x60 => (if mK M x53 = 9 then ((fX8_tideOf N x53 x60 M).bind fun (x63, M63) => some (x63, M63)) else none)))) else (if v1 = 2 then ((fR M 10 v0 3).bind fun x68 => (if mK M x68 = 1 then ((fX0_allSigns N x68 M).bind fun (x71, M71) => some (x71, M71)) else none)) else (if v1 = 3 then ((fR M 10 v0 3).bind fun x76 => (if mK M x76 = 1 then ((fX0_lawsRead N x76 M).bind fun (x79, M79) => some (x79, M79)) else none)) else (if v1 = 4 then ((fR M 10 v0 3).bind fun x84 => ((fI M 0 x84 8).bind fun x87 => some (x87, M))) else (if v1 = 5 then ((fR M 10 v0 3).bind fun x92 => ((fI M 0 x92 10).bind fun x95 => some (x95, M))) else (if v1 = 6 then ((fR M 10 v0 3).bind fun x100 => ((fI M 0 x100 11).bind fun x103 => some (x103, M))) else some ((-1), M))))))))
set_option maxHeartbeats 4000000 in
set_option maxRecDepth 100000 in
theorem k_X10_now (l : Launch) (b : Nat) (D : va_G) (cy : Nat → ClassId) (N : Nat) (v0 : Nat) (v1 : Int32) (M : Mem) (r : Int32) (Mf : Mem) (h : fX10_now N v0 v1 M = some (r, Mf)) : Ct l yX10_now cX10_now 2 (some .int) 5 0 0 b D cy [.ref (b + v0), .int v1] M (some (.int r)) Mf := by
  refine Ct_of (own := RX10) (by decide) rfl (Nat.le_of_ble_eq_true rfl) ?_
  intro p e s m args below meth c F hr hl hmn
  unfold fX10_now at h
  show X p l e ({ frames := 5, cells := 0, slots := 0, locals := 100 * 5 }) s m args below meth c (MQ below (Qm b D cy (some (.int r)) Mf) args s 0 0 (fun q => b ≤ q)) 2 b D cy 0 0 M 0 [(0, .ref (b + v0)), (1, .int v1)] []
  refine x_iload_n F dX10_now_0 rfl 1 rfl ?_
  by_cases c1_0 : v1 = 0
  · rw [if_pos c1_0] at h
    refine x_tableIn F (off := 43) (tgt := 44) dX10_now_1 (by rw [c1_0]; decide) (by rw [c1_0]; decide) (by rw [c1_0]; decide) (by decide) ?_
    refine x_aload_n F dX10_now_44 rfl 0 rfl ?_
    obtain ⟨x45, c45, h⟩ := bdS h
    refine x_getR F (ci := 10) (C := RX10) (T := TX10) (N := 19) rfl ⟨by decide, rfl⟩ inU10 3 (by decide) (fun _ _ _ => rfl) wl_622 c45 dX10_now_45 ?_
    obtain ⟨x48, c48, h⟩ := bdS h
    refine x_getI F (ci := 0) (C := RX0) (T := TX0) (N := 12) rfl ⟨by decide, rfl⟩ inU0 9 (by decide) (fun _ _ _ => rfl) wl_729 c48 dX10_now_48 ?_
    obtain ⟨rfl, rfl⟩ := retS h
    exact x_iret F hr hl dX10_now_51
  rw [if_neg c1_0] at h
  by_cases c1_1 : v1 = 1
  · rw [if_pos c1_1] at h
    refine x_tableIn F (off := 51) (tgt := 52) dX10_now_1 (by rw [c1_1]; decide) (by rw [c1_1]; decide) (by rw [c1_1]; decide) (by decide) ?_
    refine x_aload_n F dX10_now_52 rfl 0 rfl ?_
    obtain ⟨x53, c53, h⟩ := bdS h
    refine x_getR F (ci := 10) (C := RX10) (T := TX10) (N := 19) rfl ⟨by decide, rfl⟩ inU10 1 (by decide) (fun _ _ _ => rfl) wl_619 c53 dX10_now_53 ?_
    refine x_aload_n F dX10_now_56 rfl 0 rfl ?_
    obtain ⟨x57, c57, h⟩ := bdS h
    refine x_getR F (ci := 10) (C := RX10) (T := TX10) (N := 19) rfl ⟨by decide, rfl⟩ inU10 3 (by decide) (fun _ _ _ => rfl) wl_622 c57 dX10_now_57 ?_
    obtain ⟨x60, c60, h⟩ := bdS h
    refine x_getI F (ci := 0) (C := RX0) (T := TX0) (N := 12) rfl ⟨by decide, rfl⟩ inU0 9 (by decide) (fun _ _ _ => rfl) wl_729 c60 dX10_now_60 ?_
    obtain ⟨k63, h⟩ := gdS h
    obtain ⟨⟨x63, M63⟩, c63, h⟩ := bdS h
    dsimp only at h
    refine x_callV F (As := [.int x60]) (rest := []) (res := (some (.int x63))) (ci := 8) (q := (RX8, TX8, 17)) rfl (by decide) k63 (k_X8_tideOf l b D cy N x53 x60 M _ _ c63) wl_733 wl_73 wl_74 wl_75 wl_36 hd_X8_tideOf ⟨Nat.le_of_ble_eq_true rfl, Nat.le_of_ble_eq_true rfl⟩ ⟨Nat.le_refl _, Nat.le_refl _⟩ (Nat.le_of_ble_eq_true rfl) rfl dX10_now_63 ?_
    obtain ⟨rfl, rfl⟩ := retS h
    exact x_iret F hr hl dX10_now_66
  rw [if_neg c1_1] at h
  by_cases c1_2 : v1 = 2
  · rw [if_pos c1_2] at h
    refine x_tableIn F (off := 66) (tgt := 67) dX10_now_1 (by rw [c1_2]; decide) (by rw [c1_2]; decide) (by rw [c1_2]; decide) (by decide) ?_
    refine x_aload_n F dX10_now_67 rfl 0 rfl ?_
    obtain ⟨x68, c68, h⟩ := bdS h
    refine x_getR F (ci := 10) (C := RX10) (T := TX10) (N := 19) rfl ⟨by decide, rfl⟩ inU10 3 (by decide) (fun _ _ _ => rfl) wl_622 c68 dX10_now_68 ?_
    obtain ⟨k71, h⟩ := gdS h
    obtain ⟨⟨x71, M71⟩, c71, h⟩ := bdS h
    dsimp only at h
    refine x_callV F (As := []) (rest := []) (res := (some (.int x71))) (ci := 0) (q := (RX0, TX0, 12)) rfl (by decide) k71 (k_X0_allSigns l b D cy N x68 M _ _ c71) wl_734 wl_735 wl_736 wl_52 wl_91 hd_X0_allSigns ⟨Nat.le_of_ble_eq_true rfl, Nat.le_of_ble_eq_true rfl⟩ ⟨Nat.le_refl _, Nat.le_refl _⟩ (Nat.le_of_ble_eq_true rfl) rfl dX10_now_71 ?_
    obtain ⟨rfl, rfl⟩ := retS h
    exact x_iret F hr hl dX10_now_74
  rw [if_neg c1_2] at h
  by_cases c1_3 : v1 = 3
  · rw [if_pos c1_3] at h
    refine x_tableIn F (off := 74) (tgt := 75) dX10_now_1 (by rw [c1_3]; decide) (by rw [c1_3]; decide) (by rw [c1_3]; decide) (by decide) ?_
    refine x_aload_n F dX10_now_75 rfl 0 rfl ?_
    obtain ⟨x76, c76, h⟩ := bdS h
    refine x_getR F (ci := 10) (C := RX10) (T := TX10) (N := 19) rfl ⟨by decide, rfl⟩ inU10 3 (by decide) (fun _ _ _ => rfl) wl_622 c76 dX10_now_76 ?_
    obtain ⟨k79, h⟩ := gdS h
    obtain ⟨⟨x79, M79⟩, c79, h⟩ := bdS h
    dsimp only at h
    refine x_callV F (As := []) (rest := []) (res := (some (.int x79))) (ci := 0) (q := (RX0, TX0, 12)) rfl (by decide) k79 (k_X0_lawsRead l b D cy N x76 M _ _ c79) wl_737 wl_738 wl_739 wl_52 wl_87 hd_X0_lawsRead ⟨Nat.le_of_ble_eq_true rfl, Nat.le_of_ble_eq_true rfl⟩ ⟨Nat.le_refl _, Nat.le_refl _⟩ (Nat.le_of_ble_eq_true rfl) rfl dX10_now_79 ?_
    obtain ⟨rfl, rfl⟩ := retS h
    exact x_iret F hr hl dX10_now_82
  rw [if_neg c1_3] at h
  by_cases c1_4 : v1 = 4
  · rw [if_pos c1_4] at h
    refine x_tableIn F (off := 82) (tgt := 83) dX10_now_1 (by rw [c1_4]; decide) (by rw [c1_4]; decide) (by rw [c1_4]; decide) (by decide) ?_
    refine x_aload_n F dX10_now_83 rfl 0 rfl ?_
    obtain ⟨x84, c84, h⟩ := bdS h
    refine x_getR F (ci := 10) (C := RX10) (T := TX10) (N := 19) rfl ⟨by decide, rfl⟩ inU10 3 (by decide) (fun _ _ _ => rfl) wl_622 c84 dX10_now_84 ?_
    obtain ⟨x87, c87, h⟩ := bdS h
    refine x_getI F (ci := 0) (C := RX0) (T := TX0) (N := 12) rfl ⟨by decide, rfl⟩ inU0 8 (by decide) (fun _ _ _ => rfl) wl_730 c87 dX10_now_87 ?_
    obtain ⟨rfl, rfl⟩ := retS h
    exact x_iret F hr hl dX10_now_90
  rw [if_neg c1_4] at h
  by_cases c1_5 : v1 = 5
  · rw [if_pos c1_5] at h
    refine x_tableIn F (off := 90) (tgt := 91) dX10_now_1 (by rw [c1_5]; decide) (by rw [c1_5]; decide) (by rw [c1_5]; decide) (by decide) ?_
    refine x_aload_n F dX10_now_91 rfl 0 rfl ?_
    obtain ⟨x92, c92, h⟩ := bdS h
    refine x_getR F (ci := 10) (C := RX10) (T := TX10) (N := 19) rfl ⟨by decide, rfl⟩ inU10 3 (by decide) (fun _ _ _ => rfl) wl_622 c92 dX10_now_92 ?_
    obtain ⟨x95, c95, h⟩ := bdS h
    refine x_getI F (ci := 0) (C := RX0) (T := TX0) (N := 12) rfl ⟨by decide, rfl⟩ inU0 10 (by decide) (fun _ _ _ => rfl) wl_731 c95 dX10_now_95 ?_
    obtain ⟨rfl, rfl⟩ := retS h
    exact x_iret F hr hl dX10_now_98
  rw [if_neg c1_5] at h
  by_cases c1_6 : v1 = 6
  · rw [if_pos c1_6] at h
    refine x_tableIn F (off := 98) (tgt := 99) dX10_now_1 (by rw [c1_6]; decide) (by rw [c1_6]; decide) (by rw [c1_6]; decide) (by decide) ?_
    refine x_aload_n F dX10_now_99 rfl 0 rfl ?_
    obtain ⟨x100, c100, h⟩ := bdS h
    refine x_getR F (ci := 10) (C := RX10) (T := TX10) (N := 19) rfl ⟨by decide, rfl⟩ inU10 3 (by decide) (fun _ _ _ => rfl) wl_622 c100 dX10_now_100 ?_
    obtain ⟨x103, c103, h⟩ := bdS h
    refine x_getI F (ci := 0) (C := RX0) (T := TX0) (N := 12) rfl ⟨by decide, rfl⟩ inU0 11 (by decide) (fun _ _ _ => rfl) wl_732 c103 dX10_now_103 ?_
    obtain ⟨rfl, rfl⟩ := retS h
    exact x_iret F hr hl dX10_now_106
  rw [if_neg c1_6] at h
  refine x_tableOut F (tgt := 107) dX10_now_1 (by have q0 := sw_ne (t := 0) c1_0 (by decide); have q1 := sw_ne (t := 1) c1_1 (by decide); have q2 := sw_ne (t := 2) c1_2 (by decide); have q3 := sw_ne (t := 3) c1_3 (by decide); have q4 := sw_ne (t := 4) c1_4 (by decide); have q5 := sw_ne (t := 5) c1_5 (by decide); have q6 := sw_ne (t := 6) c1_6 (by decide); omega) (by decide) ?_
  refine x_iconst F (v := (-1)) dX10_now_107 (by decide) ?_
  obtain ⟨rfl, rfl⟩ := retS h
  exact x_iret F hr hl dX10_now_108
theorem dX10_count_0 : decode cX10_count 0 = .ok (.iload_n 1, 1) := by decide +kernel
theorem dX10_count_1 : decode cX10_count 1 = .ok (.tableswitch 87 0 5 #[39, 47, 55, 63, 71, 79], 39) := by decide +kernel
theorem dX10_count_40 : decode cX10_count 40 = .ok (.aload_n 0, 1) := by decide +kernel
theorem dX10_count_41 : decode cX10_count 41 = .ok (.getfield 19, 3) := by decide +kernel
theorem dX10_count_44 : decode cX10_count 44 = .ok (.getfield 241, 3) := by decide +kernel
theorem dX10_count_47 : decode cX10_count 47 = .ok (.ireturn, 1) := by decide +kernel
theorem dX10_count_48 : decode cX10_count 48 = .ok (.aload_n 0, 1) := by decide +kernel
theorem dX10_count_49 : decode cX10_count 49 = .ok (.getfield 19, 3) := by decide +kernel
theorem dX10_count_52 : decode cX10_count 52 = .ok (.getfield 244, 3) := by decide +kernel
theorem dX10_count_55 : decode cX10_count 55 = .ok (.ireturn, 1) := by decide +kernel
theorem dX10_count_56 : decode cX10_count 56 = .ok (.aload_n 0, 1) := by decide +kernel
theorem dX10_count_57 : decode cX10_count 57 = .ok (.getfield 19, 3) := by decide +kernel
theorem dX10_count_60 : decode cX10_count 60 = .ok (.getfield 247, 3) := by decide +kernel
theorem dX10_count_63 : decode cX10_count 63 = .ok (.ireturn, 1) := by decide +kernel
theorem dX10_count_64 : decode cX10_count 64 = .ok (.aload_n 0, 1) := by decide +kernel
theorem dX10_count_65 : decode cX10_count 65 = .ok (.getfield 19, 3) := by decide +kernel
theorem dX10_count_68 : decode cX10_count 68 = .ok (.getfield 250, 3) := by decide +kernel
theorem dX10_count_71 : decode cX10_count 71 = .ok (.ireturn, 1) := by decide +kernel
theorem dX10_count_72 : decode cX10_count 72 = .ok (.aload_n 0, 1) := by decide +kernel
theorem dX10_count_73 : decode cX10_count 73 = .ok (.getfield 19, 3) := by decide +kernel
theorem dX10_count_76 : decode cX10_count 76 = .ok (.getfield 253, 3) := by decide +kernel
theorem dX10_count_79 : decode cX10_count 79 = .ok (.ireturn, 1) := by decide +kernel
theorem dX10_count_80 : decode cX10_count 80 = .ok (.aload_n 0, 1) := by decide +kernel
theorem dX10_count_81 : decode cX10_count 81 = .ok (.getfield 12, 3) := by decide +kernel
theorem dX10_count_84 : decode cX10_count 84 = .ok (.getfield 114, 3) := by decide +kernel
theorem dX10_count_87 : decode cX10_count 87 = .ok (.ireturn, 1) := by decide +kernel
theorem dX10_count_88 : decode cX10_count 88 = .ok (.iconst (-1), 1) := by decide +kernel
theorem dX10_count_89 : decode cX10_count 89 = .ok (.ireturn, 1) := by decide +kernel
def fX10_count (N : Nat) (v0 : Nat) (v1 : Int32) (M : Mem) : Option (Int32 × Mem) := (if v1 = 0 then ((fR M 10 v0 1).bind fun x41 => ((fI M 8 x41 0).bind fun x44 => some (x44, M))) else (if v1 = 1 then ((fR M 10 v0 1).bind fun x49 => ((fI M 8 x49 6).bind fun x52 => some (x52, M))) else (if v1 = 2 then ((fR M 10 v0 1).bind fun x57 => ((fI M 8 x57 9).bind fun x60 => some (x60, M))) else (if v1 = 3 then ((fR M 10 v0 1).bind fun x65 => ((fI M 8 x65 4).bind fun x68 => some (x68, M))) else (if v1 = 4 then ((fR M 10 v0 1).bind fun x73 => ((fI M 8 x73 14).bind fun x76 => some (x76, M))) else (if v1 = 5 then ((fR M 10 v0 0).bind fun x81 => ((fI M 9 x81 2).bind fun x84 => some (x84, M))) else some ((-1), M)))))))
set_option maxHeartbeats 4000000 in
set_option maxRecDepth 100000 in
theorem k_X10_count (l : Launch) (b : Nat) (D : va_G) (cy : Nat → ClassId) (N : Nat) (v0 : Nat) (v1 : Int32) (M : Mem) (r : Int32) (Mf : Mem) (h : fX10_count N v0 v1 M = some (r, Mf)) : Ct l yX10_count cX10_count 2 (some .int) 1 0 0 b D cy [.ref (b + v0), .int v1] M (some (.int r)) Mf := by
  refine Ct_of (own := RX10) (by decide) rfl (Nat.le_of_ble_eq_true rfl) ?_
  intro p e s m args below meth c F hr hl hmn
  unfold fX10_count at h
  show X p l e ({ frames := 1, cells := 0, slots := 0, locals := 100 * 1 }) s m args below meth c (MQ below (Qm b D cy (some (.int r)) Mf) args s 0 0 (fun q => b ≤ q)) 2 b D cy 0 0 M 0 [(0, .ref (b + v0)), (1, .int v1)] []
  refine x_iload_n F dX10_count_0 rfl 1 rfl ?_
  by_cases c1_0 : v1 = 0
  · rw [if_pos c1_0] at h
    refine x_tableIn F (off := 39) (tgt := 40) dX10_count_1 (by rw [c1_0]; decide) (by rw [c1_0]; decide) (by rw [c1_0]; decide) (by decide) ?_
    refine x_aload_n F dX10_count_40 rfl 0 rfl ?_
    obtain ⟨x41, c41, h⟩ := bdS h
    refine x_getR F (ci := 10) (C := RX10) (T := TX10) (N := 19) rfl ⟨by decide, rfl⟩ inU10 1 (by decide) (fun _ _ _ => rfl) wl_619 c41 dX10_count_41 ?_
    obtain ⟨x44, c44, h⟩ := bdS h
    refine x_getI F (ci := 8) (C := RX8) (T := TX8) (N := 17) rfl ⟨by decide, rfl⟩ inU8 0 (by decide) (fun _ _ _ => rfl) wl_742 c44 dX10_count_44 ?_
    obtain ⟨rfl, rfl⟩ := retS h
    exact x_iret F hr hl dX10_count_47
  rw [if_neg c1_0] at h
  by_cases c1_1 : v1 = 1
  · rw [if_pos c1_1] at h
    refine x_tableIn F (off := 47) (tgt := 48) dX10_count_1 (by rw [c1_1]; decide) (by rw [c1_1]; decide) (by rw [c1_1]; decide) (by decide) ?_
    refine x_aload_n F dX10_count_48 rfl 0 rfl ?_
    obtain ⟨x49, c49, h⟩ := bdS h
    refine x_getR F (ci := 10) (C := RX10) (T := TX10) (N := 19) rfl ⟨by decide, rfl⟩ inU10 1 (by decide) (fun _ _ _ => rfl) wl_619 c49 dX10_count_49 ?_
    obtain ⟨x52, c52, h⟩ := bdS h
    refine x_getI F (ci := 8) (C := RX8) (T := TX8) (N := 17) rfl ⟨by decide, rfl⟩ inU8 6 (by decide) (fun _ _ _ => rfl) wl_743 c52 dX10_count_52 ?_
    obtain ⟨rfl, rfl⟩ := retS h
    exact x_iret F hr hl dX10_count_55
  rw [if_neg c1_1] at h
  by_cases c1_2 : v1 = 2
  · rw [if_pos c1_2] at h
    refine x_tableIn F (off := 55) (tgt := 56) dX10_count_1 (by rw [c1_2]; decide) (by rw [c1_2]; decide) (by rw [c1_2]; decide) (by decide) ?_
    refine x_aload_n F dX10_count_56 rfl 0 rfl ?_
    obtain ⟨x57, c57, h⟩ := bdS h
    refine x_getR F (ci := 10) (C := RX10) (T := TX10) (N := 19) rfl ⟨by decide, rfl⟩ inU10 1 (by decide) (fun _ _ _ => rfl) wl_619 c57 dX10_count_57 ?_
    obtain ⟨x60, c60, h⟩ := bdS h
    refine x_getI F (ci := 8) (C := RX8) (T := TX8) (N := 17) rfl ⟨by decide, rfl⟩ inU8 9 (by decide) (fun _ _ _ => rfl) wl_744 c60 dX10_count_60 ?_
    obtain ⟨rfl, rfl⟩ := retS h
    exact x_iret F hr hl dX10_count_63
  rw [if_neg c1_2] at h
  by_cases c1_3 : v1 = 3
  · rw [if_pos c1_3] at h
    refine x_tableIn F (off := 63) (tgt := 64) dX10_count_1 (by rw [c1_3]; decide) (by rw [c1_3]; decide) (by rw [c1_3]; decide) (by decide) ?_
    refine x_aload_n F dX10_count_64 rfl 0 rfl ?_
    obtain ⟨x65, c65, h⟩ := bdS h
    refine x_getR F (ci := 10) (C := RX10) (T := TX10) (N := 19) rfl ⟨by decide, rfl⟩ inU10 1 (by decide) (fun _ _ _ => rfl) wl_619 c65 dX10_count_65 ?_
    obtain ⟨x68, c68, h⟩ := bdS h
    refine x_getI F (ci := 8) (C := RX8) (T := TX8) (N := 17) rfl ⟨by decide, rfl⟩ inU8 4 (by decide) (fun _ _ _ => rfl) wl_745 c68 dX10_count_68 ?_
    obtain ⟨rfl, rfl⟩ := retS h
    exact x_iret F hr hl dX10_count_71
  rw [if_neg c1_3] at h
  by_cases c1_4 : v1 = 4
  · rw [if_pos c1_4] at h
    refine x_tableIn F (off := 71) (tgt := 72) dX10_count_1 (by rw [c1_4]; decide) (by rw [c1_4]; decide) (by rw [c1_4]; decide) (by decide) ?_
    refine x_aload_n F dX10_count_72 rfl 0 rfl ?_
    obtain ⟨x73, c73, h⟩ := bdS h
    refine x_getR F (ci := 10) (C := RX10) (T := TX10) (N := 19) rfl ⟨by decide, rfl⟩ inU10 1 (by decide) (fun _ _ _ => rfl) wl_619 c73 dX10_count_73 ?_
    obtain ⟨x76, c76, h⟩ := bdS h
    refine x_getI F (ci := 8) (C := RX8) (T := TX8) (N := 17) rfl ⟨by decide, rfl⟩ inU8 14 (by decide) (fun _ _ _ => rfl) wl_746 c76 dX10_count_76 ?_
    obtain ⟨rfl, rfl⟩ := retS h
    exact x_iret F hr hl dX10_count_79
  rw [if_neg c1_4] at h
  by_cases c1_5 : v1 = 5
  · rw [if_pos c1_5] at h
    refine x_tableIn F (off := 79) (tgt := 80) dX10_count_1 (by rw [c1_5]; decide) (by rw [c1_5]; decide) (by rw [c1_5]; decide) (by decide) ?_
    refine x_aload_n F dX10_count_80 rfl 0 rfl ?_
    obtain ⟨x81, c81, h⟩ := bdS h
    refine x_getR F (ci := 10) (C := RX10) (T := TX10) (N := 19) rfl ⟨by decide, rfl⟩ inU10 0 (by decide) (fun _ _ _ => rfl) wl_616 c81 dX10_count_81 ?_
    obtain ⟨x84, c84, h⟩ := bdS h
    refine x_getI F (ci := 9) (C := RX9) (T := TX9) (N := 12) rfl ⟨by decide, rfl⟩ inU9 2 (by decide) (fun _ _ _ => rfl) wl_674 c84 dX10_count_84 ?_
    obtain ⟨rfl, rfl⟩ := retS h
    exact x_iret F hr hl dX10_count_87
  rw [if_neg c1_5] at h
  refine x_tableOut F (tgt := 88) dX10_count_1 (by have q0 := sw_ne (t := 0) c1_0 (by decide); have q1 := sw_ne (t := 1) c1_1 (by decide); have q2 := sw_ne (t := 2) c1_2 (by decide); have q3 := sw_ne (t := 3) c1_3 (by decide); have q4 := sw_ne (t := 4) c1_4 (by decide); have q5 := sw_ne (t := 5) c1_5 (by decide); omega) (by decide) ?_
  refine x_iconst F (v := (-1)) dX10_count_88 (by decide) ?_
  obtain ⟨rfl, rfl⟩ := retS h
  exact x_iret F hr hl dX10_count_89
theorem hd_X5_keepCopy : (yX5_keepCopy).cls = RX5 ∧ (yX5_keepCopy).cls ≠ "java/lang/invoke/MethodHandle" ∧ (yX5_keepCopy).cls ≠ "java/lang/invoke/VarHandle" ∧ (parseMethodDescriptor (yX5_keepCopy).desc).map (fun d => d.parameters.length) = some 1 := by decide +kernel
theorem dX10_write_0 : decode cX10_write 0 = .ok (.aload_n 0, 1) := by decide +kernel
theorem dX10_write_1 : decode cX10_write 1 = .ok (.getfield 19, 3) := by decide +kernel
theorem dX10_write_4 : decode cX10_write 4 = .ok (.iload_n 1, 1) := by decide +kernel
theorem dX10_write_5 : decode cX10_write 5 = .ok (.invokevirtual 210, 3) := by decide +kernel
theorem dX10_write_8 : decode cX10_write 8 = .ok (.ifCond .eq 27, 3) := by decide +kernel
theorem dX10_write_11 : decode cX10_write 11 = .ok (.aload_n 0, 1) := by decide +kernel
theorem dX10_write_12 : decode cX10_write 12 = .ok (.getfield 19, 3) := by decide +kernel
theorem dX10_write_15 : decode cX10_write 15 = .ok (.iload_n 2, 1) := by decide +kernel
theorem dX10_write_16 : decode cX10_write 16 = .ok (.iload_n 3, 1) := by decide +kernel
theorem dX10_write_17 : decode cX10_write 17 = .ok (.invokevirtual 171, 3) := by decide +kernel
theorem dX10_write_20 : decode cX10_write 20 = .ok (.ifCond .eq 15, 3) := by decide +kernel
theorem dX10_write_23 : decode cX10_write 23 = .ok (.iload 4, 2) := by decide +kernel
theorem dX10_write_25 : decode cX10_write 25 = .ok (.ifCond .lt 10, 3) := by decide +kernel
theorem dX10_write_28 : decode cX10_write 28 = .ok (.iload 4, 2) := by decide +kernel
theorem dX10_write_30 : decode cX10_write 30 = .ok (.bipush 9, 2) := by decide +kernel
theorem dX10_write_32 : decode cX10_write 32 = .ok (.if_icmp .le 5, 3) := by decide +kernel
theorem dX10_write_35 : decode cX10_write 35 = .ok (.iconst (-1), 1) := by decide +kernel
theorem dX10_write_36 : decode cX10_write 36 = .ok (.ireturn, 1) := by decide +kernel
theorem dX10_write_37 : decode cX10_write 37 = .ok (.aload_n 0, 1) := by decide +kernel
theorem dX10_write_38 : decode cX10_write 38 = .ok (.getfield 31, 3) := by decide +kernel
theorem dX10_write_41 : decode cX10_write 41 = .ok (.iload_n 1, 1) := by decide +kernel
theorem dX10_write_42 : decode cX10_write 42 = .ok (.iload_n 2, 1) := by decide +kernel
theorem dX10_write_43 : decode cX10_write 43 = .ok (.iload_n 3, 1) := by decide +kernel
theorem dX10_write_44 : decode cX10_write 44 = .ok (.invokevirtual 256, 3) := by decide +kernel
theorem dX10_write_47 : decode cX10_write 47 = .ok (.istore 5, 2) := by decide +kernel
theorem dX10_write_49 : decode cX10_write 49 = .ok (.iload 5, 2) := by decide +kernel
theorem dX10_write_51 : decode cX10_write 51 = .ok (.ifCond .ne 26, 3) := by decide +kernel
theorem dX10_write_54 : decode cX10_write 54 = .ok (.aload_n 0, 1) := by decide +kernel
theorem dX10_write_55 : decode cX10_write 55 = .ok (.getfield 41, 3) := by decide +kernel
theorem dX10_write_58 : decode cX10_write 58 = .ok (.aload_n 0, 1) := by decide +kernel
theorem dX10_write_59 : decode cX10_write 59 = .ok (.getfield 31, 3) := by decide +kernel
theorem dX10_write_62 : decode cX10_write 62 = .ok (.invokevirtual 260, 3) := by decide +kernel
theorem dX10_write_65 : decode cX10_write 65 = .ok (.aload_n 0, 1) := by decide +kernel
theorem dX10_write_66 : decode cX10_write 66 = .ok (.getfield 31, 3) := by decide +kernel
theorem dX10_write_69 : decode cX10_write 69 = .ok (.iload_n 1, 1) := by decide +kernel
theorem dX10_write_70 : decode cX10_write 70 = .ok (.iload_n 2, 1) := by decide +kernel
theorem dX10_write_71 : decode cX10_write 71 = .ok (.iload_n 3, 1) := by decide +kernel
theorem dX10_write_72 : decode cX10_write 72 = .ok (.iload 4, 2) := by decide +kernel
theorem dX10_write_74 : decode cX10_write 74 = .ok (.invokevirtual 264, 3) := by decide +kernel
theorem dX10_write_77 : decode cX10_write 77 = .ok (.iload 5, 2) := by decide +kernel
theorem dX10_write_79 : decode cX10_write 79 = .ok (.ireturn, 1) := by decide +kernel
def fX10_write (N : Nat) (v0 : Nat) (v1 : Int32) (v2 : Int32) (v3 : Int32) (v4 : Int32) (M : Mem) : Option (Int32 × Mem) := ((fR M 10 v0 1).bind fun x1 => (if mK M x1 = 9 then ((fX8_hasWriter N x1 v1 M).bind fun (x5, M5) => (if x5 = 0 then some ((-1), M5) else ((fR M5 10 v0 1).bind fun x12 => (if mK M5 x12 = 9 then ((fX8_hasPlace N x12 v2 v3 M5).bind fun (x17, M17) => (if x17 = 0 then some ((-1), M17) else (if v4 < 0 then some ((-1), M17) else (if v4 ≤ 9 then ((fR M17 10 v0 3).bind fun x38 => (if mK M17 x38 = 1 then ((fX0_whyNotWrite N x38 v1 v2 v3 M17).bind fun (x44, M44) => (if x44 = 0 then ((fR M44 10 v0 5).bind fun x55 => ((fR M44 10 v0 3).bind fun x59 => (if mK M44 x55 = 6 then ((fX5_keepCopy N x55 x59 M44).bind fun (u62, M62) => ((fR M62 10 v0 3).bind fun x66 => (if mK M62 x66 = 1 then ((fX0_putSign N x66 v1 v2 v3 v4 M62).bind fun (u74, M74) => some (x44, M74)) else none))) else none))) else some (x44, M44))) else none)) else some ((-1), M17))))) else none)))) else none))
set_option maxHeartbeats 4000000 in
set_option maxRecDepth 100000 in
theorem k_X10_write (l : Launch) (b : Nat) (D : va_G) (cy : Nat → ClassId) (N : Nat) (v0 : Nat) (v1 : Int32) (v2 : Int32) (v3 : Int32) (v4 : Int32) (M : Mem) (r : Int32) (Mf : Mem) (h : fX10_write N v0 v1 v2 v3 v4 M = some (r, Mf)) : Ct l yX10_write cX10_write 6 (some .int) 3 0 0 b D cy [.ref (b + v0), .int v1, .int v2, .int v3, .int v4] M (some (.int r)) Mf := by
  refine Ct_of (own := RX10) (by decide) rfl (Nat.le_of_ble_eq_true rfl) ?_
  intro p e s m args below meth c F hr hl hmn
  unfold fX10_write at h
  show X p l e ({ frames := 3, cells := 0, slots := 0, locals := 100 * 3 }) s m args below meth c (MQ below (Qm b D cy (some (.int r)) Mf) args s 0 0 (fun q => b ≤ q)) 6 b D cy 0 0 M 0 [(0, .ref (b + v0)), (1, .int v1), (2, .int v2), (3, .int v3), (4, .int v4)] []
  refine x_aload_n F dX10_write_0 rfl 0 rfl ?_
  obtain ⟨x1, c1, h⟩ := bdS h
  refine x_getR F (ci := 10) (C := RX10) (T := TX10) (N := 19) rfl ⟨by decide, rfl⟩ inU10 1 (by decide) (fun _ _ _ => rfl) wl_619 c1 dX10_write_1 ?_
  refine x_iload_n F dX10_write_4 rfl 1 rfl ?_
  obtain ⟨k5, h⟩ := gdS h
  obtain ⟨⟨x5, M5⟩, c5, h⟩ := bdS h
  dsimp only at h
  refine x_callV F (As := [.int v1]) (rest := []) (res := (some (.int x5))) (ci := 8) (q := (RX8, TX8, 17)) rfl (by decide) k5 (k_X8_hasWriter l b D cy N x1 v1 M _ _ c5) wl_726 wl_727 wl_728 wl_75 wl_553 hd_X8_hasWriter ⟨Nat.le_of_ble_eq_true rfl, Nat.le_of_ble_eq_true rfl⟩ ⟨Nat.le_refl _, Nat.le_refl _⟩ (Nat.le_of_ble_eq_true rfl) rfl dX10_write_5 ?_
  refine x_if_eq F (tgt := 35) dX10_write_8 (by decide) (fun c8 => ?_) (fun c8 => ?_)
  · rw [if_pos c8] at h
    refine x_iconst F (v := (-1)) dX10_write_35 (by decide) ?_
    obtain ⟨rfl, rfl⟩ := retS h
    exact x_iret F hr hl dX10_write_36
  · rw [if_neg c8] at h
    refine x_aload_n F dX10_write_11 rfl 0 rfl ?_
    obtain ⟨x12, c12, h⟩ := bdS h
    refine x_getR F (ci := 10) (C := RX10) (T := TX10) (N := 19) rfl ⟨by decide, rfl⟩ inU10 1 (by decide) (fun _ _ _ => rfl) wl_619 c12 dX10_write_12 ?_
    refine x_iload_n F dX10_write_15 rfl 2 rfl ?_
    refine x_iload_n F dX10_write_16 rfl 3 rfl ?_
    obtain ⟨k17, h⟩ := gdS h
    obtain ⟨⟨x17, M17⟩, c17, h⟩ := bdS h
    dsimp only at h
    refine x_callV F (As := [.int v2, .int v3]) (rest := []) (res := (some (.int x17))) (ci := 8) (q := (RX8, TX8, 17)) rfl (by decide) k17 (k_X8_hasPlace l b D cy N x12 v2 v3 M5 _ _ c17) wl_708 wl_245 wl_246 wl_75 wl_239 hd_X8_hasPlace ⟨Nat.le_of_ble_eq_true rfl, Nat.le_of_ble_eq_true rfl⟩ ⟨Nat.le_refl _, Nat.le_refl _⟩ (Nat.le_of_ble_eq_true rfl) rfl dX10_write_17 ?_
    refine x_if_eq F (tgt := 35) dX10_write_20 (by decide) (fun c20 => ?_) (fun c20 => ?_)
    · rw [if_pos c20] at h
      refine x_iconst F (v := (-1)) dX10_write_35 (by decide) ?_
      obtain ⟨rfl, rfl⟩ := retS h
      exact x_iret F hr hl dX10_write_36
    · rw [if_neg c20] at h
      refine x_iload F dX10_write_23 4 rfl ?_
      refine x_if_lt F (tgt := 35) dX10_write_25 (by decide) (fun c25 => ?_) (fun c25 => ?_)
      · rw [if_pos c25] at h
        refine x_iconst F (v := (-1)) dX10_write_35 (by decide) ?_
        obtain ⟨rfl, rfl⟩ := retS h
        exact x_iret F hr hl dX10_write_36
      · rw [if_neg c25] at h
        refine x_iload F dX10_write_28 4 rfl ?_
        refine x_bipush F (v := 9) dX10_write_30 (by decide) ?_
        refine x_icmp_le F (tgt := 37) dX10_write_32 (by decide) (fun c32 => ?_) (fun c32 => ?_)
        · rw [if_pos c32] at h
          refine x_aload_n F dX10_write_37 rfl 0 rfl ?_
          obtain ⟨x38, c38, h⟩ := bdS h
          refine x_getR F (ci := 10) (C := RX10) (T := TX10) (N := 19) rfl ⟨by decide, rfl⟩ inU10 3 (by decide) (fun _ _ _ => rfl) wl_622 c38 dX10_write_38 ?_
          refine x_iload_n F dX10_write_41 rfl 1 rfl ?_
          refine x_iload_n F dX10_write_42 rfl 2 rfl ?_
          refine x_iload_n F dX10_write_43 rfl 3 rfl ?_
          obtain ⟨k44, h⟩ := gdS h
          obtain ⟨⟨x44, M44⟩, c44, h⟩ := bdS h
          dsimp only at h
          refine x_callV F (As := [.int v1, .int v2, .int v3]) (rest := []) (res := (some (.int x44))) (ci := 0) (q := (RX0, TX0, 12)) rfl (by decide) k44 (k_X0_whyNotWrite l b D cy N x38 v1 v2 v3 M17 _ _ c44) wl_747 wl_248 wl_249 wl_52 wl_28 hd_X0_whyNotWrite ⟨Nat.le_of_ble_eq_true rfl, Nat.le_of_ble_eq_true rfl⟩ ⟨Nat.le_refl _, Nat.le_refl _⟩ (Nat.le_of_ble_eq_true rfl) rfl dX10_write_44 ?_
          refine x_istore F (lv' := [(5, .int x44), (0, .ref (b + v0)), (1, .int v1), (2, .int v2), (3, .int v3), (4, .int v4)]) dX10_write_47 (by decide) rfl ?_
          refine x_iload F dX10_write_49 0 rfl ?_
          refine x_if_ne F (tgt := 77) dX10_write_51 (by decide) (fun c51 => ?_) (fun c51 => ?_)
          · rw [if_neg c51] at h
            refine x_iload F dX10_write_77 0 rfl ?_
            obtain ⟨rfl, rfl⟩ := retS h
            exact x_iret F hr hl dX10_write_79
          · rw [if_pos c51] at h
            refine x_aload_n F dX10_write_54 rfl 1 rfl ?_
            obtain ⟨x55, c55, h⟩ := bdS h
            refine x_getR F (ci := 10) (C := RX10) (T := TX10) (N := 19) rfl ⟨by decide, rfl⟩ inU10 5 (by decide) (fun _ _ _ => rfl) wl_627 c55 dX10_write_55 ?_
            refine x_aload_n F dX10_write_58 rfl 1 rfl ?_
            obtain ⟨x59, c59, h⟩ := bdS h
            refine x_getR F (ci := 10) (C := RX10) (T := TX10) (N := 19) rfl ⟨by decide, rfl⟩ inU10 3 (by decide) (fun _ _ _ => rfl) wl_622 c59 dX10_write_59 ?_
            obtain ⟨k62, h⟩ := gdS h
            obtain ⟨⟨u62, M62⟩, c62, h⟩ := bdS h
            dsimp only at h
            refine x_callV F (As := [.ref (b + x59)]) (rest := []) (res := none) (ci := 5) (q := (RX5, TX5, 3)) rfl (by decide) k62 (k_X5_keepCopy l b D cy N x55 x59 M44 _ _ c62) wl_748 wl_749 wl_750 wl_626 wl_380 hd_X5_keepCopy ⟨Nat.le_of_ble_eq_true rfl, Nat.le_of_ble_eq_true rfl⟩ ⟨Nat.le_refl _, Nat.le_refl _⟩ (Nat.le_of_ble_eq_true rfl) rfl dX10_write_62 ?_
            refine x_aload_n F dX10_write_65 rfl 1 rfl ?_
            obtain ⟨x66, c66, h⟩ := bdS h
            refine x_getR F (ci := 10) (C := RX10) (T := TX10) (N := 19) rfl ⟨by decide, rfl⟩ inU10 3 (by decide) (fun _ _ _ => rfl) wl_622 c66 dX10_write_66 ?_
            refine x_iload_n F dX10_write_69 rfl 2 rfl ?_
            refine x_iload_n F dX10_write_70 rfl 3 rfl ?_
            refine x_iload_n F dX10_write_71 rfl 4 rfl ?_
            refine x_iload F dX10_write_72 5 rfl ?_
            obtain ⟨k74, h⟩ := gdS h
            obtain ⟨⟨u74, M74⟩, c74, h⟩ := bdS h
            dsimp only at h
            refine x_callV F (As := [.int v1, .int v2, .int v3, .int v4]) (rest := []) (res := none) (ci := 0) (q := (RX0, TX0, 12)) rfl (by decide) k74 (k_X0_putSign l b D cy N x66 v1 v2 v3 v4 M62 _ _ c74) wl_751 wl_251 wl_252 wl_52 wl_32 hd_X0_putSign ⟨Nat.le_of_ble_eq_true rfl, Nat.le_of_ble_eq_true rfl⟩ ⟨Nat.le_refl _, Nat.le_refl _⟩ (Nat.le_of_ble_eq_true rfl) rfl dX10_write_74 ?_
            refine x_iload F dX10_write_77 0 rfl ?_
            obtain ⟨rfl, rfl⟩ := retS h
            exact x_iret F hr hl dX10_write_79
        · rw [if_neg c32] at h
          refine x_iconst F (v := (-1)) dX10_write_35 (by decide) ?_
          obtain ⟨rfl, rfl⟩ := retS h
          exact x_iret F hr hl dX10_write_36
theorem dX10_tread_0 : decode cX10_tread 0 = .ok (.aload_n 0, 1) := by decide +kernel
theorem dX10_tread_1 : decode cX10_tread 1 = .ok (.getfield 19, 3) := by decide +kernel
theorem dX10_tread_4 : decode cX10_tread 4 = .ok (.iload_n 1, 1) := by decide +kernel
theorem dX10_tread_5 : decode cX10_tread 5 = .ok (.iload_n 2, 1) := by decide +kernel
theorem dX10_tread_6 : decode cX10_tread 6 = .ok (.invokevirtual 171, 3) := by decide +kernel
theorem dX10_tread_9 : decode cX10_tread 9 = .ok (.ifCond .ne 5, 3) := by decide +kernel
theorem dX10_tread_12 : decode cX10_tread 12 = .ok (.iconst (-1), 1) := by decide +kernel
theorem dX10_tread_13 : decode cX10_tread 13 = .ok (.ireturn, 1) := by decide +kernel
theorem dX10_tread_14 : decode cX10_tread 14 = .ok (.aload_n 0, 1) := by decide +kernel
theorem dX10_tread_15 : decode cX10_tread 15 = .ok (.getfield 31, 3) := by decide +kernel
theorem dX10_tread_18 : decode cX10_tread 18 = .ok (.iload_n 1, 1) := by decide +kernel
theorem dX10_tread_19 : decode cX10_tread 19 = .ok (.iload_n 2, 1) := by decide +kernel
theorem dX10_tread_20 : decode cX10_tread 20 = .ok (.invokevirtual 268, 3) := by decide +kernel
theorem dX10_tread_23 : decode cX10_tread 23 = .ok (.istore_n 3, 1) := by decide +kernel
theorem dX10_tread_24 : decode cX10_tread 24 = .ok (.iload_n 3, 1) := by decide +kernel
theorem dX10_tread_25 : decode cX10_tread 25 = .ok (.ifCond .ne 23, 3) := by decide +kernel
theorem dX10_tread_28 : decode cX10_tread 28 = .ok (.aload_n 0, 1) := by decide +kernel
theorem dX10_tread_29 : decode cX10_tread 29 = .ok (.getfield 41, 3) := by decide +kernel
theorem dX10_tread_32 : decode cX10_tread 32 = .ok (.aload_n 0, 1) := by decide +kernel
theorem dX10_tread_33 : decode cX10_tread 33 = .ok (.getfield 31, 3) := by decide +kernel
theorem dX10_tread_36 : decode cX10_tread 36 = .ok (.invokevirtual 260, 3) := by decide +kernel
theorem dX10_tread_39 : decode cX10_tread 39 = .ok (.aload_n 0, 1) := by decide +kernel
theorem dX10_tread_40 : decode cX10_tread 40 = .ok (.getfield 31, 3) := by decide +kernel
theorem dX10_tread_43 : decode cX10_tread 43 = .ok (.iload_n 1, 1) := by decide +kernel
theorem dX10_tread_44 : decode cX10_tread 44 = .ok (.iload_n 2, 1) := by decide +kernel
theorem dX10_tread_45 : decode cX10_tread 45 = .ok (.invokevirtual 271, 3) := by decide +kernel
theorem dX10_tread_48 : decode cX10_tread 48 = .ok (.iload_n 3, 1) := by decide +kernel
theorem dX10_tread_49 : decode cX10_tread 49 = .ok (.ireturn, 1) := by decide +kernel
def fX10_tread (N : Nat) (v0 : Nat) (v1 : Int32) (v2 : Int32) (M : Mem) : Option (Int32 × Mem) := ((fR M 10 v0 1).bind fun x1 => (if mK M x1 = 9 then ((fX8_hasPlace N x1 v1 v2 M).bind fun (x6, M6) => (if x6 = 0 then some ((-1), M6) else ((fR M6 10 v0 3).bind fun x15 => (if mK M6 x15 = 1 then ((fX0_whyNotTread N x15 v1 v2 M6).bind fun (x20, M20) => (if x20 = 0 then ((fR M20 10 v0 5).bind fun x29 => ((fR M20 10 v0 3).bind fun x33 => (if mK M20 x29 = 6 then ((fX5_keepCopy N x29 x33 M20).bind fun (u36, M36) => ((fR M36 10 v0 3).bind fun x40 => (if mK M36 x40 = 1 then ((fX0_removeSign N x40 v1 v2 M36).bind fun (u45, M45) => some (x20, M45)) else none))) else none))) else some (x20, M20))) else none)))) else none))
set_option maxHeartbeats 4000000 in
set_option maxRecDepth 100000 in
theorem k_X10_tread (l : Launch) (b : Nat) (D : va_G) (cy : Nat → ClassId) (N : Nat) (v0 : Nat) (v1 : Int32) (v2 : Int32) (M : Mem) (r : Int32) (Mf : Mem) (h : fX10_tread N v0 v1 v2 M = some (r, Mf)) : Ct l yX10_tread cX10_tread 4 (some .int) 3 0 0 b D cy [.ref (b + v0), .int v1, .int v2] M (some (.int r)) Mf := by
  refine Ct_of (own := RX10) (by decide) rfl (Nat.le_of_ble_eq_true rfl) ?_
  intro p e s m args below meth c F hr hl hmn
  unfold fX10_tread at h
  show X p l e ({ frames := 3, cells := 0, slots := 0, locals := 100 * 3 }) s m args below meth c (MQ below (Qm b D cy (some (.int r)) Mf) args s 0 0 (fun q => b ≤ q)) 4 b D cy 0 0 M 0 [(0, .ref (b + v0)), (1, .int v1), (2, .int v2)] []
  refine x_aload_n F dX10_tread_0 rfl 0 rfl ?_
  obtain ⟨x1, c1, h⟩ := bdS h
  refine x_getR F (ci := 10) (C := RX10) (T := TX10) (N := 19) rfl ⟨by decide, rfl⟩ inU10 1 (by decide) (fun _ _ _ => rfl) wl_619 c1 dX10_tread_1 ?_
  refine x_iload_n F dX10_tread_4 rfl 1 rfl ?_
  refine x_iload_n F dX10_tread_5 rfl 2 rfl ?_
  obtain ⟨k6, h⟩ := gdS h
  obtain ⟨⟨x6, M6⟩, c6, h⟩ := bdS h
  dsimp only at h
  refine x_callV F (As := [.int v1, .int v2]) (rest := []) (res := (some (.int x6))) (ci := 8) (q := (RX8, TX8, 17)) rfl (by decide) k6 (k_X8_hasPlace l b D cy N x1 v1 v2 M _ _ c6) wl_708 wl_245 wl_246 wl_75 wl_239 hd_X8_hasPlace ⟨Nat.le_of_ble_eq_true rfl, Nat.le_of_ble_eq_true rfl⟩ ⟨Nat.le_refl _, Nat.le_refl _⟩ (Nat.le_of_ble_eq_true rfl) rfl dX10_tread_6 ?_
  refine x_if_ne F (tgt := 14) dX10_tread_9 (by decide) (fun c9 => ?_) (fun c9 => ?_)
  · rw [if_neg c9] at h
    refine x_aload_n F dX10_tread_14 rfl 0 rfl ?_
    obtain ⟨x15, c15, h⟩ := bdS h
    refine x_getR F (ci := 10) (C := RX10) (T := TX10) (N := 19) rfl ⟨by decide, rfl⟩ inU10 3 (by decide) (fun _ _ _ => rfl) wl_622 c15 dX10_tread_15 ?_
    refine x_iload_n F dX10_tread_18 rfl 1 rfl ?_
    refine x_iload_n F dX10_tread_19 rfl 2 rfl ?_
    obtain ⟨k20, h⟩ := gdS h
    obtain ⟨⟨x20, M20⟩, c20, h⟩ := bdS h
    dsimp only at h
    refine x_callV F (As := [.int v1, .int v2]) (rest := []) (res := (some (.int x20))) (ci := 0) (q := (RX0, TX0, 12)) rfl (by decide) k20 (k_X0_whyNotTread l b D cy N x15 v1 v2 M6 _ _ c20) wl_753 wl_255 wl_256 wl_52 wl_33 hd_X0_whyNotTread ⟨Nat.le_of_ble_eq_true rfl, Nat.le_of_ble_eq_true rfl⟩ ⟨Nat.le_refl _, Nat.le_refl _⟩ (Nat.le_of_ble_eq_true rfl) rfl dX10_tread_20 ?_
    refine x_istore_n F (lv' := [(3, .int x20), (0, .ref (b + v0)), (1, .int v1), (2, .int v2)]) dX10_tread_23 rfl (by decide) rfl ?_
    refine x_iload_n F dX10_tread_24 rfl 0 rfl ?_
    refine x_if_ne F (tgt := 48) dX10_tread_25 (by decide) (fun c25 => ?_) (fun c25 => ?_)
    · rw [if_neg c25] at h
      refine x_iload_n F dX10_tread_48 rfl 0 rfl ?_
      obtain ⟨rfl, rfl⟩ := retS h
      exact x_iret F hr hl dX10_tread_49
    · rw [if_pos c25] at h
      refine x_aload_n F dX10_tread_28 rfl 1 rfl ?_
      obtain ⟨x29, c29, h⟩ := bdS h
      refine x_getR F (ci := 10) (C := RX10) (T := TX10) (N := 19) rfl ⟨by decide, rfl⟩ inU10 5 (by decide) (fun _ _ _ => rfl) wl_627 c29 dX10_tread_29 ?_
      refine x_aload_n F dX10_tread_32 rfl 1 rfl ?_
      obtain ⟨x33, c33, h⟩ := bdS h
      refine x_getR F (ci := 10) (C := RX10) (T := TX10) (N := 19) rfl ⟨by decide, rfl⟩ inU10 3 (by decide) (fun _ _ _ => rfl) wl_622 c33 dX10_tread_33 ?_
      obtain ⟨k36, h⟩ := gdS h
      obtain ⟨⟨u36, M36⟩, c36, h⟩ := bdS h
      dsimp only at h
      refine x_callV F (As := [.ref (b + x33)]) (rest := []) (res := none) (ci := 5) (q := (RX5, TX5, 3)) rfl (by decide) k36 (k_X5_keepCopy l b D cy N x29 x33 M20 _ _ c36) wl_748 wl_749 wl_750 wl_626 wl_380 hd_X5_keepCopy ⟨Nat.le_of_ble_eq_true rfl, Nat.le_of_ble_eq_true rfl⟩ ⟨Nat.le_refl _, Nat.le_refl _⟩ (Nat.le_of_ble_eq_true rfl) rfl dX10_tread_36 ?_
      refine x_aload_n F dX10_tread_39 rfl 1 rfl ?_
      obtain ⟨x40, c40, h⟩ := bdS h
      refine x_getR F (ci := 10) (C := RX10) (T := TX10) (N := 19) rfl ⟨by decide, rfl⟩ inU10 3 (by decide) (fun _ _ _ => rfl) wl_622 c40 dX10_tread_40 ?_
      refine x_iload_n F dX10_tread_43 rfl 2 rfl ?_
      refine x_iload_n F dX10_tread_44 rfl 3 rfl ?_
      obtain ⟨k45, h⟩ := gdS h
      obtain ⟨⟨u45, M45⟩, c45, h⟩ := bdS h
      dsimp only at h
      refine x_callV F (As := [.int v1, .int v2]) (rest := []) (res := none) (ci := 0) (q := (RX0, TX0, 12)) rfl (by decide) k45 (k_X0_removeSign l b D cy N x40 v1 v2 M36 _ _ c45) wl_754 wl_258 wl_259 wl_52 wl_34 hd_X0_removeSign ⟨Nat.le_of_ble_eq_true rfl, Nat.le_of_ble_eq_true rfl⟩ ⟨Nat.le_refl _, Nat.le_refl _⟩ (Nat.le_of_ble_eq_true rfl) rfl dX10_tread_45 ?_
      refine x_iload_n F dX10_tread_48 rfl 0 rfl ?_
      obtain ⟨rfl, rfl⟩ := retS h
      exact x_iret F hr hl dX10_tread_49
  · rw [if_pos c9] at h
    refine x_iconst F (v := (-1)) dX10_tread_12 (by decide) ?_
    obtain ⟨rfl, rfl⟩ := retS h
    exact x_iret F hr hl dX10_tread_13
theorem dX10_hours_0 : decode cX10_hours 0 = .ok (.iload_n 1, 1) := by decide +kernel
theorem dX10_hours_1 : decode cX10_hours 1 = .ok (.iconst 1, 1) := by decide +kernel
theorem dX10_hours_2 : decode cX10_hours 2 = .ok (.if_icmp .lt 9, 3) := by decide +kernel
theorem dX10_hours_5 : decode cX10_hours 5 = .ok (.iload_n 1, 1) := by decide +kernel
theorem dX10_hours_6 : decode cX10_hours 6 = .ok (.bipush 60, 2) := by decide +kernel
theorem dX10_hours_8 : decode cX10_hours 8 = .ok (.if_icmp .le 5, 3) := by decide +kernel
theorem dX10_hours_11 : decode cX10_hours 11 = .ok (.iconst (-1), 1) := by decide +kernel
theorem dX10_hours_12 : decode cX10_hours 12 = .ok (.ireturn, 1) := by decide +kernel
theorem dX10_hours_13 : decode cX10_hours 13 = .ok (.iload_n 1, 1) := by decide +kernel
theorem dX10_hours_14 : decode cX10_hours 14 = .ok (.aload_n 0, 1) := by decide +kernel
theorem dX10_hours_15 : decode cX10_hours 15 = .ok (.getfield 31, 3) := by decide +kernel
theorem dX10_hours_18 : decode cX10_hours 18 = .ok (.invokevirtual 275, 3) := by decide +kernel
theorem dX10_hours_21 : decode cX10_hours 21 = .ok (.invokestatic 278, 3) := by decide +kernel
theorem dX10_hours_24 : decode cX10_hours 24 = .ok (.istore_n 2, 1) := by decide +kernel
theorem dX10_hours_25 : decode cX10_hours 25 = .ok (.iload_n 2, 1) := by decide +kernel
theorem dX10_hours_26 : decode cX10_hours 26 = .ok (.ifCond .le 22, 3) := by decide +kernel
theorem dX10_hours_29 : decode cX10_hours 29 = .ok (.aload_n 0, 1) := by decide +kernel
theorem dX10_hours_30 : decode cX10_hours 30 = .ok (.getfield 41, 3) := by decide +kernel
theorem dX10_hours_33 : decode cX10_hours 33 = .ok (.aload_n 0, 1) := by decide +kernel
theorem dX10_hours_34 : decode cX10_hours 34 = .ok (.getfield 31, 3) := by decide +kernel
theorem dX10_hours_37 : decode cX10_hours 37 = .ok (.invokevirtual 260, 3) := by decide +kernel
theorem dX10_hours_40 : decode cX10_hours 40 = .ok (.aload_n 0, 1) := by decide +kernel
theorem dX10_hours_41 : decode cX10_hours 41 = .ok (.getfield 31, 3) := by decide +kernel
theorem dX10_hours_44 : decode cX10_hours 44 = .ok (.iload_n 2, 1) := by decide +kernel
theorem dX10_hours_45 : decode cX10_hours 45 = .ok (.invokevirtual 283, 3) := by decide +kernel
theorem dX10_hours_48 : decode cX10_hours 48 = .ok (.iload_n 2, 1) := by decide +kernel
theorem dX10_hours_49 : decode cX10_hours 49 = .ok (.ireturn, 1) := by decide +kernel
def fX10_hours (N : Nat) (v0 : Nat) (v1 : Int32) (M : Mem) : Option (Int32 × Mem) := (if v1 < 1 then some ((-1), M) else (if v1 ≤ 60 then ((fR M 10 v0 3).bind fun x15 => (if mK M x15 = 1 then ((fX0_hoursLeft N x15 M).bind fun (x18, M18) => (if (if x18 < v1 then x18 else v1) ≤ 0 then some (if x18 < v1 then x18 else v1, M18) else ((fR M18 10 v0 5).bind fun x30 => ((fR M18 10 v0 3).bind fun x34 => (if mK M18 x30 = 6 then ((fX5_keepCopy N x30 x34 M18).bind fun (u37, M37) => ((fR M37 10 v0 3).bind fun x41 => (if mK M37 x41 = 1 then ((fX0_passHours N x41 (if x18 < v1 then x18 else v1) M37).bind fun (u45, M45) => some (if x18 < v1 then x18 else v1, M45)) else none))) else none))))) else none)) else some ((-1), M)))
set_option maxHeartbeats 4000000 in
set_option maxRecDepth 100000 in
theorem k_X10_hours (l : Launch) (b : Nat) (D : va_G) (cy : Nat → ClassId) (N : Nat) (v0 : Nat) (v1 : Int32) (M : Mem) (r : Int32) (Mf : Mem) (h : fX10_hours N v0 v1 M = some (r, Mf)) : Ct l yX10_hours cX10_hours 3 (some .int) 6 0 0 b D cy [.ref (b + v0), .int v1] M (some (.int r)) Mf := by
  refine Ct_of (own := RX10) (by decide) rfl (Nat.le_of_ble_eq_true rfl) ?_
  intro p e s m args below meth c F hr hl hmn
  unfold fX10_hours at h
  show X p l e ({ frames := 6, cells := 0, slots := 0, locals := 100 * 6 }) s m args below meth c (MQ below (Qm b D cy (some (.int r)) Mf) args s 0 0 (fun q => b ≤ q)) 3 b D cy 0 0 M 0 [(0, .ref (b + v0)), (1, .int v1)] []
  refine x_iload_n F dX10_hours_0 rfl 1 rfl ?_
  refine x_iconst F (v := 1) dX10_hours_1 (by decide) ?_
  refine x_icmp_lt F (tgt := 11) dX10_hours_2 (by decide) (fun c2 => ?_) (fun c2 => ?_)
  · rw [if_pos c2] at h
    refine x_iconst F (v := (-1)) dX10_hours_11 (by decide) ?_
    obtain ⟨rfl, rfl⟩ := retS h
    exact x_iret F hr hl dX10_hours_12
  · rw [if_neg c2] at h
    refine x_iload_n F dX10_hours_5 rfl 1 rfl ?_
    refine x_bipush F (v := 60) dX10_hours_6 (by decide) ?_
    refine x_icmp_le F (tgt := 13) dX10_hours_8 (by decide) (fun c8 => ?_) (fun c8 => ?_)
    · rw [if_pos c8] at h
      refine x_iload_n F dX10_hours_13 rfl 1 rfl ?_
      refine x_aload_n F dX10_hours_14 rfl 0 rfl ?_
      obtain ⟨x15, c15, h⟩ := bdS h
      refine x_getR F (ci := 10) (C := RX10) (T := TX10) (N := 19) rfl ⟨by decide, rfl⟩ inU10 3 (by decide) (fun _ _ _ => rfl) wl_622 c15 dX10_hours_15 ?_
      obtain ⟨k18, h⟩ := gdS h
      obtain ⟨⟨x18, M18⟩, c18, h⟩ := bdS h
      dsimp only at h
      refine x_callV F (As := []) (rest := [.int v1]) (res := (some (.int x18))) (ci := 0) (q := (RX0, TX0, 12)) rfl (by decide) k18 (k_X0_hoursLeft l b D cy N x15 M _ _ c18) wl_757 wl_96 wl_97 wl_52 wl_35 hd_X0_hoursLeft ⟨Nat.le_of_ble_eq_true rfl, Nat.le_of_ble_eq_true rfl⟩ ⟨Nat.le_refl _, Nat.le_refl _⟩ (Nat.le_of_ble_eq_true rfl) rfl dX10_hours_18 ?_
      refine x_min F wl_756 wl_335 wl_120 wl_336 (Nat.le_of_ble_eq_true rfl) (Nat.le_of_ble_eq_true rfl) ⟨Nat.le_refl _, Nat.le_refl _⟩ dX10_hours_21 ?_
      refine x_istore_n F (lv' := [(2, .int (if x18 < v1 then x18 else v1)), (0, .ref (b + v0)), (1, .int v1)]) dX10_hours_24 rfl (by decide) rfl ?_
      refine x_iload_n F dX10_hours_25 rfl 0 rfl ?_
      refine x_if_le F (tgt := 48) dX10_hours_26 (by decide) (fun c26 => ?_) (fun c26 => ?_)
      · rw [if_pos c26] at h
        refine x_iload_n F dX10_hours_48 rfl 0 rfl ?_
        obtain ⟨rfl, rfl⟩ := retS h
        exact x_iret F hr hl dX10_hours_49
      · rw [if_neg c26] at h
        refine x_aload_n F dX10_hours_29 rfl 1 rfl ?_
        obtain ⟨x30, c30, h⟩ := bdS h
        refine x_getR F (ci := 10) (C := RX10) (T := TX10) (N := 19) rfl ⟨by decide, rfl⟩ inU10 5 (by decide) (fun _ _ _ => rfl) wl_627 c30 dX10_hours_30 ?_
        refine x_aload_n F dX10_hours_33 rfl 1 rfl ?_
        obtain ⟨x34, c34, h⟩ := bdS h
        refine x_getR F (ci := 10) (C := RX10) (T := TX10) (N := 19) rfl ⟨by decide, rfl⟩ inU10 3 (by decide) (fun _ _ _ => rfl) wl_622 c34 dX10_hours_34 ?_
        obtain ⟨k37, h⟩ := gdS h
        obtain ⟨⟨u37, M37⟩, c37, h⟩ := bdS h
        dsimp only at h
        refine x_callV F (As := [.ref (b + x34)]) (rest := []) (res := none) (ci := 5) (q := (RX5, TX5, 3)) rfl (by decide) k37 (k_X5_keepCopy l b D cy N x30 x34 M18 _ _ c37) wl_748 wl_749 wl_750 wl_626 wl_380 hd_X5_keepCopy ⟨Nat.le_of_ble_eq_true rfl, Nat.le_of_ble_eq_true rfl⟩ ⟨Nat.le_refl _, Nat.le_refl _⟩ (Nat.le_of_ble_eq_true rfl) rfl dX10_hours_37 ?_
        refine x_aload_n F dX10_hours_40 rfl 1 rfl ?_
        obtain ⟨x41, c41, h⟩ := bdS h
        refine x_getR F (ci := 10) (C := RX10) (T := TX10) (N := 19) rfl ⟨by decide, rfl⟩ inU10 3 (by decide) (fun _ _ _ => rfl) wl_622 c41 dX10_hours_41 ?_
        refine x_iload_n F dX10_hours_44 rfl 0 rfl ?_
        obtain ⟨k45, h⟩ := gdS h
        obtain ⟨⟨u45, M45⟩, c45, h⟩ := bdS h
        dsimp only at h
        refine x_callV F (As := [.int (if x18 < v1 then x18 else v1)]) (rest := []) (res := none) (ci := 0) (q := (RX0, TX0, 12)) rfl (by decide) k45 (k_X0_passHours l b D cy N x41 (if x18 < v1 then x18 else v1) M37 _ _ c45) wl_758 wl_269 wl_270 wl_52 wl_85 hd_X0_passHours ⟨Nat.le_of_ble_eq_true rfl, Nat.le_of_ble_eq_true rfl⟩ ⟨Nat.le_refl _, Nat.le_refl _⟩ (Nat.le_of_ble_eq_true rfl) rfl dX10_hours_45 ?_
        refine x_iload_n F dX10_hours_48 rfl 0 rfl ?_
        obtain ⟨rfl, rfl⟩ := retS h
        exact x_iret F hr hl dX10_hours_49
    · rw [if_neg c8] at h
      refine x_iconst F (v := (-1)) dX10_hours_11 (by decide) ?_
      obtain ⟨rfl, rfl⟩ := retS h
      exact x_iret F hr hl dX10_hours_12
theorem hd_X5_bringBack : (yX5_bringBack).cls = RX5 ∧ (yX5_bringBack).cls ≠ "java/lang/invoke/MethodHandle" ∧ (yX5_bringBack).cls ≠ "java/lang/invoke/VarHandle" ∧ (parseMethodDescriptor (yX5_bringBack).desc).map (fun d => d.parameters.length) = some 1 := by decide +kernel
theorem dX10_undo_0 : decode cX10_undo 0 = .ok (.aload_n 0, 1) := by decide +kernel
theorem dX10_undo_1 : decode cX10_undo 1 = .ok (.getfield 41, 3) := by decide +kernel
theorem dX10_undo_4 : decode cX10_undo 4 = .ok (.aload_n 0, 1) := by decide +kernel
theorem dX10_undo_5 : decode cX10_undo 5 = .ok (.getfield 31, 3) := by decide +kernel
theorem dX10_undo_8 : decode cX10_undo 8 = .ok (.invokevirtual 286, 3) := by decide +kernel
theorem dX10_undo_11 : decode cX10_undo 11 = .ok (.ifCond .eq 13, 3) := by decide +kernel
theorem dX10_undo_14 : decode cX10_undo 14 = .ok (.aload_n 0, 1) := by decide +kernel
theorem dX10_undo_15 : decode cX10_undo 15 = .ok (.getfield 41, 3) := by decide +kernel
theorem dX10_undo_18 : decode cX10_undo 18 = .ok (.getfield 290, 3) := by decide +kernel
theorem dX10_undo_21 : decode cX10_undo 21 = .ok (.goto 4, 3) := by decide +kernel
theorem dX10_undo_24 : decode cX10_undo 24 = .ok (.iconst (-1), 1) := by decide +kernel
theorem dX10_undo_25 : decode cX10_undo 25 = .ok (.ireturn, 1) := by decide +kernel
def fX10_undo (N : Nat) (v0 : Nat) (M : Mem) : Option (Int32 × Mem) := ((fR M 10 v0 5).bind fun x1 => ((fR M 10 v0 3).bind fun x5 => (if mK M x1 = 6 then ((fX5_bringBack N x1 x5 M).bind fun (x8, M8) => (if x8 = 0 then some ((-1), M8) else ((fR M8 10 v0 5).bind fun x15 => ((fI M8 5 x15 2).bind fun x18 => some (x18, M8))))) else none)))
set_option maxHeartbeats 4000000 in
set_option maxRecDepth 100000 in
theorem k_X10_undo (l : Launch) (b : Nat) (D : va_G) (cy : Nat → ClassId) (N : Nat) (v0 : Nat) (M : Mem) (r : Int32) (Mf : Mem) (h : fX10_undo N v0 M = some (r, Mf)) : Ct l yX10_undo cX10_undo 1 (some .int) 3 0 0 b D cy [.ref (b + v0)] M (some (.int r)) Mf := by
  refine Ct_of (own := RX10) (by decide) rfl (Nat.le_of_ble_eq_true rfl) ?_
  intro p e s m args below meth c F hr hl hmn
  unfold fX10_undo at h
  show X p l e ({ frames := 3, cells := 0, slots := 0, locals := 100 * 3 }) s m args below meth c (MQ below (Qm b D cy (some (.int r)) Mf) args s 0 0 (fun q => b ≤ q)) 1 b D cy 0 0 M 0 [(0, .ref (b + v0))] []
  refine x_aload_n F dX10_undo_0 rfl 0 rfl ?_
  obtain ⟨x1, c1, h⟩ := bdS h
  refine x_getR F (ci := 10) (C := RX10) (T := TX10) (N := 19) rfl ⟨by decide, rfl⟩ inU10 5 (by decide) (fun _ _ _ => rfl) wl_627 c1 dX10_undo_1 ?_
  refine x_aload_n F dX10_undo_4 rfl 0 rfl ?_
  obtain ⟨x5, c5, h⟩ := bdS h
  refine x_getR F (ci := 10) (C := RX10) (T := TX10) (N := 19) rfl ⟨by decide, rfl⟩ inU10 3 (by decide) (fun _ _ _ => rfl) wl_622 c5 dX10_undo_5 ?_
  obtain ⟨k8, h⟩ := gdS h
  obtain ⟨⟨x8, M8⟩, c8, h⟩ := bdS h
  dsimp only at h
  refine x_callV F (As := [.ref (b + x5)]) (rest := []) (res := (some (.int x8))) (ci := 5) (q := (RX5, TX5, 3)) rfl (by decide) k8 (k_X5_bringBack l b D cy N x1 x5 M _ _ c8) wl_761 wl_762 wl_763 wl_626 wl_384 hd_X5_bringBack ⟨Nat.le_of_ble_eq_true rfl, Nat.le_of_ble_eq_true rfl⟩ ⟨Nat.le_refl _, Nat.le_refl _⟩ (Nat.le_of_ble_eq_true rfl) rfl dX10_undo_8 ?_
  refine x_if_eq F (tgt := 24) dX10_undo_11 (by decide) (fun c11 => ?_) (fun c11 => ?_)
  · rw [if_pos c11] at h
    refine x_iconst F (v := (-1)) dX10_undo_24 (by decide) ?_
    obtain ⟨rfl, rfl⟩ := retS h
    exact x_iret F hr hl dX10_undo_25
  · rw [if_neg c11] at h
    refine x_aload_n F dX10_undo_14 rfl 0 rfl ?_
    obtain ⟨x15, c15, h⟩ := bdS h
    refine x_getR F (ci := 10) (C := RX10) (T := TX10) (N := 19) rfl ⟨by decide, rfl⟩ inU10 5 (by decide) (fun _ _ _ => rfl) wl_627 c15 dX10_undo_15 ?_
    obtain ⟨x18, c18, h⟩ := bdS h
    refine x_getI F (ci := 5) (C := RX5) (T := TX5) (N := 3) rfl ⟨by decide, rfl⟩ inU5 2 (by decide) (fun _ _ _ => rfl) wl_760 c18 dX10_undo_18 ?_
    refine x_goto F (tgt := 25) dX10_undo_21 (by decide) ?_
    obtain ⟨rfl, rfl⟩ := retS h
    exact x_iret F hr hl dX10_undo_25
theorem hd_X2_start : (yX2_start).cls = RX2 ∧ (yX2_start).cls ≠ "java/lang/invoke/MethodHandle" ∧ (yX2_start).cls ≠ "java/lang/invoke/VarHandle" ∧ (parseMethodDescriptor (yX2_start).desc).map (fun d => d.parameters.length) = some 1 := by decide +kernel
theorem hd_X2_passHourIn : (yX2_passHourIn).cls = RX2 ∧ (yX2_passHourIn).cls ≠ "java/lang/invoke/MethodHandle" ∧ (yX2_passHourIn).cls ≠ "java/lang/invoke/VarHandle" ∧ (parseMethodDescriptor (yX2_passHourIn).desc).map (fun d => d.parameters.length) = some 1 := by decide +kernel
theorem dX10_drawn_0 : decode cX10_drawn 0 = .ok (.iload_n 1, 1) := by decide +kernel
theorem dX10_drawn_1 : decode cX10_drawn 1 = .ok (.iconst 1, 1) := by decide +kernel
theorem dX10_drawn_2 : decode cX10_drawn 2 = .ok (.if_icmp .lt 9, 3) := by decide +kernel
theorem dX10_drawn_5 : decode cX10_drawn 5 = .ok (.iload_n 1, 1) := by decide +kernel
theorem dX10_drawn_6 : decode cX10_drawn 6 = .ok (.bipush 60, 2) := by decide +kernel
theorem dX10_drawn_8 : decode cX10_drawn 8 = .ok (.if_icmp .le 5, 3) := by decide +kernel
theorem dX10_drawn_11 : decode cX10_drawn 11 = .ok (.iconst (-1), 1) := by decide +kernel
theorem dX10_drawn_12 : decode cX10_drawn 12 = .ok (.ireturn, 1) := by decide +kernel
theorem dX10_drawn_13 : decode cX10_drawn 13 = .ok (.iload_n 1, 1) := by decide +kernel
theorem dX10_drawn_14 : decode cX10_drawn 14 = .ok (.aload_n 0, 1) := by decide +kernel
theorem dX10_drawn_15 : decode cX10_drawn 15 = .ok (.getfield 31, 3) := by decide +kernel
theorem dX10_drawn_18 : decode cX10_drawn 18 = .ok (.invokevirtual 275, 3) := by decide +kernel
theorem dX10_drawn_21 : decode cX10_drawn 21 = .ok (.invokestatic 278, 3) := by decide +kernel
theorem dX10_drawn_24 : decode cX10_drawn 24 = .ok (.istore_n 3, 1) := by decide +kernel
theorem dX10_drawn_25 : decode cX10_drawn 25 = .ok (.iload_n 3, 1) := by decide +kernel
theorem dX10_drawn_26 : decode cX10_drawn 26 = .ok (.ifCond .le 48, 3) := by decide +kernel
theorem dX10_drawn_29 : decode cX10_drawn 29 = .ok (.aload_n 0, 1) := by decide +kernel
theorem dX10_drawn_30 : decode cX10_drawn 30 = .ok (.getfield 41, 3) := by decide +kernel
theorem dX10_drawn_33 : decode cX10_drawn 33 = .ok (.aload_n 0, 1) := by decide +kernel
theorem dX10_drawn_34 : decode cX10_drawn 34 = .ok (.getfield 31, 3) := by decide +kernel
theorem dX10_drawn_37 : decode cX10_drawn 37 = .ok (.invokevirtual 260, 3) := by decide +kernel
theorem dX10_drawn_40 : decode cX10_drawn 40 = .ok (.aload_n 0, 1) := by decide +kernel
theorem dX10_drawn_41 : decode cX10_drawn 41 = .ok (.getfield 86, 3) := by decide +kernel
theorem dX10_drawn_44 : decode cX10_drawn 44 = .ok (.iload_n 2, 1) := by decide +kernel
theorem dX10_drawn_45 : decode cX10_drawn 45 = .ok (.invokevirtual 293, 3) := by decide +kernel
theorem dX10_drawn_48 : decode cX10_drawn 48 = .ok (.iconst 0, 1) := by decide +kernel
theorem dX10_drawn_49 : decode cX10_drawn 49 = .ok (.istore 4, 2) := by decide +kernel
theorem dX10_drawn_51 : decode cX10_drawn 51 = .ok (.iload 4, 2) := by decide +kernel
theorem dX10_drawn_53 : decode cX10_drawn 53 = .ok (.iload_n 3, 1) := by decide +kernel
theorem dX10_drawn_54 : decode cX10_drawn 54 = .ok (.if_icmp .ge 20, 3) := by decide +kernel
theorem dX10_drawn_57 : decode cX10_drawn 57 = .ok (.aload_n 0, 1) := by decide +kernel
theorem dX10_drawn_58 : decode cX10_drawn 58 = .ok (.getfield 86, 3) := by decide +kernel
theorem dX10_drawn_61 : decode cX10_drawn 61 = .ok (.aload_n 0, 1) := by decide +kernel
theorem dX10_drawn_62 : decode cX10_drawn 62 = .ok (.getfield 31, 3) := by decide +kernel
theorem dX10_drawn_65 : decode cX10_drawn 65 = .ok (.invokevirtual 296, 3) := by decide +kernel
theorem dX10_drawn_68 : decode cX10_drawn 68 = .ok (.iinc 4 1, 3) := by decide +kernel
theorem dX10_drawn_71 : decode cX10_drawn 71 = .ok (.goto (-20), 3) := by decide +kernel
theorem dX10_drawn_74 : decode cX10_drawn 74 = .ok (.iload_n 3, 1) := by decide +kernel
theorem dX10_drawn_75 : decode cX10_drawn 75 = .ok (.ireturn, 1) := by decide +kernel
def fX10_drawn_L51 (N : Nat) (v0 : Nat) (v3 : Int32) : Nat → Int32 → Mem → Option (Int32 × Mem)
  | 0, _, _ => none
  | n + 1, v4, M => (if v3 ≤ v4 then some (v3, M) else ((fR M 10 v0 12).bind fun x58 => ((fR M 10 v0 3).bind fun x62 => (if mK M x58 = 3 then ((fX2_passHourIn N x58 x62 M).bind fun (u65, M65) => fX10_drawn_L51 N v0 v3 n (v4 + 1) M65) else none))))
def fX10_drawn (N : Nat) (v0 : Nat) (v1 : Int32) (v2 : Int32) (M : Mem) : Option (Int32 × Mem) := (if v1 < 1 then some ((-1), M) else (if v1 ≤ 60 then ((fR M 10 v0 3).bind fun x15 => (if mK M x15 = 1 then ((fX0_hoursLeft N x15 M).bind fun (x18, M18) => (if (if x18 < v1 then x18 else v1) ≤ 0 then some (if x18 < v1 then x18 else v1, M18) else ((fR M18 10 v0 5).bind fun x30 => ((fR M18 10 v0 3).bind fun x34 => (if mK M18 x30 = 6 then ((fX5_keepCopy N x30 x34 M18).bind fun (u37, M37) => ((fR M37 10 v0 12).bind fun x41 => (if mK M37 x41 = 3 then ((fX2_start N x41 v2 M37).bind fun (u45, M45) => ((fX10_drawn_L51 N v0 (if x18 < v1 then x18 else v1) N 0 M45).bind fun o51 => some o51)) else none))) else none))))) else none)) else some ((-1), M)))
set_option maxHeartbeats 4000000 in
set_option maxRecDepth 100000 in
theorem k_X10_drawn (l : Launch) (b : Nat) (D : va_G) (cy : Nat → ClassId) (N : Nat) (v0 : Nat) (v1 : Int32) (v2 : Int32) (M : Mem) (r : Int32) (Mf : Mem) (h : fX10_drawn N v0 v1 v2 M = some (r, Mf)) : Ct l yX10_drawn cX10_drawn 5 (some .int) 7 0 0 b D cy [.ref (b + v0), .int v1, .int v2] M (some (.int r)) Mf := by
  refine Ct_of (own := RX10) (by decide) rfl (Nat.le_of_ble_eq_true rfl) ?_
  intro p e s m args below meth c F hr hl hmn
  unfold fX10_drawn at h
  show X p l e ({ frames := 7, cells := 0, slots := 0, locals := 100 * 7 }) s m args below meth c (MQ below (Qm b D cy (some (.int r)) Mf) args s 0 0 (fun q => b ≤ q)) 5 b D cy 0 0 M 0 [(0, .ref (b + v0)), (1, .int v1), (2, .int v2)] []
  refine x_iload_n F dX10_drawn_0 rfl 1 rfl ?_
  refine x_iconst F (v := 1) dX10_drawn_1 (by decide) ?_
  refine x_icmp_lt F (tgt := 11) dX10_drawn_2 (by decide) (fun c2 => ?_) (fun c2 => ?_)
  · rw [if_pos c2] at h
    refine x_iconst F (v := (-1)) dX10_drawn_11 (by decide) ?_
    obtain ⟨rfl, rfl⟩ := retS h
    exact x_iret F hr hl dX10_drawn_12
  · rw [if_neg c2] at h
    refine x_iload_n F dX10_drawn_5 rfl 1 rfl ?_
    refine x_bipush F (v := 60) dX10_drawn_6 (by decide) ?_
    refine x_icmp_le F (tgt := 13) dX10_drawn_8 (by decide) (fun c8 => ?_) (fun c8 => ?_)
    · rw [if_pos c8] at h
      refine x_iload_n F dX10_drawn_13 rfl 1 rfl ?_
      refine x_aload_n F dX10_drawn_14 rfl 0 rfl ?_
      obtain ⟨x15, c15, h⟩ := bdS h
      refine x_getR F (ci := 10) (C := RX10) (T := TX10) (N := 19) rfl ⟨by decide, rfl⟩ inU10 3 (by decide) (fun _ _ _ => rfl) wl_622 c15 dX10_drawn_15 ?_
      obtain ⟨k18, h⟩ := gdS h
      obtain ⟨⟨x18, M18⟩, c18, h⟩ := bdS h
      dsimp only at h
      refine x_callV F (As := []) (rest := [.int v1]) (res := (some (.int x18))) (ci := 0) (q := (RX0, TX0, 12)) rfl (by decide) k18 (k_X0_hoursLeft l b D cy N x15 M _ _ c18) wl_757 wl_96 wl_97 wl_52 wl_35 hd_X0_hoursLeft ⟨Nat.le_of_ble_eq_true rfl, Nat.le_of_ble_eq_true rfl⟩ ⟨Nat.le_refl _, Nat.le_refl _⟩ (Nat.le_of_ble_eq_true rfl) rfl dX10_drawn_18 ?_
      refine x_min F wl_756 wl_335 wl_120 wl_336 (Nat.le_of_ble_eq_true rfl) (Nat.le_of_ble_eq_true rfl) ⟨Nat.le_refl _, Nat.le_refl _⟩ dX10_drawn_21 ?_
      refine x_istore_n F (lv' := [(3, .int (if x18 < v1 then x18 else v1)), (0, .ref (b + v0)), (1, .int v1), (2, .int v2)]) dX10_drawn_24 rfl (by decide) rfl ?_
      refine x_iload_n F dX10_drawn_25 rfl 0 rfl ?_
      refine x_if_le F (tgt := 74) dX10_drawn_26 (by decide) (fun c26 => ?_) (fun c26 => ?_)
      · rw [if_pos c26] at h
        refine x_iload_n F dX10_drawn_74 rfl 0 rfl ?_
        obtain ⟨rfl, rfl⟩ := retS h
        exact x_iret F hr hl dX10_drawn_75
      · rw [if_neg c26] at h
        refine x_aload_n F dX10_drawn_29 rfl 1 rfl ?_
        obtain ⟨x30, c30, h⟩ := bdS h
        refine x_getR F (ci := 10) (C := RX10) (T := TX10) (N := 19) rfl ⟨by decide, rfl⟩ inU10 5 (by decide) (fun _ _ _ => rfl) wl_627 c30 dX10_drawn_30 ?_
        refine x_aload_n F dX10_drawn_33 rfl 1 rfl ?_
        obtain ⟨x34, c34, h⟩ := bdS h
        refine x_getR F (ci := 10) (C := RX10) (T := TX10) (N := 19) rfl ⟨by decide, rfl⟩ inU10 3 (by decide) (fun _ _ _ => rfl) wl_622 c34 dX10_drawn_34 ?_
        obtain ⟨k37, h⟩ := gdS h
        obtain ⟨⟨u37, M37⟩, c37, h⟩ := bdS h
        dsimp only at h
        refine x_callV F (As := [.ref (b + x34)]) (rest := []) (res := none) (ci := 5) (q := (RX5, TX5, 3)) rfl (by decide) k37 (k_X5_keepCopy l b D cy N x30 x34 M18 _ _ c37) wl_748 wl_749 wl_750 wl_626 wl_380 hd_X5_keepCopy ⟨Nat.le_of_ble_eq_true rfl, Nat.le_of_ble_eq_true rfl⟩ ⟨Nat.le_refl _, Nat.le_refl _⟩ (Nat.le_of_ble_eq_true rfl) rfl dX10_drawn_37 ?_
        refine x_aload_n F dX10_drawn_40 rfl 1 rfl ?_
        obtain ⟨x41, c41, h⟩ := bdS h
        refine x_getR F (ci := 10) (C := RX10) (T := TX10) (N := 19) rfl ⟨by decide, rfl⟩ inU10 12 (by decide) (fun _ _ _ => rfl) wl_646 c41 dX10_drawn_41 ?_
        refine x_iload_n F dX10_drawn_44 rfl 3 rfl ?_
        obtain ⟨k45, h⟩ := gdS h
        obtain ⟨⟨u45, M45⟩, c45, h⟩ := bdS h
        dsimp only at h
        refine x_callV F (As := [.int v2]) (rest := []) (res := none) (ci := 2) (q := (RX2, TX2, 2)) rfl (by decide) k45 (k_X2_start l b D cy N x41 v2 M37 _ _ c45) wl_765 wl_766 wl_767 wl_291 wl_282 hd_X2_start ⟨Nat.le_of_ble_eq_true rfl, Nat.le_of_ble_eq_true rfl⟩ ⟨Nat.le_refl _, Nat.le_refl _⟩ (Nat.le_of_ble_eq_true rfl) rfl dX10_drawn_45 ?_
        refine x_iconst F (v := 0) dX10_drawn_48 (by decide) ?_
        refine x_istore F (lv' := [(4, .int 0), (3, .int (if x18 < v1 then x18 else v1)), (0, .ref (b + v0)), (1, .int v1), (2, .int v2)]) dX10_drawn_49 (by decide) rfl ?_
        have L51 : ∀ (v0 : Nat) (v3 : Int32) (n : Nat) (v4 : Int32) (M : Mem) (o : Int32 × Mem), fX10_drawn_L51 N v0 v3 n v4 M = some o → (∀ (r' : Int32) (M' : Mem), o = (r', M') → r' = r ∧ M' = Mf) → X p l e ({ frames := 7, cells := 0, slots := 0, locals := 100 * 7 }) s m args below meth c (MQ below (Qm b D cy (some (.int r)) Mf) args s 0 0 (fun q => b ≤ q)) 5 b D cy 0 0 M 51 [(0, .ref (b + v0)), (3, .int v3), (4, .int v4)] [] := by
          intro v0 v3 n
          induction n with
          | zero => intro v4 M o h; exact absurd h (by rw [fX10_drawn_L51]; exact fun z => by cases z)
          | succ n ih =>
            intro v4 M o h hR
            rw [fX10_drawn_L51] at h
            refine x_iload F dX10_drawn_51 2 rfl ?_
            refine x_iload_n F dX10_drawn_53 rfl 1 rfl ?_
            refine x_icmp_ge F (tgt := 74) dX10_drawn_54 (by decide) (fun c54 => ?_) (fun c54 => ?_)
            · rw [if_pos c54] at h
              refine x_iload_n F dX10_drawn_74 rfl 1 rfl ?_
              obtain rfl := Option.some.inj h
              obtain ⟨rfl, rfl⟩ := hR _ _ rfl
              exact x_iret F hr hl dX10_drawn_75
            · rw [if_neg c54] at h
              refine x_aload_n F dX10_drawn_57 rfl 0 rfl ?_
              obtain ⟨x58, c58, h⟩ := bdS h
              refine x_getR F (ci := 10) (C := RX10) (T := TX10) (N := 19) rfl ⟨by decide, rfl⟩ inU10 12 (by decide) (fun _ _ _ => rfl) wl_646 c58 dX10_drawn_58 ?_
              refine x_aload_n F dX10_drawn_61 rfl 0 rfl ?_
              obtain ⟨x62, c62, h⟩ := bdS h
              refine x_getR F (ci := 10) (C := RX10) (T := TX10) (N := 19) rfl ⟨by decide, rfl⟩ inU10 3 (by decide) (fun _ _ _ => rfl) wl_622 c62 dX10_drawn_62 ?_
              obtain ⟨k65, h⟩ := gdS h
              obtain ⟨⟨u65, M65⟩, c65, h⟩ := bdS h
              dsimp only at h
              refine x_callV F (As := [.ref (b + x62)]) (rest := []) (res := none) (ci := 2) (q := (RX2, TX2, 2)) rfl (by decide) k65 (k_X2_passHourIn l b D cy N x58 x62 M _ _ c65) wl_768 wl_769 wl_770 wl_291 wl_308 hd_X2_passHourIn ⟨Nat.le_of_ble_eq_true rfl, Nat.le_of_ble_eq_true rfl⟩ ⟨Nat.le_refl _, Nat.le_refl _⟩ (Nat.le_of_ble_eq_true rfl) rfl dX10_drawn_65 ?_
              refine x_iinc F (v := v4 + 1) (lv' := [(4, .int (v4 + 1)), (0, .ref (b + v0)), (3, .int v3)]) dX10_drawn_68 2 rfl rfl (by decide) rfl ?_
              refine x_goto F (tgt := 51) dX10_drawn_71 (by decide) ?_
              refine x_sub [1, 2, 0] rfl ?_
              exact ih (v4 + 1) M65 o h hR
        obtain ⟨o51, h51, h⟩ := bdS h
        refine x_sub [2, 1, 0] rfl ?_
        refine L51 v0 (if x18 < v1 then x18 else v1) N 0 M45 o51 h51 (fun r' M' e => ?_)
        · subst e
          try dsimp only at h
          obtain ⟨rfl, rfl⟩ := retS h; exact ⟨rfl, rfl⟩
    · rw [if_neg c8] at h
      refine x_iconst F (v := (-1)) dX10_drawn_11 (by decide) ?_
      obtain ⟨rfl, rfl⟩ := retS h
      exact x_iret F hr hl dX10_drawn_12
theorem dX10_fits_0 : decode cX10_fits 0 = .ok (.aload_n 0, 1) := by decide +kernel
theorem dX10_fits_1 : decode cX10_fits 1 = .ok (.getfield 19, 3) := by decide +kernel
theorem dX10_fits_4 : decode cX10_fits 4 = .ok (.iload_n 1, 1) := by decide +kernel
theorem dX10_fits_5 : decode cX10_fits 5 = .ok (.invokevirtual 142, 3) := by decide +kernel
theorem dX10_fits_8 : decode cX10_fits 8 = .ok (.ifCond .eq 34, 3) := by decide +kernel
theorem dX10_fits_11 : decode cX10_fits 11 = .ok (.aload_n 0, 1) := by decide +kernel
theorem dX10_fits_12 : decode cX10_fits 12 = .ok (.getfield 19, 3) := by decide +kernel
theorem dX10_fits_15 : decode cX10_fits 15 = .ok (.aload_n 0, 1) := by decide +kernel
theorem dX10_fits_16 : decode cX10_fits 16 = .ok (.getfield 31, 3) := by decide +kernel
theorem dX10_fits_19 : decode cX10_fits 19 = .ok (.getfield 175, 3) := by decide +kernel
theorem dX10_fits_22 : decode cX10_fits 22 = .ok (.iload_n 1, 1) := by decide +kernel
theorem dX10_fits_23 : decode cX10_fits 23 = .ok (.iconst 0, 1) := by decide +kernel
theorem dX10_fits_24 : decode cX10_fits 24 = .ok (.invokestatic 178, 3) := by decide +kernel
theorem dX10_fits_27 : decode cX10_fits 27 = .ok (.aload_n 0, 1) := by decide +kernel
theorem dX10_fits_28 : decode cX10_fits 28 = .ok (.getfield 19, 3) := by decide +kernel
theorem dX10_fits_31 : decode cX10_fits 31 = .ok (.getfield 156, 3) := by decide +kernel
theorem dX10_fits_34 : decode cX10_fits 34 = .ok (.iload_n 1, 1) := by decide +kernel
theorem dX10_fits_35 : decode cX10_fits 35 = .ok (.iaload, 1) := by decide +kernel
theorem dX10_fits_36 : decode cX10_fits 36 = .ok (.invokevirtual 299, 3) := by decide +kernel
theorem dX10_fits_39 : decode cX10_fits 39 = .ok (.goto 4, 3) := by decide +kernel
theorem dX10_fits_42 : decode cX10_fits 42 = .ok (.iconst (-1), 1) := by decide +kernel
theorem dX10_fits_43 : decode cX10_fits 43 = .ok (.ireturn, 1) := by decide +kernel
def fX10_fits (N : Nat) (v0 : Nat) (v1 : Int32) (M : Mem) : Option (Int32 × Mem) := ((fR M 10 v0 1).bind fun x1 => (if mK M x1 = 9 then ((fX8_hasBand N x1 v1 M).bind fun (x5, M5) => (if x5 = 0 then some ((-1), M5) else ((fR M5 10 v0 1).bind fun x12 => ((fR M5 10 v0 3).bind fun x16 => ((fR M5 0 x16 1).bind fun x19 => ((fX10_placeIndex N v1 0 M5).bind fun (x24, M24) => ((fR M24 10 v0 1).bind fun x28 => ((fR M24 8 x28 3).bind fun x31 => ((aI M24 x31 v1).bind fun x35 => (if mK M24 x12 = 9 then ((fX8_lawsFitting N x12 x19 x24 x35 M24).bind fun (x36, M36) => some (x36, M36)) else none)))))))))) else none))
set_option maxHeartbeats 4000000 in
set_option maxRecDepth 100000 in
theorem k_X10_fits (l : Launch) (b : Nat) (D : va_G) (cy : Nat → ClassId) (N : Nat) (v0 : Nat) (v1 : Int32) (M : Mem) (r : Int32) (Mf : Mem) (h : fX10_fits N v0 v1 M = some (r, Mf)) : Ct l yX10_fits cX10_fits 2 (some .int) 5 0 0 b D cy [.ref (b + v0), .int v1] M (some (.int r)) Mf := by
  refine Ct_of (own := RX10) (by decide) rfl (Nat.le_of_ble_eq_true rfl) ?_
  intro p e s m args below meth c F hr hl hmn
  unfold fX10_fits at h
  show X p l e ({ frames := 5, cells := 0, slots := 0, locals := 100 * 5 }) s m args below meth c (MQ below (Qm b D cy (some (.int r)) Mf) args s 0 0 (fun q => b ≤ q)) 2 b D cy 0 0 M 0 [(0, .ref (b + v0)), (1, .int v1)] []
  refine x_aload_n F dX10_fits_0 rfl 0 rfl ?_
  obtain ⟨x1, c1, h⟩ := bdS h
  refine x_getR F (ci := 10) (C := RX10) (T := TX10) (N := 19) rfl ⟨by decide, rfl⟩ inU10 1 (by decide) (fun _ _ _ => rfl) wl_619 c1 dX10_fits_1 ?_
  refine x_iload_n F dX10_fits_4 rfl 1 rfl ?_
  obtain ⟨k5, h⟩ := gdS h
  obtain ⟨⟨x5, M5⟩, c5, h⟩ := bdS h
  dsimp only at h
  refine x_callV F (As := [.int v1]) (rest := []) (res := (some (.int x5))) (ci := 8) (q := (RX8, TX8, 17)) rfl (by decide) k5 (k_X8_hasBand l b D cy N x1 v1 M _ _ c5) wl_703 wl_242 wl_243 wl_75 wl_237 hd_X8_hasBand ⟨Nat.le_of_ble_eq_true rfl, Nat.le_of_ble_eq_true rfl⟩ ⟨Nat.le_refl _, Nat.le_refl _⟩ (Nat.le_of_ble_eq_true rfl) rfl dX10_fits_5 ?_
  refine x_if_eq F (tgt := 42) dX10_fits_8 (by decide) (fun c8 => ?_) (fun c8 => ?_)
  · rw [if_pos c8] at h
    refine x_iconst F (v := (-1)) dX10_fits_42 (by decide) ?_
    obtain ⟨rfl, rfl⟩ := retS h
    exact x_iret F hr hl dX10_fits_43
  · rw [if_neg c8] at h
    refine x_aload_n F dX10_fits_11 rfl 0 rfl ?_
    obtain ⟨x12, c12, h⟩ := bdS h
    refine x_getR F (ci := 10) (C := RX10) (T := TX10) (N := 19) rfl ⟨by decide, rfl⟩ inU10 1 (by decide) (fun _ _ _ => rfl) wl_619 c12 dX10_fits_12 ?_
    refine x_aload_n F dX10_fits_15 rfl 0 rfl ?_
    obtain ⟨x16, c16, h⟩ := bdS h
    refine x_getR F (ci := 10) (C := RX10) (T := TX10) (N := 19) rfl ⟨by decide, rfl⟩ inU10 3 (by decide) (fun _ _ _ => rfl) wl_622 c16 dX10_fits_16 ?_
    obtain ⟨x19, c19, h⟩ := bdS h
    refine x_getR F (ci := 0) (C := RX0) (T := TX0) (N := 12) rfl ⟨by decide, rfl⟩ inU0 1 (by decide) (fun _ _ _ => rfl) wl_707 c19 dX10_fits_19 ?_
    refine x_iload_n F dX10_fits_22 rfl 1 rfl ?_
    refine x_iconst F (v := 0) dX10_fits_23 (by decide) ?_
    obtain ⟨⟨x24, M24⟩, c24, h⟩ := bdS h
    dsimp only at h
    refine x_callS F (As := [.int v1, .int 0]) (rest := [.ref (b + x19), .ref (b + x12)]) (res := (some (.int x24))) (k_X10_placeIndex l b D cy N v1 0 M5 _ _ c24) wl_709 wl_30 wl_31 wl_27 (hd_X10_placeIndex).2 ⟨Nat.le_of_ble_eq_true rfl, Nat.le_of_ble_eq_true rfl⟩ ⟨Nat.le_refl _, Nat.le_refl _⟩ (Nat.le_of_ble_eq_true rfl) rfl dX10_fits_24 ?_
    refine x_aload_n F dX10_fits_27 rfl 0 rfl ?_
    obtain ⟨x28, c28, h⟩ := bdS h
    refine x_getR F (ci := 10) (C := RX10) (T := TX10) (N := 19) rfl ⟨by decide, rfl⟩ inU10 1 (by decide) (fun _ _ _ => rfl) wl_619 c28 dX10_fits_28 ?_
    obtain ⟨x31, c31, h⟩ := bdS h
    refine x_getR F (ci := 8) (C := RX8) (T := TX8) (N := 17) rfl ⟨by decide, rfl⟩ inU8 3 (by decide) (fun _ _ _ => rfl) wl_700 c31 dX10_fits_31 ?_
    refine x_iload_n F dX10_fits_34 rfl 1 rfl ?_
    obtain ⟨x35, c35, h⟩ := bdS h
    refine x_aI F c35 dX10_fits_35 ?_
    obtain ⟨k36, h⟩ := gdS h
    obtain ⟨⟨x36, M36⟩, c36, h⟩ := bdS h
    dsimp only at h
    refine x_callV F (As := [.ref (b + x19), .int x24, .int x35]) (rest := []) (res := (some (.int x36))) (ci := 8) (q := (RX8, TX8, 17)) rfl (by decide) k36 (k_X8_lawsFitting l b D cy N x12 x19 x24 x35 M24 _ _ c36) wl_772 wl_123 wl_124 wl_75 wl_109 hd_X8_lawsFitting ⟨Nat.le_of_ble_eq_true rfl, Nat.le_of_ble_eq_true rfl⟩ ⟨Nat.le_refl _, Nat.le_refl _⟩ (Nat.le_of_ble_eq_true rfl) rfl dX10_fits_36 ?_
    refine x_goto F (tgt := 43) dX10_fits_39 (by decide) ?_
    obtain ⟨rfl, rfl⟩ := retS h
    exact x_iret F hr hl dX10_fits_43
theorem hd_X0_bestPlaceToAsk : (yX0_bestPlaceToAsk).cls = RX0 ∧ (yX0_bestPlaceToAsk).cls ≠ "java/lang/invoke/MethodHandle" ∧ (yX0_bestPlaceToAsk).cls ≠ "java/lang/invoke/VarHandle" ∧ (parseMethodDescriptor (yX0_bestPlaceToAsk).desc).map (fun d => d.parameters.length) = some 1 := by decide +kernel
theorem dX10_ask_0 : decode cX10_ask 0 = .ok (.aload_n 0, 1) := by decide +kernel
theorem dX10_ask_1 : decode cX10_ask 1 = .ok (.getfield 19, 3) := by decide +kernel
theorem dX10_ask_4 : decode cX10_ask 4 = .ok (.iload_n 1, 1) := by decide +kernel
theorem dX10_ask_5 : decode cX10_ask 5 = .ok (.invokevirtual 142, 3) := by decide +kernel
theorem dX10_ask_8 : decode cX10_ask 8 = .ok (.ifCond .eq 14, 3) := by decide +kernel
theorem dX10_ask_11 : decode cX10_ask 11 = .ok (.aload_n 0, 1) := by decide +kernel
theorem dX10_ask_12 : decode cX10_ask 12 = .ok (.getfield 31, 3) := by decide +kernel
theorem dX10_ask_15 : decode cX10_ask 15 = .ok (.iload_n 1, 1) := by decide +kernel
theorem dX10_ask_16 : decode cX10_ask 16 = .ok (.invokevirtual 303, 3) := by decide +kernel
theorem dX10_ask_19 : decode cX10_ask 19 = .ok (.goto 4, 3) := by decide +kernel
theorem dX10_ask_22 : decode cX10_ask 22 = .ok (.iconst (-1), 1) := by decide +kernel
theorem dX10_ask_23 : decode cX10_ask 23 = .ok (.ireturn, 1) := by decide +kernel
def fX10_ask (N : Nat) (v0 : Nat) (v1 : Int32) (M : Mem) : Option (Int32 × Mem) := ((fR M 10 v0 1).bind fun x1 => (if mK M x1 = 9 then ((fX8_hasBand N x1 v1 M).bind fun (x5, M5) => (if x5 = 0 then some ((-1), M5) else ((fR M5 10 v0 3).bind fun x12 => (if mK M5 x12 = 1 then ((fX0_bestPlaceToAsk N x12 v1 M5).bind fun (x16, M16) => some (x16, M16)) else none)))) else none))
set_option maxHeartbeats 4000000 in
set_option maxRecDepth 100000 in
theorem k_X10_ask (l : Launch) (b : Nat) (D : va_G) (cy : Nat → ClassId) (N : Nat) (v0 : Nat) (v1 : Int32) (M : Mem) (r : Int32) (Mf : Mem) (h : fX10_ask N v0 v1 M = some (r, Mf)) : Ct l yX10_ask cX10_ask 2 (some .int) 7 0 0 b D cy [.ref (b + v0), .int v1] M (some (.int r)) Mf := by
  refine Ct_of (own := RX10) (by decide) rfl (Nat.le_of_ble_eq_true rfl) ?_
  intro p e s m args below meth c F hr hl hmn
  unfold fX10_ask at h
  show X p l e ({ frames := 7, cells := 0, slots := 0, locals := 100 * 7 }) s m args below meth c (MQ below (Qm b D cy (some (.int r)) Mf) args s 0 0 (fun q => b ≤ q)) 2 b D cy 0 0 M 0 [(0, .ref (b + v0)), (1, .int v1)] []
  refine x_aload_n F dX10_ask_0 rfl 0 rfl ?_
  obtain ⟨x1, c1, h⟩ := bdS h
  refine x_getR F (ci := 10) (C := RX10) (T := TX10) (N := 19) rfl ⟨by decide, rfl⟩ inU10 1 (by decide) (fun _ _ _ => rfl) wl_619 c1 dX10_ask_1 ?_
  refine x_iload_n F dX10_ask_4 rfl 1 rfl ?_
  obtain ⟨k5, h⟩ := gdS h
  obtain ⟨⟨x5, M5⟩, c5, h⟩ := bdS h
  dsimp only at h
  refine x_callV F (As := [.int v1]) (rest := []) (res := (some (.int x5))) (ci := 8) (q := (RX8, TX8, 17)) rfl (by decide) k5 (k_X8_hasBand l b D cy N x1 v1 M _ _ c5) wl_703 wl_242 wl_243 wl_75 wl_237 hd_X8_hasBand ⟨Nat.le_of_ble_eq_true rfl, Nat.le_of_ble_eq_true rfl⟩ ⟨Nat.le_refl _, Nat.le_refl _⟩ (Nat.le_of_ble_eq_true rfl) rfl dX10_ask_5 ?_
  refine x_if_eq F (tgt := 22) dX10_ask_8 (by decide) (fun c8 => ?_) (fun c8 => ?_)
  · rw [if_pos c8] at h
    refine x_iconst F (v := (-1)) dX10_ask_22 (by decide) ?_
    obtain ⟨rfl, rfl⟩ := retS h
    exact x_iret F hr hl dX10_ask_23
  · rw [if_neg c8] at h
    refine x_aload_n F dX10_ask_11 rfl 0 rfl ?_
    obtain ⟨x12, c12, h⟩ := bdS h
    refine x_getR F (ci := 10) (C := RX10) (T := TX10) (N := 19) rfl ⟨by decide, rfl⟩ inU10 3 (by decide) (fun _ _ _ => rfl) wl_622 c12 dX10_ask_12 ?_
    refine x_iload_n F dX10_ask_15 rfl 1 rfl ?_
    obtain ⟨k16, h⟩ := gdS h
    obtain ⟨⟨x16, M16⟩, c16, h⟩ := bdS h
    dsimp only at h
    refine x_callV F (As := [.int v1]) (rest := []) (res := (some (.int x16))) (ci := 0) (q := (RX0, TX0, 12)) rfl (by decide) k16 (k_X0_bestPlaceToAsk l b D cy N x12 v1 M5 _ _ c16) wl_774 wl_775 wl_776 wl_52 wl_132 hd_X0_bestPlaceToAsk ⟨Nat.le_of_ble_eq_true rfl, Nat.le_of_ble_eq_true rfl⟩ ⟨Nat.le_refl _, Nat.le_refl _⟩ (Nat.le_of_ble_eq_true rfl) rfl dX10_ask_16 ?_
    refine x_goto F (tgt := 23) dX10_ask_19 (by decide) ?_
    obtain ⟨rfl, rfl⟩ := retS h
    exact x_iret F hr hl dX10_ask_23
theorem hd_X0_hoursTillWashed : (yX0_hoursTillWashed).cls = RX0 ∧ (yX0_hoursTillWashed).cls ≠ "java/lang/invoke/MethodHandle" ∧ (yX0_hoursTillWashed).cls ≠ "java/lang/invoke/VarHandle" ∧ (parseMethodDescriptor (yX0_hoursTillWashed).desc).map (fun d => d.parameters.length) = some 1 := by decide +kernel
theorem dX10_dry_0 : decode cX10_dry 0 = .ok (.aload_n 0, 1) := by decide +kernel
theorem dX10_dry_1 : decode cX10_dry 1 = .ok (.getfield 19, 3) := by decide +kernel
theorem dX10_dry_4 : decode cX10_dry 4 = .ok (.iload_n 1, 1) := by decide +kernel
theorem dX10_dry_5 : decode cX10_dry 5 = .ok (.invokevirtual 142, 3) := by decide +kernel
theorem dX10_dry_8 : decode cX10_dry 8 = .ok (.ifCond .eq 14, 3) := by decide +kernel
theorem dX10_dry_11 : decode cX10_dry 11 = .ok (.aload_n 0, 1) := by decide +kernel
theorem dX10_dry_12 : decode cX10_dry 12 = .ok (.getfield 31, 3) := by decide +kernel
theorem dX10_dry_15 : decode cX10_dry 15 = .ok (.iload_n 1, 1) := by decide +kernel
theorem dX10_dry_16 : decode cX10_dry 16 = .ok (.invokevirtual 306, 3) := by decide +kernel
theorem dX10_dry_19 : decode cX10_dry 19 = .ok (.goto 4, 3) := by decide +kernel
theorem dX10_dry_22 : decode cX10_dry 22 = .ok (.iconst (-1), 1) := by decide +kernel
theorem dX10_dry_23 : decode cX10_dry 23 = .ok (.ireturn, 1) := by decide +kernel
def fX10_dry (N : Nat) (v0 : Nat) (v1 : Int32) (M : Mem) : Option (Int32 × Mem) := ((fR M 10 v0 1).bind fun x1 => (if mK M x1 = 9 then ((fX8_hasBand N x1 v1 M).bind fun (x5, M5) => (if x5 = 0 then some ((-1), M5) else ((fR M5 10 v0 3).bind fun x12 => (if mK M5 x12 = 1 then ((fX0_hoursTillWashed N x12 v1 M5).bind fun (x16, M16) => some (x16, M16)) else none)))) else none))
set_option maxHeartbeats 4000000 in
set_option maxRecDepth 100000 in
theorem k_X10_dry (l : Launch) (b : Nat) (D : va_G) (cy : Nat → ClassId) (N : Nat) (v0 : Nat) (v1 : Int32) (M : Mem) (r : Int32) (Mf : Mem) (h : fX10_dry N v0 v1 M = some (r, Mf)) : Ct l yX10_dry cX10_dry 2 (some .int) 3 0 0 b D cy [.ref (b + v0), .int v1] M (some (.int r)) Mf := by
  refine Ct_of (own := RX10) (by decide) rfl (Nat.le_of_ble_eq_true rfl) ?_
  intro p e s m args below meth c F hr hl hmn
  unfold fX10_dry at h
  show X p l e ({ frames := 3, cells := 0, slots := 0, locals := 100 * 3 }) s m args below meth c (MQ below (Qm b D cy (some (.int r)) Mf) args s 0 0 (fun q => b ≤ q)) 2 b D cy 0 0 M 0 [(0, .ref (b + v0)), (1, .int v1)] []
  refine x_aload_n F dX10_dry_0 rfl 0 rfl ?_
  obtain ⟨x1, c1, h⟩ := bdS h
  refine x_getR F (ci := 10) (C := RX10) (T := TX10) (N := 19) rfl ⟨by decide, rfl⟩ inU10 1 (by decide) (fun _ _ _ => rfl) wl_619 c1 dX10_dry_1 ?_
  refine x_iload_n F dX10_dry_4 rfl 1 rfl ?_
  obtain ⟨k5, h⟩ := gdS h
  obtain ⟨⟨x5, M5⟩, c5, h⟩ := bdS h
  dsimp only at h
  refine x_callV F (As := [.int v1]) (rest := []) (res := (some (.int x5))) (ci := 8) (q := (RX8, TX8, 17)) rfl (by decide) k5 (k_X8_hasBand l b D cy N x1 v1 M _ _ c5) wl_703 wl_242 wl_243 wl_75 wl_237 hd_X8_hasBand ⟨Nat.le_of_ble_eq_true rfl, Nat.le_of_ble_eq_true rfl⟩ ⟨Nat.le_refl _, Nat.le_refl _⟩ (Nat.le_of_ble_eq_true rfl) rfl dX10_dry_5 ?_
  refine x_if_eq F (tgt := 22) dX10_dry_8 (by decide) (fun c8 => ?_) (fun c8 => ?_)
  · rw [if_pos c8] at h
    refine x_iconst F (v := (-1)) dX10_dry_22 (by decide) ?_
    obtain ⟨rfl, rfl⟩ := retS h
    exact x_iret F hr hl dX10_dry_23
  · rw [if_neg c8] at h
    refine x_aload_n F dX10_dry_11 rfl 0 rfl ?_
    obtain ⟨x12, c12, h⟩ := bdS h
    refine x_getR F (ci := 10) (C := RX10) (T := TX10) (N := 19) rfl ⟨by decide, rfl⟩ inU10 3 (by decide) (fun _ _ _ => rfl) wl_622 c12 dX10_dry_12 ?_
    refine x_iload_n F dX10_dry_15 rfl 1 rfl ?_
    obtain ⟨k16, h⟩ := gdS h
    obtain ⟨⟨x16, M16⟩, c16, h⟩ := bdS h
    dsimp only at h
    refine x_callV F (As := [.int v1]) (rest := []) (res := (some (.int x16))) (ci := 0) (q := (RX0, TX0, 12)) rfl (by decide) k16 (k_X0_hoursTillWashed l b D cy N x12 v1 M5 _ _ c16) wl_778 wl_779 wl_780 wl_52 wl_93 hd_X0_hoursTillWashed ⟨Nat.le_of_ble_eq_true rfl, Nat.le_of_ble_eq_true rfl⟩ ⟨Nat.le_refl _, Nat.le_refl _⟩ (Nat.le_of_ble_eq_true rfl) rfl dX10_dry_16 ?_
    refine x_goto F (tgt := 23) dX10_dry_19 (by decide) ?_
    obtain ⟨rfl, rfl⟩ := retS h
    exact x_iret F hr hl dX10_dry_23
theorem hd_X3_fewestTimes : (yX3_fewestTimes).cls = RX3 ∧ (yX3_fewestTimes).cls ≠ "java/lang/invoke/MethodHandle" ∧ (yX3_fewestTimes).cls ≠ "java/lang/invoke/VarHandle" ∧ (parseMethodDescriptor (yX3_fewestTimes).desc).map (fun d => d.parameters.length) = some 3 := by decide +kernel
theorem dX10_keep_0 : decode cX10_keep 0 = .ok (.aload_n 0, 1) := by decide +kernel
theorem dX10_keep_1 : decode cX10_keep 1 = .ok (.getfield 19, 3) := by decide +kernel
theorem dX10_keep_4 : decode cX10_keep 4 = .ok (.iload_n 1, 1) := by decide +kernel
theorem dX10_keep_5 : decode cX10_keep 5 = .ok (.invokevirtual 185, 3) := by decide +kernel
theorem dX10_keep_8 : decode cX10_keep 8 = .ok (.ifCond .eq 25, 3) := by decide +kernel
theorem dX10_keep_11 : decode cX10_keep 11 = .ok (.iload_n 2, 1) := by decide +kernel
theorem dX10_keep_12 : decode cX10_keep 12 = .ok (.iconst 1, 1) := by decide +kernel
theorem dX10_keep_13 : decode cX10_keep 13 = .ok (.if_icmp .lt 20, 3) := by decide +kernel
theorem dX10_keep_16 : decode cX10_keep 16 = .ok (.iload_n 2, 1) := by decide +kernel
theorem dX10_keep_17 : decode cX10_keep 17 = .ok (.bipush 16, 2) := by decide +kernel
theorem dX10_keep_19 : decode cX10_keep 19 = .ok (.if_icmp .gt 14, 3) := by decide +kernel
theorem dX10_keep_22 : decode cX10_keep 22 = .ok (.aload_n 0, 1) := by decide +kernel
theorem dX10_keep_23 : decode cX10_keep 23 = .ok (.getfield 31, 3) := by decide +kernel
theorem dX10_keep_26 : decode cX10_keep 26 = .ok (.iload_n 1, 1) := by decide +kernel
theorem dX10_keep_27 : decode cX10_keep 27 = .ok (.invokevirtual 196, 3) := by decide +kernel
theorem dX10_keep_30 : decode cX10_keep 30 = .ok (.ifCond .eq 5, 3) := by decide +kernel
theorem dX10_keep_33 : decode cX10_keep 33 = .ok (.iconst (-1), 1) := by decide +kernel
theorem dX10_keep_34 : decode cX10_keep 34 = .ok (.ireturn, 1) := by decide +kernel
theorem dX10_keep_35 : decode cX10_keep 35 = .ok (.aload_n 0, 1) := by decide +kernel
theorem dX10_keep_36 : decode cX10_keep 36 = .ok (.getfield 65, 3) := by decide +kernel
theorem dX10_keep_39 : decode cX10_keep 39 = .ok (.aload_n 0, 1) := by decide +kernel
theorem dX10_keep_40 : decode cX10_keep 40 = .ok (.getfield 31, 3) := by decide +kernel
theorem dX10_keep_43 : decode cX10_keep 43 = .ok (.iload_n 1, 1) := by decide +kernel
theorem dX10_keep_44 : decode cX10_keep 44 = .ok (.iload_n 2, 1) := by decide +kernel
theorem dX10_keep_45 : decode cX10_keep 45 = .ok (.invokevirtual 309, 3) := by decide +kernel
theorem dX10_keep_48 : decode cX10_keep 48 = .ok (.ireturn, 1) := by decide +kernel
def fX10_keep (N : Nat) (v0 : Nat) (v1 : Int32) (v2 : Int32) (M : Mem) : Option (Int32 × Mem) := ((fR M 10 v0 1).bind fun x1 => (if mK M x1 = 9 then ((fX8_hasLaw N x1 v1 M).bind fun (x5, M5) => (if x5 = 0 then some ((-1), M5) else (if v2 < 1 then some ((-1), M5) else (if 16 < v2 then some ((-1), M5) else ((fR M5 10 v0 3).bind fun x23 => (if mK M5 x23 = 1 then ((fX0_hasLapsed N x23 v1 M5).bind fun (x27, M27) => (if x27 = 0 then ((fR M27 10 v0 9).bind fun x36 => ((fR M27 10 v0 3).bind fun x40 => (if mK M27 x36 = 4 then ((fX3_fewestTimes N x36 x40 v1 v2 M27).bind fun (x45, M45) => some (x45, M45)) else none))) else some ((-1), M27))) else none)))))) else none))
set_option maxHeartbeats 4000000 in
set_option maxRecDepth 100000 in
theorem k_X10_keep (l : Launch) (b : Nat) (D : va_G) (cy : Nat → ClassId) (N : Nat) (v0 : Nat) (v1 : Int32) (v2 : Int32) (M : Mem) (r : Int32) (Mf : Mem) (h : fX10_keep N v0 v1 v2 M = some (r, Mf)) : Ct l yX10_keep cX10_keep 3 (some .int) 5 0 0 b D cy [.ref (b + v0), .int v1, .int v2] M (some (.int r)) Mf := by
  refine Ct_of (own := RX10) (by decide) rfl (Nat.le_of_ble_eq_true rfl) ?_
  intro p e s m args below meth c F hr hl hmn
  unfold fX10_keep at h
  show X p l e ({ frames := 5, cells := 0, slots := 0, locals := 100 * 5 }) s m args below meth c (MQ below (Qm b D cy (some (.int r)) Mf) args s 0 0 (fun q => b ≤ q)) 3 b D cy 0 0 M 0 [(0, .ref (b + v0)), (1, .int v1), (2, .int v2)] []
  refine x_aload_n F dX10_keep_0 rfl 0 rfl ?_
  obtain ⟨x1, c1, h⟩ := bdS h
  refine x_getR F (ci := 10) (C := RX10) (T := TX10) (N := 19) rfl ⟨by decide, rfl⟩ inU10 1 (by decide) (fun _ _ _ => rfl) wl_619 c1 dX10_keep_1 ?_
  refine x_iload_n F dX10_keep_4 rfl 1 rfl ?_
  obtain ⟨k5, h⟩ := gdS h
  obtain ⟨⟨x5, M5⟩, c5, h⟩ := bdS h
  dsimp only at h
  refine x_callV F (As := [.int v1]) (rest := []) (res := (some (.int x5))) (ci := 8) (q := (RX8, TX8, 17)) rfl (by decide) k5 (k_X8_hasLaw l b D cy N x1 v1 M _ _ c5) wl_714 wl_465 wl_466 wl_75 wl_456 hd_X8_hasLaw ⟨Nat.le_of_ble_eq_true rfl, Nat.le_of_ble_eq_true rfl⟩ ⟨Nat.le_refl _, Nat.le_refl _⟩ (Nat.le_of_ble_eq_true rfl) rfl dX10_keep_5 ?_
  refine x_if_eq F (tgt := 33) dX10_keep_8 (by decide) (fun c8 => ?_) (fun c8 => ?_)
  · rw [if_pos c8] at h
    refine x_iconst F (v := (-1)) dX10_keep_33 (by decide) ?_
    obtain ⟨rfl, rfl⟩ := retS h
    exact x_iret F hr hl dX10_keep_34
  · rw [if_neg c8] at h
    refine x_iload_n F dX10_keep_11 rfl 2 rfl ?_
    refine x_iconst F (v := 1) dX10_keep_12 (by decide) ?_
    refine x_icmp_lt F (tgt := 33) dX10_keep_13 (by decide) (fun c13 => ?_) (fun c13 => ?_)
    · rw [if_pos c13] at h
      refine x_iconst F (v := (-1)) dX10_keep_33 (by decide) ?_
      obtain ⟨rfl, rfl⟩ := retS h
      exact x_iret F hr hl dX10_keep_34
    · rw [if_neg c13] at h
      refine x_iload_n F dX10_keep_16 rfl 2 rfl ?_
      refine x_bipush F (v := 16) dX10_keep_17 (by decide) ?_
      refine x_icmp_gt F (tgt := 33) dX10_keep_19 (by decide) (fun c19 => ?_) (fun c19 => ?_)
      · rw [if_pos c19] at h
        refine x_iconst F (v := (-1)) dX10_keep_33 (by decide) ?_
        obtain ⟨rfl, rfl⟩ := retS h
        exact x_iret F hr hl dX10_keep_34
      · rw [if_neg c19] at h
        refine x_aload_n F dX10_keep_22 rfl 0 rfl ?_
        obtain ⟨x23, c23, h⟩ := bdS h
        refine x_getR F (ci := 10) (C := RX10) (T := TX10) (N := 19) rfl ⟨by decide, rfl⟩ inU10 3 (by decide) (fun _ _ _ => rfl) wl_622 c23 dX10_keep_23 ?_
        refine x_iload_n F dX10_keep_26 rfl 1 rfl ?_
        obtain ⟨k27, h⟩ := gdS h
        obtain ⟨⟨x27, M27⟩, c27, h⟩ := bdS h
        dsimp only at h
        refine x_callV F (As := [.int v1]) (rest := []) (res := (some (.int x27))) (ci := 0) (q := (RX0, TX0, 12)) rfl (by decide) k27 (k_X0_hasLapsed l b D cy N x23 v1 M5 _ _ c27) wl_715 wl_80 wl_81 wl_52 wl_53 hd_X0_hasLapsed ⟨Nat.le_of_ble_eq_true rfl, Nat.le_of_ble_eq_true rfl⟩ ⟨Nat.le_refl _, Nat.le_refl _⟩ (Nat.le_of_ble_eq_true rfl) rfl dX10_keep_27 ?_
        refine x_if_eq F (tgt := 35) dX10_keep_30 (by decide) (fun c30 => ?_) (fun c30 => ?_)
        · rw [if_pos c30] at h
          refine x_aload_n F dX10_keep_35 rfl 0 rfl ?_
          obtain ⟨x36, c36, h⟩ := bdS h
          refine x_getR F (ci := 10) (C := RX10) (T := TX10) (N := 19) rfl ⟨by decide, rfl⟩ inU10 9 (by decide) (fun _ _ _ => rfl) wl_637 c36 dX10_keep_36 ?_
          refine x_aload_n F dX10_keep_39 rfl 0 rfl ?_
          obtain ⟨x40, c40, h⟩ := bdS h
          refine x_getR F (ci := 10) (C := RX10) (T := TX10) (N := 19) rfl ⟨by decide, rfl⟩ inU10 3 (by decide) (fun _ _ _ => rfl) wl_622 c40 dX10_keep_40 ?_
          refine x_iload_n F dX10_keep_43 rfl 1 rfl ?_
          refine x_iload_n F dX10_keep_44 rfl 2 rfl ?_
          obtain ⟨k45, h⟩ := gdS h
          obtain ⟨⟨x45, M45⟩, c45, h⟩ := bdS h
          dsimp only at h
          refine x_callV F (As := [.ref (b + x40), .int v1, .int v2]) (rest := []) (res := (some (.int x45))) (ci := 3) (q := (RX3, TX3, 3)) rfl (by decide) k45 (k_X3_fewestTimes l b D cy N x36 x40 v1 v2 M27 _ _ c45) wl_782 wl_783 wl_784 wl_327 wl_348 hd_X3_fewestTimes ⟨Nat.le_of_ble_eq_true rfl, Nat.le_of_ble_eq_true rfl⟩ ⟨Nat.le_refl _, Nat.le_refl _⟩ (Nat.le_of_ble_eq_true rfl) rfl dX10_keep_45 ?_
          obtain ⟨rfl, rfl⟩ := retS h
          exact x_iret F hr hl dX10_keep_48
        · rw [if_neg c30] at h
          refine x_iconst F (v := (-1)) dX10_keep_33 (by decide) ?_
          obtain ⟨rfl, rfl⟩ := retS h
          exact x_iret F hr hl dX10_keep_34
theorem hd_X4_fewestStrokes : (yX4_fewestStrokes).cls = RX4 ∧ (yX4_fewestStrokes).cls ≠ "java/lang/invoke/MethodHandle" ∧ (yX4_fewestStrokes).cls ≠ "java/lang/invoke/VarHandle" ∧ (parseMethodDescriptor (yX4_fewestStrokes).desc).map (fun d => d.parameters.length) = some 2 := by decide +kernel
theorem dX10_mend_0 : decode cX10_mend 0 = .ok (.aload_n 0, 1) := by decide +kernel
theorem dX10_mend_1 : decode cX10_mend 1 = .ok (.getfield 19, 3) := by decide +kernel
theorem dX10_mend_4 : decode cX10_mend 4 = .ok (.iload_n 1, 1) := by decide +kernel
theorem dX10_mend_5 : decode cX10_mend 5 = .ok (.invokevirtual 185, 3) := by decide +kernel
theorem dX10_mend_8 : decode cX10_mend 8 = .ok (.ifCond .eq 18, 3) := by decide +kernel
theorem dX10_mend_11 : decode cX10_mend 11 = .ok (.aload_n 0, 1) := by decide +kernel
theorem dX10_mend_12 : decode cX10_mend 12 = .ok (.getfield 72, 3) := by decide +kernel
theorem dX10_mend_15 : decode cX10_mend 15 = .ok (.aload_n 0, 1) := by decide +kernel
theorem dX10_mend_16 : decode cX10_mend 16 = .ok (.getfield 31, 3) := by decide +kernel
theorem dX10_mend_19 : decode cX10_mend 19 = .ok (.iload_n 1, 1) := by decide +kernel
theorem dX10_mend_20 : decode cX10_mend 20 = .ok (.invokevirtual 313, 3) := by decide +kernel
theorem dX10_mend_23 : decode cX10_mend 23 = .ok (.goto 4, 3) := by decide +kernel
theorem dX10_mend_26 : decode cX10_mend 26 = .ok (.iconst (-1), 1) := by decide +kernel
theorem dX10_mend_27 : decode cX10_mend 27 = .ok (.ireturn, 1) := by decide +kernel
def fX10_mend (N : Nat) (v0 : Nat) (v1 : Int32) (M : Mem) : Option (Int32 × Mem) := ((fR M 10 v0 1).bind fun x1 => (if mK M x1 = 9 then ((fX8_hasLaw N x1 v1 M).bind fun (x5, M5) => (if x5 = 0 then some ((-1), M5) else ((fR M5 10 v0 10).bind fun x12 => ((fR M5 10 v0 3).bind fun x16 => (if mK M5 x12 = 5 then ((fX4_fewestStrokes N x12 x16 v1 M5).bind fun (x20, M20) => some (x20, M20)) else none))))) else none))
set_option maxHeartbeats 4000000 in
set_option maxRecDepth 100000 in
theorem k_X10_mend (l : Launch) (b : Nat) (D : va_G) (cy : Nat → ClassId) (N : Nat) (v0 : Nat) (v1 : Int32) (M : Mem) (r : Int32) (Mf : Mem) (h : fX10_mend N v0 v1 M = some (r, Mf)) : Ct l yX10_mend cX10_mend 2 (some .int) 4 0 0 b D cy [.ref (b + v0), .int v1] M (some (.int r)) Mf := by
  refine Ct_of (own := RX10) (by decide) rfl (Nat.le_of_ble_eq_true rfl) ?_
  intro p e s m args below meth c F hr hl hmn
  unfold fX10_mend at h
  show X p l e ({ frames := 4, cells := 0, slots := 0, locals := 100 * 4 }) s m args below meth c (MQ below (Qm b D cy (some (.int r)) Mf) args s 0 0 (fun q => b ≤ q)) 2 b D cy 0 0 M 0 [(0, .ref (b + v0)), (1, .int v1)] []
  refine x_aload_n F dX10_mend_0 rfl 0 rfl ?_
  obtain ⟨x1, c1, h⟩ := bdS h
  refine x_getR F (ci := 10) (C := RX10) (T := TX10) (N := 19) rfl ⟨by decide, rfl⟩ inU10 1 (by decide) (fun _ _ _ => rfl) wl_619 c1 dX10_mend_1 ?_
  refine x_iload_n F dX10_mend_4 rfl 1 rfl ?_
  obtain ⟨k5, h⟩ := gdS h
  obtain ⟨⟨x5, M5⟩, c5, h⟩ := bdS h
  dsimp only at h
  refine x_callV F (As := [.int v1]) (rest := []) (res := (some (.int x5))) (ci := 8) (q := (RX8, TX8, 17)) rfl (by decide) k5 (k_X8_hasLaw l b D cy N x1 v1 M _ _ c5) wl_714 wl_465 wl_466 wl_75 wl_456 hd_X8_hasLaw ⟨Nat.le_of_ble_eq_true rfl, Nat.le_of_ble_eq_true rfl⟩ ⟨Nat.le_refl _, Nat.le_refl _⟩ (Nat.le_of_ble_eq_true rfl) rfl dX10_mend_5 ?_
  refine x_if_eq F (tgt := 26) dX10_mend_8 (by decide) (fun c8 => ?_) (fun c8 => ?_)
  · rw [if_pos c8] at h
    refine x_iconst F (v := (-1)) dX10_mend_26 (by decide) ?_
    obtain ⟨rfl, rfl⟩ := retS h
    exact x_iret F hr hl dX10_mend_27
  · rw [if_neg c8] at h
    refine x_aload_n F dX10_mend_11 rfl 0 rfl ?_
    obtain ⟨x12, c12, h⟩ := bdS h
    refine x_getR F (ci := 10) (C := RX10) (T := TX10) (N := 19) rfl ⟨by decide, rfl⟩ inU10 10 (by decide) (fun _ _ _ => rfl) wl_640 c12 dX10_mend_12 ?_
    refine x_aload_n F dX10_mend_15 rfl 0 rfl ?_
    obtain ⟨x16, c16, h⟩ := bdS h
    refine x_getR F (ci := 10) (C := RX10) (T := TX10) (N := 19) rfl ⟨by decide, rfl⟩ inU10 3 (by decide) (fun _ _ _ => rfl) wl_622 c16 dX10_mend_16 ?_
    refine x_iload_n F dX10_mend_19 rfl 1 rfl ?_
    obtain ⟨k20, h⟩ := gdS h
    obtain ⟨⟨x20, M20⟩, c20, h⟩ := bdS h
    dsimp only at h
    refine x_callV F (As := [.ref (b + x16), .int v1]) (rest := []) (res := (some (.int x20))) (ci := 4) (q := (RX4, TX4, 4)) rfl (by decide) k20 (k_X4_fewestStrokes l b D cy N x12 x16 v1 M5 _ _ c20) wl_786 wl_787 wl_788 wl_365 wl_369 hd_X4_fewestStrokes ⟨Nat.le_of_ble_eq_true rfl, Nat.le_of_ble_eq_true rfl⟩ ⟨Nat.le_refl _, Nat.le_refl _⟩ (Nat.le_of_ble_eq_true rfl) rfl dX10_mend_20 ?_
    refine x_goto F (tgt := 27) dX10_mend_23 (by decide) ?_
    obtain ⟨rfl, rfl⟩ := retS h
    exact x_iret F hr hl dX10_mend_27
theorem dX10_mendAt_0 : decode cX10_mendAt 0 = .ok (.iload_n 1, 1) := by decide +kernel
theorem dX10_mendAt_1 : decode cX10_mendAt 1 = .ok (.tableswitch 51 0 2 #[27, 35, 43], 27) := by decide +kernel
theorem dX10_mendAt_28 : decode cX10_mendAt 28 = .ok (.aload_n 0, 1) := by decide +kernel
theorem dX10_mendAt_29 : decode cX10_mendAt 29 = .ok (.getfield 72, 3) := by decide +kernel
theorem dX10_mendAt_32 : decode cX10_mendAt 32 = .ok (.getfield 317, 3) := by decide +kernel
theorem dX10_mendAt_35 : decode cX10_mendAt 35 = .ok (.ireturn, 1) := by decide +kernel
theorem dX10_mendAt_36 : decode cX10_mendAt 36 = .ok (.aload_n 0, 1) := by decide +kernel
theorem dX10_mendAt_37 : decode cX10_mendAt 37 = .ok (.getfield 72, 3) := by decide +kernel
theorem dX10_mendAt_40 : decode cX10_mendAt 40 = .ok (.getfield 320, 3) := by decide +kernel
theorem dX10_mendAt_43 : decode cX10_mendAt 43 = .ok (.ireturn, 1) := by decide +kernel
theorem dX10_mendAt_44 : decode cX10_mendAt 44 = .ok (.aload_n 0, 1) := by decide +kernel
theorem dX10_mendAt_45 : decode cX10_mendAt 45 = .ok (.getfield 72, 3) := by decide +kernel
theorem dX10_mendAt_48 : decode cX10_mendAt 48 = .ok (.getfield 323, 3) := by decide +kernel
theorem dX10_mendAt_51 : decode cX10_mendAt 51 = .ok (.ireturn, 1) := by decide +kernel
theorem dX10_mendAt_52 : decode cX10_mendAt 52 = .ok (.iconst (-1), 1) := by decide +kernel
theorem dX10_mendAt_53 : decode cX10_mendAt 53 = .ok (.ireturn, 1) := by decide +kernel
def fX10_mendAt (N : Nat) (v0 : Nat) (v1 : Int32) (M : Mem) : Option (Int32 × Mem) := (if v1 = 0 then ((fR M 10 v0 10).bind fun x29 => ((fI M 4 x29 1).bind fun x32 => some (x32, M))) else (if v1 = 1 then ((fR M 10 v0 10).bind fun x37 => ((fI M 4 x37 2).bind fun x40 => some (x40, M))) else (if v1 = 2 then ((fR M 10 v0 10).bind fun x45 => ((fI M 4 x45 3).bind fun x48 => some (x48, M))) else some ((-1), M))))
set_option maxHeartbeats 4000000 in
set_option maxRecDepth 100000 in
theorem k_X10_mendAt (l : Launch) (b : Nat) (D : va_G) (cy : Nat → ClassId) (N : Nat) (v0 : Nat) (v1 : Int32) (M : Mem) (r : Int32) (Mf : Mem) (h : fX10_mendAt N v0 v1 M = some (r, Mf)) : Ct l yX10_mendAt cX10_mendAt 2 (some .int) 1 0 0 b D cy [.ref (b + v0), .int v1] M (some (.int r)) Mf := by
  refine Ct_of (own := RX10) (by decide) rfl (Nat.le_of_ble_eq_true rfl) ?_
  intro p e s m args below meth c F hr hl hmn
  unfold fX10_mendAt at h
  show X p l e ({ frames := 1, cells := 0, slots := 0, locals := 100 * 1 }) s m args below meth c (MQ below (Qm b D cy (some (.int r)) Mf) args s 0 0 (fun q => b ≤ q)) 2 b D cy 0 0 M 0 [(0, .ref (b + v0)), (1, .int v1)] []
  refine x_iload_n F dX10_mendAt_0 rfl 1 rfl ?_
  by_cases c1_0 : v1 = 0
  · rw [if_pos c1_0] at h
    refine x_tableIn F (off := 27) (tgt := 28) dX10_mendAt_1 (by rw [c1_0]; decide) (by rw [c1_0]; decide) (by rw [c1_0]; decide) (by decide) ?_
    refine x_aload_n F dX10_mendAt_28 rfl 0 rfl ?_
    obtain ⟨x29, c29, h⟩ := bdS h
    refine x_getR F (ci := 10) (C := RX10) (T := TX10) (N := 19) rfl ⟨by decide, rfl⟩ inU10 10 (by decide) (fun _ _ _ => rfl) wl_640 c29 dX10_mendAt_29 ?_
    obtain ⟨x32, c32, h⟩ := bdS h
    refine x_getI F (ci := 4) (C := RX4) (T := TX4) (N := 4) rfl ⟨by decide, rfl⟩ inU4 1 (by decide) (fun _ _ _ => rfl) wl_791 c32 dX10_mendAt_32 ?_
    obtain ⟨rfl, rfl⟩ := retS h
    exact x_iret F hr hl dX10_mendAt_35
  rw [if_neg c1_0] at h
  by_cases c1_1 : v1 = 1
  · rw [if_pos c1_1] at h
    refine x_tableIn F (off := 35) (tgt := 36) dX10_mendAt_1 (by rw [c1_1]; decide) (by rw [c1_1]; decide) (by rw [c1_1]; decide) (by decide) ?_
    refine x_aload_n F dX10_mendAt_36 rfl 0 rfl ?_
    obtain ⟨x37, c37, h⟩ := bdS h
    refine x_getR F (ci := 10) (C := RX10) (T := TX10) (N := 19) rfl ⟨by decide, rfl⟩ inU10 10 (by decide) (fun _ _ _ => rfl) wl_640 c37 dX10_mendAt_37 ?_
    obtain ⟨x40, c40, h⟩ := bdS h
    refine x_getI F (ci := 4) (C := RX4) (T := TX4) (N := 4) rfl ⟨by decide, rfl⟩ inU4 2 (by decide) (fun _ _ _ => rfl) wl_792 c40 dX10_mendAt_40 ?_
    obtain ⟨rfl, rfl⟩ := retS h
    exact x_iret F hr hl dX10_mendAt_43
  rw [if_neg c1_1] at h
  by_cases c1_2 : v1 = 2
  · rw [if_pos c1_2] at h
    refine x_tableIn F (off := 43) (tgt := 44) dX10_mendAt_1 (by rw [c1_2]; decide) (by rw [c1_2]; decide) (by rw [c1_2]; decide) (by decide) ?_
    refine x_aload_n F dX10_mendAt_44 rfl 0 rfl ?_
    obtain ⟨x45, c45, h⟩ := bdS h
    refine x_getR F (ci := 10) (C := RX10) (T := TX10) (N := 19) rfl ⟨by decide, rfl⟩ inU10 10 (by decide) (fun _ _ _ => rfl) wl_640 c45 dX10_mendAt_45 ?_
    obtain ⟨x48, c48, h⟩ := bdS h
    refine x_getI F (ci := 4) (C := RX4) (T := TX4) (N := 4) rfl ⟨by decide, rfl⟩ inU4 3 (by decide) (fun _ _ _ => rfl) wl_793 c48 dX10_mendAt_48 ?_
    obtain ⟨rfl, rfl⟩ := retS h
    exact x_iret F hr hl dX10_mendAt_51
  rw [if_neg c1_2] at h
  refine x_tableOut F (tgt := 52) dX10_mendAt_1 (by have q0 := sw_ne (t := 0) c1_0 (by decide); have q1 := sw_ne (t := 1) c1_1 (by decide); have q2 := sw_ne (t := 2) c1_2 (by decide); omega) (by decide) ?_
  refine x_iconst F (v := (-1)) dX10_mendAt_52 (by decide) ?_
  obtain ⟨rfl, rfl⟩ := retS h
  exact x_iret F hr hl dX10_mendAt_53
theorem hd_X6_fewestBands : (yX6_fewestBands).cls = RX6 ∧ (yX6_fewestBands).cls ≠ "java/lang/invoke/MethodHandle" ∧ (yX6_fewestBands).cls ≠ "java/lang/invoke/VarHandle" ∧ (parseMethodDescriptor (yX6_fewestBands).desc).map (fun d => d.parameters.length) = some 1 := by decide +kernel
theorem dX10_room_0 : decode cX10_room 0 = .ok (.aload_n 0, 1) := by decide +kernel
theorem dX10_room_1 : decode cX10_room 1 = .ok (.getfield 79, 3) := by decide +kernel
theorem dX10_room_4 : decode cX10_room 4 = .ok (.aload_n 0, 1) := by decide +kernel
theorem dX10_room_5 : decode cX10_room 5 = .ok (.getfield 31, 3) := by decide +kernel
theorem dX10_room_8 : decode cX10_room 8 = .ok (.invokevirtual 326, 3) := by decide +kernel
theorem dX10_room_11 : decode cX10_room 11 = .ok (.ireturn, 1) := by decide +kernel
def fX10_room (N : Nat) (v0 : Nat) (M : Mem) : Option (Int32 × Mem) := ((fR M 10 v0 11).bind fun x1 => ((fR M 10 v0 3).bind fun x5 => (if mK M x1 = 7 then ((fX6_fewestBands N x1 x5 M).bind fun (x8, M8) => some (x8, M8)) else none)))
set_option maxHeartbeats 4000000 in
set_option maxRecDepth 100000 in
theorem k_X10_room (l : Launch) (b : Nat) (D : va_G) (cy : Nat → ClassId) (N : Nat) (v0 : Nat) (M : Mem) (r : Int32) (Mf : Mem) (h : fX10_room N v0 M = some (r, Mf)) : Ct l yX10_room cX10_room 1 (some .int) 11 0 0 b D cy [.ref (b + v0)] M (some (.int r)) Mf := by
  refine Ct_of (own := RX10) (by decide) rfl (Nat.le_of_ble_eq_true rfl) ?_
  intro p e s m args below meth c F hr hl hmn
  unfold fX10_room at h
  show X p l e ({ frames := 11, cells := 0, slots := 0, locals := 100 * 11 }) s m args below meth c (MQ below (Qm b D cy (some (.int r)) Mf) args s 0 0 (fun q => b ≤ q)) 1 b D cy 0 0 M 0 [(0, .ref (b + v0))] []
  refine x_aload_n F dX10_room_0 rfl 0 rfl ?_
  obtain ⟨x1, c1, h⟩ := bdS h
  refine x_getR F (ci := 10) (C := RX10) (T := TX10) (N := 19) rfl ⟨by decide, rfl⟩ inU10 11 (by decide) (fun _ _ _ => rfl) wl_643 c1 dX10_room_1 ?_
  refine x_aload_n F dX10_room_4 rfl 0 rfl ?_
  obtain ⟨x5, c5, h⟩ := bdS h
  refine x_getR F (ci := 10) (C := RX10) (T := TX10) (N := 19) rfl ⟨by decide, rfl⟩ inU10 3 (by decide) (fun _ _ _ => rfl) wl_622 c5 dX10_room_5 ?_
  obtain ⟨k8, h⟩ := gdS h
  obtain ⟨⟨x8, M8⟩, c8, h⟩ := bdS h
  dsimp only at h
  refine x_callV F (As := [.ref (b + x5)]) (rest := []) (res := (some (.int x8))) (ci := 6) (q := (RX6, TX6, 5)) rfl (by decide) k8 (k_X6_fewestBands l b D cy N x1 x5 M _ _ c8) wl_794 wl_795 wl_796 wl_402 wl_403 hd_X6_fewestBands ⟨Nat.le_of_ble_eq_true rfl, Nat.le_of_ble_eq_true rfl⟩ ⟨Nat.le_refl _, Nat.le_refl _⟩ (Nat.le_of_ble_eq_true rfl) rfl dX10_room_8 ?_
  obtain ⟨rfl, rfl⟩ := retS h
  exact x_iret F hr hl dX10_room_11
theorem dX10_roomOf_0 : decode cX10_roomOf 0 = .ok (.iload_n 1, 1) := by decide +kernel
theorem dX10_roomOf_1 : decode cX10_roomOf 1 = .ok (.ifCond .lt 9, 3) := by decide +kernel
theorem dX10_roomOf_4 : decode cX10_roomOf 4 = .ok (.iload_n 1, 1) := by decide +kernel
theorem dX10_roomOf_5 : decode cX10_roomOf 5 = .ok (.bipush 6, 2) := by decide +kernel
theorem dX10_roomOf_7 : decode cX10_roomOf 7 = .ok (.if_icmp .lt 7, 3) := by decide +kernel
theorem dX10_roomOf_10 : decode cX10_roomOf 10 = .ok (.iconst (-1), 1) := by decide +kernel
theorem dX10_roomOf_11 : decode cX10_roomOf 11 = .ok (.goto 12, 3) := by decide +kernel
theorem dX10_roomOf_14 : decode cX10_roomOf 14 = .ok (.aload_n 0, 1) := by decide +kernel
theorem dX10_roomOf_15 : decode cX10_roomOf 15 = .ok (.getfield 79, 3) := by decide +kernel
theorem dX10_roomOf_18 : decode cX10_roomOf 18 = .ok (.getfield 330, 3) := by decide +kernel
theorem dX10_roomOf_21 : decode cX10_roomOf 21 = .ok (.iload_n 1, 1) := by decide +kernel
theorem dX10_roomOf_22 : decode cX10_roomOf 22 = .ok (.iaload, 1) := by decide +kernel
theorem dX10_roomOf_23 : decode cX10_roomOf 23 = .ok (.ireturn, 1) := by decide +kernel
def fX10_roomOf (N : Nat) (v0 : Nat) (v1 : Int32) (M : Mem) : Option (Int32 × Mem) := (if v1 < 0 then some ((-1), M) else (if v1 < 6 then ((fR M 10 v0 11).bind fun x15 => ((fR M 6 x15 3).bind fun x18 => ((aI M x18 v1).bind fun x22 => some (x22, M)))) else some ((-1), M)))
set_option maxHeartbeats 4000000 in
set_option maxRecDepth 100000 in
theorem k_X10_roomOf (l : Launch) (b : Nat) (D : va_G) (cy : Nat → ClassId) (N : Nat) (v0 : Nat) (v1 : Int32) (M : Mem) (r : Int32) (Mf : Mem) (h : fX10_roomOf N v0 v1 M = some (r, Mf)) : Ct l yX10_roomOf cX10_roomOf 2 (some .int) 1 0 0 b D cy [.ref (b + v0), .int v1] M (some (.int r)) Mf := by
  refine Ct_of (own := RX10) (by decide) rfl (Nat.le_of_ble_eq_true rfl) ?_
  intro p e s m args below meth c F hr hl hmn
  unfold fX10_roomOf at h
  show X p l e ({ frames := 1, cells := 0, slots := 0, locals := 100 * 1 }) s m args below meth c (MQ below (Qm b D cy (some (.int r)) Mf) args s 0 0 (fun q => b ≤ q)) 2 b D cy 0 0 M 0 [(0, .ref (b + v0)), (1, .int v1)] []
  refine x_iload_n F dX10_roomOf_0 rfl 1 rfl ?_
  refine x_if_lt F (tgt := 10) dX10_roomOf_1 (by decide) (fun c1 => ?_) (fun c1 => ?_)
  · rw [if_pos c1] at h
    refine x_iconst F (v := (-1)) dX10_roomOf_10 (by decide) ?_
    refine x_goto F (tgt := 23) dX10_roomOf_11 (by decide) ?_
    obtain ⟨rfl, rfl⟩ := retS h
    exact x_iret F hr hl dX10_roomOf_23
  · rw [if_neg c1] at h
    refine x_iload_n F dX10_roomOf_4 rfl 1 rfl ?_
    refine x_bipush F (v := 6) dX10_roomOf_5 (by decide) ?_
    refine x_icmp_lt F (tgt := 14) dX10_roomOf_7 (by decide) (fun c7 => ?_) (fun c7 => ?_)
    · rw [if_pos c7] at h
      refine x_aload_n F dX10_roomOf_14 rfl 0 rfl ?_
      obtain ⟨x15, c15, h⟩ := bdS h
      refine x_getR F (ci := 10) (C := RX10) (T := TX10) (N := 19) rfl ⟨by decide, rfl⟩ inU10 11 (by decide) (fun _ _ _ => rfl) wl_643 c15 dX10_roomOf_15 ?_
      obtain ⟨x18, c18, h⟩ := bdS h
      refine x_getR F (ci := 6) (C := RX6) (T := TX6) (N := 5) rfl ⟨by decide, rfl⟩ inU6 3 (by decide) (fun _ _ _ => rfl) wl_799 c18 dX10_roomOf_18 ?_
      refine x_iload_n F dX10_roomOf_21 rfl 1 rfl ?_
      obtain ⟨x22, c22, h⟩ := bdS h
      refine x_aI F c22 dX10_roomOf_22 ?_
      obtain ⟨rfl, rfl⟩ := retS h
      exact x_iret F hr hl dX10_roomOf_23
    · rw [if_neg c7] at h
      refine x_iconst F (v := (-1)) dX10_roomOf_10 (by decide) ?_
      refine x_goto F (tgt := 23) dX10_roomOf_11 (by decide) ?_
      obtain ⟨rfl, rfl⟩ := retS h
      exact x_iret F hr hl dX10_roomOf_23
theorem hd_X8_signsToLose : (yX8_signsToLose).cls = RX8 ∧ (yX8_signsToLose).cls ≠ "java/lang/invoke/MethodHandle" ∧ (yX8_signsToLose).cls ≠ "java/lang/invoke/VarHandle" ∧ (parseMethodDescriptor (yX8_signsToLose).desc).map (fun d => d.parameters.length) = some 1 := by decide +kernel
theorem dX10_bears_0 : decode cX10_bears 0 = .ok (.aload_n 0, 1) := by decide +kernel
theorem dX10_bears_1 : decode cX10_bears 1 = .ok (.getfield 19, 3) := by decide +kernel
theorem dX10_bears_4 : decode cX10_bears 4 = .ok (.iload_n 1, 1) := by decide +kernel
theorem dX10_bears_5 : decode cX10_bears 5 = .ok (.invokevirtual 185, 3) := by decide +kernel
theorem dX10_bears_8 : decode cX10_bears 8 = .ok (.ifCond .eq 14, 3) := by decide +kernel
theorem dX10_bears_11 : decode cX10_bears 11 = .ok (.aload_n 0, 1) := by decide +kernel
theorem dX10_bears_12 : decode cX10_bears 12 = .ok (.getfield 19, 3) := by decide +kernel
theorem dX10_bears_15 : decode cX10_bears 15 = .ok (.iload_n 1, 1) := by decide +kernel
theorem dX10_bears_16 : decode cX10_bears 16 = .ok (.invokevirtual 333, 3) := by decide +kernel
theorem dX10_bears_19 : decode cX10_bears 19 = .ok (.goto 4, 3) := by decide +kernel
theorem dX10_bears_22 : decode cX10_bears 22 = .ok (.iconst (-1), 1) := by decide +kernel
theorem dX10_bears_23 : decode cX10_bears 23 = .ok (.ireturn, 1) := by decide +kernel
def fX10_bears (N : Nat) (v0 : Nat) (v1 : Int32) (M : Mem) : Option (Int32 × Mem) := ((fR M 10 v0 1).bind fun x1 => (if mK M x1 = 9 then ((fX8_hasLaw N x1 v1 M).bind fun (x5, M5) => (if x5 = 0 then some ((-1), M5) else ((fR M5 10 v0 1).bind fun x12 => (if mK M5 x12 = 9 then ((fX8_signsToLose N x12 v1 M5).bind fun (x16, M16) => some (x16, M16)) else none)))) else none))
set_option maxHeartbeats 4000000 in
set_option maxRecDepth 100000 in
theorem k_X10_bears (l : Launch) (b : Nat) (D : va_G) (cy : Nat → ClassId) (N : Nat) (v0 : Nat) (v1 : Int32) (M : Mem) (r : Int32) (Mf : Mem) (h : fX10_bears N v0 v1 M = some (r, Mf)) : Ct l yX10_bears cX10_bears 2 (some .int) 4 0 0 b D cy [.ref (b + v0), .int v1] M (some (.int r)) Mf := by
  refine Ct_of (own := RX10) (by decide) rfl (Nat.le_of_ble_eq_true rfl) ?_
  intro p e s m args below meth c F hr hl hmn
  unfold fX10_bears at h
  show X p l e ({ frames := 4, cells := 0, slots := 0, locals := 100 * 4 }) s m args below meth c (MQ below (Qm b D cy (some (.int r)) Mf) args s 0 0 (fun q => b ≤ q)) 2 b D cy 0 0 M 0 [(0, .ref (b + v0)), (1, .int v1)] []
  refine x_aload_n F dX10_bears_0 rfl 0 rfl ?_
  obtain ⟨x1, c1, h⟩ := bdS h
  refine x_getR F (ci := 10) (C := RX10) (T := TX10) (N := 19) rfl ⟨by decide, rfl⟩ inU10 1 (by decide) (fun _ _ _ => rfl) wl_619 c1 dX10_bears_1 ?_
  refine x_iload_n F dX10_bears_4 rfl 1 rfl ?_
  obtain ⟨k5, h⟩ := gdS h
  obtain ⟨⟨x5, M5⟩, c5, h⟩ := bdS h
  dsimp only at h
  refine x_callV F (As := [.int v1]) (rest := []) (res := (some (.int x5))) (ci := 8) (q := (RX8, TX8, 17)) rfl (by decide) k5 (k_X8_hasLaw l b D cy N x1 v1 M _ _ c5) wl_714 wl_465 wl_466 wl_75 wl_456 hd_X8_hasLaw ⟨Nat.le_of_ble_eq_true rfl, Nat.le_of_ble_eq_true rfl⟩ ⟨Nat.le_refl _, Nat.le_refl _⟩ (Nat.le_of_ble_eq_true rfl) rfl dX10_bears_5 ?_
  refine x_if_eq F (tgt := 22) dX10_bears_8 (by decide) (fun c8 => ?_) (fun c8 => ?_)
  · rw [if_pos c8] at h
    refine x_iconst F (v := (-1)) dX10_bears_22 (by decide) ?_
    obtain ⟨rfl, rfl⟩ := retS h
    exact x_iret F hr hl dX10_bears_23
  · rw [if_neg c8] at h
    refine x_aload_n F dX10_bears_11 rfl 0 rfl ?_
    obtain ⟨x12, c12, h⟩ := bdS h
    refine x_getR F (ci := 10) (C := RX10) (T := TX10) (N := 19) rfl ⟨by decide, rfl⟩ inU10 1 (by decide) (fun _ _ _ => rfl) wl_619 c12 dX10_bears_12 ?_
    refine x_iload_n F dX10_bears_15 rfl 1 rfl ?_
    obtain ⟨k16, h⟩ := gdS h
    obtain ⟨⟨x16, M16⟩, c16, h⟩ := bdS h
    dsimp only at h
    refine x_callV F (As := [.int v1]) (rest := []) (res := (some (.int x16))) (ci := 8) (q := (RX8, TX8, 17)) rfl (by decide) k16 (k_X8_signsToLose l b D cy N x12 v1 M5 _ _ c16) wl_800 wl_801 wl_802 wl_75 wl_556 hd_X8_signsToLose ⟨Nat.le_of_ble_eq_true rfl, Nat.le_of_ble_eq_true rfl⟩ ⟨Nat.le_refl _, Nat.le_refl _⟩ (Nat.le_of_ble_eq_true rfl) rfl dX10_bears_16 ?_
    refine x_goto F (tgt := 23) dX10_bears_19 (by decide) ?_
    obtain ⟨rfl, rfl⟩ := retS h
    exact x_iret F hr hl dX10_bears_23
theorem dX10_fullest_0 : decode cX10_fullest 0 = .ok (.iconst (-1), 1) := by decide +kernel
theorem dX10_fullest_1 : decode cX10_fullest 1 = .ok (.istore_n 1, 1) := by decide +kernel
theorem dX10_fullest_2 : decode cX10_fullest 2 = .ok (.iconst 0, 1) := by decide +kernel
theorem dX10_fullest_3 : decode cX10_fullest 3 = .ok (.istore_n 2, 1) := by decide +kernel
theorem dX10_fullest_4 : decode cX10_fullest 4 = .ok (.iload_n 2, 1) := by decide +kernel
theorem dX10_fullest_5 : decode cX10_fullest 5 = .ok (.aload_n 0, 1) := by decide +kernel
theorem dX10_fullest_6 : decode cX10_fullest 6 = .ok (.getfield 19, 3) := by decide +kernel
theorem dX10_fullest_9 : decode cX10_fullest 9 = .ok (.getfield 241, 3) := by decide +kernel
theorem dX10_fullest_12 : decode cX10_fullest 12 = .ok (.if_icmp .ge 37, 3) := by decide +kernel
theorem dX10_fullest_15 : decode cX10_fullest 15 = .ok (.iload_n 1, 1) := by decide +kernel
theorem dX10_fullest_16 : decode cX10_fullest 16 = .ok (.iconst (-1), 1) := by decide +kernel
theorem dX10_fullest_17 : decode cX10_fullest 17 = .ok (.if_icmp .eq 24, 3) := by decide +kernel
theorem dX10_fullest_20 : decode cX10_fullest 20 = .ok (.aload_n 0, 1) := by decide +kernel
theorem dX10_fullest_21 : decode cX10_fullest 21 = .ok (.getfield 31, 3) := by decide +kernel
theorem dX10_fullest_24 : decode cX10_fullest 24 = .ok (.getfield 159, 3) := by decide +kernel
theorem dX10_fullest_27 : decode cX10_fullest 27 = .ok (.iload_n 2, 1) := by decide +kernel
theorem dX10_fullest_28 : decode cX10_fullest 28 = .ok (.iaload, 1) := by decide +kernel
theorem dX10_fullest_29 : decode cX10_fullest 29 = .ok (.aload_n 0, 1) := by decide +kernel
theorem dX10_fullest_30 : decode cX10_fullest 30 = .ok (.getfield 31, 3) := by decide +kernel
theorem dX10_fullest_33 : decode cX10_fullest 33 = .ok (.getfield 159, 3) := by decide +kernel
theorem dX10_fullest_36 : decode cX10_fullest 36 = .ok (.iload_n 1, 1) := by decide +kernel
theorem dX10_fullest_37 : decode cX10_fullest 37 = .ok (.iaload, 1) := by decide +kernel
theorem dX10_fullest_38 : decode cX10_fullest 38 = .ok (.if_icmp .le 5, 3) := by decide +kernel
theorem dX10_fullest_41 : decode cX10_fullest 41 = .ok (.iload_n 2, 1) := by decide +kernel
theorem dX10_fullest_42 : decode cX10_fullest 42 = .ok (.istore_n 1, 1) := by decide +kernel
theorem dX10_fullest_43 : decode cX10_fullest 43 = .ok (.iinc 2 1, 3) := by decide +kernel
theorem dX10_fullest_46 : decode cX10_fullest 46 = .ok (.goto (-42), 3) := by decide +kernel
theorem dX10_fullest_49 : decode cX10_fullest 49 = .ok (.iload_n 1, 1) := by decide +kernel
theorem dX10_fullest_50 : decode cX10_fullest 50 = .ok (.ireturn, 1) := by decide +kernel
def fX10_fullest_L4 (N : Nat) (v0 : Nat) : Nat → Int32 → Int32 → Mem → Option (Int32 × Mem)
  | 0, _, _, _ => none
  | n + 1, v1, v2, M => ((fR M 10 v0 1).bind fun x6 => ((fI M 8 x6 0).bind fun x9 => (if x9 ≤ v2 then some (v1, M) else (if v1 = ((-1)) then fX10_fullest_L4 N v0 n v2 (v2 + 1) M else ((fR M 10 v0 3).bind fun x21 => ((fR M 0 x21 3).bind fun x24 => ((aI M x24 v2).bind fun x28 => ((fR M 10 v0 3).bind fun x30 => ((fR M 0 x30 3).bind fun x33 => ((aI M x33 v1).bind fun x37 => (if x28 ≤ x37 then fX10_fullest_L4 N v0 n v1 (v2 + 1) M else fX10_fullest_L4 N v0 n v2 (v2 + 1) M)))))))))))
def fX10_fullest (N : Nat) (v0 : Nat) (M : Mem) : Option (Int32 × Mem) := ((fX10_fullest_L4 N v0 N ((-1)) 0 M).bind fun o4 => some o4)
set_option maxHeartbeats 4000000 in
set_option maxRecDepth 100000 in
theorem k_X10_fullest (l : Launch) (b : Nat) (D : va_G) (cy : Nat → ClassId) (N : Nat) (v0 : Nat) (M : Mem) (r : Int32) (Mf : Mem) (h : fX10_fullest N v0 M = some (r, Mf)) : Ct l yX10_fullest cX10_fullest 3 (some .int) 1 0 0 b D cy [.ref (b + v0)] M (some (.int r)) Mf := by
  refine Ct_of (own := RX10) (by decide) rfl (Nat.le_of_ble_eq_true rfl) ?_
  intro p e s m args below meth c F hr hl hmn
  unfold fX10_fullest at h
  show X p l e ({ frames := 1, cells := 0, slots := 0, locals := 100 * 1 }) s m args below meth c (MQ below (Qm b D cy (some (.int r)) Mf) args s 0 0 (fun q => b ≤ q)) 3 b D cy 0 0 M 0 [(0, .ref (b + v0))] []
  refine x_iconst F (v := (-1)) dX10_fullest_0 (by decide) ?_
  refine x_istore_n F (lv' := [(1, .int ((-1))), (0, .ref (b + v0))]) dX10_fullest_1 rfl (by decide) rfl ?_
  refine x_iconst F (v := 0) dX10_fullest_2 (by decide) ?_
  refine x_istore_n F (lv' := [(2, .int 0), (1, .int ((-1))), (0, .ref (b + v0))]) dX10_fullest_3 rfl (by decide) rfl ?_
  have L4 : ∀ (v0 : Nat) (n : Nat) (v1 : Int32) (v2 : Int32) (M : Mem) (o : Int32 × Mem), fX10_fullest_L4 N v0 n v1 v2 M = some o → (∀ (r' : Int32) (M' : Mem), o = (r', M') → r' = r ∧ M' = Mf) → X p l e ({ frames := 1, cells := 0, slots := 0, locals := 100 * 1 }) s m args below meth c (MQ below (Qm b D cy (some (.int r)) Mf) args s 0 0 (fun q => b ≤ q)) 3 b D cy 0 0 M 4 [(0, .ref (b + v0)), (1, .int v1), (2, .int v2)] [] := by
    intro v0 n
    induction n with
    | zero => intro v1 v2 M o h; exact absurd h (by rw [fX10_fullest_L4]; exact fun z => by cases z)
    | succ n ih =>
      intro v1 v2 M o h hR
      rw [fX10_fullest_L4] at h
      refine x_iload_n F dX10_fullest_4 rfl 2 rfl ?_
      refine x_aload_n F dX10_fullest_5 rfl 0 rfl ?_
      obtain ⟨x6, c6, h⟩ := bdS h
      refine x_getR F (ci := 10) (C := RX10) (T := TX10) (N := 19) rfl ⟨by decide, rfl⟩ inU10 1 (by decide) (fun _ _ _ => rfl) wl_619 c6 dX10_fullest_6 ?_
      obtain ⟨x9, c9, h⟩ := bdS h
      refine x_getI F (ci := 8) (C := RX8) (T := TX8) (N := 17) rfl ⟨by decide, rfl⟩ inU8 0 (by decide) (fun _ _ _ => rfl) wl_742 c9 dX10_fullest_9 ?_
      refine x_icmp_ge F (tgt := 49) dX10_fullest_12 (by decide) (fun c12 => ?_) (fun c12 => ?_)
      · rw [if_pos c12] at h
        refine x_iload_n F dX10_fullest_49 rfl 1 rfl ?_
        obtain rfl := Option.some.inj h
        obtain ⟨rfl, rfl⟩ := hR _ _ rfl
        exact x_iret F hr hl dX10_fullest_50
      · rw [if_neg c12] at h
        refine x_iload_n F dX10_fullest_15 rfl 1 rfl ?_
        refine x_iconst F (v := (-1)) dX10_fullest_16 (by decide) ?_
        refine x_icmp_eq F (tgt := 41) dX10_fullest_17 (by decide) (fun c17 => ?_) (fun c17 => ?_)
        · rw [if_pos c17] at h
          refine x_iload_n F dX10_fullest_41 rfl 2 rfl ?_
          refine x_istore_n F (lv' := [(1, .int v2), (0, .ref (b + v0)), (2, .int v2)]) dX10_fullest_42 rfl (by decide) rfl ?_
          refine x_iinc F (v := v2 + 1) (lv' := [(2, .int (v2 + 1)), (1, .int v2), (0, .ref (b + v0))]) dX10_fullest_43 2 rfl rfl (by decide) rfl ?_
          refine x_goto F (tgt := 4) dX10_fullest_46 (by decide) ?_
          refine x_sub [2, 1, 0] rfl ?_
          exact ih v2 (v2 + 1) M o h hR
        · rw [if_neg c17] at h
          refine x_aload_n F dX10_fullest_20 rfl 0 rfl ?_
          obtain ⟨x21, c21, h⟩ := bdS h
          refine x_getR F (ci := 10) (C := RX10) (T := TX10) (N := 19) rfl ⟨by decide, rfl⟩ inU10 3 (by decide) (fun _ _ _ => rfl) wl_622 c21 dX10_fullest_21 ?_
          obtain ⟨x24, c24, h⟩ := bdS h
          refine x_getR F (ci := 0) (C := RX0) (T := TX0) (N := 12) rfl ⟨by decide, rfl⟩ inU0 3 (by decide) (fun _ _ _ => rfl) wl_701 c24 dX10_fullest_24 ?_
          refine x_iload_n F dX10_fullest_27 rfl 2 rfl ?_
          obtain ⟨x28, c28, h⟩ := bdS h
          refine x_aI F c28 dX10_fullest_28 ?_
          refine x_aload_n F dX10_fullest_29 rfl 0 rfl ?_
          obtain ⟨x30, c30, h⟩ := bdS h
          refine x_getR F (ci := 10) (C := RX10) (T := TX10) (N := 19) rfl ⟨by decide, rfl⟩ inU10 3 (by decide) (fun _ _ _ => rfl) wl_622 c30 dX10_fullest_30 ?_
          obtain ⟨x33, c33, h⟩ := bdS h
          refine x_getR F (ci := 0) (C := RX0) (T := TX0) (N := 12) rfl ⟨by decide, rfl⟩ inU0 3 (by decide) (fun _ _ _ => rfl) wl_701 c33 dX10_fullest_33 ?_
          refine x_iload_n F dX10_fullest_36 rfl 1 rfl ?_
          obtain ⟨x37, c37, h⟩ := bdS h
          refine x_aI F c37 dX10_fullest_37 ?_
          refine x_icmp_le F (tgt := 43) dX10_fullest_38 (by decide) (fun c38 => ?_) (fun c38 => ?_)
          · rw [if_pos c38] at h
            refine x_iinc F (v := v2 + 1) (lv' := [(2, .int (v2 + 1)), (0, .ref (b + v0)), (1, .int v1)]) dX10_fullest_43 2 rfl rfl (by decide) rfl ?_
            refine x_goto F (tgt := 4) dX10_fullest_46 (by decide) ?_
            refine x_sub [1, 2, 0] rfl ?_
            exact ih v1 (v2 + 1) M o h hR
          · rw [if_neg c38] at h
            refine x_iload_n F dX10_fullest_41 rfl 2 rfl ?_
            refine x_istore_n F (lv' := [(1, .int v2), (0, .ref (b + v0)), (2, .int v2)]) dX10_fullest_42 rfl (by decide) rfl ?_
            refine x_iinc F (v := v2 + 1) (lv' := [(2, .int (v2 + 1)), (1, .int v2), (0, .ref (b + v0))]) dX10_fullest_43 2 rfl rfl (by decide) rfl ?_
            refine x_goto F (tgt := 4) dX10_fullest_46 (by decide) ?_
            refine x_sub [2, 1, 0] rfl ?_
            exact ih v2 (v2 + 1) M o h hR
  obtain ⟨o4, h4, h⟩ := bdS h
  refine x_sub [2, 1, 0] rfl ?_
  refine L4 v0 N ((-1)) 0 M o4 h4 (fun r' M' e => ?_)
  · subst e
    try dsimp only at h
    obtain ⟨rfl, rfl⟩ := retS h; exact ⟨rfl, rfl⟩
theorem dX10_addRowByte_0 : decode cX10_addRowByte 0 = .ok (.aload_n 0, 1) := by decide +kernel
theorem dX10_addRowByte_1 : decode cX10_addRowByte 1 = .ok (.getfield 94, 3) := by decide +kernel
theorem dX10_addRowByte_4 : decode cX10_addRowByte 4 = .ok (.aload_n 0, 1) := by decide +kernel
theorem dX10_addRowByte_5 : decode cX10_addRowByte 5 = .ok (.getfield 90, 3) := by decide +kernel
theorem dX10_addRowByte_8 : decode cX10_addRowByte 8 = .ok (.arraylength, 1) := by decide +kernel
theorem dX10_addRowByte_9 : decode cX10_addRowByte 9 = .ok (.if_icmp .ge 23, 3) := by decide +kernel
theorem dX10_addRowByte_12 : decode cX10_addRowByte 12 = .ok (.aload_n 0, 1) := by decide +kernel
theorem dX10_addRowByte_13 : decode cX10_addRowByte 13 = .ok (.getfield 90, 3) := by decide +kernel
theorem dX10_addRowByte_16 : decode cX10_addRowByte 16 = .ok (.aload_n 0, 1) := by decide +kernel
theorem dX10_addRowByte_17 : decode cX10_addRowByte 17 = .ok (.getfield 94, 3) := by decide +kernel
theorem dX10_addRowByte_20 : decode cX10_addRowByte 20 = .ok (.iload_n 1, 1) := by decide +kernel
theorem dX10_addRowByte_21 : decode cX10_addRowByte 21 = .ok (.iastore, 1) := by decide +kernel
theorem dX10_addRowByte_22 : decode cX10_addRowByte 22 = .ok (.aload_n 0, 1) := by decide +kernel
theorem dX10_addRowByte_23 : decode cX10_addRowByte 23 = .ok (.dup, 1) := by decide +kernel
theorem dX10_addRowByte_24 : decode cX10_addRowByte 24 = .ok (.getfield 94, 3) := by decide +kernel
theorem dX10_addRowByte_27 : decode cX10_addRowByte 27 = .ok (.iconst 1, 1) := by decide +kernel
theorem dX10_addRowByte_28 : decode cX10_addRowByte 28 = .ok (.iadd, 1) := by decide +kernel
theorem dX10_addRowByte_29 : decode cX10_addRowByte 29 = .ok (.putfield 94, 3) := by decide +kernel
theorem dX10_addRowByte_32 : decode cX10_addRowByte 32 = .ok (.return_, 1) := by decide +kernel
def fX10_addRowByte (N : Nat) (v0 : Nat) (v1 : Int32) (M : Mem) : Option (Unit × Mem) := ((fI M 10 v0 14).bind fun x1 => ((fR M 10 v0 13).bind fun x5 => ((nA M x5).bind fun x8 => (if x8 ≤ x1 then some ((), M) else ((fR M 10 v0 13).bind fun x13 => ((fI M 10 v0 14).bind fun x17 => ((tI M x13 x17 v1).bind fun M21 => ((fI M21 10 v0 14).bind fun x24 => ((pI M21 10 v0 14 (x24 + 1)).bind fun M29 => some ((), M29))))))))))
set_option maxHeartbeats 4000000 in
set_option maxRecDepth 100000 in
theorem k_X10_addRowByte (l : Launch) (b : Nat) (D : va_G) (cy : Nat → ClassId) (N : Nat) (v0 : Nat) (v1 : Int32) (M : Mem) (r : Unit) (Mf : Mem) (h : fX10_addRowByte N v0 v1 M = some (r, Mf)) : Ct l yX10_addRowByte cX10_addRowByte 2 none 1 0 0 b D cy [.ref (b + v0), .int v1] M none Mf := by
  refine Ct_of (own := RX10) (by decide) rfl (Nat.le_of_ble_eq_true rfl) ?_
  intro p e s m args below meth c F hr hl hmn
  unfold fX10_addRowByte at h
  show X p l e ({ frames := 1, cells := 0, slots := 0, locals := 100 * 1 }) s m args below meth c (MQ below (Qm b D cy none Mf) args s 0 0 (fun q => b ≤ q)) 2 b D cy 0 0 M 0 [(0, .ref (b + v0)), (1, .int v1)] []
  refine x_aload_n F dX10_addRowByte_0 rfl 0 rfl ?_
  obtain ⟨x1, c1, h⟩ := bdS h
  refine x_getI F (ci := 10) (C := RX10) (T := TX10) (N := 19) rfl ⟨by decide, rfl⟩ inU10 14 (by decide) (fun _ _ _ => rfl) wl_648 c1 dX10_addRowByte_1 ?_
  refine x_aload_n F dX10_addRowByte_4 rfl 0 rfl ?_
  obtain ⟨x5, c5, h⟩ := bdS h
  refine x_getR F (ci := 10) (C := RX10) (T := TX10) (N := 19) rfl ⟨by decide, rfl⟩ inU10 13 (by decide) (fun _ _ _ => rfl) wl_647 c5 dX10_addRowByte_5 ?_
  obtain ⟨x8, c8, h⟩ := bdS h
  refine x_nA F c8 dX10_addRowByte_8 ?_
  refine x_icmp_ge F (tgt := 32) dX10_addRowByte_9 (by decide) (fun c9 => ?_) (fun c9 => ?_)
  · rw [if_pos c9] at h
    obtain ⟨rfl, rfl⟩ := retS h
    exact x_vret F hr hl dX10_addRowByte_32
  · rw [if_neg c9] at h
    refine x_aload_n F dX10_addRowByte_12 rfl 0 rfl ?_
    obtain ⟨x13, c13, h⟩ := bdS h
    refine x_getR F (ci := 10) (C := RX10) (T := TX10) (N := 19) rfl ⟨by decide, rfl⟩ inU10 13 (by decide) (fun _ _ _ => rfl) wl_647 c13 dX10_addRowByte_13 ?_
    refine x_aload_n F dX10_addRowByte_16 rfl 0 rfl ?_
    obtain ⟨x17, c17, h⟩ := bdS h
    refine x_getI F (ci := 10) (C := RX10) (T := TX10) (N := 19) rfl ⟨by decide, rfl⟩ inU10 14 (by decide) (fun _ _ _ => rfl) wl_648 c17 dX10_addRowByte_17 ?_
    refine x_iload_n F dX10_addRowByte_20 rfl 1 rfl ?_
    obtain ⟨M21, c21, h⟩ := bdS h
    refine x_tI F c21 dX10_addRowByte_21 ?_
    refine x_aload_n F dX10_addRowByte_22 rfl 0 rfl ?_
    refine x_dup F dX10_addRowByte_23 rfl ?_
    obtain ⟨x24, c24, h⟩ := bdS h
    refine x_getI F (ci := 10) (C := RX10) (T := TX10) (N := 19) rfl ⟨by decide, rfl⟩ inU10 14 (by decide) (fun _ _ _ => rfl) wl_648 c24 dX10_addRowByte_24 ?_
    refine x_iconst F (v := 1) dX10_addRowByte_27 (by decide) ?_
    refine x_iadd F dX10_addRowByte_28 ?_
    obtain ⟨M29, c29, h⟩ := bdS h
    refine x_putI F (ci := 10) (C := RX10) (T := TX10) (N := 19) rfl ⟨by decide, rfl⟩ inU10 tyX10_ok nmX10 14 (by decide) rfl rfl wl_648 c29 dX10_addRowByte_29 ?_
    obtain ⟨rfl, rfl⟩ := retS h
    exact x_vret F hr hl dX10_addRowByte_32
theorem hd_X8_putName : (yX8_putName).cls = RX8 ∧ (yX8_putName).cls ≠ "java/lang/invoke/MethodHandle" ∧ (yX8_putName).cls ≠ "java/lang/invoke/VarHandle" ∧ (parseMethodDescriptor (yX8_putName).desc).map (fun d => d.parameters.length) = some 2 := by decide +kernel
theorem hd_X10_addRowByte : (yX10_addRowByte).cls = RX10 ∧ (yX10_addRowByte).cls ≠ "java/lang/invoke/MethodHandle" ∧ (yX10_addRowByte).cls ≠ "java/lang/invoke/VarHandle" ∧ (parseMethodDescriptor (yX10_addRowByte).desc).map (fun d => d.parameters.length) = some 1 := by decide +kernel
theorem dX10_row_0 : decode cX10_row 0 = .ok (.aload_n 0, 1) := by decide +kernel
theorem dX10_row_1 : decode cX10_row 1 = .ok (.getfield 19, 3) := by decide +kernel
theorem dX10_row_4 : decode cX10_row 4 = .ok (.iload_n 1, 1) := by decide +kernel
theorem dX10_row_5 : decode cX10_row 5 = .ok (.invokevirtual 142, 3) := by decide +kernel
theorem dX10_row_8 : decode cX10_row 8 = .ok (.ifCond .ne 5, 3) := by decide +kernel
theorem dX10_row_11 : decode cX10_row 11 = .ok (.iconst (-1), 1) := by decide +kernel
theorem dX10_row_12 : decode cX10_row 12 = .ok (.ireturn, 1) := by decide +kernel
theorem dX10_row_13 : decode cX10_row 13 = .ok (.aload_n 0, 1) := by decide +kernel
theorem dX10_row_14 : decode cX10_row 14 = .ok (.aload_n 0, 1) := by decide +kernel
theorem dX10_row_15 : decode cX10_row 15 = .ok (.getfield 19, 3) := by decide +kernel
theorem dX10_row_18 : decode cX10_row 18 = .ok (.aload_n 0, 1) := by decide +kernel
theorem dX10_row_19 : decode cX10_row 19 = .ok (.getfield 19, 3) := by decide +kernel
theorem dX10_row_22 : decode cX10_row 22 = .ok (.getfield 336, 3) := by decide +kernel
theorem dX10_row_25 : decode cX10_row 25 = .ok (.iload_n 1, 1) := by decide +kernel
theorem dX10_row_26 : decode cX10_row 26 = .ok (.laload, 1) := by decide +kernel
theorem dX10_row_27 : decode cX10_row 27 = .ok (.aload_n 0, 1) := by decide +kernel
theorem dX10_row_28 : decode cX10_row 28 = .ok (.getfield 90, 3) := by decide +kernel
theorem dX10_row_31 : decode cX10_row 31 = .ok (.invokevirtual 340, 3) := by decide +kernel
theorem dX10_row_34 : decode cX10_row 34 = .ok (.putfield 94, 3) := by decide +kernel
theorem dX10_row_37 : decode cX10_row 37 = .ok (.aload_n 0, 1) := by decide +kernel
theorem dX10_row_38 : decode cX10_row 38 = .ok (.bipush 32, 2) := by decide +kernel
theorem dX10_row_40 : decode cX10_row 40 = .ok (.invokevirtual 344, 3) := by decide +kernel
theorem dX10_row_43 : decode cX10_row 43 = .ok (.iconst 0, 1) := by decide +kernel
theorem dX10_row_44 : decode cX10_row 44 = .ok (.istore_n 2, 1) := by decide +kernel
theorem dX10_row_45 : decode cX10_row 45 = .ok (.iload_n 2, 1) := by decide +kernel
theorem dX10_row_46 : decode cX10_row 46 = .ok (.aload_n 0, 1) := by decide +kernel
theorem dX10_row_47 : decode cX10_row 47 = .ok (.getfield 19, 3) := by decide +kernel
theorem dX10_row_50 : decode cX10_row 50 = .ok (.getfield 156, 3) := by decide +kernel
theorem dX10_row_53 : decode cX10_row 53 = .ok (.iload_n 1, 1) := by decide +kernel
theorem dX10_row_54 : decode cX10_row 54 = .ok (.iaload, 1) := by decide +kernel
theorem dX10_row_55 : decode cX10_row 55 = .ok (.if_icmp .ge 41, 3) := by decide +kernel
theorem dX10_row_58 : decode cX10_row 58 = .ok (.aload_n 0, 1) := by decide +kernel
theorem dX10_row_59 : decode cX10_row 59 = .ok (.getfield 31, 3) := by decide +kernel
theorem dX10_row_62 : decode cX10_row 62 = .ok (.getfield 175, 3) := by decide +kernel
theorem dX10_row_65 : decode cX10_row 65 = .ok (.iload_n 1, 1) := by decide +kernel
theorem dX10_row_66 : decode cX10_row 66 = .ok (.iload_n 2, 1) := by decide +kernel
theorem dX10_row_67 : decode cX10_row 67 = .ok (.invokestatic 178, 3) := by decide +kernel
theorem dX10_row_70 : decode cX10_row 70 = .ok (.iaload, 1) := by decide +kernel
theorem dX10_row_71 : decode cX10_row 71 = .ok (.istore_n 3, 1) := by decide +kernel
theorem dX10_row_72 : decode cX10_row 72 = .ok (.aload_n 0, 1) := by decide +kernel
theorem dX10_row_73 : decode cX10_row 73 = .ok (.iload_n 3, 1) := by decide +kernel
theorem dX10_row_74 : decode cX10_row 74 = .ok (.iconst (-1), 1) := by decide +kernel
theorem dX10_row_75 : decode cX10_row 75 = .ok (.if_icmp .ne 8, 3) := by decide +kernel
theorem dX10_row_78 : decode cX10_row 78 = .ok (.bipush 46, 2) := by decide +kernel
theorem dX10_row_80 : decode cX10_row 80 = .ok (.goto 7, 3) := by decide +kernel
theorem dX10_row_83 : decode cX10_row 83 = .ok (.bipush 48, 2) := by decide +kernel
theorem dX10_row_85 : decode cX10_row 85 = .ok (.iload_n 3, 1) := by decide +kernel
theorem dX10_row_86 : decode cX10_row 86 = .ok (.iadd, 1) := by decide +kernel
theorem dX10_row_87 : decode cX10_row 87 = .ok (.invokevirtual 344, 3) := by decide +kernel
theorem dX10_row_90 : decode cX10_row 90 = .ok (.iinc 2 1, 3) := by decide +kernel
theorem dX10_row_93 : decode cX10_row 93 = .ok (.goto (-48), 3) := by decide +kernel
theorem dX10_row_96 : decode cX10_row 96 = .ok (.aload_n 0, 1) := by decide +kernel
theorem dX10_row_97 : decode cX10_row 97 = .ok (.getfield 94, 3) := by decide +kernel
theorem dX10_row_100 : decode cX10_row 100 = .ok (.ireturn, 1) := by decide +kernel
def fX10_row_L45 (N : Nat) (v0 : Nat) (v1 : Int32) : Nat → Int32 → Mem → Option (Int32 × Mem)
  | 0, _, _ => none
  | n + 1, v2, M => ((fR M 10 v0 1).bind fun x47 => ((fR M 8 x47 3).bind fun x50 => ((aI M x50 v1).bind fun x54 => (if x54 ≤ v2 then ((fI M 10 v0 14).bind fun x97 => some (x97, M)) else ((fR M 10 v0 3).bind fun x59 => ((fR M 0 x59 1).bind fun x62 => ((fX10_placeIndex N v1 v2 M).bind fun (x67, M67) => ((aI M67 x62 x67).bind fun x70 => (if x70 = ((-1)) then (if mK M67 v0 = 11 then ((fX10_addRowByte N v0 46 M67).bind fun (u87, M87) => fX10_row_L45 N v0 v1 n (v2 + 1) M87) else none) else (if mK M67 v0 = 11 then ((fX10_addRowByte N v0 (48 + x70) M67).bind fun (u87, M87) => fX10_row_L45 N v0 v1 n (v2 + 1) M87) else none))))))))))
def fX10_row (N : Nat) (v0 : Nat) (v1 : Int32) (M : Mem) : Option (Int32 × Mem) := ((fR M 10 v0 1).bind fun x1 => (if mK M x1 = 9 then ((fX8_hasBand N x1 v1 M).bind fun (x5, M5) => (if x5 = 0 then some ((-1), M5) else ((fR M5 10 v0 1).bind fun x15 => ((fR M5 10 v0 1).bind fun x19 => ((fR M5 8 x19 1).bind fun x22 => ((aL M5 x22 v1).bind fun x26 => ((fR M5 10 v0 13).bind fun x28 => (if mK M5 x15 = 9 then ((fX8_putName N x15 x26 x28 M5).bind fun (x31, M31) => ((pI M31 10 v0 14 x31).bind fun M34 => (if mK M34 v0 = 11 then ((fX10_addRowByte N v0 32 M34).bind fun (u40, M40) => ((fX10_row_L45 N v0 v1 N 0 M40).bind fun o45 => some o45)) else none))) else none)))))))) else none))
set_option maxHeartbeats 4000000 in
set_option maxRecDepth 100000 in
theorem k_X10_row (l : Launch) (b : Nat) (D : va_G) (cy : Nat → ClassId) (N : Nat) (v0 : Nat) (v1 : Int32) (M : Mem) (r : Int32) (Mf : Mem) (h : fX10_row N v0 v1 M = some (r, Mf)) : Ct l yX10_row cX10_row 4 (some .int) 2 0 0 b D cy [.ref (b + v0), .int v1] M (some (.int r)) Mf := by
  refine Ct_of (own := RX10) (by decide) rfl (Nat.le_of_ble_eq_true rfl) ?_
  intro p e s m args below meth c F hr hl hmn
  unfold fX10_row at h
  show X p l e ({ frames := 2, cells := 0, slots := 0, locals := 100 * 2 }) s m args below meth c (MQ below (Qm b D cy (some (.int r)) Mf) args s 0 0 (fun q => b ≤ q)) 4 b D cy 0 0 M 0 [(0, .ref (b + v0)), (1, .int v1)] []
  refine x_aload_n F dX10_row_0 rfl 0 rfl ?_
  obtain ⟨x1, c1, h⟩ := bdS h
  refine x_getR F (ci := 10) (C := RX10) (T := TX10) (N := 19) rfl ⟨by decide, rfl⟩ inU10 1 (by decide) (fun _ _ _ => rfl) wl_619 c1 dX10_row_1 ?_
  refine x_iload_n F dX10_row_4 rfl 1 rfl ?_
  obtain ⟨k5, h⟩ := gdS h
  obtain ⟨⟨x5, M5⟩, c5, h⟩ := bdS h
  dsimp only at h
  refine x_callV F (As := [.int v1]) (rest := []) (res := (some (.int x5))) (ci := 8) (q := (RX8, TX8, 17)) rfl (by decide) k5 (k_X8_hasBand l b D cy N x1 v1 M _ _ c5) wl_703 wl_242 wl_243 wl_75 wl_237 hd_X8_hasBand ⟨Nat.le_of_ble_eq_true rfl, Nat.le_of_ble_eq_true rfl⟩ ⟨Nat.le_refl _, Nat.le_refl _⟩ (Nat.le_of_ble_eq_true rfl) rfl dX10_row_5 ?_
  refine x_if_ne F (tgt := 13) dX10_row_8 (by decide) (fun c8 => ?_) (fun c8 => ?_)
  · rw [if_neg c8] at h
    refine x_aload_n F dX10_row_13 rfl 0 rfl ?_
    refine x_aload_n F dX10_row_14 rfl 0 rfl ?_
    obtain ⟨x15, c15, h⟩ := bdS h
    refine x_getR F (ci := 10) (C := RX10) (T := TX10) (N := 19) rfl ⟨by decide, rfl⟩ inU10 1 (by decide) (fun _ _ _ => rfl) wl_619 c15 dX10_row_15 ?_
    refine x_aload_n F dX10_row_18 rfl 0 rfl ?_
    obtain ⟨x19, c19, h⟩ := bdS h
    refine x_getR F (ci := 10) (C := RX10) (T := TX10) (N := 19) rfl ⟨by decide, rfl⟩ inU10 1 (by decide) (fun _ _ _ => rfl) wl_619 c19 dX10_row_19 ?_
    obtain ⟨x22, c22, h⟩ := bdS h
    refine x_getR F (ci := 8) (C := RX8) (T := TX8) (N := 17) rfl ⟨by decide, rfl⟩ inU8 1 (by decide) (fun _ _ _ => rfl) wl_806 c22 dX10_row_22 ?_
    refine x_iload_n F dX10_row_25 rfl 1 rfl ?_
    obtain ⟨x26, c26, h⟩ := bdS h
    refine x_aL F c26 dX10_row_26 ?_
    refine x_aload_n F dX10_row_27 rfl 0 rfl ?_
    obtain ⟨x28, c28, h⟩ := bdS h
    refine x_getR F (ci := 10) (C := RX10) (T := TX10) (N := 19) rfl ⟨by decide, rfl⟩ inU10 13 (by decide) (fun _ _ _ => rfl) wl_647 c28 dX10_row_28 ?_
    obtain ⟨k31, h⟩ := gdS h
    obtain ⟨⟨x31, M31⟩, c31, h⟩ := bdS h
    dsimp only at h
    refine x_callV F (As := [.long x26, .ref (b + x28)]) (rest := [.ref (b + v0)]) (res := (some (.int x31))) (ci := 8) (q := (RX8, TX8, 17)) rfl (by decide) k31 (k_X8_putName l b D cy N x15 x26 x28 M5 _ _ c31) wl_807 wl_808 wl_809 wl_75 wl_551 hd_X8_putName ⟨Nat.le_of_ble_eq_true rfl, Nat.le_of_ble_eq_true rfl⟩ ⟨Nat.le_refl _, Nat.le_refl _⟩ (Nat.le_of_ble_eq_true rfl) rfl dX10_row_31 ?_
    obtain ⟨M34, c34, h⟩ := bdS h
    refine x_putI F (ci := 10) (C := RX10) (T := TX10) (N := 19) rfl ⟨by decide, rfl⟩ inU10 tyX10_ok nmX10 14 (by decide) rfl rfl wl_648 c34 dX10_row_34 ?_
    refine x_aload_n F dX10_row_37 rfl 0 rfl ?_
    refine x_bipush F (v := 32) dX10_row_38 (by decide) ?_
    obtain ⟨k40, h⟩ := gdS h
    obtain ⟨⟨u40, M40⟩, c40, h⟩ := bdS h
    dsimp only at h
    refine x_callV F (As := [.int 32]) (rest := []) (res := none) (ci := 10) (q := (RX10, TX10, 19)) rfl (by decide) k40 (k_X10_addRowByte l b D cy N v0 32 M34 _ _ c40) wl_810 wl_811 wl_812 wl_31 wl_805 hd_X10_addRowByte ⟨Nat.le_of_ble_eq_true rfl, Nat.le_of_ble_eq_true rfl⟩ ⟨Nat.le_refl _, Nat.le_refl _⟩ (Nat.le_of_ble_eq_true rfl) rfl dX10_row_40 ?_
    refine x_iconst F (v := 0) dX10_row_43 (by decide) ?_
    refine x_istore_n F (lv' := [(2, .int 0), (0, .ref (b + v0)), (1, .int v1)]) dX10_row_44 rfl (by decide) rfl ?_
    have L45 : ∀ (v0 : Nat) (v1 : Int32) (n : Nat) (v2 : Int32) (M : Mem) (o : Int32 × Mem), fX10_row_L45 N v0 v1 n v2 M = some o → (∀ (r' : Int32) (M' : Mem), o = (r', M') → r' = r ∧ M' = Mf) → X p l e ({ frames := 2, cells := 0, slots := 0, locals := 100 * 2 }) s m args below meth c (MQ below (Qm b D cy (some (.int r)) Mf) args s 0 0 (fun q => b ≤ q)) 4 b D cy 0 0 M 45 [(0, .ref (b + v0)), (1, .int v1), (2, .int v2)] [] := by
      intro v0 v1 n
      induction n with
      | zero => intro v2 M o h; exact absurd h (by rw [fX10_row_L45]; exact fun z => by cases z)
      | succ n ih =>
        intro v2 M o h hR
        rw [fX10_row_L45] at h
        refine x_iload_n F dX10_row_45 rfl 2 rfl ?_
        refine x_aload_n F dX10_row_46 rfl 0 rfl ?_
        obtain ⟨x47, c47, h⟩ := bdS h
        refine x_getR F (ci := 10) (C := RX10) (T := TX10) (N := 19) rfl ⟨by decide, rfl⟩ inU10 1 (by decide) (fun _ _ _ => rfl) wl_619 c47 dX10_row_47 ?_
        obtain ⟨x50, c50, h⟩ := bdS h
        refine x_getR F (ci := 8) (C := RX8) (T := TX8) (N := 17) rfl ⟨by decide, rfl⟩ inU8 3 (by decide) (fun _ _ _ => rfl) wl_700 c50 dX10_row_50 ?_
        refine x_iload_n F dX10_row_53 rfl 1 rfl ?_
        obtain ⟨x54, c54, h⟩ := bdS h
        refine x_aI F c54 dX10_row_54 ?_
        refine x_icmp_ge F (tgt := 96) dX10_row_55 (by decide) (fun c55 => ?_) (fun c55 => ?_)
        · rw [if_pos c55] at h
          refine x_aload_n F dX10_row_96 rfl 0 rfl ?_
          obtain ⟨x97, c97, h⟩ := bdS h
          refine x_getI F (ci := 10) (C := RX10) (T := TX10) (N := 19) rfl ⟨by decide, rfl⟩ inU10 14 (by decide) (fun _ _ _ => rfl) wl_648 c97 dX10_row_97 ?_
          obtain rfl := Option.some.inj h
          obtain ⟨rfl, rfl⟩ := hR _ _ rfl
          exact x_iret F hr hl dX10_row_100
        · rw [if_neg c55] at h
          refine x_aload_n F dX10_row_58 rfl 0 rfl ?_
          obtain ⟨x59, c59, h⟩ := bdS h
          refine x_getR F (ci := 10) (C := RX10) (T := TX10) (N := 19) rfl ⟨by decide, rfl⟩ inU10 3 (by decide) (fun _ _ _ => rfl) wl_622 c59 dX10_row_59 ?_
          obtain ⟨x62, c62, h⟩ := bdS h
          refine x_getR F (ci := 0) (C := RX0) (T := TX0) (N := 12) rfl ⟨by decide, rfl⟩ inU0 1 (by decide) (fun _ _ _ => rfl) wl_707 c62 dX10_row_62 ?_
          refine x_iload_n F dX10_row_65 rfl 1 rfl ?_
          refine x_iload_n F dX10_row_66 rfl 2 rfl ?_
          obtain ⟨⟨x67, M67⟩, c67, h⟩ := bdS h
          dsimp only at h
          refine x_callS F (As := [.int v1, .int v2]) (rest := [.ref (b + x62)]) (res := (some (.int x67))) (k_X10_placeIndex l b D cy N v1 v2 M _ _ c67) wl_709 wl_30 wl_31 wl_27 (hd_X10_placeIndex).2 ⟨Nat.le_of_ble_eq_true rfl, Nat.le_of_ble_eq_true rfl⟩ ⟨Nat.le_refl _, Nat.le_refl _⟩ (Nat.le_of_ble_eq_true rfl) rfl dX10_row_67 ?_
          obtain ⟨x70, c70, h⟩ := bdS h
          refine x_aI F c70 dX10_row_70 ?_
          refine x_istore_n F (lv' := [(3, .int x70), (0, .ref (b + v0)), (1, .int v1), (2, .int v2)]) dX10_row_71 rfl (by decide) rfl ?_
          refine x_aload_n F dX10_row_72 rfl 1 rfl ?_
          refine x_iload_n F dX10_row_73 rfl 0 rfl ?_
          refine x_iconst F (v := (-1)) dX10_row_74 (by decide) ?_
          refine x_icmp_ne F (tgt := 83) dX10_row_75 (by decide) (fun c75 => ?_) (fun c75 => ?_)
          · rw [if_neg c75] at h
            refine x_bipush F (v := 48) dX10_row_83 (by decide) ?_
            refine x_iload_n F dX10_row_85 rfl 0 rfl ?_
            refine x_iadd F dX10_row_86 ?_
            obtain ⟨k87, h⟩ := gdS h
            obtain ⟨⟨u87, M87⟩, c87, h⟩ := bdS h
            dsimp only at h
            refine x_callV F (As := [.int (48 + x70)]) (rest := []) (res := none) (ci := 10) (q := (RX10, TX10, 19)) rfl (by decide) k87 (k_X10_addRowByte l b D cy N v0 (48 + x70) M67 _ _ c87) wl_810 wl_811 wl_812 wl_31 wl_805 hd_X10_addRowByte ⟨Nat.le_of_ble_eq_true rfl, Nat.le_of_ble_eq_true rfl⟩ ⟨Nat.le_refl _, Nat.le_refl _⟩ (Nat.le_of_ble_eq_true rfl) rfl dX10_row_87 ?_
            refine x_iinc F (v := v2 + 1) (lv' := [(2, .int (v2 + 1)), (3, .int x70), (0, .ref (b + v0)), (1, .int v1)]) dX10_row_90 3 rfl rfl (by decide) rfl ?_
            refine x_goto F (tgt := 45) dX10_row_93 (by decide) ?_
            refine x_sub [2, 3, 0] rfl ?_
            exact ih (v2 + 1) M87 o h hR
          · rw [if_pos c75] at h
            refine x_bipush F (v := 46) dX10_row_78 (by decide) ?_
            refine x_goto F (tgt := 87) dX10_row_80 (by decide) ?_
            obtain ⟨k87, h⟩ := gdS h
            obtain ⟨⟨u87, M87⟩, c87, h⟩ := bdS h
            dsimp only at h
            refine x_callV F (As := [.int 46]) (rest := []) (res := none) (ci := 10) (q := (RX10, TX10, 19)) rfl (by decide) k87 (k_X10_addRowByte l b D cy N v0 46 M67 _ _ c87) wl_810 wl_811 wl_812 wl_31 wl_805 hd_X10_addRowByte ⟨Nat.le_of_ble_eq_true rfl, Nat.le_of_ble_eq_true rfl⟩ ⟨Nat.le_refl _, Nat.le_refl _⟩ (Nat.le_of_ble_eq_true rfl) rfl dX10_row_87 ?_
            refine x_iinc F (v := v2 + 1) (lv' := [(2, .int (v2 + 1)), (3, .int x70), (0, .ref (b + v0)), (1, .int v1)]) dX10_row_90 3 rfl rfl (by decide) rfl ?_
            refine x_goto F (tgt := 45) dX10_row_93 (by decide) ?_
            refine x_sub [2, 3, 0] rfl ?_
            exact ih (v2 + 1) M87 o h hR
    obtain ⟨o45, h45, h⟩ := bdS h
    refine x_sub [1, 2, 0] rfl ?_
    refine L45 v0 v1 N 0 M40 o45 h45 (fun r' M' e => ?_)
    · subst e
      try dsimp only at h
      obtain ⟨rfl, rfl⟩ := retS h; exact ⟨rfl, rfl⟩
  · rw [if_pos c8] at h
    refine x_iconst F (v := (-1)) dX10_row_11 (by decide) ?_
    obtain ⟨rfl, rfl⟩ := retS h
    exact x_iret F hr hl dX10_row_12
theorem dX10_byteAt_0 : decode cX10_byteAt 0 = .ok (.iload_n 1, 1) := by decide +kernel
theorem dX10_byteAt_1 : decode cX10_byteAt 1 = .ok (.ifCond .lt 11, 3) := by decide +kernel
theorem dX10_byteAt_4 : decode cX10_byteAt 4 = .ok (.iload_n 1, 1) := by decide +kernel
theorem dX10_byteAt_5 : decode cX10_byteAt 5 = .ok (.aload_n 0, 1) := by decide +kernel
theorem dX10_byteAt_6 : decode cX10_byteAt 6 = .ok (.getfield 94, 3) := by decide +kernel
theorem dX10_byteAt_9 : decode cX10_byteAt 9 = .ok (.if_icmp .lt 7, 3) := by decide +kernel
theorem dX10_byteAt_12 : decode cX10_byteAt 12 = .ok (.iconst (-1), 1) := by decide +kernel
theorem dX10_byteAt_13 : decode cX10_byteAt 13 = .ok (.goto 9, 3) := by decide +kernel
theorem dX10_byteAt_16 : decode cX10_byteAt 16 = .ok (.aload_n 0, 1) := by decide +kernel
theorem dX10_byteAt_17 : decode cX10_byteAt 17 = .ok (.getfield 90, 3) := by decide +kernel
theorem dX10_byteAt_20 : decode cX10_byteAt 20 = .ok (.iload_n 1, 1) := by decide +kernel
theorem dX10_byteAt_21 : decode cX10_byteAt 21 = .ok (.iaload, 1) := by decide +kernel
theorem dX10_byteAt_22 : decode cX10_byteAt 22 = .ok (.ireturn, 1) := by decide +kernel
def fX10_byteAt (N : Nat) (v0 : Nat) (v1 : Int32) (M : Mem) : Option (Int32 × Mem) := (if v1 < 0 then some ((-1), M) else ((fI M 10 v0 14).bind fun x6 => (if v1 < x6 then ((fR M 10 v0 13).bind fun x17 => ((aI M x17 v1).bind fun x21 => some (x21, M))) else some ((-1), M))))
set_option maxHeartbeats 4000000 in
set_option maxRecDepth 100000 in
theorem k_X10_byteAt (l : Launch) (b : Nat) (D : va_G) (cy : Nat → ClassId) (N : Nat) (v0 : Nat) (v1 : Int32) (M : Mem) (r : Int32) (Mf : Mem) (h : fX10_byteAt N v0 v1 M = some (r, Mf)) : Ct l yX10_byteAt cX10_byteAt 2 (some .int) 1 0 0 b D cy [.ref (b + v0), .int v1] M (some (.int r)) Mf := by
  refine Ct_of (own := RX10) (by decide) rfl (Nat.le_of_ble_eq_true rfl) ?_
  intro p e s m args below meth c F hr hl hmn
  unfold fX10_byteAt at h
  show X p l e ({ frames := 1, cells := 0, slots := 0, locals := 100 * 1 }) s m args below meth c (MQ below (Qm b D cy (some (.int r)) Mf) args s 0 0 (fun q => b ≤ q)) 2 b D cy 0 0 M 0 [(0, .ref (b + v0)), (1, .int v1)] []
  refine x_iload_n F dX10_byteAt_0 rfl 1 rfl ?_
  refine x_if_lt F (tgt := 12) dX10_byteAt_1 (by decide) (fun c1 => ?_) (fun c1 => ?_)
  · rw [if_pos c1] at h
    refine x_iconst F (v := (-1)) dX10_byteAt_12 (by decide) ?_
    refine x_goto F (tgt := 22) dX10_byteAt_13 (by decide) ?_
    obtain ⟨rfl, rfl⟩ := retS h
    exact x_iret F hr hl dX10_byteAt_22
  · rw [if_neg c1] at h
    refine x_iload_n F dX10_byteAt_4 rfl 1 rfl ?_
    refine x_aload_n F dX10_byteAt_5 rfl 0 rfl ?_
    obtain ⟨x6, c6, h⟩ := bdS h
    refine x_getI F (ci := 10) (C := RX10) (T := TX10) (N := 19) rfl ⟨by decide, rfl⟩ inU10 14 (by decide) (fun _ _ _ => rfl) wl_648 c6 dX10_byteAt_6 ?_
    refine x_icmp_lt F (tgt := 16) dX10_byteAt_9 (by decide) (fun c9 => ?_) (fun c9 => ?_)
    · rw [if_pos c9] at h
      refine x_aload_n F dX10_byteAt_16 rfl 0 rfl ?_
      obtain ⟨x17, c17, h⟩ := bdS h
      refine x_getR F (ci := 10) (C := RX10) (T := TX10) (N := 19) rfl ⟨by decide, rfl⟩ inU10 13 (by decide) (fun _ _ _ => rfl) wl_647 c17 dX10_byteAt_17 ?_
      refine x_iload_n F dX10_byteAt_20 rfl 1 rfl ?_
      obtain ⟨x21, c21, h⟩ := bdS h
      refine x_aI F c21 dX10_byteAt_21 ?_
      obtain ⟨rfl, rfl⟩ := retS h
      exact x_iret F hr hl dX10_byteAt_22
    · rw [if_neg c9] at h
      refine x_iconst F (v := (-1)) dX10_byteAt_12 (by decide) ?_
      refine x_goto F (tgt := 22) dX10_byteAt_13 (by decide) ?_
      obtain ⟨rfl, rfl⟩ := retS h
      exact x_iret F hr hl dX10_byteAt_22
theorem dX10_odds_0 : decode cX10_odds 0 = .ok (.aload_n 0, 1) := by decide +kernel
theorem dX10_odds_1 : decode cX10_odds 1 = .ok (.getfield 19, 3) := by decide +kernel
theorem dX10_odds_4 : decode cX10_odds 4 = .ok (.iload_n 1, 1) := by decide +kernel
theorem dX10_odds_5 : decode cX10_odds 5 = .ok (.invokevirtual 185, 3) := by decide +kernel
theorem dX10_odds_8 : decode cX10_odds 8 = .ok (.ifCond .eq 14, 3) := by decide +kernel
theorem dX10_odds_11 : decode cX10_odds 11 = .ok (.iload_n 2, 1) := by decide +kernel
theorem dX10_odds_12 : decode cX10_odds 12 = .ok (.iconst 1, 1) := by decide +kernel
theorem dX10_odds_13 : decode cX10_odds 13 = .ok (.if_icmp .lt 9, 3) := by decide +kernel
theorem dX10_odds_16 : decode cX10_odds 16 = .ok (.iload_n 2, 1) := by decide +kernel
theorem dX10_odds_17 : decode cX10_odds 17 = .ok (.bipush 30, 2) := by decide +kernel
theorem dX10_odds_19 : decode cX10_odds 19 = .ok (.if_icmp .le 5, 3) := by decide +kernel
theorem dX10_odds_22 : decode cX10_odds 22 = .ok (.iconst (-1), 1) := by decide +kernel
theorem dX10_odds_23 : decode cX10_odds 23 = .ok (.ireturn, 1) := by decide +kernel
theorem dX10_odds_24 : decode cX10_odds 24 = .ok (.iconst 0, 1) := by decide +kernel
theorem dX10_odds_25 : decode cX10_odds 25 = .ok (.istore 4, 2) := by decide +kernel
theorem dX10_odds_27 : decode cX10_odds 27 = .ok (.iconst 0, 1) := by decide +kernel
theorem dX10_odds_28 : decode cX10_odds 28 = .ok (.istore 5, 2) := by decide +kernel
theorem dX10_odds_30 : decode cX10_odds 30 = .ok (.iload 5, 2) := by decide +kernel
theorem dX10_odds_32 : decode cX10_odds 32 = .ok (.iload_n 2, 1) := by decide +kernel
theorem dX10_odds_33 : decode cX10_odds 33 = .ok (.if_icmp .ge 93, 3) := by decide +kernel
theorem dX10_odds_36 : decode cX10_odds 36 = .ok (.aload_n 0, 1) := by decide +kernel
theorem dX10_odds_37 : decode cX10_odds 37 = .ok (.getfield 35, 3) := by decide +kernel
theorem dX10_odds_40 : decode cX10_odds 40 = .ok (.aload_n 0, 1) := by decide +kernel
theorem dX10_odds_41 : decode cX10_odds 41 = .ok (.getfield 31, 3) := by decide +kernel
theorem dX10_odds_44 : decode cX10_odds 44 = .ok (.invokevirtual 347, 3) := by decide +kernel
theorem dX10_odds_47 : decode cX10_odds 47 = .ok (.aload_n 0, 1) := by decide +kernel
theorem dX10_odds_48 : decode cX10_odds 48 = .ok (.getfield 86, 3) := by decide +kernel
theorem dX10_odds_51 : decode cX10_odds 51 = .ok (.iload_n 3, 1) := by decide +kernel
theorem dX10_odds_52 : decode cX10_odds 52 = .ok (.iload 5, 2) := by decide +kernel
theorem dX10_odds_54 : decode cX10_odds 54 = .ok (.iadd, 1) := by decide +kernel
theorem dX10_odds_55 : decode cX10_odds 55 = .ok (.invokevirtual 293, 3) := by decide +kernel
theorem dX10_odds_58 : decode cX10_odds 58 = .ok (.iconst 0, 1) := by decide +kernel
theorem dX10_odds_59 : decode cX10_odds 59 = .ok (.istore 6, 2) := by decide +kernel
theorem dX10_odds_61 : decode cX10_odds 61 = .ok (.iload 6, 2) := by decide +kernel
theorem dX10_odds_63 : decode cX10_odds 63 = .ok (.bipush 20, 2) := by decide +kernel
theorem dX10_odds_65 : decode cX10_odds 65 = .ok (.if_icmp .ge 41, 3) := by decide +kernel
theorem dX10_odds_68 : decode cX10_odds 68 = .ok (.aload_n 0, 1) := by decide +kernel
theorem dX10_odds_69 : decode cX10_odds 69 = .ok (.getfield 35, 3) := by decide +kernel
theorem dX10_odds_72 : decode cX10_odds 72 = .ok (.invokevirtual 275, 3) := by decide +kernel
theorem dX10_odds_75 : decode cX10_odds 75 = .ok (.ifCond .le 31, 3) := by decide +kernel
theorem dX10_odds_78 : decode cX10_odds 78 = .ok (.aload_n 0, 1) := by decide +kernel
theorem dX10_odds_79 : decode cX10_odds 79 = .ok (.getfield 35, 3) := by decide +kernel
theorem dX10_odds_82 : decode cX10_odds 82 = .ok (.iload_n 1, 1) := by decide +kernel
theorem dX10_odds_83 : decode cX10_odds 83 = .ok (.invokevirtual 196, 3) := by decide +kernel
theorem dX10_odds_86 : decode cX10_odds 86 = .ok (.ifCond .ne 20, 3) := by decide +kernel
theorem dX10_odds_89 : decode cX10_odds 89 = .ok (.aload_n 0, 1) := by decide +kernel
theorem dX10_odds_90 : decode cX10_odds 90 = .ok (.getfield 86, 3) := by decide +kernel
theorem dX10_odds_93 : decode cX10_odds 93 = .ok (.aload_n 0, 1) := by decide +kernel
theorem dX10_odds_94 : decode cX10_odds 94 = .ok (.getfield 35, 3) := by decide +kernel
theorem dX10_odds_97 : decode cX10_odds 97 = .ok (.invokevirtual 296, 3) := by decide +kernel
theorem dX10_odds_100 : decode cX10_odds 100 = .ok (.iinc 6 1, 3) := by decide +kernel
theorem dX10_odds_103 : decode cX10_odds 103 = .ok (.goto (-42), 3) := by decide +kernel
theorem dX10_odds_106 : decode cX10_odds 106 = .ok (.aload_n 0, 1) := by decide +kernel
theorem dX10_odds_107 : decode cX10_odds 107 = .ok (.getfield 35, 3) := by decide +kernel
theorem dX10_odds_110 : decode cX10_odds 110 = .ok (.iload_n 1, 1) := by decide +kernel
theorem dX10_odds_111 : decode cX10_odds 111 = .ok (.invokevirtual 196, 3) := by decide +kernel
theorem dX10_odds_114 : decode cX10_odds 114 = .ok (.ifCond .ne 6, 3) := by decide +kernel
theorem dX10_odds_117 : decode cX10_odds 117 = .ok (.iinc 4 1, 3) := by decide +kernel
theorem dX10_odds_120 : decode cX10_odds 120 = .ok (.iinc 5 1, 3) := by decide +kernel
theorem dX10_odds_123 : decode cX10_odds 123 = .ok (.goto (-93), 3) := by decide +kernel
theorem dX10_odds_126 : decode cX10_odds 126 = .ok (.iload 4, 2) := by decide +kernel
theorem dX10_odds_128 : decode cX10_odds 128 = .ok (.ireturn, 1) := by decide +kernel
def fX10_odds_J106_30 (N : Nat) (rc : Int32 → Int32 → Mem → Option (Int32 × Mem)) (v0 : Nat) (v1 : Int32) (v2 : Int32) (v3 : Int32) (v4 : Int32) (v5 : Int32) (M : Mem) : Option (Int32 × Mem) := ((fR M 10 v0 4).bind fun x107 => (if mK M x107 = 1 then ((fX0_hasLapsed N x107 v1 M).bind fun (x111, M111) => (if x111 = 0 then rc (v4 + 1) (v5 + 1) M111 else rc v4 (v5 + 1) M111)) else none))
def fX10_odds_L61 (N : Nat) (v0 : Nat) (v1 : Int32) (v2 : Int32) (v3 : Int32) (v4 : Int32) (v5 : Int32) : Nat → Int32 → Mem → Option (Mem)
  | 0, _, _ => none
  | n + 1, v6, M => (if 20 ≤ v6 then some M else ((fR M 10 v0 4).bind fun x69 => (if mK M x69 = 1 then ((fX0_hoursLeft N x69 M).bind fun (x72, M72) => (if x72 ≤ 0 then some M72 else ((fR M72 10 v0 4).bind fun x79 => (if mK M72 x79 = 1 then ((fX0_hasLapsed N x79 v1 M72).bind fun (x83, M83) => (if x83 = 0 then ((fR M83 10 v0 12).bind fun x90 => ((fR M83 10 v0 4).bind fun x94 => (if mK M83 x90 = 3 then ((fX2_passHourIn N x90 x94 M83).bind fun (u97, M97) => fX10_odds_L61 N v0 v1 v2 v3 v4 v5 n (v6 + 1) M97) else none))) else some M83)) else none)))) else none)))
def fX10_odds_L30 (N : Nat) (v0 : Nat) (v1 : Int32) (v2 : Int32) (v3 : Int32) : Nat → Int32 → Int32 → Mem → Option (Int32 × Mem)
  | 0, _, _, _ => none
  | n + 1, v4, v5, M => (if v2 ≤ v5 then some (v4, M) else ((fR M 10 v0 4).bind fun x37 => ((fR M 10 v0 3).bind fun x41 => (if mK M x37 = 1 then ((fX0_copyFrom N x37 x41 M).bind fun (u44, M44) => ((fR M44 10 v0 12).bind fun x48 => (if mK M44 x48 = 3 then ((fX2_start N x48 (v3 + v5) M44).bind fun (u55, M55) => ((fX10_odds_L61 N v0 v1 v2 v3 v4 v5 N 0 M55).bind fun o61 => fX10_odds_J106_30 N (fX10_odds_L30 N v0 v1 v2 v3 n) v0 v1 v2 v3 v4 v5 o61)) else none))) else none))))
def fX10_odds (N : Nat) (v0 : Nat) (v1 : Int32) (v2 : Int32) (v3 : Int32) (M : Mem) : Option (Int32 × Mem) := ((fR M 10 v0 1).bind fun x1 => (if mK M x1 = 9 then ((fX8_hasLaw N x1 v1 M).bind fun (x5, M5) => (if x5 = 0 then some ((-1), M5) else (if v2 < 1 then some ((-1), M5) else (if v2 ≤ 30 then ((fX10_odds_L30 N v0 v1 v2 v3 N 0 0 M5).bind fun o30 => some o30) else some ((-1), M5))))) else none))
set_option maxHeartbeats 4000000 in
set_option maxRecDepth 100000 in
theorem k_X10_odds (l : Launch) (b : Nat) (D : va_G) (cy : Nat → ClassId) (N : Nat) (v0 : Nat) (v1 : Int32) (v2 : Int32) (v3 : Int32) (M : Mem) (r : Int32) (Mf : Mem) (h : fX10_odds N v0 v1 v2 v3 M = some (r, Mf)) : Ct l yX10_odds cX10_odds 7 (some .int) 7 0 0 b D cy [.ref (b + v0), .int v1, .int v2, .int v3] M (some (.int r)) Mf := by
  refine Ct_of (own := RX10) (by decide) rfl (Nat.le_of_ble_eq_true rfl) ?_
  intro p e s m args below meth c F hr hl hmn
  unfold fX10_odds at h
  show X p l e ({ frames := 7, cells := 0, slots := 0, locals := 100 * 7 }) s m args below meth c (MQ below (Qm b D cy (some (.int r)) Mf) args s 0 0 (fun q => b ≤ q)) 7 b D cy 0 0 M 0 [(0, .ref (b + v0)), (1, .int v1), (2, .int v2), (3, .int v3)] []
  refine x_aload_n F dX10_odds_0 rfl 0 rfl ?_
  obtain ⟨x1, c1, h⟩ := bdS h
  refine x_getR F (ci := 10) (C := RX10) (T := TX10) (N := 19) rfl ⟨by decide, rfl⟩ inU10 1 (by decide) (fun _ _ _ => rfl) wl_619 c1 dX10_odds_1 ?_
  refine x_iload_n F dX10_odds_4 rfl 1 rfl ?_
  obtain ⟨k5, h⟩ := gdS h
  obtain ⟨⟨x5, M5⟩, c5, h⟩ := bdS h
  dsimp only at h
  refine x_callV F (As := [.int v1]) (rest := []) (res := (some (.int x5))) (ci := 8) (q := (RX8, TX8, 17)) rfl (by decide) k5 (k_X8_hasLaw l b D cy N x1 v1 M _ _ c5) wl_714 wl_465 wl_466 wl_75 wl_456 hd_X8_hasLaw ⟨Nat.le_of_ble_eq_true rfl, Nat.le_of_ble_eq_true rfl⟩ ⟨Nat.le_refl _, Nat.le_refl _⟩ (Nat.le_of_ble_eq_true rfl) rfl dX10_odds_5 ?_
  refine x_if_eq F (tgt := 22) dX10_odds_8 (by decide) (fun c8 => ?_) (fun c8 => ?_)
  · rw [if_pos c8] at h
    refine x_iconst F (v := (-1)) dX10_odds_22 (by decide) ?_
    obtain ⟨rfl, rfl⟩ := retS h
    exact x_iret F hr hl dX10_odds_23
  · rw [if_neg c8] at h
    refine x_iload_n F dX10_odds_11 rfl 2 rfl ?_
    refine x_iconst F (v := 1) dX10_odds_12 (by decide) ?_
    refine x_icmp_lt F (tgt := 22) dX10_odds_13 (by decide) (fun c13 => ?_) (fun c13 => ?_)
    · rw [if_pos c13] at h
      refine x_iconst F (v := (-1)) dX10_odds_22 (by decide) ?_
      obtain ⟨rfl, rfl⟩ := retS h
      exact x_iret F hr hl dX10_odds_23
    · rw [if_neg c13] at h
      refine x_iload_n F dX10_odds_16 rfl 2 rfl ?_
      refine x_bipush F (v := 30) dX10_odds_17 (by decide) ?_
      refine x_icmp_le F (tgt := 24) dX10_odds_19 (by decide) (fun c19 => ?_) (fun c19 => ?_)
      · rw [if_pos c19] at h
        refine x_iconst F (v := 0) dX10_odds_24 (by decide) ?_
        refine x_istore F (lv' := [(4, .int 0), (0, .ref (b + v0)), (1, .int v1), (2, .int v2), (3, .int v3)]) dX10_odds_25 (by decide) rfl ?_
        refine x_iconst F (v := 0) dX10_odds_27 (by decide) ?_
        refine x_istore F (lv' := [(5, .int 0), (4, .int 0), (0, .ref (b + v0)), (1, .int v1), (2, .int v2), (3, .int v3)]) dX10_odds_28 (by decide) rfl ?_
        have L30 : ∀ (v0 : Nat) (v1 : Int32) (v2 : Int32) (v3 : Int32) (n : Nat) (v4 : Int32) (v5 : Int32) (M : Mem) (o : Int32 × Mem), fX10_odds_L30 N v0 v1 v2 v3 n v4 v5 M = some o → (∀ (r' : Int32) (M' : Mem), o = (r', M') → r' = r ∧ M' = Mf) → X p l e ({ frames := 7, cells := 0, slots := 0, locals := 100 * 7 }) s m args below meth c (MQ below (Qm b D cy (some (.int r)) Mf) args s 0 0 (fun q => b ≤ q)) 7 b D cy 0 0 M 30 [(0, .ref (b + v0)), (1, .int v1), (2, .int v2), (3, .int v3), (4, .int v4), (5, .int v5)] [] := by
          intro v0 v1 v2 v3 n
          induction n with
          | zero => intro v4 v5 M o h; exact absurd h (by rw [fX10_odds_L30]; exact fun z => by cases z)
          | succ n ih =>
            intro v4 v5 M o h hR
            rw [fX10_odds_L30] at h
            have J106 : ∀ (v4 : Int32) (v5 : Int32) (M : Mem), fX10_odds_J106_30 N (fX10_odds_L30 N v0 v1 v2 v3 n) v0 v1 v2 v3 v4 v5 M = some o → X p l e ({ frames := 7, cells := 0, slots := 0, locals := 100 * 7 }) s m args below meth c (MQ below (Qm b D cy (some (.int r)) Mf) args s 0 0 (fun q => b ≤ q)) 7 b D cy 0 0 M 106 [(0, .ref (b + v0)), (1, .int v1), (2, .int v2), (3, .int v3), (4, .int v4), (5, .int v5)] [] := by
              intro v4 v5 M h
              unfold fX10_odds_J106_30 at h
              refine x_aload_n F dX10_odds_106 rfl 0 rfl ?_
              obtain ⟨x107, c107, h⟩ := bdS h
              refine x_getR F (ci := 10) (C := RX10) (T := TX10) (N := 19) rfl ⟨by decide, rfl⟩ inU10 4 (by decide) (fun _ _ _ => rfl) wl_623 c107 dX10_odds_107 ?_
              refine x_iload_n F dX10_odds_110 rfl 1 rfl ?_
              obtain ⟨k111, h⟩ := gdS h
              obtain ⟨⟨x111, M111⟩, c111, h⟩ := bdS h
              dsimp only at h
              refine x_callV F (As := [.int v1]) (rest := []) (res := (some (.int x111))) (ci := 0) (q := (RX0, TX0, 12)) rfl (by decide) k111 (k_X0_hasLapsed l b D cy N x107 v1 M _ _ c111) wl_715 wl_80 wl_81 wl_52 wl_53 hd_X0_hasLapsed ⟨Nat.le_of_ble_eq_true rfl, Nat.le_of_ble_eq_true rfl⟩ ⟨Nat.le_refl _, Nat.le_refl _⟩ (Nat.le_of_ble_eq_true rfl) rfl dX10_odds_111 ?_
              refine x_if_ne F (tgt := 120) dX10_odds_114 (by decide) (fun c114 => ?_) (fun c114 => ?_)
              · rw [if_neg c114] at h
                refine x_iinc F (v := v5 + 1) (lv' := [(5, .int (v5 + 1)), (0, .ref (b + v0)), (1, .int v1), (2, .int v2), (3, .int v3), (4, .int v4)]) dX10_odds_120 5 rfl rfl (by decide) rfl ?_
                refine x_goto F (tgt := 30) dX10_odds_123 (by decide) ?_
                refine x_sub [1, 2, 3, 4, 5, 0] rfl ?_
                exact ih v4 (v5 + 1) M111 o h hR
              · rw [if_pos c114] at h
                refine x_iinc F (v := v4 + 1) (lv' := [(4, .int (v4 + 1)), (0, .ref (b + v0)), (1, .int v1), (2, .int v2), (3, .int v3), (5, .int v5)]) dX10_odds_117 4 rfl rfl (by decide) rfl ?_
                refine x_iinc F (v := v5 + 1) (lv' := [(5, .int (v5 + 1)), (4, .int (v4 + 1)), (0, .ref (b + v0)), (1, .int v1), (2, .int v2), (3, .int v3)]) dX10_odds_120 5 rfl rfl (by decide) rfl ?_
                refine x_goto F (tgt := 30) dX10_odds_123 (by decide) ?_
                refine x_sub [2, 3, 4, 5, 1, 0] rfl ?_
                exact ih (v4 + 1) (v5 + 1) M111 o h hR
            refine x_iload F dX10_odds_30 5 rfl ?_
            refine x_iload_n F dX10_odds_32 rfl 2 rfl ?_
            refine x_icmp_ge F (tgt := 126) dX10_odds_33 (by decide) (fun c33 => ?_) (fun c33 => ?_)
            · rw [if_pos c33] at h
              refine x_iload F dX10_odds_126 4 rfl ?_
              obtain rfl := Option.some.inj h
              obtain ⟨rfl, rfl⟩ := hR _ _ rfl
              exact x_iret F hr hl dX10_odds_128
            · rw [if_neg c33] at h
              refine x_aload_n F dX10_odds_36 rfl 0 rfl ?_
              obtain ⟨x37, c37, h⟩ := bdS h
              refine x_getR F (ci := 10) (C := RX10) (T := TX10) (N := 19) rfl ⟨by decide, rfl⟩ inU10 4 (by decide) (fun _ _ _ => rfl) wl_623 c37 dX10_odds_37 ?_
              refine x_aload_n F dX10_odds_40 rfl 0 rfl ?_
              obtain ⟨x41, c41, h⟩ := bdS h
              refine x_getR F (ci := 10) (C := RX10) (T := TX10) (N := 19) rfl ⟨by decide, rfl⟩ inU10 3 (by decide) (fun _ _ _ => rfl) wl_622 c41 dX10_odds_41 ?_
              obtain ⟨k44, h⟩ := gdS h
              obtain ⟨⟨u44, M44⟩, c44, h⟩ := bdS h
              dsimp only at h
              refine x_callV F (As := [.ref (b + x41)]) (rest := []) (res := none) (ci := 0) (q := (RX0, TX0, 12)) rfl (by decide) k44 (k_X0_copyFrom l b D cy N x37 x41 M _ _ c44) wl_815 wl_382 wl_383 wl_52 wl_22 hd_X0_copyFrom ⟨Nat.le_of_ble_eq_true rfl, Nat.le_of_ble_eq_true rfl⟩ ⟨Nat.le_refl _, Nat.le_refl _⟩ (Nat.le_of_ble_eq_true rfl) rfl dX10_odds_44 ?_
              refine x_aload_n F dX10_odds_47 rfl 0 rfl ?_
              obtain ⟨x48, c48, h⟩ := bdS h
              refine x_getR F (ci := 10) (C := RX10) (T := TX10) (N := 19) rfl ⟨by decide, rfl⟩ inU10 12 (by decide) (fun _ _ _ => rfl) wl_646 c48 dX10_odds_48 ?_
              refine x_iload_n F dX10_odds_51 rfl 3 rfl ?_
              refine x_iload F dX10_odds_52 5 rfl ?_
              refine x_iadd F dX10_odds_54 ?_
              obtain ⟨k55, h⟩ := gdS h
              obtain ⟨⟨u55, M55⟩, c55, h⟩ := bdS h
              dsimp only at h
              refine x_callV F (As := [.int (v3 + v5)]) (rest := []) (res := none) (ci := 2) (q := (RX2, TX2, 2)) rfl (by decide) k55 (k_X2_start l b D cy N x48 (v3 + v5) M44 _ _ c55) wl_765 wl_766 wl_767 wl_291 wl_282 hd_X2_start ⟨Nat.le_of_ble_eq_true rfl, Nat.le_of_ble_eq_true rfl⟩ ⟨Nat.le_refl _, Nat.le_refl _⟩ (Nat.le_of_ble_eq_true rfl) rfl dX10_odds_55 ?_
              refine x_iconst F (v := 0) dX10_odds_58 (by decide) ?_
              refine x_istore F (lv' := [(6, .int 0), (0, .ref (b + v0)), (1, .int v1), (2, .int v2), (3, .int v3), (4, .int v4), (5, .int v5)]) dX10_odds_59 (by decide) rfl ?_
              have L61 : ∀ (v0 : Nat) (v1 : Int32) (v2 : Int32) (v3 : Int32) (v4 : Int32) (v5 : Int32) (n : Nat) (v6 : Int32) (M : Mem) (o : Mem), fX10_odds_L61 N v0 v1 v2 v3 v4 v5 n v6 M = some o → X p l e ({ frames := 7, cells := 0, slots := 0, locals := 100 * 7 }) s m args below meth c (MQ below (Qm b D cy (some (.int r)) Mf) args s 0 0 (fun q => b ≤ q)) 7 b D cy 0 0 o 106 [(0, .ref (b + v0)), (1, .int v1), (2, .int v2), (3, .int v3), (4, .int v4), (5, .int v5)] [] → X p l e ({ frames := 7, cells := 0, slots := 0, locals := 100 * 7 }) s m args below meth c (MQ below (Qm b D cy (some (.int r)) Mf) args s 0 0 (fun q => b ≤ q)) 7 b D cy 0 0 M 61 [(0, .ref (b + v0)), (1, .int v1), (2, .int v2), (3, .int v3), (4, .int v4), (5, .int v5), (6, .int v6)] [] := by
                intro v0 v1 v2 v3 v4 v5 n
                induction n with
                | zero => intro v6 M o h; exact absurd h (by rw [fX10_odds_L61]; exact fun z => by cases z)
                | succ n ih =>
                  intro v6 M o h hE
                  rw [fX10_odds_L61] at h
                  refine x_iload F dX10_odds_61 6 rfl ?_
                  refine x_bipush F (v := 20) dX10_odds_63 (by decide) ?_
                  refine x_icmp_ge F (tgt := 106) dX10_odds_65 (by decide) (fun c65 => ?_) (fun c65 => ?_)
                  · rw [if_pos c65] at h
                    obtain rfl := Option.some.inj h
                    refine x_sub [0, 1, 2, 3, 4, 5] rfl ?_
                    exact hE
                  · rw [if_neg c65] at h
                    refine x_aload_n F dX10_odds_68 rfl 0 rfl ?_
                    obtain ⟨x69, c69, h⟩ := bdS h
                    refine x_getR F (ci := 10) (C := RX10) (T := TX10) (N := 19) rfl ⟨by decide, rfl⟩ inU10 4 (by decide) (fun _ _ _ => rfl) wl_623 c69 dX10_odds_69 ?_
                    obtain ⟨k72, h⟩ := gdS h
                    obtain ⟨⟨x72, M72⟩, c72, h⟩ := bdS h
                    dsimp only at h
                    refine x_callV F (As := []) (rest := []) (res := (some (.int x72))) (ci := 0) (q := (RX0, TX0, 12)) rfl (by decide) k72 (k_X0_hoursLeft l b D cy N x69 M _ _ c72) wl_757 wl_96 wl_97 wl_52 wl_35 hd_X0_hoursLeft ⟨Nat.le_of_ble_eq_true rfl, Nat.le_of_ble_eq_true rfl⟩ ⟨Nat.le_refl _, Nat.le_refl _⟩ (Nat.le_of_ble_eq_true rfl) rfl dX10_odds_72 ?_
                    refine x_if_le F (tgt := 106) dX10_odds_75 (by decide) (fun c75 => ?_) (fun c75 => ?_)
                    · rw [if_pos c75] at h
                      obtain rfl := Option.some.inj h
                      refine x_sub [0, 1, 2, 3, 4, 5] rfl ?_
                      exact hE
                    · rw [if_neg c75] at h
                      refine x_aload_n F dX10_odds_78 rfl 0 rfl ?_
                      obtain ⟨x79, c79, h⟩ := bdS h
                      refine x_getR F (ci := 10) (C := RX10) (T := TX10) (N := 19) rfl ⟨by decide, rfl⟩ inU10 4 (by decide) (fun _ _ _ => rfl) wl_623 c79 dX10_odds_79 ?_
                      refine x_iload_n F dX10_odds_82 rfl 1 rfl ?_
                      obtain ⟨k83, h⟩ := gdS h
                      obtain ⟨⟨x83, M83⟩, c83, h⟩ := bdS h
                      dsimp only at h
                      refine x_callV F (As := [.int v1]) (rest := []) (res := (some (.int x83))) (ci := 0) (q := (RX0, TX0, 12)) rfl (by decide) k83 (k_X0_hasLapsed l b D cy N x79 v1 M72 _ _ c83) wl_715 wl_80 wl_81 wl_52 wl_53 hd_X0_hasLapsed ⟨Nat.le_of_ble_eq_true rfl, Nat.le_of_ble_eq_true rfl⟩ ⟨Nat.le_refl _, Nat.le_refl _⟩ (Nat.le_of_ble_eq_true rfl) rfl dX10_odds_83 ?_
                      refine x_if_ne F (tgt := 106) dX10_odds_86 (by decide) (fun c86 => ?_) (fun c86 => ?_)
                      · rw [if_neg c86] at h
                        obtain rfl := Option.some.inj h
                        refine x_sub [0, 1, 2, 3, 4, 5] rfl ?_
                        exact hE
                      · rw [if_pos c86] at h
                        refine x_aload_n F dX10_odds_89 rfl 0 rfl ?_
                        obtain ⟨x90, c90, h⟩ := bdS h
                        refine x_getR F (ci := 10) (C := RX10) (T := TX10) (N := 19) rfl ⟨by decide, rfl⟩ inU10 12 (by decide) (fun _ _ _ => rfl) wl_646 c90 dX10_odds_90 ?_
                        refine x_aload_n F dX10_odds_93 rfl 0 rfl ?_
                        obtain ⟨x94, c94, h⟩ := bdS h
                        refine x_getR F (ci := 10) (C := RX10) (T := TX10) (N := 19) rfl ⟨by decide, rfl⟩ inU10 4 (by decide) (fun _ _ _ => rfl) wl_623 c94 dX10_odds_94 ?_
                        obtain ⟨k97, h⟩ := gdS h
                        obtain ⟨⟨u97, M97⟩, c97, h⟩ := bdS h
                        dsimp only at h
                        refine x_callV F (As := [.ref (b + x94)]) (rest := []) (res := none) (ci := 2) (q := (RX2, TX2, 2)) rfl (by decide) k97 (k_X2_passHourIn l b D cy N x90 x94 M83 _ _ c97) wl_768 wl_769 wl_770 wl_291 wl_308 hd_X2_passHourIn ⟨Nat.le_of_ble_eq_true rfl, Nat.le_of_ble_eq_true rfl⟩ ⟨Nat.le_refl _, Nat.le_refl _⟩ (Nat.le_of_ble_eq_true rfl) rfl dX10_odds_97 ?_
                        refine x_iinc F (v := v6 + 1) (lv' := [(6, .int (v6 + 1)), (0, .ref (b + v0)), (1, .int v1), (2, .int v2), (3, .int v3), (4, .int v4), (5, .int v5)]) dX10_odds_100 6 rfl rfl (by decide) rfl ?_
                        refine x_goto F (tgt := 61) dX10_odds_103 (by decide) ?_
                        refine x_sub [1, 2, 3, 4, 5, 6, 0] rfl ?_
                        exact ih (v6 + 1) M97 o h hE
              obtain ⟨o61, h61, h⟩ := bdS h
              refine x_sub [1, 2, 3, 4, 5, 6, 0] rfl ?_
              refine L61 v0 v1 v2 v3 v4 v5 N 0 M55 o61 h61 ?_
              exact J106 v4 v5 o61 h
        obtain ⟨o30, h30, h⟩ := bdS h
        refine x_sub [2, 3, 4, 5, 1, 0] rfl ?_
        refine L30 v0 v1 v2 v3 N 0 0 M5 o30 h30 (fun r' M' e => ?_)
        · subst e
          try dsimp only at h
          obtain ⟨rfl, rfl⟩ := retS h; exact ⟨rfl, rfl⟩
      · rw [if_neg c19] at h
        refine x_iconst F (v := (-1)) dX10_odds_22 (by decide) ?_
        obtain ⟨rfl, rfl⟩ := retS h
        exact x_iret F hr hl dX10_odds_23
theorem hd_X1_readFrom : (yX1_readFrom).cls = RX1 ∧ (yX1_readFrom).cls ≠ "java/lang/invoke/MethodHandle" ∧ (yX1_readFrom).cls ≠ "java/lang/invoke/VarHandle" ∧ (parseMethodDescriptor (yX1_readFrom).desc).map (fun d => d.parameters.length) = some 1 := by decide +kernel
theorem hd_X1_liveIn : (yX1_liveIn).cls = RX1 ∧ (yX1_liveIn).cls ≠ "java/lang/invoke/MethodHandle" ∧ (yX1_liveIn).cls ≠ "java/lang/invoke/VarHandle" ∧ (parseMethodDescriptor (yX1_liveIn).desc).map (fun d => d.parameters.length) = some 1 := by decide +kernel
theorem dX10_book_0 : decode cX10_book 0 = .ok (.iload_n 1, 1) := by decide +kernel
theorem dX10_book_1 : decode cX10_book 1 = .ok (.ifCond .eq 12, 3) := by decide +kernel
theorem dX10_book_4 : decode cX10_book 4 = .ok (.iload_n 1, 1) := by decide +kernel
theorem dX10_book_5 : decode cX10_book 5 = .ok (.iconst 1, 1) := by decide +kernel
theorem dX10_book_6 : decode cX10_book 6 = .ok (.if_icmp .eq 7, 3) := by decide +kernel
theorem dX10_book_9 : decode cX10_book 9 = .ok (.sipush (-1000), 3) := by decide +kernel
theorem dX10_book_12 : decode cX10_book 12 = .ok (.ireturn, 1) := by decide +kernel
theorem dX10_book_13 : decode cX10_book 13 = .ok (.aload_n 0, 1) := by decide +kernel
theorem dX10_book_14 : decode cX10_book 14 = .ok (.getfield 48, 3) := by decide +kernel
theorem dX10_book_17 : decode cX10_book 17 = .ok (.aload_n 0, 1) := by decide +kernel
theorem dX10_book_18 : decode cX10_book 18 = .ok (.getfield 12, 3) := by decide +kernel
theorem dX10_book_21 : decode cX10_book 21 = .ok (.invokevirtual 349, 3) := by decide +kernel
theorem dX10_book_24 : decode cX10_book 24 = .ok (.aload_n 0, 1) := by decide +kernel
theorem dX10_book_25 : decode cX10_book 25 = .ok (.getfield 12, 3) := by decide +kernel
theorem dX10_book_28 : decode cX10_book 28 = .ok (.iconst 0, 1) := by decide +kernel
theorem dX10_book_29 : decode cX10_book 29 = .ok (.putfield 114, 3) := by decide +kernel
theorem dX10_book_32 : decode cX10_book 32 = .ok (.aload_n 0, 1) := by decide +kernel
theorem dX10_book_33 : decode cX10_book 33 = .ok (.getfield 12, 3) := by decide +kernel
theorem dX10_book_36 : decode cX10_book 36 = .ok (.getfield 125, 3) := by decide +kernel
theorem dX10_book_39 : decode cX10_book 39 = .ok (.ifCond .eq 14, 3) := by decide +kernel
theorem dX10_book_42 : decode cX10_book 42 = .ok (.bipush (-2), 2) := by decide +kernel
theorem dX10_book_44 : decode cX10_book 44 = .ok (.aload_n 0, 1) := by decide +kernel
theorem dX10_book_45 : decode cX10_book 45 = .ok (.getfield 12, 3) := by decide +kernel
theorem dX10_book_48 : decode cX10_book 48 = .ok (.getfield 128, 3) := by decide +kernel
theorem dX10_book_51 : decode cX10_book 51 = .ok (.isub, 1) := by decide +kernel
theorem dX10_book_52 : decode cX10_book 52 = .ok (.ireturn, 1) := by decide +kernel
theorem dX10_book_53 : decode cX10_book 53 = .ok (.aload_n 0, 1) := by decide +kernel
theorem dX10_book_54 : decode cX10_book 54 = .ok (.getfield 35, 3) := by decide +kernel
theorem dX10_book_57 : decode cX10_book 57 = .ok (.aload_n 0, 1) := by decide +kernel
theorem dX10_book_58 : decode cX10_book 58 = .ok (.getfield 31, 3) := by decide +kernel
theorem dX10_book_61 : decode cX10_book 61 = .ok (.invokevirtual 347, 3) := by decide +kernel
theorem dX10_book_64 : decode cX10_book 64 = .ok (.aload_n 0, 1) := by decide +kernel
theorem dX10_book_65 : decode cX10_book 65 = .ok (.getfield 48, 3) := by decide +kernel
theorem dX10_book_68 : decode cX10_book 68 = .ok (.aload_n 0, 1) := by decide +kernel
theorem dX10_book_69 : decode cX10_book 69 = .ok (.getfield 35, 3) := by decide +kernel
theorem dX10_book_72 : decode cX10_book 72 = .ok (.invokevirtual 350, 3) := by decide +kernel
theorem dX10_book_75 : decode cX10_book 75 = .ok (.istore_n 2, 1) := by decide +kernel
theorem dX10_book_76 : decode cX10_book 76 = .ok (.iload_n 1, 1) := by decide +kernel
theorem dX10_book_77 : decode cX10_book 77 = .ok (.iconst 1, 1) := by decide +kernel
theorem dX10_book_78 : decode cX10_book 78 = .ok (.if_icmp .ne 35, 3) := by decide +kernel
theorem dX10_book_81 : decode cX10_book 81 = .ok (.aload_n 0, 1) := by decide +kernel
theorem dX10_book_82 : decode cX10_book 82 = .ok (.getfield 48, 3) := by decide +kernel
theorem dX10_book_85 : decode cX10_book 85 = .ok (.getfield 353, 3) := by decide +kernel
theorem dX10_book_88 : decode cX10_book 88 = .ok (.ifCond .le 25, 3) := by decide +kernel
theorem dX10_book_91 : decode cX10_book 91 = .ok (.aload_n 0, 1) := by decide +kernel
theorem dX10_book_92 : decode cX10_book 92 = .ok (.getfield 41, 3) := by decide +kernel
theorem dX10_book_95 : decode cX10_book 95 = .ok (.aload_n 0, 1) := by decide +kernel
theorem dX10_book_96 : decode cX10_book 96 = .ok (.getfield 31, 3) := by decide +kernel
theorem dX10_book_99 : decode cX10_book 99 = .ok (.invokevirtual 260, 3) := by decide +kernel
theorem dX10_book_102 : decode cX10_book 102 = .ok (.aload_n 0, 1) := by decide +kernel
theorem dX10_book_103 : decode cX10_book 103 = .ok (.getfield 31, 3) := by decide +kernel
theorem dX10_book_106 : decode cX10_book 106 = .ok (.aload_n 0, 1) := by decide +kernel
theorem dX10_book_107 : decode cX10_book 107 = .ok (.getfield 35, 3) := by decide +kernel
theorem dX10_book_110 : decode cX10_book 110 = .ok (.invokevirtual 347, 3) := by decide +kernel
theorem dX10_book_113 : decode cX10_book 113 = .ok (.iload_n 2, 1) := by decide +kernel
theorem dX10_book_114 : decode cX10_book 114 = .ok (.ireturn, 1) := by decide +kernel
def fX10_book_J13 (N : Nat) (v0 : Nat) (v1 : Int32) (M : Mem) : Option (Int32 × Mem) := ((fR M 10 v0 6).bind fun x14 => ((fR M 10 v0 0).bind fun x18 => (if mK M x14 = 2 then ((fX1_readFrom N x14 x18 M).bind fun (u21, M21) => ((fR M21 10 v0 0).bind fun x25 => ((pI M21 9 x25 2 0).bind fun M29 => ((fR M29 10 v0 0).bind fun x33 => ((fI M29 9 x33 10).bind fun x36 => (if x36 = 0 then ((fR M29 10 v0 4).bind fun x54 => ((fR M29 10 v0 3).bind fun x58 => (if mK M29 x54 = 1 then ((fX0_copyFrom N x54 x58 M29).bind fun (u61, M61) => ((fR M61 10 v0 6).bind fun x65 => ((fR M61 10 v0 4).bind fun x69 => (if mK M61 x65 = 2 then ((fX1_liveIn N x65 x69 M61).bind fun (x72, M72) => (if v1 = 1 then ((fR M72 10 v0 6).bind fun x82 => ((fI M72 1 x82 8).bind fun x85 => (if x85 ≤ 0 then some (x72, M72) else ((fR M72 10 v0 5).bind fun x92 => ((fR M72 10 v0 3).bind fun x96 => (if mK M72 x92 = 6 then ((fX5_keepCopy N x92 x96 M72).bind fun (u99, M99) => ((fR M99 10 v0 3).bind fun x103 => ((fR M99 10 v0 4).bind fun x107 => (if mK M99 x103 = 1 then ((fX0_copyFrom N x103 x107 M99).bind fun (u110, M110) => some (x72, M110)) else none)))) else none)))))) else some (x72, M72))) else none)))) else none))) else ((fR M29 10 v0 0).bind fun x45 => ((fI M29 9 x45 11).bind fun x48 => some (((-2)) - x48, M29))))))))) else none)))
def fX10_book (N : Nat) (v0 : Nat) (v1 : Int32) (M : Mem) : Option (Int32 × Mem) := (if v1 = 0 then fX10_book_J13 N v0 v1 M else (if v1 = 1 then fX10_book_J13 N v0 v1 M else some ((-1000), M)))
set_option maxHeartbeats 4000000 in
set_option maxRecDepth 100000 in
theorem k_X10_book (l : Launch) (b : Nat) (D : va_G) (cy : Nat → ClassId) (N : Nat) (v0 : Nat) (v1 : Int32) (M : Mem) (r : Int32) (Mf : Mem) (h : fX10_book N v0 v1 M = some (r, Mf)) : Ct l yX10_book cX10_book 3 (some .int) 8 0 0 b D cy [.ref (b + v0), .int v1] M (some (.int r)) Mf := by
  refine Ct_of (own := RX10) (by decide) rfl (Nat.le_of_ble_eq_true rfl) ?_
  intro p e s m args below meth c F hr hl hmn
  unfold fX10_book at h
  have J13 : ∀ (v0 : Nat) (v1 : Int32) (M : Mem), fX10_book_J13 N v0 v1 M = some (r, Mf) → X p l e ({ frames := 8, cells := 0, slots := 0, locals := 100 * 8 }) s m args below meth c (MQ below (Qm b D cy (some (.int r)) Mf) args s 0 0 (fun q => b ≤ q)) 3 b D cy 0 0 M 13 [(0, .ref (b + v0)), (1, .int v1)] [] := by
    intro v0 v1 M h
    unfold fX10_book_J13 at h
    refine x_aload_n F dX10_book_13 rfl 0 rfl ?_
    obtain ⟨x14, c14, h⟩ := bdS h
    refine x_getR F (ci := 10) (C := RX10) (T := TX10) (N := 19) rfl ⟨by decide, rfl⟩ inU10 6 (by decide) (fun _ _ _ => rfl) wl_630 c14 dX10_book_14 ?_
    refine x_aload_n F dX10_book_17 rfl 0 rfl ?_
    obtain ⟨x18, c18, h⟩ := bdS h
    refine x_getR F (ci := 10) (C := RX10) (T := TX10) (N := 19) rfl ⟨by decide, rfl⟩ inU10 0 (by decide) (fun _ _ _ => rfl) wl_616 c18 dX10_book_18 ?_
    obtain ⟨k21, h⟩ := gdS h
    obtain ⟨⟨u21, M21⟩, c21, h⟩ := bdS h
    dsimp only at h
    refine x_callV F (As := [.ref (b + x18)]) (rest := []) (res := none) (ci := 1) (q := (RX1, TX1, 11)) rfl (by decide) k21 (k_X1_readFrom l b D cy N x14 x18 M _ _ c21) wl_818 wl_819 wl_820 wl_219 wl_236 hd_X1_readFrom ⟨Nat.le_of_ble_eq_true rfl, Nat.le_of_ble_eq_true rfl⟩ ⟨Nat.le_refl _, Nat.le_refl _⟩ (Nat.le_of_ble_eq_true rfl) rfl dX10_book_21 ?_
    refine x_aload_n F dX10_book_24 rfl 0 rfl ?_
    obtain ⟨x25, c25, h⟩ := bdS h
    refine x_getR F (ci := 10) (C := RX10) (T := TX10) (N := 19) rfl ⟨by decide, rfl⟩ inU10 0 (by decide) (fun _ _ _ => rfl) wl_616 c25 dX10_book_25 ?_
    refine x_iconst F (v := 0) dX10_book_28 (by decide) ?_
    obtain ⟨M29, c29, h⟩ := bdS h
    refine x_putI F (ci := 9) (C := RX9) (T := TX9) (N := 12) rfl ⟨by decide, rfl⟩ inU9 tyX9_ok nmX9 2 (by decide) rfl rfl wl_674 c29 dX10_book_29 ?_
    refine x_aload_n F dX10_book_32 rfl 0 rfl ?_
    obtain ⟨x33, c33, h⟩ := bdS h
    refine x_getR F (ci := 10) (C := RX10) (T := TX10) (N := 19) rfl ⟨by decide, rfl⟩ inU10 0 (by decide) (fun _ _ _ => rfl) wl_616 c33 dX10_book_33 ?_
    obtain ⟨x36, c36, h⟩ := bdS h
    refine x_getI F (ci := 9) (C := RX9) (T := TX9) (N := 12) rfl ⟨by decide, rfl⟩ inU9 10 (by decide) (fun _ _ _ => rfl) wl_679 c36 dX10_book_36 ?_
    refine x_if_eq F (tgt := 53) dX10_book_39 (by decide) (fun c39 => ?_) (fun c39 => ?_)
    · rw [if_pos c39] at h
      refine x_aload_n F dX10_book_53 rfl 0 rfl ?_
      obtain ⟨x54, c54, h⟩ := bdS h
      refine x_getR F (ci := 10) (C := RX10) (T := TX10) (N := 19) rfl ⟨by decide, rfl⟩ inU10 4 (by decide) (fun _ _ _ => rfl) wl_623 c54 dX10_book_54 ?_
      refine x_aload_n F dX10_book_57 rfl 0 rfl ?_
      obtain ⟨x58, c58, h⟩ := bdS h
      refine x_getR F (ci := 10) (C := RX10) (T := TX10) (N := 19) rfl ⟨by decide, rfl⟩ inU10 3 (by decide) (fun _ _ _ => rfl) wl_622 c58 dX10_book_58 ?_
      obtain ⟨k61, h⟩ := gdS h
      obtain ⟨⟨u61, M61⟩, c61, h⟩ := bdS h
      dsimp only at h
      refine x_callV F (As := [.ref (b + x58)]) (rest := []) (res := none) (ci := 0) (q := (RX0, TX0, 12)) rfl (by decide) k61 (k_X0_copyFrom l b D cy N x54 x58 M29 _ _ c61) wl_815 wl_382 wl_383 wl_52 wl_22 hd_X0_copyFrom ⟨Nat.le_of_ble_eq_true rfl, Nat.le_of_ble_eq_true rfl⟩ ⟨Nat.le_refl _, Nat.le_refl _⟩ (Nat.le_of_ble_eq_true rfl) rfl dX10_book_61 ?_
      refine x_aload_n F dX10_book_64 rfl 0 rfl ?_
      obtain ⟨x65, c65, h⟩ := bdS h
      refine x_getR F (ci := 10) (C := RX10) (T := TX10) (N := 19) rfl ⟨by decide, rfl⟩ inU10 6 (by decide) (fun _ _ _ => rfl) wl_630 c65 dX10_book_65 ?_
      refine x_aload_n F dX10_book_68 rfl 0 rfl ?_
      obtain ⟨x69, c69, h⟩ := bdS h
      refine x_getR F (ci := 10) (C := RX10) (T := TX10) (N := 19) rfl ⟨by decide, rfl⟩ inU10 4 (by decide) (fun _ _ _ => rfl) wl_623 c69 dX10_book_69 ?_
      obtain ⟨k72, h⟩ := gdS h
      obtain ⟨⟨x72, M72⟩, c72, h⟩ := bdS h
      dsimp only at h
      refine x_callV F (As := [.ref (b + x69)]) (rest := []) (res := (some (.int x72))) (ci := 1) (q := (RX1, TX1, 11)) rfl (by decide) k72 (k_X1_liveIn l b D cy N x65 x69 M61 _ _ c72) wl_821 wl_822 wl_823 wl_219 wl_277 hd_X1_liveIn ⟨Nat.le_of_ble_eq_true rfl, Nat.le_of_ble_eq_true rfl⟩ ⟨Nat.le_refl _, Nat.le_refl _⟩ (Nat.le_of_ble_eq_true rfl) rfl dX10_book_72 ?_
      refine x_istore_n F (lv' := [(2, .int x72), (0, .ref (b + v0)), (1, .int v1)]) dX10_book_75 rfl (by decide) rfl ?_
      refine x_iload_n F dX10_book_76 rfl 2 rfl ?_
      refine x_iconst F (v := 1) dX10_book_77 (by decide) ?_
      refine x_icmp_ne F (tgt := 113) dX10_book_78 (by decide) (fun c78 => ?_) (fun c78 => ?_)
      · rw [if_neg c78] at h
        refine x_iload_n F dX10_book_113 rfl 0 rfl ?_
        obtain ⟨rfl, rfl⟩ := retS h
        exact x_iret F hr hl dX10_book_114
      · rw [if_pos c78] at h
        refine x_aload_n F dX10_book_81 rfl 1 rfl ?_
        obtain ⟨x82, c82, h⟩ := bdS h
        refine x_getR F (ci := 10) (C := RX10) (T := TX10) (N := 19) rfl ⟨by decide, rfl⟩ inU10 6 (by decide) (fun _ _ _ => rfl) wl_630 c82 dX10_book_82 ?_
        obtain ⟨x85, c85, h⟩ := bdS h
        refine x_getI F (ci := 1) (C := RX1) (T := TX1) (N := 11) rfl ⟨by decide, rfl⟩ inU1 8 (by decide) (fun _ _ _ => rfl) wl_817 c85 dX10_book_85 ?_
        refine x_if_le F (tgt := 113) dX10_book_88 (by decide) (fun c88 => ?_) (fun c88 => ?_)
        · rw [if_pos c88] at h
          refine x_iload_n F dX10_book_113 rfl 0 rfl ?_
          obtain ⟨rfl, rfl⟩ := retS h
          exact x_iret F hr hl dX10_book_114
        · rw [if_neg c88] at h
          refine x_aload_n F dX10_book_91 rfl 1 rfl ?_
          obtain ⟨x92, c92, h⟩ := bdS h
          refine x_getR F (ci := 10) (C := RX10) (T := TX10) (N := 19) rfl ⟨by decide, rfl⟩ inU10 5 (by decide) (fun _ _ _ => rfl) wl_627 c92 dX10_book_92 ?_
          refine x_aload_n F dX10_book_95 rfl 1 rfl ?_
          obtain ⟨x96, c96, h⟩ := bdS h
          refine x_getR F (ci := 10) (C := RX10) (T := TX10) (N := 19) rfl ⟨by decide, rfl⟩ inU10 3 (by decide) (fun _ _ _ => rfl) wl_622 c96 dX10_book_96 ?_
          obtain ⟨k99, h⟩ := gdS h
          obtain ⟨⟨u99, M99⟩, c99, h⟩ := bdS h
          dsimp only at h
          refine x_callV F (As := [.ref (b + x96)]) (rest := []) (res := none) (ci := 5) (q := (RX5, TX5, 3)) rfl (by decide) k99 (k_X5_keepCopy l b D cy N x92 x96 M72 _ _ c99) wl_748 wl_749 wl_750 wl_626 wl_380 hd_X5_keepCopy ⟨Nat.le_of_ble_eq_true rfl, Nat.le_of_ble_eq_true rfl⟩ ⟨Nat.le_refl _, Nat.le_refl _⟩ (Nat.le_of_ble_eq_true rfl) rfl dX10_book_99 ?_
          refine x_aload_n F dX10_book_102 rfl 1 rfl ?_
          obtain ⟨x103, c103, h⟩ := bdS h
          refine x_getR F (ci := 10) (C := RX10) (T := TX10) (N := 19) rfl ⟨by decide, rfl⟩ inU10 3 (by decide) (fun _ _ _ => rfl) wl_622 c103 dX10_book_103 ?_
          refine x_aload_n F dX10_book_106 rfl 1 rfl ?_
          obtain ⟨x107, c107, h⟩ := bdS h
          refine x_getR F (ci := 10) (C := RX10) (T := TX10) (N := 19) rfl ⟨by decide, rfl⟩ inU10 4 (by decide) (fun _ _ _ => rfl) wl_623 c107 dX10_book_107 ?_
          obtain ⟨k110, h⟩ := gdS h
          obtain ⟨⟨u110, M110⟩, c110, h⟩ := bdS h
          dsimp only at h
          refine x_callV F (As := [.ref (b + x107)]) (rest := []) (res := none) (ci := 0) (q := (RX0, TX0, 12)) rfl (by decide) k110 (k_X0_copyFrom l b D cy N x103 x107 M99 _ _ c110) wl_815 wl_382 wl_383 wl_52 wl_22 hd_X0_copyFrom ⟨Nat.le_of_ble_eq_true rfl, Nat.le_of_ble_eq_true rfl⟩ ⟨Nat.le_refl _, Nat.le_refl _⟩ (Nat.le_of_ble_eq_true rfl) rfl dX10_book_110 ?_
          refine x_iload_n F dX10_book_113 rfl 0 rfl ?_
          obtain ⟨rfl, rfl⟩ := retS h
          exact x_iret F hr hl dX10_book_114
    · rw [if_neg c39] at h
      refine x_bipush F (v := (-2)) dX10_book_42 (by decide) ?_
      refine x_aload_n F dX10_book_44 rfl 0 rfl ?_
      obtain ⟨x45, c45, h⟩ := bdS h
      refine x_getR F (ci := 10) (C := RX10) (T := TX10) (N := 19) rfl ⟨by decide, rfl⟩ inU10 0 (by decide) (fun _ _ _ => rfl) wl_616 c45 dX10_book_45 ?_
      obtain ⟨x48, c48, h⟩ := bdS h
      refine x_getI F (ci := 9) (C := RX9) (T := TX9) (N := 12) rfl ⟨by decide, rfl⟩ inU9 11 (by decide) (fun _ _ _ => rfl) wl_680 c48 dX10_book_48 ?_
      refine x_isub F dX10_book_51 ?_
      obtain ⟨rfl, rfl⟩ := retS h
      exact x_iret F hr hl dX10_book_52
  show X p l e ({ frames := 8, cells := 0, slots := 0, locals := 100 * 8 }) s m args below meth c (MQ below (Qm b D cy (some (.int r)) Mf) args s 0 0 (fun q => b ≤ q)) 3 b D cy 0 0 M 0 [(0, .ref (b + v0)), (1, .int v1)] []
  refine x_iload_n F dX10_book_0 rfl 1 rfl ?_
  refine x_if_eq F (tgt := 13) dX10_book_1 (by decide) (fun c1 => ?_) (fun c1 => ?_)
  · rw [if_pos c1] at h
    exact J13 v0 v1 M h
  · rw [if_neg c1] at h
    refine x_iload_n F dX10_book_4 rfl 1 rfl ?_
    refine x_iconst F (v := 1) dX10_book_5 (by decide) ?_
    refine x_icmp_eq F (tgt := 13) dX10_book_6 (by decide) (fun c6 => ?_) (fun c6 => ?_)
    · rw [if_pos c6] at h
      exact J13 v0 v1 M h
    · rw [if_neg c6] at h
      refine x_sipush F (v := (-1000)) dX10_book_9 (by decide) ?_
      obtain ⟨rfl, rfl⟩ := retS h
      exact x_iret F hr hl dX10_book_12
theorem dX10_told_0 : decode cX10_told 0 = .ok (.iload_n 1, 1) := by decide +kernel
theorem dX10_told_1 : decode cX10_told 1 = .ok (.tableswitch 63 0 3 #[31, 39, 47, 55], 31) := by decide +kernel
theorem dX10_told_32 : decode cX10_told 32 = .ok (.aload_n 0, 1) := by decide +kernel
theorem dX10_told_33 : decode cX10_told 33 = .ok (.getfield 48, 3) := by decide +kernel
theorem dX10_told_36 : decode cX10_told 36 = .ok (.getfield 356, 3) := by decide +kernel
theorem dX10_told_39 : decode cX10_told 39 = .ok (.ireturn, 1) := by decide +kernel
theorem dX10_told_40 : decode cX10_told 40 = .ok (.aload_n 0, 1) := by decide +kernel
theorem dX10_told_41 : decode cX10_told 41 = .ok (.getfield 48, 3) := by decide +kernel
theorem dX10_told_44 : decode cX10_told 44 = .ok (.getfield 353, 3) := by decide +kernel
theorem dX10_told_47 : decode cX10_told 47 = .ok (.ireturn, 1) := by decide +kernel
theorem dX10_told_48 : decode cX10_told 48 = .ok (.aload_n 0, 1) := by decide +kernel
theorem dX10_told_49 : decode cX10_told 49 = .ok (.getfield 48, 3) := by decide +kernel
theorem dX10_told_52 : decode cX10_told 52 = .ok (.getfield 359, 3) := by decide +kernel
theorem dX10_told_55 : decode cX10_told 55 = .ok (.ireturn, 1) := by decide +kernel
theorem dX10_told_56 : decode cX10_told 56 = .ok (.aload_n 0, 1) := by decide +kernel
theorem dX10_told_57 : decode cX10_told 57 = .ok (.getfield 48, 3) := by decide +kernel
theorem dX10_told_60 : decode cX10_told 60 = .ok (.getfield 362, 3) := by decide +kernel
theorem dX10_told_63 : decode cX10_told 63 = .ok (.ireturn, 1) := by decide +kernel
theorem dX10_told_64 : decode cX10_told 64 = .ok (.iconst (-1), 1) := by decide +kernel
theorem dX10_told_65 : decode cX10_told 65 = .ok (.ireturn, 1) := by decide +kernel
def fX10_told (N : Nat) (v0 : Nat) (v1 : Int32) (M : Mem) : Option (Int32 × Mem) := (if v1 = 0 then ((fR M 10 v0 6).bind fun x33 => ((fI M 1 x33 7).bind fun x36 => some (x36, M))) else (if v1 = 1 then ((fR M 10 v0 6).bind fun x41 => ((fI M 1 x41 8).bind fun x44 => some (x44, M))) else (if v1 = 2 then ((fR M 10 v0 6).bind fun x49 => ((fI M 1 x49 9).bind fun x52 => some (x52, M))) else (if v1 = 3 then ((fR M 10 v0 6).bind fun x57 => ((fI M 1 x57 10).bind fun x60 => some (x60, M))) else some ((-1), M)))))
set_option maxHeartbeats 4000000 in
set_option maxRecDepth 100000 in
theorem k_X10_told (l : Launch) (b : Nat) (D : va_G) (cy : Nat → ClassId) (N : Nat) (v0 : Nat) (v1 : Int32) (M : Mem) (r : Int32) (Mf : Mem) (h : fX10_told N v0 v1 M = some (r, Mf)) : Ct l yX10_told cX10_told 2 (some .int) 1 0 0 b D cy [.ref (b + v0), .int v1] M (some (.int r)) Mf := by
  refine Ct_of (own := RX10) (by decide) rfl (Nat.le_of_ble_eq_true rfl) ?_
  intro p e s m args below meth c F hr hl hmn
  unfold fX10_told at h
  show X p l e ({ frames := 1, cells := 0, slots := 0, locals := 100 * 1 }) s m args below meth c (MQ below (Qm b D cy (some (.int r)) Mf) args s 0 0 (fun q => b ≤ q)) 2 b D cy 0 0 M 0 [(0, .ref (b + v0)), (1, .int v1)] []
  refine x_iload_n F dX10_told_0 rfl 1 rfl ?_
  by_cases c1_0 : v1 = 0
  · rw [if_pos c1_0] at h
    refine x_tableIn F (off := 31) (tgt := 32) dX10_told_1 (by rw [c1_0]; decide) (by rw [c1_0]; decide) (by rw [c1_0]; decide) (by decide) ?_
    refine x_aload_n F dX10_told_32 rfl 0 rfl ?_
    obtain ⟨x33, c33, h⟩ := bdS h
    refine x_getR F (ci := 10) (C := RX10) (T := TX10) (N := 19) rfl ⟨by decide, rfl⟩ inU10 6 (by decide) (fun _ _ _ => rfl) wl_630 c33 dX10_told_33 ?_
    obtain ⟨x36, c36, h⟩ := bdS h
    refine x_getI F (ci := 1) (C := RX1) (T := TX1) (N := 11) rfl ⟨by decide, rfl⟩ inU1 7 (by decide) (fun _ _ _ => rfl) wl_826 c36 dX10_told_36 ?_
    obtain ⟨rfl, rfl⟩ := retS h
    exact x_iret F hr hl dX10_told_39
  rw [if_neg c1_0] at h
  by_cases c1_1 : v1 = 1
  · rw [if_pos c1_1] at h
    refine x_tableIn F (off := 39) (tgt := 40) dX10_told_1 (by rw [c1_1]; decide) (by rw [c1_1]; decide) (by rw [c1_1]; decide) (by decide) ?_
    refine x_aload_n F dX10_told_40 rfl 0 rfl ?_
    obtain ⟨x41, c41, h⟩ := bdS h
    refine x_getR F (ci := 10) (C := RX10) (T := TX10) (N := 19) rfl ⟨by decide, rfl⟩ inU10 6 (by decide) (fun _ _ _ => rfl) wl_630 c41 dX10_told_41 ?_
    obtain ⟨x44, c44, h⟩ := bdS h
    refine x_getI F (ci := 1) (C := RX1) (T := TX1) (N := 11) rfl ⟨by decide, rfl⟩ inU1 8 (by decide) (fun _ _ _ => rfl) wl_817 c44 dX10_told_44 ?_
    obtain ⟨rfl, rfl⟩ := retS h
    exact x_iret F hr hl dX10_told_47
  rw [if_neg c1_1] at h
  by_cases c1_2 : v1 = 2
  · rw [if_pos c1_2] at h
    refine x_tableIn F (off := 47) (tgt := 48) dX10_told_1 (by rw [c1_2]; decide) (by rw [c1_2]; decide) (by rw [c1_2]; decide) (by decide) ?_
    refine x_aload_n F dX10_told_48 rfl 0 rfl ?_
    obtain ⟨x49, c49, h⟩ := bdS h
    refine x_getR F (ci := 10) (C := RX10) (T := TX10) (N := 19) rfl ⟨by decide, rfl⟩ inU10 6 (by decide) (fun _ _ _ => rfl) wl_630 c49 dX10_told_49 ?_
    obtain ⟨x52, c52, h⟩ := bdS h
    refine x_getI F (ci := 1) (C := RX1) (T := TX1) (N := 11) rfl ⟨by decide, rfl⟩ inU1 9 (by decide) (fun _ _ _ => rfl) wl_827 c52 dX10_told_52 ?_
    obtain ⟨rfl, rfl⟩ := retS h
    exact x_iret F hr hl dX10_told_55
  rw [if_neg c1_2] at h
  by_cases c1_3 : v1 = 3
  · rw [if_pos c1_3] at h
    refine x_tableIn F (off := 55) (tgt := 56) dX10_told_1 (by rw [c1_3]; decide) (by rw [c1_3]; decide) (by rw [c1_3]; decide) (by decide) ?_
    refine x_aload_n F dX10_told_56 rfl 0 rfl ?_
    obtain ⟨x57, c57, h⟩ := bdS h
    refine x_getR F (ci := 10) (C := RX10) (T := TX10) (N := 19) rfl ⟨by decide, rfl⟩ inU10 6 (by decide) (fun _ _ _ => rfl) wl_630 c57 dX10_told_57 ?_
    obtain ⟨x60, c60, h⟩ := bdS h
    refine x_getI F (ci := 1) (C := RX1) (T := TX1) (N := 11) rfl ⟨by decide, rfl⟩ inU1 10 (by decide) (fun _ _ _ => rfl) wl_828 c60 dX10_told_60 ?_
    obtain ⟨rfl, rfl⟩ := retS h
    exact x_iret F hr hl dX10_told_63
  rw [if_neg c1_3] at h
  refine x_tableOut F (tgt := 64) dX10_told_1 (by have q0 := sw_ne (t := 0) c1_0 (by decide); have q1 := sw_ne (t := 1) c1_1 (by decide); have q2 := sw_ne (t := 2) c1_2 (by decide); have q3 := sw_ne (t := 3) c1_3 (by decide); omega) (by decide) ?_
  refine x_iconst F (v := (-1)) dX10_told_64 (by decide) ?_
  obtain ⟨rfl, rfl⟩ := retS h
  exact x_iret F hr hl dX10_told_65
theorem hd_X7_readFrom : (yX7_readFrom).cls = RX7 ∧ (yX7_readFrom).cls ≠ "java/lang/invoke/MethodHandle" ∧ (yX7_readFrom).cls ≠ "java/lang/invoke/VarHandle" ∧ (parseMethodDescriptor (yX7_readFrom).desc).map (fun d => d.parameters.length) = some 1 := by decide +kernel
theorem hd_X7_copyFrom : (yX7_copyFrom).cls = RX7 ∧ (yX7_copyFrom).cls ≠ "java/lang/invoke/MethodHandle" ∧ (yX7_copyFrom).cls ≠ "java/lang/invoke/VarHandle" ∧ (parseMethodDescriptor (yX7_copyFrom).desc).map (fun d => d.parameters.length) = some 1 := by decide +kernel
theorem dX10_sentence_0 : decode cX10_sentence 0 = .ok (.aload_n 0, 1) := by decide +kernel
theorem dX10_sentence_1 : decode cX10_sentence 1 = .ok (.getfield 59, 3) := by decide +kernel
theorem dX10_sentence_4 : decode cX10_sentence 4 = .ok (.aload_n 0, 1) := by decide +kernel
theorem dX10_sentence_5 : decode cX10_sentence 5 = .ok (.getfield 12, 3) := by decide +kernel
theorem dX10_sentence_8 : decode cX10_sentence 8 = .ok (.invokevirtual 365, 3) := by decide +kernel
theorem dX10_sentence_11 : decode cX10_sentence 11 = .ok (.aload_n 0, 1) := by decide +kernel
theorem dX10_sentence_12 : decode cX10_sentence 12 = .ok (.getfield 12, 3) := by decide +kernel
theorem dX10_sentence_15 : decode cX10_sentence 15 = .ok (.iconst 0, 1) := by decide +kernel
theorem dX10_sentence_16 : decode cX10_sentence 16 = .ok (.putfield 114, 3) := by decide +kernel
theorem dX10_sentence_19 : decode cX10_sentence 19 = .ok (.aload_n 0, 1) := by decide +kernel
theorem dX10_sentence_20 : decode cX10_sentence 20 = .ok (.getfield 12, 3) := by decide +kernel
theorem dX10_sentence_23 : decode cX10_sentence 23 = .ok (.getfield 125, 3) := by decide +kernel
theorem dX10_sentence_26 : decode cX10_sentence 26 = .ok (.ifCond .eq 13, 3) := by decide +kernel
theorem dX10_sentence_29 : decode cX10_sentence 29 = .ok (.iconst (-1), 1) := by decide +kernel
theorem dX10_sentence_30 : decode cX10_sentence 30 = .ok (.aload_n 0, 1) := by decide +kernel
theorem dX10_sentence_31 : decode cX10_sentence 31 = .ok (.getfield 12, 3) := by decide +kernel
theorem dX10_sentence_34 : decode cX10_sentence 34 = .ok (.getfield 128, 3) := by decide +kernel
theorem dX10_sentence_37 : decode cX10_sentence 37 = .ok (.isub, 1) := by decide +kernel
theorem dX10_sentence_38 : decode cX10_sentence 38 = .ok (.ireturn, 1) := by decide +kernel
theorem dX10_sentence_39 : decode cX10_sentence 39 = .ok (.aload_n 0, 1) := by decide +kernel
theorem dX10_sentence_40 : decode cX10_sentence 40 = .ok (.getfield 55, 3) := by decide +kernel
theorem dX10_sentence_43 : decode cX10_sentence 43 = .ok (.aload_n 0, 1) := by decide +kernel
theorem dX10_sentence_44 : decode cX10_sentence 44 = .ok (.getfield 59, 3) := by decide +kernel
theorem dX10_sentence_47 : decode cX10_sentence 47 = .ok (.invokevirtual 366, 3) := by decide +kernel
theorem dX10_sentence_50 : decode cX10_sentence 50 = .ok (.aload_n 0, 1) := by decide +kernel
theorem dX10_sentence_51 : decode cX10_sentence 51 = .ok (.getfield 55, 3) := by decide +kernel
theorem dX10_sentence_54 : decode cX10_sentence 54 = .ok (.getfield 369, 3) := by decide +kernel
theorem dX10_sentence_57 : decode cX10_sentence 57 = .ok (.ireturn, 1) := by decide +kernel
def fX10_sentence (N : Nat) (v0 : Nat) (M : Mem) : Option (Int32 × Mem) := ((fR M 10 v0 8).bind fun x1 => ((fR M 10 v0 0).bind fun x5 => (if mK M x1 = 8 then ((fX7_readFrom N x1 x5 M).bind fun (u8, M8) => ((fR M8 10 v0 0).bind fun x12 => ((pI M8 9 x12 2 0).bind fun M16 => ((fR M16 10 v0 0).bind fun x20 => ((fI M16 9 x20 10).bind fun x23 => (if x23 = 0 then ((fR M16 10 v0 7).bind fun x40 => ((fR M16 10 v0 8).bind fun x44 => (if mK M16 x40 = 8 then ((fX7_copyFrom N x40 x44 M16).bind fun (u47, M47) => ((fR M47 10 v0 7).bind fun x51 => ((fI M47 7 x51 6).bind fun x54 => some (x54, M47)))) else none))) else ((fR M16 10 v0 0).bind fun x31 => ((fI M16 9 x31 11).bind fun x34 => some (((-1)) - x34, M16))))))))) else none)))
set_option maxHeartbeats 4000000 in
set_option maxRecDepth 100000 in
theorem k_X10_sentence (l : Launch) (b : Nat) (D : va_G) (cy : Nat → ClassId) (N : Nat) (v0 : Nat) (M : Mem) (r : Int32) (Mf : Mem) (h : fX10_sentence N v0 M = some (r, Mf)) : Ct l yX10_sentence cX10_sentence 1 (some .int) 47 0 0 b D cy [.ref (b + v0)] M (some (.int r)) Mf := by
  refine Ct_of (own := RX10) (by decide) rfl (Nat.le_of_ble_eq_true rfl) ?_
  intro p e s m args below meth c F hr hl hmn
  unfold fX10_sentence at h
  show X p l e ({ frames := 47, cells := 0, slots := 0, locals := 100 * 47 }) s m args below meth c (MQ below (Qm b D cy (some (.int r)) Mf) args s 0 0 (fun q => b ≤ q)) 1 b D cy 0 0 M 0 [(0, .ref (b + v0))] []
  refine x_aload_n F dX10_sentence_0 rfl 0 rfl ?_
  obtain ⟨x1, c1, h⟩ := bdS h
  refine x_getR F (ci := 10) (C := RX10) (T := TX10) (N := 19) rfl ⟨by decide, rfl⟩ inU10 8 (by decide) (fun _ _ _ => rfl) wl_634 c1 dX10_sentence_1 ?_
  refine x_aload_n F dX10_sentence_4 rfl 0 rfl ?_
  obtain ⟨x5, c5, h⟩ := bdS h
  refine x_getR F (ci := 10) (C := RX10) (T := TX10) (N := 19) rfl ⟨by decide, rfl⟩ inU10 0 (by decide) (fun _ _ _ => rfl) wl_616 c5 dX10_sentence_5 ?_
  obtain ⟨k8, h⟩ := gdS h
  obtain ⟨⟨u8, M8⟩, c8, h⟩ := bdS h
  dsimp only at h
  refine x_callV F (As := [.ref (b + x5)]) (rest := []) (res := none) (ci := 7) (q := (RX7, TX7, 7)) rfl (by decide) k8 (k_X7_readFrom l b D cy N x1 x5 M _ _ c8) wl_830 wl_831 wl_832 wl_430 wl_455 hd_X7_readFrom ⟨Nat.le_of_ble_eq_true rfl, Nat.le_of_ble_eq_true rfl⟩ ⟨Nat.le_refl _, Nat.le_refl _⟩ (Nat.le_of_ble_eq_true rfl) rfl dX10_sentence_8 ?_
  refine x_aload_n F dX10_sentence_11 rfl 0 rfl ?_
  obtain ⟨x12, c12, h⟩ := bdS h
  refine x_getR F (ci := 10) (C := RX10) (T := TX10) (N := 19) rfl ⟨by decide, rfl⟩ inU10 0 (by decide) (fun _ _ _ => rfl) wl_616 c12 dX10_sentence_12 ?_
  refine x_iconst F (v := 0) dX10_sentence_15 (by decide) ?_
  obtain ⟨M16, c16, h⟩ := bdS h
  refine x_putI F (ci := 9) (C := RX9) (T := TX9) (N := 12) rfl ⟨by decide, rfl⟩ inU9 tyX9_ok nmX9 2 (by decide) rfl rfl wl_674 c16 dX10_sentence_16 ?_
  refine x_aload_n F dX10_sentence_19 rfl 0 rfl ?_
  obtain ⟨x20, c20, h⟩ := bdS h
  refine x_getR F (ci := 10) (C := RX10) (T := TX10) (N := 19) rfl ⟨by decide, rfl⟩ inU10 0 (by decide) (fun _ _ _ => rfl) wl_616 c20 dX10_sentence_20 ?_
  obtain ⟨x23, c23, h⟩ := bdS h
  refine x_getI F (ci := 9) (C := RX9) (T := TX9) (N := 12) rfl ⟨by decide, rfl⟩ inU9 10 (by decide) (fun _ _ _ => rfl) wl_679 c23 dX10_sentence_23 ?_
  refine x_if_eq F (tgt := 39) dX10_sentence_26 (by decide) (fun c26 => ?_) (fun c26 => ?_)
  · rw [if_pos c26] at h
    refine x_aload_n F dX10_sentence_39 rfl 0 rfl ?_
    obtain ⟨x40, c40, h⟩ := bdS h
    refine x_getR F (ci := 10) (C := RX10) (T := TX10) (N := 19) rfl ⟨by decide, rfl⟩ inU10 7 (by decide) (fun _ _ _ => rfl) wl_633 c40 dX10_sentence_40 ?_
    refine x_aload_n F dX10_sentence_43 rfl 0 rfl ?_
    obtain ⟨x44, c44, h⟩ := bdS h
    refine x_getR F (ci := 10) (C := RX10) (T := TX10) (N := 19) rfl ⟨by decide, rfl⟩ inU10 8 (by decide) (fun _ _ _ => rfl) wl_634 c44 dX10_sentence_44 ?_
    obtain ⟨k47, h⟩ := gdS h
    obtain ⟨⟨u47, M47⟩, c47, h⟩ := bdS h
    dsimp only at h
    refine x_callV F (As := [.ref (b + x44)]) (rest := []) (res := none) (ci := 7) (q := (RX7, TX7, 7)) rfl (by decide) k47 (k_X7_copyFrom l b D cy N x40 x44 M16 _ _ c47) wl_833 wl_834 wl_835 wl_430 wl_415 hd_X7_copyFrom ⟨Nat.le_of_ble_eq_true rfl, Nat.le_of_ble_eq_true rfl⟩ ⟨Nat.le_refl _, Nat.le_refl _⟩ (Nat.le_of_ble_eq_true rfl) rfl dX10_sentence_47 ?_
    refine x_aload_n F dX10_sentence_50 rfl 0 rfl ?_
    obtain ⟨x51, c51, h⟩ := bdS h
    refine x_getR F (ci := 10) (C := RX10) (T := TX10) (N := 19) rfl ⟨by decide, rfl⟩ inU10 7 (by decide) (fun _ _ _ => rfl) wl_633 c51 dX10_sentence_51 ?_
    obtain ⟨x54, c54, h⟩ := bdS h
    refine x_getI F (ci := 7) (C := RX7) (T := TX7) (N := 7) rfl ⟨by decide, rfl⟩ inU7 6 (by decide) (fun _ _ _ => rfl) wl_829 c54 dX10_sentence_54 ?_
    obtain ⟨rfl, rfl⟩ := retS h
    exact x_iret F hr hl dX10_sentence_57
  · rw [if_neg c26] at h
    refine x_iconst F (v := (-1)) dX10_sentence_29 (by decide) ?_
    refine x_aload_n F dX10_sentence_30 rfl 0 rfl ?_
    obtain ⟨x31, c31, h⟩ := bdS h
    refine x_getR F (ci := 10) (C := RX10) (T := TX10) (N := 19) rfl ⟨by decide, rfl⟩ inU10 0 (by decide) (fun _ _ _ => rfl) wl_616 c31 dX10_sentence_31 ?_
    obtain ⟨x34, c34, h⟩ := bdS h
    refine x_getI F (ci := 9) (C := RX9) (T := TX9) (N := 12) rfl ⟨by decide, rfl⟩ inU9 11 (by decide) (fun _ _ _ => rfl) wl_680 c34 dX10_sentence_34 ?_
    refine x_isub F dX10_sentence_37 ?_
    obtain ⟨rfl, rfl⟩ := retS h
    exact x_iret F hr hl dX10_sentence_38
theorem hd_X7_bandsIn : (yX7_bandsIn).cls = RX7 ∧ (yX7_bandsIn).cls ≠ "java/lang/invoke/MethodHandle" ∧ (yX7_bandsIn).cls ≠ "java/lang/invoke/VarHandle" ∧ (parseMethodDescriptor (yX7_bandsIn).desc).map (fun d => d.parameters.length) = some 1 := by decide +kernel
theorem dX10_said_0 : decode cX10_said 0 = .ok (.aload_n 0, 1) := by decide +kernel
theorem dX10_said_1 : decode cX10_said 1 = .ok (.getfield 55, 3) := by decide +kernel
theorem dX10_said_4 : decode cX10_said 4 = .ok (.getfield 369, 3) := by decide +kernel
theorem dX10_said_7 : decode cX10_said 7 = .ok (.ifCond .ne 5, 3) := by decide +kernel
theorem dX10_said_10 : decode cX10_said 10 = .ok (.iconst (-1), 1) := by decide +kernel
theorem dX10_said_11 : decode cX10_said 11 = .ok (.ireturn, 1) := by decide +kernel
theorem dX10_said_12 : decode cX10_said 12 = .ok (.aload_n 0, 1) := by decide +kernel
theorem dX10_said_13 : decode cX10_said 13 = .ok (.getfield 55, 3) := by decide +kernel
theorem dX10_said_16 : decode cX10_said 16 = .ok (.aload_n 0, 1) := by decide +kernel
theorem dX10_said_17 : decode cX10_said 17 = .ok (.getfield 31, 3) := by decide +kernel
theorem dX10_said_20 : decode cX10_said 20 = .ok (.invokevirtual 372, 3) := by decide +kernel
theorem dX10_said_23 : decode cX10_said 23 = .ok (.istore_n 2, 1) := by decide +kernel
theorem dX10_said_24 : decode cX10_said 24 = .ok (.iload_n 1, 1) := by decide +kernel
theorem dX10_said_25 : decode cX10_said 25 = .ok (.iconst (-1), 1) := by decide +kernel
theorem dX10_said_26 : decode cX10_said 26 = .ok (.if_icmp .ne 8, 3) := by decide +kernel
theorem dX10_said_29 : decode cX10_said 29 = .ok (.iload_n 2, 1) := by decide +kernel
theorem dX10_said_30 : decode cX10_said 30 = .ok (.invokestatic 375, 3) := by decide +kernel
theorem dX10_said_33 : decode cX10_said 33 = .ok (.ireturn, 1) := by decide +kernel
theorem dX10_said_34 : decode cX10_said 34 = .ok (.iconst 0, 1) := by decide +kernel
theorem dX10_said_35 : decode cX10_said 35 = .ok (.istore_n 3, 1) := by decide +kernel
theorem dX10_said_36 : decode cX10_said 36 = .ok (.iconst 0, 1) := by decide +kernel
theorem dX10_said_37 : decode cX10_said 37 = .ok (.istore 4, 2) := by decide +kernel
theorem dX10_said_39 : decode cX10_said 39 = .ok (.iload 4, 2) := by decide +kernel
theorem dX10_said_41 : decode cX10_said 41 = .ok (.aload_n 0, 1) := by decide +kernel
theorem dX10_said_42 : decode cX10_said 42 = .ok (.getfield 19, 3) := by decide +kernel
theorem dX10_said_45 : decode cX10_said 45 = .ok (.getfield 241, 3) := by decide +kernel
theorem dX10_said_48 : decode cX10_said 48 = .ok (.if_icmp .ge 29, 3) := by decide +kernel
theorem dX10_said_51 : decode cX10_said 51 = .ok (.iload_n 2, 1) := by decide +kernel
theorem dX10_said_52 : decode cX10_said 52 = .ok (.iload 4, 2) := by decide +kernel
theorem dX10_said_54 : decode cX10_said 54 = .ok (.ishr, 1) := by decide +kernel
theorem dX10_said_55 : decode cX10_said 55 = .ok (.iconst 1, 1) := by decide +kernel
theorem dX10_said_56 : decode cX10_said 56 = .ok (.iand, 1) := by decide +kernel
theorem dX10_said_57 : decode cX10_said 57 = .ok (.ifCond .eq 14, 3) := by decide +kernel
theorem dX10_said_60 : decode cX10_said 60 = .ok (.iload_n 3, 1) := by decide +kernel
theorem dX10_said_61 : decode cX10_said 61 = .ok (.iload_n 1, 1) := by decide +kernel
theorem dX10_said_62 : decode cX10_said 62 = .ok (.if_icmp .ne 6, 3) := by decide +kernel
theorem dX10_said_65 : decode cX10_said 65 = .ok (.iload 4, 2) := by decide +kernel
theorem dX10_said_67 : decode cX10_said 67 = .ok (.ireturn, 1) := by decide +kernel
theorem dX10_said_68 : decode cX10_said 68 = .ok (.iinc 3 1, 3) := by decide +kernel
theorem dX10_said_71 : decode cX10_said 71 = .ok (.iinc 4 1, 3) := by decide +kernel
theorem dX10_said_74 : decode cX10_said 74 = .ok (.goto (-35), 3) := by decide +kernel
theorem dX10_said_77 : decode cX10_said 77 = .ok (.iconst (-1), 1) := by decide +kernel
theorem dX10_said_78 : decode cX10_said 78 = .ok (.ireturn, 1) := by decide +kernel
def fX10_said_L39 (N : Nat) (v0 : Nat) (v1 : Int32) (v2 : Int32) : Nat → Int32 → Int32 → Mem → Option (Int32 × Mem)
  | 0, _, _, _ => none
  | n + 1, v3, v4, M => ((fR M 10 v0 1).bind fun x42 => ((fI M 8 x42 0).bind fun x45 => (if x45 ≤ v4 then some ((-1), M) else (if ((v2 >>> (v4 &&& 31)) &&& 1) = 0 then fX10_said_L39 N v0 v1 v2 n v3 (v4 + 1) M else (if v3 = v1 then some (v4, M) else fX10_said_L39 N v0 v1 v2 n (v3 + 1) (v4 + 1) M)))))
def fX10_said (N : Nat) (v0 : Nat) (v1 : Int32) (M : Mem) : Option (Int32 × Mem) := ((fR M 10 v0 7).bind fun x1 => ((fI M 7 x1 6).bind fun x4 => (if x4 = 0 then some ((-1), M) else ((fR M 10 v0 7).bind fun x13 => ((fR M 10 v0 3).bind fun x17 => (if mK M x13 = 8 then ((fX7_bandsIn N x13 x17 M).bind fun (x20, M20) => (if v1 = ((-1)) then ((fJ6_bitCount_0f7a4 N x20 M20).bind fun (x30, M30) => some (x30, M30)) else ((fX10_said_L39 N v0 v1 x20 N 0 0 M20).bind fun o39 => some o39))) else none))))))
set_option maxHeartbeats 4000000 in
set_option maxRecDepth 100000 in
theorem k_X10_said (l : Launch) (b : Nat) (D : va_G) (cy : Nat → ClassId) (N : Nat) (v0 : Nat) (v1 : Int32) (M : Mem) (r : Int32) (Mf : Mem) (h : fX10_said N v0 v1 M = some (r, Mf)) : Ct l yX10_said cX10_said 5 (some .int) 6 0 0 b D cy [.ref (b + v0), .int v1] M (some (.int r)) Mf := by
  refine Ct_of (own := RX10) (by decide) rfl (Nat.le_of_ble_eq_true rfl) ?_
  intro p e s m args below meth c F hr hl hmn
  unfold fX10_said at h
  show X p l e ({ frames := 6, cells := 0, slots := 0, locals := 100 * 6 }) s m args below meth c (MQ below (Qm b D cy (some (.int r)) Mf) args s 0 0 (fun q => b ≤ q)) 5 b D cy 0 0 M 0 [(0, .ref (b + v0)), (1, .int v1)] []
  refine x_aload_n F dX10_said_0 rfl 0 rfl ?_
  obtain ⟨x1, c1, h⟩ := bdS h
  refine x_getR F (ci := 10) (C := RX10) (T := TX10) (N := 19) rfl ⟨by decide, rfl⟩ inU10 7 (by decide) (fun _ _ _ => rfl) wl_633 c1 dX10_said_1 ?_
  obtain ⟨x4, c4, h⟩ := bdS h
  refine x_getI F (ci := 7) (C := RX7) (T := TX7) (N := 7) rfl ⟨by decide, rfl⟩ inU7 6 (by decide) (fun _ _ _ => rfl) wl_829 c4 dX10_said_4 ?_
  refine x_if_ne F (tgt := 12) dX10_said_7 (by decide) (fun c7 => ?_) (fun c7 => ?_)
  · rw [if_neg c7] at h
    refine x_aload_n F dX10_said_12 rfl 0 rfl ?_
    obtain ⟨x13, c13, h⟩ := bdS h
    refine x_getR F (ci := 10) (C := RX10) (T := TX10) (N := 19) rfl ⟨by decide, rfl⟩ inU10 7 (by decide) (fun _ _ _ => rfl) wl_633 c13 dX10_said_13 ?_
    refine x_aload_n F dX10_said_16 rfl 0 rfl ?_
    obtain ⟨x17, c17, h⟩ := bdS h
    refine x_getR F (ci := 10) (C := RX10) (T := TX10) (N := 19) rfl ⟨by decide, rfl⟩ inU10 3 (by decide) (fun _ _ _ => rfl) wl_622 c17 dX10_said_17 ?_
    obtain ⟨k20, h⟩ := gdS h
    obtain ⟨⟨x20, M20⟩, c20, h⟩ := bdS h
    dsimp only at h
    refine x_callV F (As := [.ref (b + x17)]) (rest := []) (res := (some (.int x20))) (ci := 7) (q := (RX7, TX7, 7)) rfl (by decide) k20 (k_X7_bandsIn l b D cy N x13 x17 M _ _ c20) wl_837 wl_838 wl_839 wl_430 wl_482 hd_X7_bandsIn ⟨Nat.le_of_ble_eq_true rfl, Nat.le_of_ble_eq_true rfl⟩ ⟨Nat.le_refl _, Nat.le_refl _⟩ (Nat.le_of_ble_eq_true rfl) rfl dX10_said_20 ?_
    refine x_istore_n F (lv' := [(2, .int x20), (0, .ref (b + v0)), (1, .int v1)]) dX10_said_23 rfl (by decide) rfl ?_
    refine x_iload_n F dX10_said_24 rfl 2 rfl ?_
    refine x_iconst F (v := (-1)) dX10_said_25 (by decide) ?_
    refine x_icmp_ne F (tgt := 34) dX10_said_26 (by decide) (fun c26 => ?_) (fun c26 => ?_)
    · rw [if_neg c26] at h
      refine x_iconst F (v := 0) dX10_said_34 (by decide) ?_
      refine x_istore_n F (lv' := [(3, .int 0), (2, .int x20), (0, .ref (b + v0)), (1, .int v1)]) dX10_said_35 rfl (by decide) rfl ?_
      refine x_iconst F (v := 0) dX10_said_36 (by decide) ?_
      refine x_istore F (lv' := [(4, .int 0), (3, .int 0), (2, .int x20), (0, .ref (b + v0)), (1, .int v1)]) dX10_said_37 (by decide) rfl ?_
      have L39 : ∀ (v0 : Nat) (v1 : Int32) (v2 : Int32) (n : Nat) (v3 : Int32) (v4 : Int32) (M : Mem) (o : Int32 × Mem), fX10_said_L39 N v0 v1 v2 n v3 v4 M = some o → (∀ (r' : Int32) (M' : Mem), o = (r', M') → r' = r ∧ M' = Mf) → X p l e ({ frames := 6, cells := 0, slots := 0, locals := 100 * 6 }) s m args below meth c (MQ below (Qm b D cy (some (.int r)) Mf) args s 0 0 (fun q => b ≤ q)) 5 b D cy 0 0 M 39 [(0, .ref (b + v0)), (1, .int v1), (2, .int v2), (3, .int v3), (4, .int v4)] [] := by
        intro v0 v1 v2 n
        induction n with
        | zero => intro v3 v4 M o h; exact absurd h (by rw [fX10_said_L39]; exact fun z => by cases z)
        | succ n ih =>
          intro v3 v4 M o h hR
          rw [fX10_said_L39] at h
          refine x_iload F dX10_said_39 4 rfl ?_
          refine x_aload_n F dX10_said_41 rfl 0 rfl ?_
          obtain ⟨x42, c42, h⟩ := bdS h
          refine x_getR F (ci := 10) (C := RX10) (T := TX10) (N := 19) rfl ⟨by decide, rfl⟩ inU10 1 (by decide) (fun _ _ _ => rfl) wl_619 c42 dX10_said_42 ?_
          obtain ⟨x45, c45, h⟩ := bdS h
          refine x_getI F (ci := 8) (C := RX8) (T := TX8) (N := 17) rfl ⟨by decide, rfl⟩ inU8 0 (by decide) (fun _ _ _ => rfl) wl_742 c45 dX10_said_45 ?_
          refine x_icmp_ge F (tgt := 77) dX10_said_48 (by decide) (fun c48 => ?_) (fun c48 => ?_)
          · rw [if_pos c48] at h
            refine x_iconst F (v := (-1)) dX10_said_77 (by decide) ?_
            obtain rfl := Option.some.inj h
            obtain ⟨rfl, rfl⟩ := hR _ _ rfl
            exact x_iret F hr hl dX10_said_78
          · rw [if_neg c48] at h
            refine x_iload_n F dX10_said_51 rfl 2 rfl ?_
            refine x_iload F dX10_said_52 4 rfl ?_
            refine x_ishr F dX10_said_54 ?_
            refine x_iconst F (v := 1) dX10_said_55 (by decide) ?_
            refine x_iand F dX10_said_56 ?_
            refine x_if_eq F (tgt := 71) dX10_said_57 (by decide) (fun c57 => ?_) (fun c57 => ?_)
            · rw [if_pos c57] at h
              refine x_iinc F (v := v4 + 1) (lv' := [(4, .int (v4 + 1)), (0, .ref (b + v0)), (1, .int v1), (2, .int v2), (3, .int v3)]) dX10_said_71 4 rfl rfl (by decide) rfl ?_
              refine x_goto F (tgt := 39) dX10_said_74 (by decide) ?_
              refine x_sub [1, 2, 3, 4, 0] rfl ?_
              exact ih v3 (v4 + 1) M o h hR
            · rw [if_neg c57] at h
              refine x_iload_n F dX10_said_60 rfl 3 rfl ?_
              refine x_iload_n F dX10_said_61 rfl 1 rfl ?_
              refine x_icmp_ne F (tgt := 68) dX10_said_62 (by decide) (fun c62 => ?_) (fun c62 => ?_)
              · rw [if_neg c62] at h
                refine x_iinc F (v := v3 + 1) (lv' := [(3, .int (v3 + 1)), (0, .ref (b + v0)), (1, .int v1), (2, .int v2), (4, .int v4)]) dX10_said_68 3 rfl rfl (by decide) rfl ?_
                refine x_iinc F (v := v4 + 1) (lv' := [(4, .int (v4 + 1)), (3, .int (v3 + 1)), (0, .ref (b + v0)), (1, .int v1), (2, .int v2)]) dX10_said_71 4 rfl rfl (by decide) rfl ?_
                refine x_goto F (tgt := 39) dX10_said_74 (by decide) ?_
                refine x_sub [2, 3, 4, 1, 0] rfl ?_
                exact ih (v3 + 1) (v4 + 1) M o h hR
              · rw [if_pos c62] at h
                refine x_iload F dX10_said_65 4 rfl ?_
                obtain rfl := Option.some.inj h
                obtain ⟨rfl, rfl⟩ := hR _ _ rfl
                exact x_iret F hr hl dX10_said_67
      obtain ⟨o39, h39, h⟩ := bdS h
      refine x_sub [3, 4, 2, 1, 0] rfl ?_
      refine L39 v0 v1 x20 N 0 0 M20 o39 h39 (fun r' M' e => ?_)
      · subst e
        try dsimp only at h
        obtain ⟨rfl, rfl⟩ := retS h; exact ⟨rfl, rfl⟩
    · rw [if_pos c26] at h
      refine x_iload_n F dX10_said_29 rfl 0 rfl ?_
      obtain ⟨⟨x30, M30⟩, c30, h⟩ := bdS h
      dsimp only at h
      refine x_callS F (As := [.int x20]) (rest := []) (res := (some (.int x30))) (k_J6_bitCount_0f7a4 l b D cy N x20 M20 _ _ c30) wl_840 wl_126 wl_127 wl_114 (hd_J6_bitCount_0f7a4).2 ⟨Nat.le_of_ble_eq_true rfl, Nat.le_of_ble_eq_true rfl⟩ ⟨Nat.le_refl _, Nat.le_refl _⟩ (Nat.le_of_ble_eq_true rfl) rfl dX10_said_30 ?_
      obtain ⟨rfl, rfl⟩ := retS h
      exact x_iret F hr hl dX10_said_33
  · rw [if_pos c7] at h
    refine x_iconst F (v := (-1)) dX10_said_10 (by decide) ?_
    obtain ⟨rfl, rfl⟩ := retS h
    exact x_iret F hr hl dX10_said_11
theorem dX10_image_0 : decode cX10_image 0 = .ok (.iload_n 1, 1) := by decide +kernel
theorem dX10_image_1 : decode cX10_image 1 = .ok (.ifCond .lt 8, 3) := by decide +kernel
theorem dX10_image_4 : decode cX10_image 4 = .ok (.iload_n 1, 1) := by decide +kernel
theorem dX10_image_5 : decode cX10_image 5 = .ok (.iconst 2, 1) := by decide +kernel
theorem dX10_image_6 : decode cX10_image 6 = .ok (.if_icmp .lt 5, 3) := by decide +kernel
theorem dX10_image_9 : decode cX10_image 9 = .ok (.iconst 0, 1) := by decide +kernel
theorem dX10_image_10 : decode cX10_image 10 = .ok (.ireturn, 1) := by decide +kernel
theorem dX10_image_11 : decode cX10_image 11 = .ok (.aload_n 0, 1) := by decide +kernel
theorem dX10_image_12 : decode cX10_image 12 = .ok (.getfield 98, 3) := by decide +kernel
theorem dX10_image_15 : decode cX10_image 15 = .ok (.iload_n 1, 1) := by decide +kernel
theorem dX10_image_16 : decode cX10_image 16 = .ok (.aaload, 1) := by decide +kernel
theorem dX10_image_17 : decode cX10_image 17 = .ok (.aload_n 0, 1) := by decide +kernel
theorem dX10_image_18 : decode cX10_image 18 = .ok (.getfield 19, 3) := by decide +kernel
theorem dX10_image_21 : decode cX10_image 21 = .ok (.invokevirtual 131, 3) := by decide +kernel
theorem dX10_image_24 : decode cX10_image 24 = .ok (.aload_n 0, 1) := by decide +kernel
theorem dX10_image_25 : decode cX10_image 25 = .ok (.getfield 102, 3) := by decide +kernel
theorem dX10_image_28 : decode cX10_image 28 = .ok (.iload_n 1, 1) := by decide +kernel
theorem dX10_image_29 : decode cX10_image 29 = .ok (.aaload, 1) := by decide +kernel
theorem dX10_image_30 : decode cX10_image 30 = .ok (.aload_n 0, 1) := by decide +kernel
theorem dX10_image_31 : decode cX10_image 31 = .ok (.getfield 31, 3) := by decide +kernel
theorem dX10_image_34 : decode cX10_image 34 = .ok (.invokevirtual 347, 3) := by decide +kernel
theorem dX10_image_37 : decode cX10_image 37 = .ok (.aload_n 0, 1) := by decide +kernel
theorem dX10_image_38 : decode cX10_image 38 = .ok (.getfield 106, 3) := by decide +kernel
theorem dX10_image_41 : decode cX10_image 41 = .ok (.iload_n 1, 1) := by decide +kernel
theorem dX10_image_42 : decode cX10_image 42 = .ok (.aaload, 1) := by decide +kernel
theorem dX10_image_43 : decode cX10_image 43 = .ok (.aload_n 0, 1) := by decide +kernel
theorem dX10_image_44 : decode cX10_image 44 = .ok (.getfield 55, 3) := by decide +kernel
theorem dX10_image_47 : decode cX10_image 47 = .ok (.invokevirtual 366, 3) := by decide +kernel
theorem dX10_image_50 : decode cX10_image 50 = .ok (.aload_n 0, 1) := by decide +kernel
theorem dX10_image_51 : decode cX10_image 51 = .ok (.getfield 110, 3) := by decide +kernel
theorem dX10_image_54 : decode cX10_image 54 = .ok (.iload_n 1, 1) := by decide +kernel
theorem dX10_image_55 : decode cX10_image 55 = .ok (.iconst 1, 1) := by decide +kernel
theorem dX10_image_56 : decode cX10_image 56 = .ok (.bastore, 1) := by decide +kernel
theorem dX10_image_57 : decode cX10_image 57 = .ok (.iconst 1, 1) := by decide +kernel
theorem dX10_image_58 : decode cX10_image 58 = .ok (.ireturn, 1) := by decide +kernel
def fX10_image (N : Nat) (v0 : Nat) (v1 : Int32) (M : Mem) : Option (Int32 × Mem) := (if v1 < 0 then some (0, M) else (if v1 < 2 then ((fR M 10 v0 15).bind fun x12 => ((aR M 25 x12 v1).bind fun x16 => ((fR M 10 v0 1).bind fun x18 => (if mK M x16 = 9 then ((fX8_copyFrom N x16 x18 M).bind fun (u21, M21) => ((fR M21 10 v0 16).bind fun x25 => ((aR M21 23 x25 v1).bind fun x29 => ((fR M21 10 v0 3).bind fun x31 => (if mK M21 x29 = 1 then ((fX0_copyFrom N x29 x31 M21).bind fun (u34, M34) => ((fR M34 10 v0 17).bind fun x38 => ((aR M34 24 x38 v1).bind fun x42 => ((fR M34 10 v0 7).bind fun x44 => (if mK M34 x42 = 8 then ((fX7_copyFrom N x42 x44 M34).bind fun (u47, M47) => ((fR M47 10 v0 18).bind fun x51 => ((tZ M47 x51 v1 1).bind fun M56 => some (1, M56)))) else none))))) else none))))) else none)))) else some (0, M)))
set_option maxHeartbeats 4000000 in
set_option maxRecDepth 100000 in
theorem k_X10_image (l : Launch) (b : Nat) (D : va_G) (cy : Nat → ClassId) (N : Nat) (v0 : Nat) (v1 : Int32) (M : Mem) (r : Int32) (Mf : Mem) (h : fX10_image N v0 v1 M = some (r, Mf)) : Ct l yX10_image cX10_image 2 (some .boolean) 2 0 0 b D cy [.ref (b + v0), .int v1] M (some (.int r)) Mf := by
  refine Ct_of (own := RX10) (by decide) rfl (Nat.le_of_ble_eq_true rfl) ?_
  intro p e s m args below meth c F hr hl hmn
  unfold fX10_image at h
  show X p l e ({ frames := 2, cells := 0, slots := 0, locals := 100 * 2 }) s m args below meth c (MQ below (Qm b D cy (some (.int r)) Mf) args s 0 0 (fun q => b ≤ q)) 2 b D cy 0 0 M 0 [(0, .ref (b + v0)), (1, .int v1)] []
  refine x_iload_n F dX10_image_0 rfl 1 rfl ?_
  refine x_if_lt F (tgt := 9) dX10_image_1 (by decide) (fun c1 => ?_) (fun c1 => ?_)
  · rw [if_pos c1] at h
    refine x_iconst F (v := 0) dX10_image_9 (by decide) ?_
    obtain ⟨rfl, rfl⟩ := retS h
    exact x_zret F hr hl (by decide) dX10_image_10
  · rw [if_neg c1] at h
    refine x_iload_n F dX10_image_4 rfl 1 rfl ?_
    refine x_iconst F (v := 2) dX10_image_5 (by decide) ?_
    refine x_icmp_lt F (tgt := 11) dX10_image_6 (by decide) (fun c6 => ?_) (fun c6 => ?_)
    · rw [if_pos c6] at h
      refine x_aload_n F dX10_image_11 rfl 0 rfl ?_
      obtain ⟨x12, c12, h⟩ := bdS h
      refine x_getR F (ci := 10) (C := RX10) (T := TX10) (N := 19) rfl ⟨by decide, rfl⟩ inU10 15 (by decide) (fun _ _ _ => rfl) wl_649 c12 dX10_image_12 ?_
      refine x_iload_n F dX10_image_15 rfl 1 rfl ?_
      obtain ⟨x16, c16, h⟩ := bdS h
      refine x_aR F (kd := 25) 5 rfl (by decide) c16 dX10_image_16 ?_
      refine x_aload_n F dX10_image_17 rfl 0 rfl ?_
      obtain ⟨x18, c18, h⟩ := bdS h
      refine x_getR F (ci := 10) (C := RX10) (T := TX10) (N := 19) rfl ⟨by decide, rfl⟩ inU10 1 (by decide) (fun _ _ _ => rfl) wl_619 c18 dX10_image_18 ?_
      obtain ⟨k21, h⟩ := gdS h
      obtain ⟨⟨u21, M21⟩, c21, h⟩ := bdS h
      dsimp only at h
      refine x_callV F (As := [.ref (b + x18)]) (rest := []) (res := none) (ci := 8) (q := (RX8, TX8, 17)) rfl (by decide) k21 (k_X8_copyFrom l b D cy N x16 x18 M _ _ c21) wl_685 wl_686 wl_687 wl_75 wl_496 hd_X8_copyFrom ⟨Nat.le_of_ble_eq_true rfl, Nat.le_of_ble_eq_true rfl⟩ ⟨Nat.le_refl _, Nat.le_refl _⟩ (Nat.le_of_ble_eq_true rfl) rfl dX10_image_21 ?_
      refine x_aload_n F dX10_image_24 rfl 0 rfl ?_
      obtain ⟨x25, c25, h⟩ := bdS h
      refine x_getR F (ci := 10) (C := RX10) (T := TX10) (N := 19) rfl ⟨by decide, rfl⟩ inU10 16 (by decide) (fun _ _ _ => rfl) wl_650 c25 dX10_image_25 ?_
      refine x_iload_n F dX10_image_28 rfl 1 rfl ?_
      obtain ⟨x29, c29, h⟩ := bdS h
      refine x_aR F (kd := 23) 3 rfl (by decide) c29 dX10_image_29 ?_
      refine x_aload_n F dX10_image_30 rfl 0 rfl ?_
      obtain ⟨x31, c31, h⟩ := bdS h
      refine x_getR F (ci := 10) (C := RX10) (T := TX10) (N := 19) rfl ⟨by decide, rfl⟩ inU10 3 (by decide) (fun _ _ _ => rfl) wl_622 c31 dX10_image_31 ?_
      obtain ⟨k34, h⟩ := gdS h
      obtain ⟨⟨u34, M34⟩, c34, h⟩ := bdS h
      dsimp only at h
      refine x_callV F (As := [.ref (b + x31)]) (rest := []) (res := none) (ci := 0) (q := (RX0, TX0, 12)) rfl (by decide) k34 (k_X0_copyFrom l b D cy N x29 x31 M21 _ _ c34) wl_815 wl_382 wl_383 wl_52 wl_22 hd_X0_copyFrom ⟨Nat.le_of_ble_eq_true rfl, Nat.le_of_ble_eq_true rfl⟩ ⟨Nat.le_refl _, Nat.le_refl _⟩ (Nat.le_of_ble_eq_true rfl) rfl dX10_image_34 ?_
      refine x_aload_n F dX10_image_37 rfl 0 rfl ?_
      obtain ⟨x38, c38, h⟩ := bdS h
      refine x_getR F (ci := 10) (C := RX10) (T := TX10) (N := 19) rfl ⟨by decide, rfl⟩ inU10 17 (by decide) (fun _ _ _ => rfl) wl_651 c38 dX10_image_38 ?_
      refine x_iload_n F dX10_image_41 rfl 1 rfl ?_
      obtain ⟨x42, c42, h⟩ := bdS h
      refine x_aR F (kd := 24) 4 rfl (by decide) c42 dX10_image_42 ?_
      refine x_aload_n F dX10_image_43 rfl 0 rfl ?_
      obtain ⟨x44, c44, h⟩ := bdS h
      refine x_getR F (ci := 10) (C := RX10) (T := TX10) (N := 19) rfl ⟨by decide, rfl⟩ inU10 7 (by decide) (fun _ _ _ => rfl) wl_633 c44 dX10_image_44 ?_
      obtain ⟨k47, h⟩ := gdS h
      obtain ⟨⟨u47, M47⟩, c47, h⟩ := bdS h
      dsimp only at h
      refine x_callV F (As := [.ref (b + x44)]) (rest := []) (res := none) (ci := 7) (q := (RX7, TX7, 7)) rfl (by decide) k47 (k_X7_copyFrom l b D cy N x42 x44 M34 _ _ c47) wl_833 wl_834 wl_835 wl_430 wl_415 hd_X7_copyFrom ⟨Nat.le_of_ble_eq_true rfl, Nat.le_of_ble_eq_true rfl⟩ ⟨Nat.le_refl _, Nat.le_refl _⟩ (Nat.le_of_ble_eq_true rfl) rfl dX10_image_47 ?_
      refine x_aload_n F dX10_image_50 rfl 0 rfl ?_
      obtain ⟨x51, c51, h⟩ := bdS h
      refine x_getR F (ci := 10) (C := RX10) (T := TX10) (N := 19) rfl ⟨by decide, rfl⟩ inU10 18 (by decide) (fun _ _ _ => rfl) wl_653 c51 dX10_image_51 ?_
      refine x_iload_n F dX10_image_54 rfl 1 rfl ?_
      refine x_iconst F (v := 1) dX10_image_55 (by decide) ?_
      obtain ⟨M56, c56, h⟩ := bdS h
      refine x_tZ F c56 dX10_image_56 ?_
      refine x_iconst F (v := 1) dX10_image_57 (by decide) ?_
      obtain ⟨rfl, rfl⟩ := retS h
      exact x_zret F hr hl (by decide) dX10_image_58
    · rw [if_neg c6] at h
      refine x_iconst F (v := 0) dX10_image_9 (by decide) ?_
      obtain ⟨rfl, rfl⟩ := retS h
      exact x_zret F hr hl (by decide) dX10_image_10
