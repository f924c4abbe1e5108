theorem dX3_setFewer_0 : decode cX3_setFewer 0 = .ok (.iload_n 1, 1) := by decide +kernel
theorem dX3_setFewer_1 : decode cX3_setFewer 1 = .ok (.bipush 10, 2) := by decide +kernel
theorem dX3_setFewer_3 : decode cX3_setFewer 3 = .ok (.imul, 1) := by decide +kernel
theorem dX3_setFewer_4 : decode cX3_setFewer 4 = .ok (.iload_n 2, 1) := by decide +kernel
theorem dX3_setFewer_5 : decode cX3_setFewer 5 = .ok (.iadd, 1) := by decide +kernel
theorem dX3_setFewer_6 : decode cX3_setFewer 6 = .ok (.istore 4, 2) := by decide +kernel
theorem dX3_setFewer_8 : decode cX3_setFewer 8 = .ok (.iload 4, 2) := by decide +kernel
theorem dX3_setFewer_10 : decode cX3_setFewer 10 = .ok (.ifCond .lt 23, 3) := by decide +kernel
theorem dX3_setFewer_13 : decode cX3_setFewer 13 = .ok (.iload 4, 2) := by decide +kernel
theorem dX3_setFewer_15 : decode cX3_setFewer 15 = .ok (.aload_n 0, 1) := by decide +kernel
theorem dX3_setFewer_16 : decode cX3_setFewer 16 = .ok (.arraylength, 1) := by decide +kernel
theorem dX3_setFewer_17 : decode cX3_setFewer 17 = .ok (.if_icmp .ge 16, 3) := by decide +kernel
theorem dX3_setFewer_20 : decode cX3_setFewer 20 = .ok (.iload_n 3, 1) := by decide +kernel
theorem dX3_setFewer_21 : decode cX3_setFewer 21 = .ok (.aload_n 0, 1) := by decide +kernel
theorem dX3_setFewer_22 : decode cX3_setFewer 22 = .ok (.iload 4, 2) := by decide +kernel
theorem dX3_setFewer_24 : decode cX3_setFewer 24 = .ok (.iaload, 1) := by decide +kernel
theorem dX3_setFewer_25 : decode cX3_setFewer 25 = .ok (.if_icmp .ge 8, 3) := by decide +kernel
theorem dX3_setFewer_28 : decode cX3_setFewer 28 = .ok (.aload_n 0, 1) := by decide +kernel
theorem dX3_setFewer_29 : decode cX3_setFewer 29 = .ok (.iload 4, 2) := by decide +kernel
theorem dX3_setFewer_31 : decode cX3_setFewer 31 = .ok (.iload_n 3, 1) := by decide +kernel
theorem dX3_setFewer_32 : decode cX3_setFewer 32 = .ok (.iastore, 1) := by decide +kernel
theorem dX3_setFewer_33 : decode cX3_setFewer 33 = .ok (.return_, 1) := by decide +kernel
def fX3_setFewer (N : Nat) (v0 : Nat) (v1 : Int32) (v2 : Int32) (v3 : Int32) (M : Mem) : Option (Unit × Mem) := (if ((v1 * 10) + v2) < 0 then some ((), M) else ((nA M v0).bind fun x16 => (if x16 ≤ ((v1 * 10) + v2) then some ((), M) else ((aI M v0 ((v1 * 10) + v2)).bind fun x24 => (if x24 ≤ v3 then some ((), M) else ((tI M v0 ((v1 * 10) + v2) v3).bind fun M32 => some ((), M32)))))))
set_option maxHeartbeats 4000000 in
set_option maxRecDepth 100000 in
theorem k_X3_setFewer (l : Launch) (b : Nat) (D : va_G) (cy : Nat → ClassId) (N : Nat) (v0 : Nat) (v1 : Int32) (v2 : Int32) (v3 : Int32) (M : Mem) (r : Unit) (Mf : Mem) (h : fX3_setFewer N v0 v1 v2 v3 M = some (r, Mf)) : Ct l yX3_setFewer cX3_setFewer 5 none 1 0 0 b D cy [.ref (b + v0), .int v1, .int v2, .int v3] M none Mf := by
  refine Ct_of (own := RX3) (by decide) rfl (Nat.le_of_ble_eq_true rfl) ?_
  intro p e s m args below meth c F hr hl hmn
  unfold fX3_setFewer at h
  show X p l e ({ frames := 1, cells := 0, slots := 0, locals := 100 * 1 }) s m args below meth c (MQ below (Qm b D cy none Mf) args s 0 0 (fun q => b ≤ q)) 5 b D cy 0 0 M 0 [(0, .ref (b + v0)), (1, .int v1), (2, .int v2), (3, .int v3)] []
  refine x_iload_n F dX3_setFewer_0 rfl 1 rfl ?_
  refine x_bipush F (v := 10) dX3_setFewer_1 (by decide) ?_
  refine x_imul F dX3_setFewer_3 ?_
  refine x_iload_n F dX3_setFewer_4 rfl 2 rfl ?_
  refine x_iadd F dX3_setFewer_5 ?_
  refine x_istore F (lv' := [(4, .int ((v1 * 10) + v2)), (0, .ref (b + v0)), (1, .int v1), (2, .int v2), (3, .int v3)]) dX3_setFewer_6 (by decide) rfl ?_
  refine x_iload F dX3_setFewer_8 0 rfl ?_
  refine x_if_lt F (tgt := 33) dX3_setFewer_10 (by decide) (fun c10 => ?_) (fun c10 => ?_)
  · rw [if_pos c10] at h
    obtain ⟨rfl, rfl⟩ := retS h
    exact x_vret F hr hl dX3_setFewer_33
  · rw [if_neg c10] at h
    refine x_iload F dX3_setFewer_13 0 rfl ?_
    refine x_aload_n F dX3_setFewer_15 rfl 1 rfl ?_
    obtain ⟨x16, c16, h⟩ := bdS h
    refine x_nA F c16 dX3_setFewer_16 ?_
    refine x_icmp_ge F (tgt := 33) dX3_setFewer_17 (by decide) (fun c17 => ?_) (fun c17 => ?_)
    · rw [if_pos c17] at h
      obtain ⟨rfl, rfl⟩ := retS h
      exact x_vret F hr hl dX3_setFewer_33
    · rw [if_neg c17] at h
      refine x_iload_n F dX3_setFewer_20 rfl 4 rfl ?_
      refine x_aload_n F dX3_setFewer_21 rfl 1 rfl ?_
      refine x_iload F dX3_setFewer_22 0 rfl ?_
      obtain ⟨x24, c24, h⟩ := bdS h
      refine x_aI F c24 dX3_setFewer_24 ?_
      refine x_icmp_ge F (tgt := 33) dX3_setFewer_25 (by decide) (fun c25 => ?_) (fun c25 => ?_)
      · rw [if_pos c25] at h
        obtain ⟨rfl, rfl⟩ := retS h
        exact x_vret F hr hl dX3_setFewer_33
      · rw [if_neg c25] at h
        refine x_aload_n F dX3_setFewer_28 rfl 1 rfl ?_
        refine x_iload F dX3_setFewer_29 0 rfl ?_
        refine x_iload_n F dX3_setFewer_31 rfl 4 rfl ?_
        obtain ⟨M32, c32, h⟩ := bdS h
        refine x_tI F c32 dX3_setFewer_32 ?_
        obtain ⟨rfl, rfl⟩ := retS h
        exact x_vret F hr hl dX3_setFewer_33
theorem hd_X3_setFewer : (yX3_setFewer).cls = RX3 ∧ (yX3_setFewer).cls ≠ "java/lang/invoke/MethodHandle" ∧ (yX3_setFewer).cls ≠ "java/lang/invoke/VarHandle" ∧ (parseMethodDescriptor (yX3_setFewer).desc).map (fun d => d.parameters.length) = some 4 := by decide +kernel
theorem dX3_passHourAt_0 : decode cX3_passHourAt 0 = .ok (.iload_n 2, 1) := by decide +kernel
theorem dX3_passHourAt_1 : decode cX3_passHourAt 1 = .ok (.ifCond .le 22, 3) := by decide +kernel
theorem dX3_passHourAt_4 : decode cX3_passHourAt 4 = .ok (.iload_n 2, 1) := by decide +kernel
theorem dX3_passHourAt_5 : decode cX3_passHourAt 5 = .ok (.iload_n 3, 1) := by decide +kernel
theorem dX3_passHourAt_6 : decode cX3_passHourAt 6 = .ok (.if_icmp .le 17, 3) := by decide +kernel
theorem dX3_passHourAt_9 : decode cX3_passHourAt 9 = .ok (.aload_n 0, 1) := by decide +kernel
theorem dX3_passHourAt_10 : decode cX3_passHourAt 10 = .ok (.getfield 15, 3) := by decide +kernel
theorem dX3_passHourAt_13 : decode cX3_passHourAt 13 = .ok (.iconst 0, 1) := by decide +kernel
theorem dX3_passHourAt_14 : decode cX3_passHourAt 14 = .ok (.iload_n 2, 1) := by decide +kernel
theorem dX3_passHourAt_15 : decode cX3_passHourAt 15 = .ok (.iload 4, 2) := by decide +kernel
theorem dX3_passHourAt_17 : decode cX3_passHourAt 17 = .ok (.invokestatic 41, 3) := by decide +kernel
theorem dX3_passHourAt_20 : decode cX3_passHourAt 20 = .ok (.goto 29, 3) := by decide +kernel
theorem dX3_passHourAt_23 : decode cX3_passHourAt 23 = .ok (.iload_n 1, 1) := by decide +kernel
theorem dX3_passHourAt_24 : decode cX3_passHourAt 24 = .ok (.iconst 1, 1) := by decide +kernel
theorem dX3_passHourAt_25 : decode cX3_passHourAt 25 = .ok (.iadd, 1) := by decide +kernel
theorem dX3_passHourAt_26 : decode cX3_passHourAt 26 = .ok (.aload_n 0, 1) := by decide +kernel
theorem dX3_passHourAt_27 : decode cX3_passHourAt 27 = .ok (.getfield 18, 3) := by decide +kernel
theorem dX3_passHourAt_30 : decode cX3_passHourAt 30 = .ok (.getfield 64, 3) := by decide +kernel
theorem dX3_passHourAt_33 : decode cX3_passHourAt 33 = .ok (.if_icmp .ge 16, 3) := by decide +kernel
theorem dX3_passHourAt_36 : decode cX3_passHourAt 36 = .ok (.aload_n 0, 1) := by decide +kernel
theorem dX3_passHourAt_37 : decode cX3_passHourAt 37 = .ok (.getfield 15, 3) := by decide +kernel
theorem dX3_passHourAt_40 : decode cX3_passHourAt 40 = .ok (.iload_n 1, 1) := by decide +kernel
theorem dX3_passHourAt_41 : decode cX3_passHourAt 41 = .ok (.iconst 1, 1) := by decide +kernel
theorem dX3_passHourAt_42 : decode cX3_passHourAt 42 = .ok (.iadd, 1) := by decide +kernel
theorem dX3_passHourAt_43 : decode cX3_passHourAt 43 = .ok (.iconst 0, 1) := by decide +kernel
theorem dX3_passHourAt_44 : decode cX3_passHourAt 44 = .ok (.iload 4, 2) := by decide +kernel
theorem dX3_passHourAt_46 : decode cX3_passHourAt 46 = .ok (.invokestatic 41, 3) := by decide +kernel
theorem dX3_passHourAt_49 : decode cX3_passHourAt 49 = .ok (.return_, 1) := by decide +kernel
def fX3_passHourAt_J23 (N : Nat) (v0 : Nat) (v1 : Int32) (v4 : Int32) (M : Mem) : Option (Unit × Mem) := ((fR M 3 v0 0).bind fun x27 => ((fI M 8 x27 14).bind fun x30 => (if x30 ≤ (v1 + 1) then some ((), M) else ((fR M 3 v0 2).bind fun x37 => ((fX3_setFewer N x37 (v1 + 1) 0 v4 M).bind fun (u46, M46) => some ((), M46))))))
def fX3_passHourAt (N : Nat) (v0 : Nat) (v1 : Int32) (v2 : Int32) (v3 : Int32) (v4 : Int32) (M : Mem) : Option (Unit × Mem) := (if v2 ≤ 0 then fX3_passHourAt_J23 N v0 v1 v4 M else (if v2 ≤ v3 then fX3_passHourAt_J23 N v0 v1 v4 M else ((fR M 3 v0 2).bind fun x10 => ((fX3_setFewer N x10 0 v2 v4 M).bind fun (u17, M17) => some ((), M17)))))
set_option maxHeartbeats 4000000 in
set_option maxRecDepth 100000 in
theorem k_X3_passHourAt (l : Launch) (b : Nat) (D : va_G) (cy : Nat → ClassId) (N : Nat) (v0 : Nat) (v1 : Int32) (v2 : Int32) (v3 : Int32) (v4 : Int32) (M : Mem) (r : Unit) (Mf : Mem) (h : fX3_passHourAt N v0 v1 v2 v3 v4 M = some (r, Mf)) : Ct l yX3_passHourAt cX3_passHourAt 5 none 2 0 0 b D cy [.ref (b + v0), .int v1, .int v2, .int v3, .int v4] M none Mf := by
  refine Ct_of (own := RX3) (by decide) rfl (Nat.le_of_ble_eq_true rfl) ?_
  intro p e s m args below meth c F hr hl hmn
  unfold fX3_passHourAt at h
  have J23 : ∀ (v0 : Nat) (v1 : Int32) (v4 : Int32) (M : Mem), fX3_passHourAt_J23 N v0 v1 v4 M = some (r, Mf) → X p l e ({ frames := 2, cells := 0, slots := 0, locals := 100 * 2 }) s m args below meth c (MQ below (Qm b D cy none Mf) args s 0 0 (fun q => b ≤ q)) 5 b D cy 0 0 M 23 [(0, .ref (b + v0)), (1, .int v1), (4, .int v4)] [] := by
    intro v0 v1 v4 M h
    unfold fX3_passHourAt_J23 at h
    refine x_iload_n F dX3_passHourAt_23 rfl 1 rfl ?_
    refine x_iconst F (v := 1) dX3_passHourAt_24 (by decide) ?_
    refine x_iadd F dX3_passHourAt_25 ?_
    refine x_aload_n F dX3_passHourAt_26 rfl 0 rfl ?_
    obtain ⟨x27, c27, h⟩ := bdS h
    refine x_getR F (ci := 3) (C := RX3) (T := TX3) (N := 3) rfl ⟨by decide, rfl⟩ inU3 0 (by decide) (fun _ _ _ => rfl) wl_313 c27 dX3_passHourAt_27 ?_
    obtain ⟨x30, c30, h⟩ := bdS h
    refine x_getI F (ci := 8) (C := RX8) (T := TX8) (N := 17) rfl ⟨by decide, rfl⟩ inU8 14 (by decide) (fun _ _ _ => rfl) wl_324 c30 dX3_passHourAt_30 ?_
    refine x_icmp_ge F (tgt := 49) dX3_passHourAt_33 (by decide) (fun c33 => ?_) (fun c33 => ?_)
    · rw [if_pos c33] at h
      obtain ⟨rfl, rfl⟩ := retS h
      exact x_vret F hr hl dX3_passHourAt_49
    · rw [if_neg c33] at h
      refine x_aload_n F dX3_passHourAt_36 rfl 0 rfl ?_
      obtain ⟨x37, c37, h⟩ := bdS h
      refine x_getR F (ci := 3) (C := RX3) (T := TX3) (N := 3) rfl ⟨by decide, rfl⟩ inU3 2 (by decide) (fun _ _ _ => rfl) wl_312 c37 dX3_passHourAt_37 ?_
      refine x_iload_n F dX3_passHourAt_40 rfl 1 rfl ?_
      refine x_iconst F (v := 1) dX3_passHourAt_41 (by decide) ?_
      refine x_iadd F dX3_passHourAt_42 ?_
      refine x_iconst F (v := 0) dX3_passHourAt_43 (by decide) ?_
      refine x_iload F dX3_passHourAt_44 2 rfl ?_
      obtain ⟨⟨u46, M46⟩, c46, h⟩ := bdS h
      dsimp only at h
      refine x_callS F (As := [.ref (b + x37), .int (v1 + 1), .int 0, .int v4]) (rest := []) (res := none) (k_X3_setFewer l b D cy N x37 (v1 + 1) 0 v4 M _ _ c46) wl_325 wl_326 wl_327 wl_322 (hd_X3_setFewer).2 ⟨Nat.le_of_ble_eq_true rfl, Nat.le_of_ble_eq_true rfl⟩ ⟨Nat.le_refl _, Nat.le_refl _⟩ (Nat.le_of_ble_eq_true rfl) rfl dX3_passHourAt_46 ?_
      obtain ⟨rfl, rfl⟩ := retS h
      exact x_vret F hr hl dX3_passHourAt_49
  show X p l e ({ frames := 2, cells := 0, slots := 0, locals := 100 * 2 }) s m args below meth c (MQ below (Qm b D cy none Mf) args s 0 0 (fun q => b ≤ q)) 5 b D cy 0 0 M 0 [(0, .ref (b + v0)), (1, .int v1), (2, .int v2), (3, .int v3), (4, .int v4)] []
  refine x_iload_n F dX3_passHourAt_0 rfl 2 rfl ?_
  refine x_if_le F (tgt := 23) dX3_passHourAt_1 (by decide) (fun c1 => ?_) (fun c1 => ?_)
  · rw [if_pos c1] at h
    refine x_sub [0, 1, 4] rfl ?_
    exact J23 v0 v1 v4 M h
  · rw [if_neg c1] at h
    refine x_iload_n F dX3_passHourAt_4 rfl 2 rfl ?_
    refine x_iload_n F dX3_passHourAt_5 rfl 3 rfl ?_
    refine x_icmp_le F (tgt := 23) dX3_passHourAt_6 (by decide) (fun c6 => ?_) (fun c6 => ?_)
    · rw [if_pos c6] at h
      refine x_sub [0, 1, 4] rfl ?_
      exact J23 v0 v1 v4 M h
    · rw [if_neg c6] at h
      refine x_aload_n F dX3_passHourAt_9 rfl 0 rfl ?_
      obtain ⟨x10, c10, h⟩ := bdS h
      refine x_getR F (ci := 3) (C := RX3) (T := TX3) (N := 3) rfl ⟨by decide, rfl⟩ inU3 2 (by decide) (fun _ _ _ => rfl) wl_312 c10 dX3_passHourAt_10 ?_
      refine x_iconst F (v := 0) dX3_passHourAt_13 (by decide) ?_
      refine x_iload_n F dX3_passHourAt_14 rfl 2 rfl ?_
      refine x_iload F dX3_passHourAt_15 4 rfl ?_
      obtain ⟨⟨u17, M17⟩, c17, h⟩ := bdS h
      dsimp only at h
      refine x_callS F (As := [.ref (b + x10), .int 0, .int v2, .int v4]) (rest := []) (res := none) (k_X3_setFewer l b D cy N x10 0 v2 v4 M _ _ c17) wl_325 wl_326 wl_327 wl_322 (hd_X3_setFewer).2 ⟨Nat.le_of_ble_eq_true rfl, Nat.le_of_ble_eq_true rfl⟩ ⟨Nat.le_refl _, Nat.le_refl _⟩ (Nat.le_of_ble_eq_true rfl) rfl dX3_passHourAt_17 ?_
      refine x_goto F (tgt := 49) dX3_passHourAt_20 (by decide) ?_
      obtain ⟨rfl, rfl⟩ := retS h
      exact x_vret F hr hl dX3_passHourAt_49
theorem hd_X3_passHourAt : (yX3_passHourAt).cls = RX3 ∧ (yX3_passHourAt).cls ≠ "java/lang/invoke/MethodHandle" ∧ (yX3_passHourAt).cls ≠ "java/lang/invoke/VarHandle" ∧ (parseMethodDescriptor (yX3_passHourAt).desc).map (fun d => d.parameters.length) = some 4 := by decide +kernel
theorem dX3_goThrough_0 : decode cX3_goThrough 0 = .ok (.iconst 0, 1) := by decide +kernel
theorem dX3_goThrough_1 : decode cX3_goThrough 1 = .ok (.istore_n 3, 1) := by decide +kernel
theorem dX3_goThrough_2 : decode cX3_goThrough 2 = .ok (.iload_n 3, 1) := by decide +kernel
theorem dX3_goThrough_3 : decode cX3_goThrough 3 = .ok (.aload_n 0, 1) := by decide +kernel
theorem dX3_goThrough_4 : decode cX3_goThrough 4 = .ok (.getfield 18, 3) := by decide +kernel
theorem dX3_goThrough_7 : decode cX3_goThrough 7 = .ok (.getfield 64, 3) := by decide +kernel
theorem dX3_goThrough_10 : decode cX3_goThrough 10 = .ok (.if_icmp .ge 74, 3) := by decide +kernel
theorem dX3_goThrough_13 : decode cX3_goThrough 13 = .ok (.iconst 0, 1) := by decide +kernel
theorem dX3_goThrough_14 : decode cX3_goThrough 14 = .ok (.istore 4, 2) := by decide +kernel
theorem dX3_goThrough_16 : decode cX3_goThrough 16 = .ok (.iload 4, 2) := by decide +kernel
theorem dX3_goThrough_18 : decode cX3_goThrough 18 = .ok (.bipush 10, 2) := by decide +kernel
theorem dX3_goThrough_20 : decode cX3_goThrough 20 = .ok (.if_icmp .ge 58, 3) := by decide +kernel
theorem dX3_goThrough_23 : decode cX3_goThrough 23 = .ok (.aload_n 0, 1) := by decide +kernel
theorem dX3_goThrough_24 : decode cX3_goThrough 24 = .ok (.getfield 11, 3) := by decide +kernel
theorem dX3_goThrough_27 : decode cX3_goThrough 27 = .ok (.iload_n 3, 1) := by decide +kernel
theorem dX3_goThrough_28 : decode cX3_goThrough 28 = .ok (.bipush 10, 2) := by decide +kernel
theorem dX3_goThrough_30 : decode cX3_goThrough 30 = .ok (.imul, 1) := by decide +kernel
theorem dX3_goThrough_31 : decode cX3_goThrough 31 = .ok (.iload 4, 2) := by decide +kernel
theorem dX3_goThrough_33 : decode cX3_goThrough 33 = .ok (.iadd, 1) := by decide +kernel
theorem dX3_goThrough_34 : decode cX3_goThrough 34 = .ok (.iaload, 1) := by decide +kernel
theorem dX3_goThrough_35 : decode cX3_goThrough 35 = .ok (.istore 5, 2) := by decide +kernel
theorem dX3_goThrough_37 : decode cX3_goThrough 37 = .ok (.iload 5, 2) := by decide +kernel
theorem dX3_goThrough_39 : decode cX3_goThrough 39 = .ok (.sipush 1000, 3) := by decide +kernel
theorem dX3_goThrough_42 : decode cX3_goThrough 42 = .ok (.if_icmp .ge 30, 3) := by decide +kernel
theorem dX3_goThrough_45 : decode cX3_goThrough 45 = .ok (.aload_n 0, 1) := by decide +kernel
theorem dX3_goThrough_46 : decode cX3_goThrough 46 = .ok (.iload_n 3, 1) := by decide +kernel
theorem dX3_goThrough_47 : decode cX3_goThrough 47 = .ok (.iload 4, 2) := by decide +kernel
theorem dX3_goThrough_49 : decode cX3_goThrough 49 = .ok (.iload_n 1, 1) := by decide +kernel
theorem dX3_goThrough_50 : decode cX3_goThrough 50 = .ok (.iload 5, 2) := by decide +kernel
theorem dX3_goThrough_52 : decode cX3_goThrough 52 = .ok (.invokevirtual 67, 3) := by decide +kernel
theorem dX3_goThrough_55 : decode cX3_goThrough 55 = .ok (.iload_n 2, 1) := by decide +kernel
theorem dX3_goThrough_56 : decode cX3_goThrough 56 = .ok (.iload 4, 2) := by decide +kernel
theorem dX3_goThrough_58 : decode cX3_goThrough 58 = .ok (.if_icmp .le 14, 3) := by decide +kernel
theorem dX3_goThrough_61 : decode cX3_goThrough 61 = .ok (.aload_n 0, 1) := by decide +kernel
theorem dX3_goThrough_62 : decode cX3_goThrough 62 = .ok (.iload_n 3, 1) := by decide +kernel
theorem dX3_goThrough_63 : decode cX3_goThrough 63 = .ok (.iload_n 2, 1) := by decide +kernel
theorem dX3_goThrough_64 : decode cX3_goThrough 64 = .ok (.iload_n 1, 1) := by decide +kernel
theorem dX3_goThrough_65 : decode cX3_goThrough 65 = .ok (.iload 5, 2) := by decide +kernel
theorem dX3_goThrough_67 : decode cX3_goThrough 67 = .ok (.iconst 1, 1) := by decide +kernel
theorem dX3_goThrough_68 : decode cX3_goThrough 68 = .ok (.iadd, 1) := by decide +kernel
theorem dX3_goThrough_69 : decode cX3_goThrough 69 = .ok (.invokevirtual 67, 3) := by decide +kernel
theorem dX3_goThrough_72 : decode cX3_goThrough 72 = .ok (.iinc 4 1, 3) := by decide +kernel
theorem dX3_goThrough_75 : decode cX3_goThrough 75 = .ok (.goto (-59), 3) := by decide +kernel
theorem dX3_goThrough_78 : decode cX3_goThrough 78 = .ok (.iinc 3 1, 3) := by decide +kernel
theorem dX3_goThrough_81 : decode cX3_goThrough 81 = .ok (.goto (-79), 3) := by decide +kernel
theorem dX3_goThrough_84 : decode cX3_goThrough 84 = .ok (.return_, 1) := by decide +kernel
def fX3_goThrough_L16 (N : Nat) (v0 : Nat) (v1 : Int32) (v2 : Int32) (v3 : Int32) : Nat → Int32 → Mem → Option (Mem)
  | 0, _, _ => none
  | n + 1, v4, M => (if 10 ≤ v4 then some M else ((fR M 3 v0 1).bind fun x24 => ((aI M x24 ((v3 * 10) + v4)).bind fun x34 => (if 1000 ≤ x34 then fX3_goThrough_L16 N v0 v1 v2 v3 n (v4 + 1) M else (if mK M v0 = 4 then ((fX3_passHourAt N v0 v3 v4 v1 x34 M).bind fun (u52, M52) => (if v2 ≤ v4 then fX3_goThrough_L16 N v0 v1 v2 v3 n (v4 + 1) M52 else (if mK M52 v0 = 4 then ((fX3_passHourAt N v0 v3 v2 v1 (x34 + 1) M52).bind fun (u69, M69) => fX3_goThrough_L16 N v0 v1 v2 v3 n (v4 + 1) M69) else none))) else none)))))
def fX3_goThrough_L2 (N : Nat) (v0 : Nat) (v1 : Int32) (v2 : Int32) : Nat → Int32 → Mem → Option (Mem)
  | 0, _, _ => none
  | n + 1, v3, M => ((fR M 3 v0 0).bind fun x4 => ((fI M 8 x4 14).bind fun x7 => (if x7 ≤ v3 then some M else ((fX3_goThrough_L16 N v0 v1 v2 v3 N 0 M).bind fun o16 => fX3_goThrough_L2 N v0 v1 v2 n (v3 + 1) o16))))
def fX3_goThrough (N : Nat) (v0 : Nat) (v1 : Int32) (v2 : Int32) (M : Mem) : Option (Unit × Mem) := ((fX3_goThrough_L2 N v0 v1 v2 N 0 M).bind fun o2 => some ((), o2))
set_option maxHeartbeats 4000000 in
set_option maxRecDepth 100000 in
theorem k_X3_goThrough (l : Launch) (b : Nat) (D : va_G) (cy : Nat → ClassId) (N : Nat) (v0 : Nat) (v1 : Int32) (v2 : Int32) (M : Mem) (r : Unit) (Mf : Mem) (h : fX3_goThrough N v0 v1 v2 M = some (r, Mf)) : Ct l yX3_goThrough cX3_goThrough 6 none 3 0 0 b D cy [.ref (b + v0), .int v1, .int v2] M none Mf := by
  refine Ct_of (own := RX3) (by decide) rfl (Nat.le_of_ble_eq_true rfl) ?_
  intro p e s m args below meth c F hr hl hmn
  unfold fX3_goThrough at h
  show X p l e ({ frames := 3, cells := 0, slots := 0, locals := 100 * 3 }) s m args below meth c (MQ below (Qm b D cy none Mf) args s 0 0 (fun q => b ≤ q)) 6 b D cy 0 0 M 0 [(0, .ref (b + v0)), (1, .int v1), (2, .int v2)] []
  refine x_iconst F (v := 0) dX3_goThrough_0 (by decide) ?_
  refine x_istore_n F (lv' := [(3, .int 0), (0, .ref (b + v0)), (1, .int v1), (2, .int v2)]) dX3_goThrough_1 rfl (by decide) rfl ?_
  have L2 : ∀ (v0 : Nat) (v1 : Int32) (v2 : Int32) (n : Nat) (v3 : Int32) (M : Mem) (o : Mem), fX3_goThrough_L2 N v0 v1 v2 n v3 M = some o → X p l e ({ frames := 3, cells := 0, slots := 0, locals := 100 * 3 }) s m args below meth c (MQ below (Qm b D cy none Mf) args s 0 0 (fun q => b ≤ q)) 6 b D cy 0 0 o 84 [] [] → X p l e ({ frames := 3, cells := 0, slots := 0, locals := 100 * 3 }) s m args below meth c (MQ below (Qm b D cy none Mf) args s 0 0 (fun q => b ≤ q)) 6 b D cy 0 0 M 2 [(0, .ref (b + v0)), (1, .int v1), (2, .int v2), (3, .int v3)] [] := by
    intro v0 v1 v2 n
    induction n with
    | zero => intro v3 M o h; exact absurd h (by rw [fX3_goThrough_L2]; exact fun z => by cases z)
    | succ n ih =>
      intro v3 M o h hE
      rw [fX3_goThrough_L2] at h
      refine x_iload_n F dX3_goThrough_2 rfl 3 rfl ?_
      refine x_aload_n F dX3_goThrough_3 rfl 0 rfl ?_
      obtain ⟨x4, c4, h⟩ := bdS h
      refine x_getR F (ci := 3) (C := RX3) (T := TX3) (N := 3) rfl ⟨by decide, rfl⟩ inU3 0 (by decide) (fun _ _ _ => rfl) wl_313 c4 dX3_goThrough_4 ?_
      obtain ⟨x7, c7, h⟩ := bdS h
      refine x_getI F (ci := 8) (C := RX8) (T := TX8) (N := 17) rfl ⟨by decide, rfl⟩ inU8 14 (by decide) (fun _ _ _ => rfl) wl_324 c7 dX3_goThrough_7 ?_
      refine x_icmp_ge F (tgt := 84) dX3_goThrough_10 (by decide) (fun c10 => ?_) (fun c10 => ?_)
      · rw [if_pos c10] at h
        obtain rfl := Option.some.inj h
        refine x_sub [] rfl ?_
        exact hE
      · rw [if_neg c10] at h
        refine x_iconst F (v := 0) dX3_goThrough_13 (by decide) ?_
        refine x_istore F (lv' := [(4, .int 0), (0, .ref (b + v0)), (1, .int v1), (2, .int v2), (3, .int v3)]) dX3_goThrough_14 (by decide) rfl ?_
        have L16 : ∀ (v0 : Nat) (v1 : Int32) (v2 : Int32) (v3 : Int32) (n : Nat) (v4 : Int32) (M : Mem) (o : Mem), fX3_goThrough_L16 N v0 v1 v2 v3 n v4 M = some o → X p l e ({ frames := 3, cells := 0, slots := 0, locals := 100 * 3 }) s m args below meth c (MQ below (Qm b D cy none Mf) args s 0 0 (fun q => b ≤ q)) 6 b D cy 0 0 o 78 [(0, .ref (b + v0)), (1, .int v1), (2, .int v2), (3, .int v3)] [] → X p l e ({ frames := 3, cells := 0, slots := 0, locals := 100 * 3 }) s m args below meth c (MQ below (Qm b D cy none Mf) args s 0 0 (fun q => b ≤ q)) 6 b D cy 0 0 M 16 [(0, .ref (b + v0)), (1, .int v1), (2, .int v2), (3, .int v3), (4, .int v4)] [] := by
          intro v0 v1 v2 v3 n
          induction n with
          | zero => intro v4 M o h; exact absurd h (by rw [fX3_goThrough_L16]; exact fun z => by cases z)
          | succ n ih =>
            intro v4 M o h hE
            rw [fX3_goThrough_L16] at h
            refine x_iload F dX3_goThrough_16 4 rfl ?_
            refine x_bipush F (v := 10) dX3_goThrough_18 (by decide) ?_
            refine x_icmp_ge F (tgt := 78) dX3_goThrough_20 (by decide) (fun c20 => ?_) (fun c20 => ?_)
            · rw [if_pos c20] at h
              obtain rfl := Option.some.inj h
              refine x_sub [0, 1, 2, 3] rfl ?_
              exact hE
            · rw [if_neg c20] at h
              refine x_aload_n F dX3_goThrough_23 rfl 0 rfl ?_
              obtain ⟨x24, c24, h⟩ := bdS h
              refine x_getR F (ci := 3) (C := RX3) (T := TX3) (N := 3) rfl ⟨by decide, rfl⟩ inU3 1 (by decide) (fun _ _ _ => rfl) wl_311 c24 dX3_goThrough_24 ?_
              refine x_iload_n F dX3_goThrough_27 rfl 3 rfl ?_
              refine x_bipush F (v := 10) dX3_goThrough_28 (by decide) ?_
              refine x_imul F dX3_goThrough_30 ?_
              refine x_iload F dX3_goThrough_31 4 rfl ?_
              refine x_iadd F dX3_goThrough_33 ?_
              obtain ⟨x34, c34, h⟩ := bdS h
              refine x_aI F c34 dX3_goThrough_34 ?_
              refine x_istore F (lv' := [(5, .int x34), (0, .ref (b + v0)), (1, .int v1), (2, .int v2), (3, .int v3), (4, .int v4)]) dX3_goThrough_35 (by decide) rfl ?_
              refine x_iload F dX3_goThrough_37 0 rfl ?_
              refine x_sipush F (v := 1000) dX3_goThrough_39 (by decide) ?_
              refine x_icmp_ge F (tgt := 72) dX3_goThrough_42 (by decide) (fun c42 => ?_) (fun c42 => ?_)
              · rw [if_pos c42] at h
                refine x_iinc F (v := v4 + 1) (lv' := [(4, .int (v4 + 1)), (5, .int x34), (0, .ref (b + v0)), (1, .int v1), (2, .int v2), (3, .int v3)]) dX3_goThrough_72 5 rfl rfl (by decide) rfl ?_
                refine x_goto F (tgt := 16) dX3_goThrough_75 (by decide) ?_
                refine x_sub [2, 3, 4, 5, 0] rfl ?_
                exact ih (v4 + 1) M o h hE
              · rw [if_neg c42] at h
                refine x_aload_n F dX3_goThrough_45 rfl 1 rfl ?_
                refine x_iload_n F dX3_goThrough_46 rfl 4 rfl ?_
                refine x_iload F dX3_goThrough_47 5 rfl ?_
                refine x_iload_n F dX3_goThrough_49 rfl 2 rfl ?_
                refine x_iload F dX3_goThrough_50 0 rfl ?_
                obtain ⟨k52, h⟩ := gdS h
                obtain ⟨⟨u52, M52⟩, c52, h⟩ := bdS h
                dsimp only at h
                refine x_callV F (As := [.int v3, .int v4, .int v1, .int x34]) (rest := []) (res := none) (ci := 3) (q := (RX3, TX3, 3)) rfl (by decide) k52 (k_X3_passHourAt l b D cy N v0 v3 v4 v1 x34 M _ _ c52) wl_329 wl_330 wl_331 wl_327 wl_323 hd_X3_passHourAt ⟨Nat.le_of_ble_eq_true rfl, Nat.le_of_ble_eq_true rfl⟩ ⟨Nat.le_refl _, Nat.le_refl _⟩ (Nat.le_of_ble_eq_true rfl) rfl dX3_goThrough_52 ?_
                refine x_iload_n F dX3_goThrough_55 rfl 3 rfl ?_
                refine x_iload F dX3_goThrough_56 5 rfl ?_
                refine x_icmp_le F (tgt := 72) dX3_goThrough_58 (by decide) (fun c58 => ?_) (fun c58 => ?_)
                · rw [if_pos c58] at h
                  refine x_iinc F (v := v4 + 1) (lv' := [(4, .int (v4 + 1)), (5, .int x34), (0, .ref (b + v0)), (1, .int v1), (2, .int v2), (3, .int v3)]) dX3_goThrough_72 5 rfl rfl (by decide) rfl ?_
                  refine x_goto F (tgt := 16) dX3_goThrough_75 (by decide) ?_
                  refine x_sub [2, 3, 4, 5, 0] rfl ?_
                  exact ih (v4 + 1) M52 o h hE
                · rw [if_neg c58] at h
                  refine x_aload_n F dX3_goThrough_61 rfl 1 rfl ?_
                  refine x_iload_n F dX3_goThrough_62 rfl 4 rfl ?_
                  refine x_iload_n F dX3_goThrough_63 rfl 3 rfl ?_
                  refine x_iload_n F dX3_goThrough_64 rfl 2 rfl ?_
                  refine x_iload F dX3_goThrough_65 0 rfl ?_
                  refine x_iconst F (v := 1) dX3_goThrough_67 (by decide) ?_
                  refine x_iadd F dX3_goThrough_68 ?_
                  obtain ⟨k69, h⟩ := gdS h
                  obtain ⟨⟨u69, M69⟩, c69, h⟩ := bdS h
                  dsimp only at h
                  refine x_callV F (As := [.int v3, .int v2, .int v1, .int (x34 + 1)]) (rest := []) (res := none) (ci := 3) (q := (RX3, TX3, 3)) rfl (by decide) k69 (k_X3_passHourAt l b D cy N v0 v3 v2 v1 (x34 + 1) M52 _ _ c69) wl_329 wl_330 wl_331 wl_327 wl_323 hd_X3_passHourAt ⟨Nat.le_of_ble_eq_true rfl, Nat.le_of_ble_eq_true rfl⟩ ⟨Nat.le_refl _, Nat.le_refl _⟩ (Nat.le_of_ble_eq_true rfl) rfl dX3_goThrough_69 ?_
                  refine x_iinc F (v := v4 + 1) (lv' := [(4, .int (v4 + 1)), (5, .int x34), (0, .ref (b + v0)), (1, .int v1), (2, .int v2), (3, .int v3)]) dX3_goThrough_72 5 rfl rfl (by decide) rfl ?_
                  refine x_goto F (tgt := 16) dX3_goThrough_75 (by decide) ?_
                  refine x_sub [2, 3, 4, 5, 0] rfl ?_
                  exact ih (v4 + 1) M69 o h hE
        obtain ⟨o16, h16, h⟩ := bdS h
        refine x_sub [1, 2, 3, 4, 0] rfl ?_
        refine L16 v0 v1 v2 v3 N 0 M o16 h16 ?_
        refine x_iinc F (v := v3 + 1) (lv' := [(3, .int (v3 + 1)), (0, .ref (b + v0)), (1, .int v1), (2, .int v2)]) dX3_goThrough_78 3 rfl rfl (by decide) rfl ?_
        refine x_goto F (tgt := 2) dX3_goThrough_81 (by decide) ?_
        refine x_sub [1, 2, 3, 0] rfl ?_
        exact ih (v3 + 1) o16 o h hE
  obtain ⟨o2, h2, h⟩ := bdS h
  refine x_sub [1, 2, 3, 0] rfl ?_
  refine L2 v0 v1 v2 N 0 M o2 h2 ?_
  obtain ⟨rfl, rfl⟩ := retS h
  exact x_vret F hr hl dX3_goThrough_84
theorem dX3_highestReading_0 : decode cX3_highestReading 0 = .ok (.iconst 0, 1) := by decide +kernel
theorem dX3_highestReading_1 : decode cX3_highestReading 1 = .ok (.istore_n 3, 1) := by decide +kernel
theorem dX3_highestReading_2 : decode cX3_highestReading 2 = .ok (.iconst 0, 1) := by decide +kernel
theorem dX3_highestReading_3 : decode cX3_highestReading 3 = .ok (.istore 4, 2) := by decide +kernel
theorem dX3_highestReading_5 : decode cX3_highestReading 5 = .ok (.iload 4, 2) := by decide +kernel
theorem dX3_highestReading_7 : decode cX3_highestReading 7 = .ok (.aload_n 0, 1) := by decide +kernel
theorem dX3_highestReading_8 : decode cX3_highestReading 8 = .ok (.getfield 18, 3) := by decide +kernel
theorem dX3_highestReading_11 : decode cX3_highestReading 11 = .ok (.getfield 71, 3) := by decide +kernel
theorem dX3_highestReading_14 : decode cX3_highestReading 14 = .ok (.if_icmp .ge 34, 3) := by decide +kernel
theorem dX3_highestReading_17 : decode cX3_highestReading 17 = .ok (.aload_n 1, 1) := by decide +kernel
theorem dX3_highestReading_18 : decode cX3_highestReading 18 = .ok (.iload_n 2, 1) := by decide +kernel
theorem dX3_highestReading_19 : decode cX3_highestReading 19 = .ok (.iload 4, 2) := by decide +kernel
theorem dX3_highestReading_21 : decode cX3_highestReading 21 = .ok (.invokevirtual 86, 3) := by decide +kernel
theorem dX3_highestReading_24 : decode cX3_highestReading 24 = .ok (.ifCond .eq 18, 3) := by decide +kernel
theorem dX3_highestReading_27 : decode cX3_highestReading 27 = .ok (.iload_n 3, 1) := by decide +kernel
theorem dX3_highestReading_28 : decode cX3_highestReading 28 = .ok (.aload_n 0, 1) := by decide +kernel
theorem dX3_highestReading_29 : decode cX3_highestReading 29 = .ok (.getfield 18, 3) := by decide +kernel
theorem dX3_highestReading_32 : decode cX3_highestReading 32 = .ok (.getfield 80, 3) := by decide +kernel
theorem dX3_highestReading_35 : decode cX3_highestReading 35 = .ok (.iload 4, 2) := by decide +kernel
theorem dX3_highestReading_37 : decode cX3_highestReading 37 = .ok (.iaload, 1) := by decide +kernel
theorem dX3_highestReading_38 : decode cX3_highestReading 38 = .ok (.invokestatic 83, 3) := by decide +kernel
theorem dX3_highestReading_41 : decode cX3_highestReading 41 = .ok (.istore_n 3, 1) := by decide +kernel
theorem dX3_highestReading_42 : decode cX3_highestReading 42 = .ok (.iinc 4 1, 3) := by decide +kernel
theorem dX3_highestReading_45 : decode cX3_highestReading 45 = .ok (.goto (-40), 3) := by decide +kernel
theorem dX3_highestReading_48 : decode cX3_highestReading 48 = .ok (.iload_n 3, 1) := by decide +kernel
theorem dX3_highestReading_49 : decode cX3_highestReading 49 = .ok (.ireturn, 1) := by decide +kernel
def fX3_highestReading_L5 (N : Nat) (v0 : Nat) (v1 : Nat) (v2 : Int32) : Nat → Int32 → Int32 → Mem → Option (Int32 × Mem)
  | 0, _, _, _ => none
  | n + 1, v3, v4, M => ((fR M 3 v0 0).bind fun x8 => ((fI M 8 x8 0).bind fun x11 => (if x11 ≤ v4 then some (v3, M) else (if mK M v1 = 1 then ((fX0_canBeRead N v1 v2 v4 M).bind fun (x21, M21) => (if x21 = 0 then fX3_highestReading_L5 N v0 v1 v2 n v3 (v4 + 1) M21 else ((fR M21 3 v0 0).bind fun x29 => ((fR M21 8 x29 2).bind fun x32 => ((aI M21 x32 v4).bind fun x37 => fX3_highestReading_L5 N v0 v1 v2 n (if v3 < x37 then x37 else v3) (v4 + 1) M21))))) else none))))
def fX3_highestReading (N : Nat) (v0 : Nat) (v1 : Nat) (v2 : Int32) (M : Mem) : Option (Int32 × Mem) := ((fX3_highestReading_L5 N v0 v1 v2 N 0 0 M).bind fun o5 => some o5)
set_option maxHeartbeats 4000000 in
set_option maxRecDepth 100000 in
theorem k_X3_highestReading (l : Launch) (b : Nat) (D : va_G) (cy : Nat → ClassId) (N : Nat) (v0 : Nat) (v1 : Nat) (v2 : Int32) (M : Mem) (r : Int32) (Mf : Mem) (h : fX3_highestReading N v0 v1 v2 M = some (r, Mf)) : Ct l yX3_highestReading cX3_highestReading 5 (some .int) 3 0 0 b D cy [.ref (b + v0), .ref (b + v1), .int v2] M (some (.int r)) Mf := by
  refine Ct_of (own := RX3) (by decide) rfl (Nat.le_of_ble_eq_true rfl) ?_
  intro p e s m args below meth c F hr hl hmn
  unfold fX3_highestReading at h
  show X p l e ({ frames := 3, cells := 0, slots := 0, locals := 100 * 3 }) s m args below meth c (MQ below (Qm b D cy (some (.int r)) Mf) args s 0 0 (fun q => b ≤ q)) 5 b D cy 0 0 M 0 [(0, .ref (b + v0)), (1, .ref (b + v1)), (2, .int v2)] []
  refine x_iconst F (v := 0) dX3_highestReading_0 (by decide) ?_
  refine x_istore_n F (lv' := [(3, .int 0), (0, .ref (b + v0)), (1, .ref (b + v1)), (2, .int v2)]) dX3_highestReading_1 rfl (by decide) rfl ?_
  refine x_iconst F (v := 0) dX3_highestReading_2 (by decide) ?_
  refine x_istore F (lv' := [(4, .int 0), (3, .int 0), (0, .ref (b + v0)), (1, .ref (b + v1)), (2, .int v2)]) dX3_highestReading_3 (by decide) rfl ?_
  have L5 : ∀ (v0 : Nat) (v1 : Nat) (v2 : Int32) (n : Nat) (v3 : Int32) (v4 : Int32) (M : Mem) (o : Int32 × Mem), fX3_highestReading_L5 N v0 v1 v2 n v3 v4 M = some o → (∀ (r' : Int32) (M' : Mem), o = (r', M') → r' = r ∧ M' = Mf) → X p l e ({ frames := 3, cells := 0, slots := 0, locals := 100 * 3 }) s m args below meth c (MQ below (Qm b D cy (some (.int r)) Mf) args s 0 0 (fun q => b ≤ q)) 5 b D cy 0 0 M 5 [(0, .ref (b + v0)), (1, .ref (b + v1)), (2, .int v2), (3, .int v3), (4, .int v4)] [] := by
    intro v0 v1 v2 n
    induction n with
    | zero => intro v3 v4 M o h; exact absurd h (by rw [fX3_highestReading_L5]; exact fun z => by cases z)
    | succ n ih =>
      intro v3 v4 M o h hR
      rw [fX3_highestReading_L5] at h
      refine x_iload F dX3_highestReading_5 4 rfl ?_
      refine x_aload_n F dX3_highestReading_7 rfl 0 rfl ?_
      obtain ⟨x8, c8, h⟩ := bdS h
      refine x_getR F (ci := 3) (C := RX3) (T := TX3) (N := 3) rfl ⟨by decide, rfl⟩ inU3 0 (by decide) (fun _ _ _ => rfl) wl_313 c8 dX3_highestReading_8 ?_
      obtain ⟨x11, c11, h⟩ := bdS h
      refine x_getI F (ci := 8) (C := RX8) (T := TX8) (N := 17) rfl ⟨by decide, rfl⟩ inU8 0 (by decide) (fun _ _ _ => rfl) wl_315 c11 dX3_highestReading_11 ?_
      refine x_icmp_ge F (tgt := 48) dX3_highestReading_14 (by decide) (fun c14 => ?_) (fun c14 => ?_)
      · rw [if_pos c14] at h
        refine x_iload_n F dX3_highestReading_48 rfl 3 rfl ?_
        obtain rfl := Option.some.inj h
        obtain ⟨rfl, rfl⟩ := hR _ _ rfl
        exact x_iret F hr hl dX3_highestReading_49
      · rw [if_neg c14] at h
        refine x_aload_n F dX3_highestReading_17 rfl 1 rfl ?_
        refine x_iload_n F dX3_highestReading_18 rfl 2 rfl ?_
        refine x_iload F dX3_highestReading_19 4 rfl ?_
        obtain ⟨k21, h⟩ := gdS h
        obtain ⟨⟨x21, M21⟩, c21, h⟩ := bdS h
        dsimp only at h
        refine x_callV F (As := [.int v2, .int v4]) (rest := []) (res := (some (.int x21))) (ci := 0) (q := (RX0, TX0, 12)) rfl (by decide) k21 (k_X0_canBeRead l b D cy N v1 v2 v4 M _ _ c21) wl_320 wl_64 wl_65 wl_52 wl_57 hd_X0_canBeRead ⟨Nat.le_of_ble_eq_true rfl, Nat.le_of_ble_eq_true rfl⟩ ⟨Nat.le_refl _, Nat.le_refl _⟩ (Nat.le_of_ble_eq_true rfl) rfl dX3_highestReading_21 ?_
        refine x_if_eq F (tgt := 42) dX3_highestReading_24 (by decide) (fun c24 => ?_) (fun c24 => ?_)
        · rw [if_pos c24] at h
          refine x_iinc F (v := v4 + 1) (lv' := [(4, .int (v4 + 1)), (0, .ref (b + v0)), (1, .ref (b + v1)), (2, .int v2), (3, .int v3)]) dX3_highestReading_42 4 rfl rfl (by decide) rfl ?_
          refine x_goto F (tgt := 5) dX3_highestReading_45 (by decide) ?_
          refine x_sub [1, 2, 3, 4, 0] rfl ?_
          exact ih v3 (v4 + 1) M21 o h hR
        · rw [if_neg c24] at h
          refine x_iload_n F dX3_highestReading_27 rfl 3 rfl ?_
          refine x_aload_n F dX3_highestReading_28 rfl 0 rfl ?_
          obtain ⟨x29, c29, h⟩ := bdS h
          refine x_getR F (ci := 3) (C := RX3) (T := TX3) (N := 3) rfl ⟨by decide, rfl⟩ inU3 0 (by decide) (fun _ _ _ => rfl) wl_313 c29 dX3_highestReading_29 ?_
          obtain ⟨x32, c32, h⟩ := bdS h
          refine x_getR F (ci := 8) (C := RX8) (T := TX8) (N := 17) rfl ⟨by decide, rfl⟩ inU8 2 (by decide) (fun _ _ _ => rfl) wl_318 c32 dX3_highestReading_32 ?_
          refine x_iload F dX3_highestReading_35 4 rfl ?_
          obtain ⟨x37, c37, h⟩ := bdS h
          refine x_aI F c37 dX3_highestReading_37 ?_
          refine x_max F wl_319 wl_119 wl_120 wl_121 (Nat.le_of_ble_eq_true rfl) (Nat.le_of_ble_eq_true rfl) ⟨Nat.le_refl _, Nat.le_refl _⟩ dX3_highestReading_38 ?_
          refine x_istore_n F (lv' := [(3, .int (if v3 < x37 then x37 else v3)), (0, .ref (b + v0)), (1, .ref (b + v1)), (2, .int v2), (4, .int v4)]) dX3_highestReading_41 rfl (by decide) rfl ?_
          refine x_iinc F (v := v4 + 1) (lv' := [(4, .int (v4 + 1)), (3, .int (if v3 < x37 then x37 else v3)), (0, .ref (b + v0)), (1, .ref (b + v1)), (2, .int v2)]) dX3_highestReading_42 4 rfl rfl (by decide) rfl ?_
          refine x_goto F (tgt := 5) dX3_highestReading_45 (by decide) ?_
          refine x_sub [2, 3, 4, 1, 0] rfl ?_
          exact ih (if v3 < x37 then x37 else v3) (v4 + 1) M21 o h hR
  obtain ⟨o5, h5, h⟩ := bdS h
  refine x_sub [2, 3, 4, 1, 0] rfl ?_
  refine L5 v0 v1 v2 N 0 0 M o5 h5 (fun r' M' e => ?_)
  · subst e
    try dsimp only at h
    obtain ⟨rfl, rfl⟩ := retS h; exact ⟨rfl, rfl⟩
theorem dX3_highestWideEnough_0 : decode cX3_highestWideEnough 0 = .ok (.iconst 0, 1) := by decide +kernel
theorem dX3_highestWideEnough_1 : decode cX3_highestWideEnough 1 = .ok (.istore_n 2, 1) := by decide +kernel
theorem dX3_highestWideEnough_2 : decode cX3_highestWideEnough 2 = .ok (.iconst 0, 1) := by decide +kernel
theorem dX3_highestWideEnough_3 : decode cX3_highestWideEnough 3 = .ok (.istore_n 3, 1) := by decide +kernel
theorem dX3_highestWideEnough_4 : decode cX3_highestWideEnough 4 = .ok (.iload_n 3, 1) := by decide +kernel
theorem dX3_highestWideEnough_5 : decode cX3_highestWideEnough 5 = .ok (.aload_n 0, 1) := by decide +kernel
theorem dX3_highestWideEnough_6 : decode cX3_highestWideEnough 6 = .ok (.getfield 18, 3) := by decide +kernel
theorem dX3_highestWideEnough_9 : decode cX3_highestWideEnough 9 = .ok (.getfield 71, 3) := by decide +kernel
theorem dX3_highestWideEnough_12 : decode cX3_highestWideEnough 12 = .ok (.if_icmp .ge 44, 3) := by decide +kernel
theorem dX3_highestWideEnough_15 : decode cX3_highestWideEnough 15 = .ok (.aload_n 0, 1) := by decide +kernel
theorem dX3_highestWideEnough_16 : decode cX3_highestWideEnough 16 = .ok (.getfield 18, 3) := by decide +kernel
theorem dX3_highestWideEnough_19 : decode cX3_highestWideEnough 19 = .ok (.getfield 74, 3) := by decide +kernel
theorem dX3_highestWideEnough_22 : decode cX3_highestWideEnough 22 = .ok (.iload_n 3, 1) := by decide +kernel
theorem dX3_highestWideEnough_23 : decode cX3_highestWideEnough 23 = .ok (.iaload, 1) := by decide +kernel
theorem dX3_highestWideEnough_24 : decode cX3_highestWideEnough 24 = .ok (.aload_n 0, 1) := by decide +kernel
theorem dX3_highestWideEnough_25 : decode cX3_highestWideEnough 25 = .ok (.getfield 18, 3) := by decide +kernel
theorem dX3_highestWideEnough_28 : decode cX3_highestWideEnough 28 = .ok (.getfield 77, 3) := by decide +kernel
theorem dX3_highestWideEnough_31 : decode cX3_highestWideEnough 31 = .ok (.iload_n 1, 1) := by decide +kernel
theorem dX3_highestWideEnough_32 : decode cX3_highestWideEnough 32 = .ok (.iaload, 1) := by decide +kernel
theorem dX3_highestWideEnough_33 : decode cX3_highestWideEnough 33 = .ok (.if_icmp .lt 17, 3) := by decide +kernel
theorem dX3_highestWideEnough_36 : decode cX3_highestWideEnough 36 = .ok (.iload_n 2, 1) := by decide +kernel
theorem dX3_highestWideEnough_37 : decode cX3_highestWideEnough 37 = .ok (.aload_n 0, 1) := by decide +kernel
theorem dX3_highestWideEnough_38 : decode cX3_highestWideEnough 38 = .ok (.getfield 18, 3) := by decide +kernel
theorem dX3_highestWideEnough_41 : decode cX3_highestWideEnough 41 = .ok (.getfield 80, 3) := by decide +kernel
theorem dX3_highestWideEnough_44 : decode cX3_highestWideEnough 44 = .ok (.iload_n 3, 1) := by decide +kernel
theorem dX3_highestWideEnough_45 : decode cX3_highestWideEnough 45 = .ok (.iaload, 1) := by decide +kernel
theorem dX3_highestWideEnough_46 : decode cX3_highestWideEnough 46 = .ok (.invokestatic 83, 3) := by decide +kernel
theorem dX3_highestWideEnough_49 : decode cX3_highestWideEnough 49 = .ok (.istore_n 2, 1) := by decide +kernel
theorem dX3_highestWideEnough_50 : decode cX3_highestWideEnough 50 = .ok (.iinc 3 1, 3) := by decide +kernel
theorem dX3_highestWideEnough_53 : decode cX3_highestWideEnough 53 = .ok (.goto (-49), 3) := by decide +kernel
theorem dX3_highestWideEnough_56 : decode cX3_highestWideEnough 56 = .ok (.iload_n 2, 1) := by decide +kernel
theorem dX3_highestWideEnough_57 : decode cX3_highestWideEnough 57 = .ok (.ireturn, 1) := by decide +kernel
def fX3_highestWideEnough_L4 (N : Nat) (v0 : Nat) (v1 : Int32) : Nat → Int32 → Int32 → Mem → Option (Int32 × Mem)
  | 0, _, _, _ => none
  | n + 1, v2, v3, M => ((fR M 3 v0 0).bind fun x6 => ((fI M 8 x6 0).bind fun x9 => (if x9 ≤ v3 then some (v2, M) else ((fR M 3 v0 0).bind fun x16 => ((fR M 8 x16 3).bind fun x19 => ((aI M x19 v3).bind fun x23 => ((fR M 3 v0 0).bind fun x25 => ((fR M 8 x25 12).bind fun x28 => ((aI M x28 v1).bind fun x32 => (if x23 < x32 then fX3_highestWideEnough_L4 N v0 v1 n v2 (v3 + 1) M else ((fR M 3 v0 0).bind fun x38 => ((fR M 8 x38 2).bind fun x41 => ((aI M x41 v3).bind fun x45 => fX3_highestWideEnough_L4 N v0 v1 n (if v2 < x45 then x45 else v2) (v3 + 1) M)))))))))))))
def fX3_highestWideEnough (N : Nat) (v0 : Nat) (v1 : Int32) (M : Mem) : Option (Int32 × Mem) := ((fX3_highestWideEnough_L4 N v0 v1 N 0 0 M).bind fun o4 => some o4)
set_option maxHeartbeats 4000000 in
set_option maxRecDepth 100000 in
theorem k_X3_highestWideEnough (l : Launch) (b : Nat) (D : va_G) (cy : Nat → ClassId) (N : Nat) (v0 : Nat) (v1 : Int32) (M : Mem) (r : Int32) (Mf : Mem) (h : fX3_highestWideEnough N v0 v1 M = some (r, Mf)) : Ct l yX3_highestWideEnough cX3_highestWideEnough 4 (some .int) 1 0 0 b D cy [.ref (b + v0), .int v1] M (some (.int r)) Mf := by
  refine Ct_of (own := RX3) (by decide) rfl (Nat.le_of_ble_eq_true rfl) ?_
  intro p e s m args below meth c F hr hl hmn
  unfold fX3_highestWideEnough at h
  show X p l e ({ frames := 1, cells := 0, slots := 0, locals := 100 * 1 }) s m args below meth c (MQ below (Qm b D cy (some (.int r)) Mf) args s 0 0 (fun q => b ≤ q)) 4 b D cy 0 0 M 0 [(0, .ref (b + v0)), (1, .int v1)] []
  refine x_iconst F (v := 0) dX3_highestWideEnough_0 (by decide) ?_
  refine x_istore_n F (lv' := [(2, .int 0), (0, .ref (b + v0)), (1, .int v1)]) dX3_highestWideEnough_1 rfl (by decide) rfl ?_
  refine x_iconst F (v := 0) dX3_highestWideEnough_2 (by decide) ?_
  refine x_istore_n F (lv' := [(3, .int 0), (2, .int 0), (0, .ref (b + v0)), (1, .int v1)]) dX3_highestWideEnough_3 rfl (by decide) rfl ?_
  have L4 : ∀ (v0 : Nat) (v1 : Int32) (n : Nat) (v2 : Int32) (v3 : Int32) (M : Mem) (o : Int32 × Mem), fX3_highestWideEnough_L4 N v0 v1 n v2 v3 M = some o → (∀ (r' : Int32) (M' : Mem), o = (r', M') → r' = r ∧ M' = Mf) → X p l e ({ frames := 1, cells := 0, slots := 0, locals := 100 * 1 }) s m args below meth c (MQ below (Qm b D cy (some (.int r)) Mf) args s 0 0 (fun q => b ≤ q)) 4 b D cy 0 0 M 4 [(0, .ref (b + v0)), (1, .int v1), (2, .int v2), (3, .int v3)] [] := by
    intro v0 v1 n
    induction n with
    | zero => intro v2 v3 M o h; exact absurd h (by rw [fX3_highestWideEnough_L4]; exact fun z => by cases z)
    | succ n ih =>
      intro v2 v3 M o h hR
      rw [fX3_highestWideEnough_L4] at h
      refine x_iload_n F dX3_highestWideEnough_4 rfl 3 rfl ?_
      refine x_aload_n F dX3_highestWideEnough_5 rfl 0 rfl ?_
      obtain ⟨x6, c6, h⟩ := bdS h
      refine x_getR F (ci := 3) (C := RX3) (T := TX3) (N := 3) rfl ⟨by decide, rfl⟩ inU3 0 (by decide) (fun _ _ _ => rfl) wl_313 c6 dX3_highestWideEnough_6 ?_
      obtain ⟨x9, c9, h⟩ := bdS h
      refine x_getI F (ci := 8) (C := RX8) (T := TX8) (N := 17) rfl ⟨by decide, rfl⟩ inU8 0 (by decide) (fun _ _ _ => rfl) wl_315 c9 dX3_highestWideEnough_9 ?_
      refine x_icmp_ge F (tgt := 56) dX3_highestWideEnough_12 (by decide) (fun c12 => ?_) (fun c12 => ?_)
      · rw [if_pos c12] at h
        refine x_iload_n F dX3_highestWideEnough_56 rfl 2 rfl ?_
        obtain rfl := Option.some.inj h
        obtain ⟨rfl, rfl⟩ := hR _ _ rfl
        exact x_iret F hr hl dX3_highestWideEnough_57
      · rw [if_neg c12] at h
        refine x_aload_n F dX3_highestWideEnough_15 rfl 0 rfl ?_
        obtain ⟨x16, c16, h⟩ := bdS h
        refine x_getR F (ci := 3) (C := RX3) (T := TX3) (N := 3) rfl ⟨by decide, rfl⟩ inU3 0 (by decide) (fun _ _ _ => rfl) wl_313 c16 dX3_highestWideEnough_16 ?_
        obtain ⟨x19, c19, h⟩ := bdS h
        refine x_getR F (ci := 8) (C := RX8) (T := TX8) (N := 17) rfl ⟨by decide, rfl⟩ inU8 3 (by decide) (fun _ _ _ => rfl) wl_316 c19 dX3_highestWideEnough_19 ?_
        refine x_iload_n F dX3_highestWideEnough_22 rfl 3 rfl ?_
        obtain ⟨x23, c23, h⟩ := bdS h
        refine x_aI F c23 dX3_highestWideEnough_23 ?_
        refine x_aload_n F dX3_highestWideEnough_24 rfl 0 rfl ?_
        obtain ⟨x25, c25, h⟩ := bdS h
        refine x_getR F (ci := 3) (C := RX3) (T := TX3) (N := 3) rfl ⟨by decide, rfl⟩ inU3 0 (by decide) (fun _ _ _ => rfl) wl_313 c25 dX3_highestWideEnough_25 ?_
        obtain ⟨x28, c28, h⟩ := bdS h
        refine x_getR F (ci := 8) (C := RX8) (T := TX8) (N := 17) rfl ⟨by decide, rfl⟩ inU8 12 (by decide) (fun _ _ _ => rfl) wl_317 c28 dX3_highestWideEnough_28 ?_
        refine x_iload_n F dX3_highestWideEnough_31 rfl 1 rfl ?_
        obtain ⟨x32, c32, h⟩ := bdS h
        refine x_aI F c32 dX3_highestWideEnough_32 ?_
        refine x_icmp_lt F (tgt := 50) dX3_highestWideEnough_33 (by decide) (fun c33 => ?_) (fun c33 => ?_)
        · rw [if_pos c33] at h
          refine x_iinc F (v := v3 + 1) (lv' := [(3, .int (v3 + 1)), (0, .ref (b + v0)), (1, .int v1), (2, .int v2)]) dX3_highestWideEnough_50 3 rfl rfl (by decide) rfl ?_
          refine x_goto F (tgt := 4) dX3_highestWideEnough_53 (by decide) ?_
          refine x_sub [1, 2, 3, 0] rfl ?_
          exact ih v2 (v3 + 1) M o h hR
        · rw [if_neg c33] at h
          refine x_iload_n F dX3_highestWideEnough_36 rfl 2 rfl ?_
          refine x_aload_n F dX3_highestWideEnough_37 rfl 0 rfl ?_
          obtain ⟨x38, c38, h⟩ := bdS h
          refine x_getR F (ci := 3) (C := RX3) (T := TX3) (N := 3) rfl ⟨by decide, rfl⟩ inU3 0 (by decide) (fun _ _ _ => rfl) wl_313 c38 dX3_highestWideEnough_38 ?_
          obtain ⟨x41, c41, h⟩ := bdS h
          refine x_getR F (ci := 8) (C := RX8) (T := TX8) (N := 17) rfl ⟨by decide, rfl⟩ inU8 2 (by decide) (fun _ _ _ => rfl) wl_318 c41 dX3_highestWideEnough_41 ?_
          refine x_iload_n F dX3_highestWideEnough_44 rfl 3 rfl ?_
          obtain ⟨x45, c45, h⟩ := bdS h
          refine x_aI F c45 dX3_highestWideEnough_45 ?_
          refine x_max F wl_319 wl_119 wl_120 wl_121 (Nat.le_of_ble_eq_true rfl) (Nat.le_of_ble_eq_true rfl) ⟨Nat.le_refl _, Nat.le_refl _⟩ dX3_highestWideEnough_46 ?_
          refine x_istore_n F (lv' := [(2, .int (if v2 < x45 then x45 else v2)), (0, .ref (b + v0)), (1, .int v1), (3, .int v3)]) dX3_highestWideEnough_49 rfl (by decide) rfl ?_
          refine x_iinc F (v := v3 + 1) (lv' := [(3, .int (v3 + 1)), (2, .int (if v2 < x45 then x45 else v2)), (0, .ref (b + v0)), (1, .int v1)]) dX3_highestWideEnough_50 3 rfl rfl (by decide) rfl ?_
          refine x_goto F (tgt := 4) dX3_highestWideEnough_53 (by decide) ?_
          refine x_sub [2, 3, 1, 0] rfl ?_
          exact ih (if v2 < x45 then x45 else v2) (v3 + 1) M o h hR
  obtain ⟨o4, h4, h⟩ := bdS h
  refine x_sub [2, 3, 1, 0] rfl ?_
  refine L4 v0 v1 N 0 0 M o4 h4 (fun r' M' e => ?_)
  · subst e
    try dsimp only at h
    obtain ⟨rfl, rfl⟩ := retS h; exact ⟨rfl, rfl⟩
theorem hd_X3_highestWideEnough : (yX3_highestWideEnough).cls = RX3 ∧ (yX3_highestWideEnough).cls ≠ "java/lang/invoke/MethodHandle" ∧ (yX3_highestWideEnough).cls ≠ "java/lang/invoke/VarHandle" ∧ (parseMethodDescriptor (yX3_highestWideEnough).desc).map (fun d => d.parameters.length) = some 1 := by decide +kernel
theorem hd_X3_highestReading : (yX3_highestReading).cls = RX3 ∧ (yX3_highestReading).cls ≠ "java/lang/invoke/MethodHandle" ∧ (yX3_highestReading).cls ≠ "java/lang/invoke/VarHandle" ∧ (parseMethodDescriptor (yX3_highestReading).desc).map (fun d => d.parameters.length) = some 2 := by decide +kernel
theorem hd_X3_goThrough : (yX3_goThrough).cls = RX3 ∧ (yX3_goThrough).cls ≠ "java/lang/invoke/MethodHandle" ∧ (yX3_goThrough).cls ≠ "java/lang/invoke/VarHandle" ∧ (parseMethodDescriptor (yX3_goThrough).desc).map (fun d => d.parameters.length) = some 2 := by decide +kernel
theorem dX3_fewestTimes_0 : decode cX3_fewestTimes 0 = .ok (.aload_n 0, 1) := by decide +kernel
theorem dX3_fewestTimes_1 : decode cX3_fewestTimes 1 = .ok (.iload_n 2, 1) := by decide +kernel
theorem dX3_fewestTimes_2 : decode cX3_fewestTimes 2 = .ok (.invokevirtual 22, 3) := by decide +kernel
theorem dX3_fewestTimes_5 : decode cX3_fewestTimes 5 = .ok (.istore 4, 2) := by decide +kernel
theorem dX3_fewestTimes_7 : decode cX3_fewestTimes 7 = .ok (.aload_n 0, 1) := by decide +kernel
theorem dX3_fewestTimes_8 : decode cX3_fewestTimes 8 = .ok (.getfield 11, 3) := by decide +kernel
theorem dX3_fewestTimes_11 : decode cX3_fewestTimes 11 = .ok (.sipush 1000, 3) := by decide +kernel
theorem dX3_fewestTimes_14 : decode cX3_fewestTimes 14 = .ok (.invokestatic 26, 3) := by decide +kernel
theorem dX3_fewestTimes_17 : decode cX3_fewestTimes 17 = .ok (.aload_n 0, 1) := by decide +kernel
theorem dX3_fewestTimes_18 : decode cX3_fewestTimes 18 = .ok (.getfield 11, 3) := by decide +kernel
theorem dX3_fewestTimes_21 : decode cX3_fewestTimes 21 = .ok (.aload_n 1, 1) := by decide +kernel
theorem dX3_fewestTimes_22 : decode cX3_fewestTimes 22 = .ok (.getfield 32, 3) := by decide +kernel
theorem dX3_fewestTimes_25 : decode cX3_fewestTimes 25 = .ok (.iload_n 2, 1) := by decide +kernel
theorem dX3_fewestTimes_26 : decode cX3_fewestTimes 26 = .ok (.iaload, 1) := by decide +kernel
theorem dX3_fewestTimes_27 : decode cX3_fewestTimes 27 = .ok (.aload_n 0, 1) := by decide +kernel
theorem dX3_fewestTimes_28 : decode cX3_fewestTimes 28 = .ok (.aload_n 1, 1) := by decide +kernel
theorem dX3_fewestTimes_29 : decode cX3_fewestTimes 29 = .ok (.iload_n 2, 1) := by decide +kernel
theorem dX3_fewestTimes_30 : decode cX3_fewestTimes 30 = .ok (.invokevirtual 37, 3) := by decide +kernel
theorem dX3_fewestTimes_33 : decode cX3_fewestTimes 33 = .ok (.iconst 0, 1) := by decide +kernel
theorem dX3_fewestTimes_34 : decode cX3_fewestTimes 34 = .ok (.invokestatic 41, 3) := by decide +kernel
theorem dX3_fewestTimes_37 : decode cX3_fewestTimes 37 = .ok (.iconst 0, 1) := by decide +kernel
theorem dX3_fewestTimes_38 : decode cX3_fewestTimes 38 = .ok (.istore 5, 2) := by decide +kernel
theorem dX3_fewestTimes_40 : decode cX3_fewestTimes 40 = .ok (.iload 5, 2) := by decide +kernel
theorem dX3_fewestTimes_42 : decode cX3_fewestTimes 42 = .ok (.iload_n 3, 1) := by decide +kernel
theorem dX3_fewestTimes_43 : decode cX3_fewestTimes 43 = .ok (.if_icmp .ge 59, 3) := by decide +kernel
theorem dX3_fewestTimes_46 : decode cX3_fewestTimes 46 = .ok (.aload_n 0, 1) := by decide +kernel
theorem dX3_fewestTimes_47 : decode cX3_fewestTimes 47 = .ok (.getfield 15, 3) := by decide +kernel
theorem dX3_fewestTimes_50 : decode cX3_fewestTimes 50 = .ok (.sipush 1000, 3) := by decide +kernel
theorem dX3_fewestTimes_53 : decode cX3_fewestTimes 53 = .ok (.invokestatic 26, 3) := by decide +kernel
theorem dX3_fewestTimes_56 : decode cX3_fewestTimes 56 = .ok (.aload_n 0, 1) := by decide +kernel
theorem dX3_fewestTimes_57 : decode cX3_fewestTimes 57 = .ok (.aload_n 0, 1) := by decide +kernel
theorem dX3_fewestTimes_58 : decode cX3_fewestTimes 58 = .ok (.getfield 18, 3) := by decide +kernel
theorem dX3_fewestTimes_61 : decode cX3_fewestTimes 61 = .ok (.aload_n 1, 1) := by decide +kernel
theorem dX3_fewestTimes_62 : decode cX3_fewestTimes 62 = .ok (.getfield 45, 3) := by decide +kernel
theorem dX3_fewestTimes_65 : decode cX3_fewestTimes 65 = .ok (.iload 5, 2) := by decide +kernel
theorem dX3_fewestTimes_67 : decode cX3_fewestTimes 67 = .ok (.iadd, 1) := by decide +kernel
theorem dX3_fewestTimes_68 : decode cX3_fewestTimes 68 = .ok (.invokevirtual 49, 3) := by decide +kernel
theorem dX3_fewestTimes_71 : decode cX3_fewestTimes 71 = .ok (.iload 4, 2) := by decide +kernel
theorem dX3_fewestTimes_73 : decode cX3_fewestTimes 73 = .ok (.invokevirtual 54, 3) := by decide +kernel
theorem dX3_fewestTimes_76 : decode cX3_fewestTimes 76 = .ok (.aload_n 0, 1) := by decide +kernel
theorem dX3_fewestTimes_77 : decode cX3_fewestTimes 77 = .ok (.getfield 11, 3) := by decide +kernel
theorem dX3_fewestTimes_80 : decode cX3_fewestTimes 80 = .ok (.astore 6, 2) := by decide +kernel
theorem dX3_fewestTimes_82 : decode cX3_fewestTimes 82 = .ok (.aload_n 0, 1) := by decide +kernel
theorem dX3_fewestTimes_83 : decode cX3_fewestTimes 83 = .ok (.aload_n 0, 1) := by decide +kernel
theorem dX3_fewestTimes_84 : decode cX3_fewestTimes 84 = .ok (.getfield 15, 3) := by decide +kernel
theorem dX3_fewestTimes_87 : decode cX3_fewestTimes 87 = .ok (.putfield 11, 3) := by decide +kernel
theorem dX3_fewestTimes_90 : decode cX3_fewestTimes 90 = .ok (.aload_n 0, 1) := by decide +kernel
theorem dX3_fewestTimes_91 : decode cX3_fewestTimes 91 = .ok (.aload 6, 2) := by decide +kernel
theorem dX3_fewestTimes_93 : decode cX3_fewestTimes 93 = .ok (.putfield 15, 3) := by decide +kernel
theorem dX3_fewestTimes_96 : decode cX3_fewestTimes 96 = .ok (.iinc 5 1, 3) := by decide +kernel
theorem dX3_fewestTimes_99 : decode cX3_fewestTimes 99 = .ok (.goto (-59), 3) := by decide +kernel
theorem dX3_fewestTimes_102 : decode cX3_fewestTimes 102 = .ok (.sipush 1000, 3) := by decide +kernel
theorem dX3_fewestTimes_105 : decode cX3_fewestTimes 105 = .ok (.istore 5, 2) := by decide +kernel
theorem dX3_fewestTimes_107 : decode cX3_fewestTimes 107 = .ok (.iconst 0, 1) := by decide +kernel
theorem dX3_fewestTimes_108 : decode cX3_fewestTimes 108 = .ok (.istore 6, 2) := by decide +kernel
theorem dX3_fewestTimes_110 : decode cX3_fewestTimes 110 = .ok (.iload 6, 2) := by decide +kernel
theorem dX3_fewestTimes_112 : decode cX3_fewestTimes 112 = .ok (.sipush 300, 3) := by decide +kernel
theorem dX3_fewestTimes_115 : decode cX3_fewestTimes 115 = .ok (.if_icmp .ge 23, 3) := by decide +kernel
theorem dX3_fewestTimes_118 : decode cX3_fewestTimes 118 = .ok (.iload 5, 2) := by decide +kernel
theorem dX3_fewestTimes_120 : decode cX3_fewestTimes 120 = .ok (.aload_n 0, 1) := by decide +kernel
theorem dX3_fewestTimes_121 : decode cX3_fewestTimes 121 = .ok (.getfield 11, 3) := by decide +kernel
theorem dX3_fewestTimes_124 : decode cX3_fewestTimes 124 = .ok (.iload 6, 2) := by decide +kernel
theorem dX3_fewestTimes_126 : decode cX3_fewestTimes 126 = .ok (.iaload, 1) := by decide +kernel
theorem dX3_fewestTimes_127 : decode cX3_fewestTimes 127 = .ok (.invokestatic 58, 3) := by decide +kernel
theorem dX3_fewestTimes_130 : decode cX3_fewestTimes 130 = .ok (.istore 5, 2) := by decide +kernel
theorem dX3_fewestTimes_132 : decode cX3_fewestTimes 132 = .ok (.iinc 6 1, 3) := by decide +kernel
theorem dX3_fewestTimes_135 : decode cX3_fewestTimes 135 = .ok (.goto (-25), 3) := by decide +kernel
theorem dX3_fewestTimes_138 : decode cX3_fewestTimes 138 = .ok (.iload 5, 2) := by decide +kernel
theorem dX3_fewestTimes_140 : decode cX3_fewestTimes 140 = .ok (.sipush 1000, 3) := by decide +kernel
theorem dX3_fewestTimes_143 : decode cX3_fewestTimes 143 = .ok (.if_icmp .ne 7, 3) := by decide +kernel
theorem dX3_fewestTimes_146 : decode cX3_fewestTimes 146 = .ok (.iconst (-1), 1) := by decide +kernel
theorem dX3_fewestTimes_147 : decode cX3_fewestTimes 147 = .ok (.goto 5, 3) := by decide +kernel
theorem dX3_fewestTimes_150 : decode cX3_fewestTimes 150 = .ok (.iload 5, 2) := by decide +kernel
theorem dX3_fewestTimes_152 : decode cX3_fewestTimes 152 = .ok (.ireturn, 1) := by decide +kernel
def fX3_fewestTimes_L40 (N : Nat) (v0 : Nat) (v1 : Nat) (v3 : Int32) (v4 : Int32) : Nat → Int32 → Mem → Option (Mem)
  | 0, _, _ => none
  | n + 1, v5, M => (if v3 ≤ v5 then some M else ((fR M 3 v0 2).bind fun x47 => ((fJ7_fill_53178 N x47 1000 M).bind fun (u53, M53) => ((fR M53 3 v0 0).bind fun x58 => ((fI M53 0 v1 9).bind fun x62 => (if mK M53 x58 = 9 then ((fX8_tideOf N x58 (x62 + v5) M53).bind fun (x68, M68) => (if mK M68 v0 = 4 then ((fX3_goThrough N v0 x68 v4 M68).bind fun (u73, M73) => ((fR M73 3 v0 1).bind fun x77 => ((fR M73 3 v0 2).bind fun x84 => ((pR M73 3 v0 1 x84).bind fun M87 => ((pR M87 3 v0 2 x77).bind fun M93 => fX3_fewestTimes_L40 N v0 v1 v3 v4 n (v5 + 1) M93))))) else none)) else none))))))
def fX3_fewestTimes_L110 (N : Nat) (v0 : Nat) : Nat → Int32 → Int32 → Mem → Option (Int32 × Mem)
  | 0, _, _, _ => none
  | n + 1, v5, v6, M => (if 300 ≤ v6 then some (v5, M) else ((fR M 3 v0 1).bind fun x121 => ((aI M x121 v6).bind fun x126 => fX3_fewestTimes_L110 N v0 n (if x126 < v5 then x126 else v5) (v6 + 1) M)))
def fX3_fewestTimes (N : Nat) (v0 : Nat) (v1 : Nat) (v2 : Int32) (v3 : Int32) (M : Mem) : Option (Int32 × Mem) := (if mK M v0 = 4 then ((fX3_highestWideEnough N v0 v2 M).bind fun (x2, M2) => ((fR M2 3 v0 1).bind fun x8 => ((fJ7_fill_53178 N x8 1000 M2).bind fun (u14, M14) => ((fR M14 3 v0 1).bind fun x18 => ((fR M14 0 v1 5).bind fun x22 => ((aI M14 x22 v2).bind fun x26 => (if mK M14 v0 = 4 then ((fX3_highestReading N v0 v1 v2 M14).bind fun (x30, M30) => ((fX3_setFewer N x18 x26 x30 0 M30).bind fun (u34, M34) => ((fX3_fewestTimes_L40 N v0 v1 v3 x2 N 0 M34).bind fun o40 => ((fX3_fewestTimes_L110 N v0 N 1000 0 o40).bind fun o110 => match o110 with | (w5_110, M110) => (if w5_110 = 1000 then some ((-1), M110) else some (w5_110, M110)))))) else none))))))) else none)
set_option maxHeartbeats 4000000 in
set_option maxRecDepth 100000 in
theorem k_X3_fewestTimes (l : Launch) (b : Nat) (D : va_G) (cy : Nat → ClassId) (N : Nat) (v0 : Nat) (v1 : Nat) (v2 : Int32) (v3 : Int32) (M : Mem) (r : Int32) (Mf : Mem) (h : fX3_fewestTimes N v0 v1 v2 v3 M = some (r, Mf)) : Ct l yX3_fewestTimes cX3_fewestTimes 7 (some .int) 4 0 0 b D cy [.ref (b + v0), .ref (b + v1), .int v2, .int v3] M (some (.int r)) Mf := by
  refine Ct_of (own := RX3) (by decide) rfl (Nat.le_of_ble_eq_true rfl) ?_
  intro p e s m args below meth c F hr hl hmn
  unfold fX3_fewestTimes at h
  show X p l e ({ frames := 4, cells := 0, slots := 0, locals := 100 * 4 }) s m args below meth c (MQ below (Qm b D cy (some (.int r)) Mf) args s 0 0 (fun q => b ≤ q)) 7 b D cy 0 0 M 0 [(0, .ref (b + v0)), (1, .ref (b + v1)), (2, .int v2), (3, .int v3)] []
  refine x_aload_n F dX3_fewestTimes_0 rfl 0 rfl ?_
  refine x_iload_n F dX3_fewestTimes_1 rfl 2 rfl ?_
  obtain ⟨k2, h⟩ := gdS h
  obtain ⟨⟨x2, M2⟩, c2, h⟩ := bdS h
  dsimp only at h
  refine x_callV F (As := [.int v2]) (rest := []) (res := (some (.int x2))) (ci := 3) (q := (RX3, TX3, 3)) rfl (by decide) k2 (k_X3_highestWideEnough l b D cy N v0 v2 M _ _ c2) wl_337 wl_338 wl_339 wl_327 wl_314 hd_X3_highestWideEnough ⟨Nat.le_of_ble_eq_true rfl, Nat.le_of_ble_eq_true rfl⟩ ⟨Nat.le_refl _, Nat.le_refl _⟩ (Nat.le_of_ble_eq_true rfl) rfl dX3_fewestTimes_2 ?_
  refine x_istore F (lv' := [(4, .int x2), (0, .ref (b + v0)), (1, .ref (b + v1)), (2, .int v2), (3, .int v3)]) dX3_fewestTimes_5 (by decide) rfl ?_
  refine x_aload_n F dX3_fewestTimes_7 rfl 1 rfl ?_
  obtain ⟨x8, c8, h⟩ := bdS h
  refine x_getR F (ci := 3) (C := RX3) (T := TX3) (N := 3) rfl ⟨by decide, rfl⟩ inU3 1 (by decide) (fun _ _ _ => rfl) wl_311 c8 dX3_fewestTimes_8 ?_
  refine x_sipush F (v := 1000) dX3_fewestTimes_11 (by decide) ?_
  obtain ⟨⟨u14, M14⟩, c14, h⟩ := bdS h
  dsimp only at h
  refine x_callS F (As := [.ref (b + x8), .int 1000]) (rest := []) (res := none) (k_J7_fill_53178 l b D cy N x8 1000 M2 _ _ c14) wl_340 wl_19 wl_20 wl_0 (hd_J7_fill_53178).2 ⟨Nat.le_of_ble_eq_true rfl, Nat.le_of_ble_eq_true rfl⟩ ⟨Nat.le_refl _, Nat.le_refl _⟩ (Nat.le_of_ble_eq_true rfl) rfl dX3_fewestTimes_14 ?_
  refine x_aload_n F dX3_fewestTimes_17 rfl 1 rfl ?_
  obtain ⟨x18, c18, h⟩ := bdS h
  refine x_getR F (ci := 3) (C := RX3) (T := TX3) (N := 3) rfl ⟨by decide, rfl⟩ inU3 1 (by decide) (fun _ _ _ => rfl) wl_311 c18 dX3_fewestTimes_18 ?_
  refine x_aload_n F dX3_fewestTimes_21 rfl 2 rfl ?_
  obtain ⟨x22, c22, h⟩ := bdS h
  refine x_getR F (ci := 0) (C := RX0) (T := TX0) (N := 12) rfl ⟨by decide, rfl⟩ inU0 5 (by decide) (fun _ _ _ => rfl) wl_332 c22 dX3_fewestTimes_22 ?_
  refine x_iload_n F dX3_fewestTimes_25 rfl 3 rfl ?_
  obtain ⟨x26, c26, h⟩ := bdS h
  refine x_aI F c26 dX3_fewestTimes_26 ?_
  refine x_aload_n F dX3_fewestTimes_27 rfl 1 rfl ?_
  refine x_aload_n F dX3_fewestTimes_28 rfl 2 rfl ?_
  refine x_iload_n F dX3_fewestTimes_29 rfl 3 rfl ?_
  obtain ⟨k30, h⟩ := gdS h
  obtain ⟨⟨x30, M30⟩, c30, h⟩ := bdS h
  dsimp only at h
  refine x_callV F (As := [.ref (b + v1), .int v2]) (rest := [.int x26, .ref (b + x18)]) (res := (some (.int x30))) (ci := 3) (q := (RX3, TX3, 3)) rfl (by decide) k30 (k_X3_highestReading l b D cy N v0 v1 v2 M14 _ _ c30) wl_341 wl_342 wl_343 wl_327 wl_321 hd_X3_highestReading ⟨Nat.le_of_ble_eq_true rfl, Nat.le_of_ble_eq_true rfl⟩ ⟨Nat.le_refl _, Nat.le_refl _⟩ (Nat.le_of_ble_eq_true rfl) rfl dX3_fewestTimes_30 ?_
  refine x_iconst F (v := 0) dX3_fewestTimes_33 (by decide) ?_
  obtain ⟨⟨u34, M34⟩, c34, h⟩ := bdS h
  dsimp only at h
  refine x_callS F (As := [.ref (b + x18), .int x26, .int x30, .int 0]) (rest := []) (res := none) (k_X3_setFewer l b D cy N x18 x26 x30 0 M30 _ _ c34) wl_325 wl_326 wl_327 wl_322 (hd_X3_setFewer).2 ⟨Nat.le_of_ble_eq_true rfl, Nat.le_of_ble_eq_true rfl⟩ ⟨Nat.le_refl _, Nat.le_refl _⟩ (Nat.le_of_ble_eq_true rfl) rfl dX3_fewestTimes_34 ?_
  refine x_iconst F (v := 0) dX3_fewestTimes_37 (by decide) ?_
  refine x_istore F (lv' := [(5, .int 0), (4, .int x2), (0, .ref (b + v0)), (1, .ref (b + v1)), (2, .int v2), (3, .int v3)]) dX3_fewestTimes_38 (by decide) rfl ?_
  have L40 : ∀ (v0 : Nat) (v1 : Nat) (v3 : Int32) (v4 : Int32) (n : Nat) (v5 : Int32) (M : Mem) (o : Mem), fX3_fewestTimes_L40 N v0 v1 v3 v4 n v5 M = some o → X p l e ({ frames := 4, cells := 0, slots := 0, locals := 100 * 4 }) s m args below meth c (MQ below (Qm b D cy (some (.int r)) Mf) args s 0 0 (fun q => b ≤ q)) 7 b D cy 0 0 o 102 [(0, .ref (b + v0))] [] → X p l e ({ frames := 4, cells := 0, slots := 0, locals := 100 * 4 }) s m args below meth c (MQ below (Qm b D cy (some (.int r)) Mf) args s 0 0 (fun q => b ≤ q)) 7 b D cy 0 0 M 40 [(0, .ref (b + v0)), (1, .ref (b + v1)), (3, .int v3), (4, .int v4), (5, .int v5)] [] := by
    intro v0 v1 v3 v4 n
    induction n with
    | zero => intro v5 M o h; exact absurd h (by rw [fX3_fewestTimes_L40]; exact fun z => by cases z)
    | succ n ih =>
      intro v5 M o h hE
      rw [fX3_fewestTimes_L40] at h
      refine x_iload F dX3_fewestTimes_40 4 rfl ?_
      refine x_iload_n F dX3_fewestTimes_42 rfl 2 rfl ?_
      refine x_icmp_ge F (tgt := 102) dX3_fewestTimes_43 (by decide) (fun c43 => ?_) (fun c43 => ?_)
      · rw [if_pos c43] at h
        obtain rfl := Option.some.inj h
        refine x_sub [0] rfl ?_
        exact hE
      · rw [if_neg c43] at h
        refine x_aload_n F dX3_fewestTimes_46 rfl 0 rfl ?_
        obtain ⟨x47, c47, h⟩ := bdS h
        refine x_getR F (ci := 3) (C := RX3) (T := TX3) (N := 3) rfl ⟨by decide, rfl⟩ inU3 2 (by decide) (fun _ _ _ => rfl) wl_312 c47 dX3_fewestTimes_47 ?_
        refine x_sipush F (v := 1000) dX3_fewestTimes_50 (by decide) ?_
        obtain ⟨⟨u53, M53⟩, c53, h⟩ := bdS h
        dsimp only at h
        refine x_callS F (As := [.ref (b + x47), .int 1000]) (rest := []) (res := none) (k_J7_fill_53178 l b D cy N x47 1000 M _ _ c53) wl_340 wl_19 wl_20 wl_0 (hd_J7_fill_53178).2 ⟨Nat.le_of_ble_eq_true rfl, Nat.le_of_ble_eq_true rfl⟩ ⟨Nat.le_refl _, Nat.le_refl _⟩ (Nat.le_of_ble_eq_true rfl) rfl dX3_fewestTimes_53 ?_
        refine x_aload_n F dX3_fewestTimes_56 rfl 0 rfl ?_
        refine x_aload_n F dX3_fewestTimes_57 rfl 0 rfl ?_
        obtain ⟨x58, c58, h⟩ := bdS h
        refine x_getR F (ci := 3) (C := RX3) (T := TX3) (N := 3) rfl ⟨by decide, rfl⟩ inU3 0 (by decide) (fun _ _ _ => rfl) wl_313 c58 dX3_fewestTimes_58 ?_
        refine x_aload_n F dX3_fewestTimes_61 rfl 1 rfl ?_
        obtain ⟨x62, c62, h⟩ := bdS h
        refine x_getI F (ci := 0) (C := RX0) (T := TX0) (N := 12) rfl ⟨by decide, rfl⟩ inU0 9 (by decide) (fun _ _ _ => rfl) wl_333 c62 dX3_fewestTimes_62 ?_
        refine x_iload F dX3_fewestTimes_65 4 rfl ?_
        refine x_iadd F dX3_fewestTimes_67 ?_
        obtain ⟨k68, h⟩ := gdS h
        obtain ⟨⟨x68, M68⟩, c68, h⟩ := bdS h
        dsimp only at h
        refine x_callV F (As := [.int (x62 + v5)]) (rest := [.ref (b + v0)]) (res := (some (.int x68))) (ci := 8) (q := (RX8, TX8, 17)) rfl (by decide) k68 (k_X8_tideOf l b D cy N x58 (x62 + v5) M53 _ _ c68) wl_344 wl_73 wl_74 wl_75 wl_36 hd_X8_tideOf ⟨Nat.le_of_ble_eq_true rfl, Nat.le_of_ble_eq_true rfl⟩ ⟨Nat.le_refl _, Nat.le_refl _⟩ (Nat.le_of_ble_eq_true rfl) rfl dX3_fewestTimes_68 ?_
        refine x_iload F dX3_fewestTimes_71 3 rfl ?_
        obtain ⟨k73, h⟩ := gdS h
        obtain ⟨⟨u73, M73⟩, c73, h⟩ := bdS h
        dsimp only at h
        refine x_callV F (As := [.int x68, .int v4]) (rest := []) (res := none) (ci := 3) (q := (RX3, TX3, 3)) rfl (by decide) k73 (k_X3_goThrough l b D cy N v0 x68 v4 M68 _ _ c73) wl_345 wl_346 wl_347 wl_327 wl_328 hd_X3_goThrough ⟨Nat.le_of_ble_eq_true rfl, Nat.le_of_ble_eq_true rfl⟩ ⟨Nat.le_refl _, Nat.le_refl _⟩ (Nat.le_of_ble_eq_true rfl) rfl dX3_fewestTimes_73 ?_
        refine x_aload_n F dX3_fewestTimes_76 rfl 0 rfl ?_
        obtain ⟨x77, c77, h⟩ := bdS h
        refine x_getR F (ci := 3) (C := RX3) (T := TX3) (N := 3) rfl ⟨by decide, rfl⟩ inU3 1 (by decide) (fun _ _ _ => rfl) wl_311 c77 dX3_fewestTimes_77 ?_
        refine x_astore F (lv' := [(6, .ref (b + x77)), (0, .ref (b + v0)), (1, .ref (b + v1)), (3, .int v3), (4, .int v4), (5, .int v5)]) dX3_fewestTimes_80 (by decide) rfl ?_
        refine x_aload_n F dX3_fewestTimes_82 rfl 1 rfl ?_
        refine x_aload_n F dX3_fewestTimes_83 rfl 1 rfl ?_
        obtain ⟨x84, c84, h⟩ := bdS h
        refine x_getR F (ci := 3) (C := RX3) (T := TX3) (N := 3) rfl ⟨by decide, rfl⟩ inU3 2 (by decide) (fun _ _ _ => rfl) wl_312 c84 dX3_fewestTimes_84 ?_
        obtain ⟨M87, c87, h⟩ := bdS h
        refine x_putR F (ci := 3) (C := RX3) (T := TX3) (N := 3) rfl ⟨by decide, rfl⟩ inU3 tyX3_ok nmX3 1 (by decide) ⟨rfl, rfl⟩ (fun _ _ _ => rfl) rfl wl_311 c87 dX3_fewestTimes_87 ?_
        refine x_aload_n F dX3_fewestTimes_90 rfl 1 rfl ?_
        refine x_aload F dX3_fewestTimes_91 0 rfl ?_
        obtain ⟨M93, c93, h⟩ := bdS h
        refine x_putR F (ci := 3) (C := RX3) (T := TX3) (N := 3) rfl ⟨by decide, rfl⟩ inU3 tyX3_ok nmX3 2 (by decide) ⟨rfl, rfl⟩ (fun _ _ _ => rfl) rfl wl_312 c93 dX3_fewestTimes_93 ?_
        refine x_iinc F (v := v5 + 1) (lv' := [(5, .int (v5 + 1)), (6, .ref (b + x77)), (0, .ref (b + v0)), (1, .ref (b + v1)), (3, .int v3), (4, .int v4)]) dX3_fewestTimes_96 5 rfl rfl (by decide) rfl ?_
        refine x_goto F (tgt := 40) dX3_fewestTimes_99 (by decide) ?_
        refine x_sub [2, 3, 4, 5, 0] rfl ?_
        exact ih (v5 + 1) M93 o h hE
  obtain ⟨o40, h40, h⟩ := bdS h
  refine x_sub [2, 3, 5, 1, 0] rfl ?_
  refine L40 v0 v1 v3 x2 N 0 M34 o40 h40 ?_
  refine x_sipush F (v := 1000) dX3_fewestTimes_102 (by decide) ?_
  refine x_istore F (lv' := [(5, .int 1000), (0, .ref (b + v0))]) dX3_fewestTimes_105 (by decide) rfl ?_
  refine x_iconst F (v := 0) dX3_fewestTimes_107 (by decide) ?_
  refine x_istore F (lv' := [(6, .int 0), (5, .int 1000), (0, .ref (b + v0))]) dX3_fewestTimes_108 (by decide) rfl ?_
  have L110 : ∀ (v0 : Nat) (n : Nat) (v5 : Int32) (v6 : Int32) (M : Mem) (o : Int32 × Mem), fX3_fewestTimes_L110 N v0 n v5 v6 M = some o → (∀ (w5 : Int32) (M' : Mem), o = (w5, M') → X p l e ({ frames := 4, cells := 0, slots := 0, locals := 100 * 4 }) s m args below meth c (MQ below (Qm b D cy (some (.int r)) Mf) args s 0 0 (fun q => b ≤ q)) 7 b D cy 0 0 M' 138 [(5, .int w5)] []) → X p l e ({ frames := 4, cells := 0, slots := 0, locals := 100 * 4 }) s m args below meth c (MQ below (Qm b D cy (some (.int r)) Mf) args s 0 0 (fun q => b ≤ q)) 7 b D cy 0 0 M 110 [(0, .ref (b + v0)), (5, .int v5), (6, .int v6)] [] := by
    intro v0 n
    induction n with
    | zero => intro v5 v6 M o h; exact absurd h (by rw [fX3_fewestTimes_L110]; exact fun z => by cases z)
    | succ n ih =>
      intro v5 v6 M o h hE
      rw [fX3_fewestTimes_L110] at h
      refine x_iload F dX3_fewestTimes_110 2 rfl ?_
      refine x_sipush F (v := 300) dX3_fewestTimes_112 (by decide) ?_
      refine x_icmp_ge F (tgt := 138) dX3_fewestTimes_115 (by decide) (fun c115 => ?_) (fun c115 => ?_)
      · rw [if_pos c115] at h
        obtain rfl := Option.some.inj h
        refine x_sub [1] rfl ?_
        exact hE _ _ rfl
      · rw [if_neg c115] at h
        refine x_iload F dX3_fewestTimes_118 1 rfl ?_
        refine x_aload_n F dX3_fewestTimes_120 rfl 0 rfl ?_
        obtain ⟨x121, c121, h⟩ := bdS h
        refine x_getR F (ci := 3) (C := RX3) (T := TX3) (N := 3) rfl ⟨by decide, rfl⟩ inU3 1 (by decide) (fun _ _ _ => rfl) wl_311 c121 dX3_fewestTimes_121 ?_
        refine x_iload F dX3_fewestTimes_124 2 rfl ?_
        obtain ⟨x126, c126, h⟩ := bdS h
        refine x_aI F c126 dX3_fewestTimes_126 ?_
        refine x_min F wl_334 wl_335 wl_120 wl_336 (Nat.le_of_ble_eq_true rfl) (Nat.le_of_ble_eq_true rfl) ⟨Nat.le_refl _, Nat.le_refl _⟩ dX3_fewestTimes_127 ?_
        refine x_istore F (lv' := [(5, .int (if x126 < v5 then x126 else v5)), (0, .ref (b + v0)), (6, .int v6)]) dX3_fewestTimes_130 (by decide) rfl ?_
        refine x_iinc F (v := v6 + 1) (lv' := [(6, .int (v6 + 1)), (5, .int (if x126 < v5 then x126 else v5)), (0, .ref (b + v0))]) dX3_fewestTimes_132 2 rfl rfl (by decide) rfl ?_
        refine x_goto F (tgt := 110) dX3_fewestTimes_135 (by decide) ?_
        refine x_sub [2, 1, 0] rfl ?_
        exact ih (if x126 < v5 then x126 else v5) (v6 + 1) M o h hE
  obtain ⟨o110, h110, h⟩ := bdS h
  refine x_sub [2, 1, 0] rfl ?_
  refine L110 v0 N 1000 0 o40 o110 h110 (fun w5_110 M110 e => ?_)
  · subst e
    dsimp only at h
    refine x_iload F dX3_fewestTimes_138 0 rfl ?_
    refine x_sipush F (v := 1000) dX3_fewestTimes_140 (by decide) ?_
    refine x_icmp_ne F (tgt := 150) dX3_fewestTimes_143 (by decide) (fun c143 => ?_) (fun c143 => ?_)
    · rw [if_neg c143] at h
      refine x_iload F dX3_fewestTimes_150 0 rfl ?_
      obtain ⟨rfl, rfl⟩ := retS h
      exact x_iret F hr hl dX3_fewestTimes_152
    · rw [if_pos c143] at h
      refine x_iconst F (v := (-1)) dX3_fewestTimes_146 (by decide) ?_
      refine x_goto F (tgt := 152) dX3_fewestTimes_147 (by decide) ?_
      obtain ⟨rfl, rfl⟩ := retS h
      exact x_iret F hr hl dX3_fewestTimes_152
theorem dX4_signsMissing_0 : decode cX4_signsMissing 0 = .ok (.iconst 0, 1) := by decide +kernel
theorem dX4_signsMissing_1 : decode cX4_signsMissing 1 = .ok (.istore 4, 2) := by decide +kernel
theorem dX4_signsMissing_3 : decode cX4_signsMissing 3 = .ok (.iconst 0, 1) := by decide +kernel
theorem dX4_signsMissing_4 : decode cX4_signsMissing 4 = .ok (.istore 5, 2) := by decide +kernel
theorem dX4_signsMissing_6 : decode cX4_signsMissing 6 = .ok (.iload 5, 2) := by decide +kernel
theorem dX4_signsMissing_8 : decode cX4_signsMissing 8 = .ok (.aload_n 0, 1) := by decide +kernel
theorem dX4_signsMissing_9 : decode cX4_signsMissing 9 = .ok (.getfield 21, 3) := by decide +kernel
theorem dX4_signsMissing_12 : decode cX4_signsMissing 12 = .ok (.getfield 30, 3) := by decide +kernel
theorem dX4_signsMissing_15 : decode cX4_signsMissing 15 = .ok (.iload_n 2, 1) := by decide +kernel
theorem dX4_signsMissing_16 : decode cX4_signsMissing 16 = .ok (.iaload, 1) := by decide +kernel
theorem dX4_signsMissing_17 : decode cX4_signsMissing 17 = .ok (.if_icmp .ge 31, 3) := by decide +kernel
theorem dX4_signsMissing_20 : decode cX4_signsMissing 20 = .ok (.aload_n 1, 1) := by decide +kernel
theorem dX4_signsMissing_21 : decode cX4_signsMissing 21 = .ok (.getfield 41, 3) := by decide +kernel
theorem dX4_signsMissing_24 : decode cX4_signsMissing 24 = .ok (.iload_n 3, 1) := by decide +kernel
theorem dX4_signsMissing_25 : decode cX4_signsMissing 25 = .ok (.iload 5, 2) := by decide +kernel
theorem dX4_signsMissing_27 : decode cX4_signsMissing 27 = .ok (.iadd, 1) := by decide +kernel
theorem dX4_signsMissing_28 : decode cX4_signsMissing 28 = .ok (.iaload, 1) := by decide +kernel
theorem dX4_signsMissing_29 : decode cX4_signsMissing 29 = .ok (.iconst (-1), 1) := by decide +kernel
theorem dX4_signsMissing_30 : decode cX4_signsMissing 30 = .ok (.if_icmp .ne 12, 3) := by decide +kernel
theorem dX4_signsMissing_33 : decode cX4_signsMissing 33 = .ok (.iload 4, 2) := by decide +kernel
theorem dX4_signsMissing_35 : decode cX4_signsMissing 35 = .ok (.iconst 1, 1) := by decide +kernel
theorem dX4_signsMissing_36 : decode cX4_signsMissing 36 = .ok (.iload 5, 2) := by decide +kernel
theorem dX4_signsMissing_38 : decode cX4_signsMissing 38 = .ok (.ishl, 1) := by decide +kernel
theorem dX4_signsMissing_39 : decode cX4_signsMissing 39 = .ok (.ior, 1) := by decide +kernel
theorem dX4_signsMissing_40 : decode cX4_signsMissing 40 = .ok (.istore 4, 2) := by decide +kernel
theorem dX4_signsMissing_42 : decode cX4_signsMissing 42 = .ok (.iinc 5 1, 3) := by decide +kernel
theorem dX4_signsMissing_45 : decode cX4_signsMissing 45 = .ok (.goto (-39), 3) := by decide +kernel
theorem dX4_signsMissing_48 : decode cX4_signsMissing 48 = .ok (.iload 4, 2) := by decide +kernel
theorem dX4_signsMissing_50 : decode cX4_signsMissing 50 = .ok (.ireturn, 1) := by decide +kernel
def fX4_signsMissing_L6 (N : Nat) (v0 : Nat) (v1 : Nat) (v2 : Int32) (v3 : Int32) : Nat → Int32 → Int32 → Mem → Option (Int32 × Mem)
  | 0, _, _, _ => none
  | n + 1, v4, v5, M => ((fR M 4 v0 0).bind fun x9 => ((fR M 8 x9 12).bind fun x12 => ((aI M x12 v2).bind fun x16 => (if x16 ≤ v5 then some (v4, M) else ((fR M 0 v1 1).bind fun x21 => ((aI M x21 (v3 + v5)).bind fun x28 => (if x28 = ((-1)) then fX4_signsMissing_L6 N v0 v1 v2 v3 n (v4 ||| (1 <<< (v5 &&& 31))) (v5 + 1) M else fX4_signsMissing_L6 N v0 v1 v2 v3 n v4 (v5 + 1) M)))))))
def fX4_signsMissing (N : Nat) (v0 : Nat) (v1 : Nat) (v2 : Int32) (v3 : Int32) (M : Mem) : Option (Int32 × Mem) := ((fX4_signsMissing_L6 N v0 v1 v2 v3 N 0 0 M).bind fun o6 => some o6)
set_option maxHeartbeats 4000000 in
set_option maxRecDepth 100000 in
theorem k_X4_signsMissing (l : Launch) (b : Nat) (D : va_G) (cy : Nat → ClassId) (N : Nat) (v0 : Nat) (v1 : Nat) (v2 : Int32) (v3 : Int32) (M : Mem) (r : Int32) (Mf : Mem) (h : fX4_signsMissing N v0 v1 v2 v3 M = some (r, Mf)) : Ct l yX4_signsMissing cX4_signsMissing 6 (some .int) 1 0 0 b D cy [.ref (b + v0), .ref (b + v1), .int v2, .int v3] M (some (.int r)) Mf := by
  refine Ct_of (own := RX4) (by decide) rfl (Nat.le_of_ble_eq_true rfl) ?_
  intro p e s m args below meth c F hr hl hmn
  unfold fX4_signsMissing at h
  show X p l e ({ frames := 1, cells := 0, slots := 0, locals := 100 * 1 }) s m args below meth c (MQ below (Qm b D cy (some (.int r)) Mf) args s 0 0 (fun q => b ≤ q)) 6 b D cy 0 0 M 0 [(0, .ref (b + v0)), (1, .ref (b + v1)), (2, .int v2), (3, .int v3)] []
  refine x_iconst F (v := 0) dX4_signsMissing_0 (by decide) ?_
  refine x_istore F (lv' := [(4, .int 0), (0, .ref (b + v0)), (1, .ref (b + v1)), (2, .int v2), (3, .int v3)]) dX4_signsMissing_1 (by decide) rfl ?_
  refine x_iconst F (v := 0) dX4_signsMissing_3 (by decide) ?_
  refine x_istore F (lv' := [(5, .int 0), (4, .int 0), (0, .ref (b + v0)), (1, .ref (b + v1)), (2, .int v2), (3, .int v3)]) dX4_signsMissing_4 (by decide) rfl ?_
  have L6 : ∀ (v0 : Nat) (v1 : Nat) (v2 : Int32) (v3 : Int32) (n : Nat) (v4 : Int32) (v5 : Int32) (M : Mem) (o : Int32 × Mem), fX4_signsMissing_L6 N v0 v1 v2 v3 n v4 v5 M = some o → (∀ (r' : Int32) (M' : Mem), o = (r', M') → r' = r ∧ M' = Mf) → X p l e ({ frames := 1, cells := 0, slots := 0, locals := 100 * 1 }) s m args below meth c (MQ below (Qm b D cy (some (.int r)) Mf) args s 0 0 (fun q => b ≤ q)) 6 b D cy 0 0 M 6 [(0, .ref (b + v0)), (1, .ref (b + v1)), (2, .int v2), (3, .int v3), (4, .int v4), (5, .int v5)] [] := by
    intro v0 v1 v2 v3 n
    induction n with
    | zero => intro v4 v5 M o h; exact absurd h (by rw [fX4_signsMissing_L6]; exact fun z => by cases z)
    | succ n ih =>
      intro v4 v5 M o h hR
      rw [fX4_signsMissing_L6] at h
      refine x_iload F dX4_signsMissing_6 5 rfl ?_
      refine x_aload_n F dX4_signsMissing_8 rfl 0 rfl ?_
      obtain ⟨x9, c9, h⟩ := bdS h
      refine x_getR F (ci := 4) (C := RX4) (T := TX4) (N := 4) rfl ⟨by decide, rfl⟩ inU4 0 (by decide) (fun _ _ _ => rfl) wl_354 c9 dX4_signsMissing_9 ?_
      obtain ⟨x12, c12, h⟩ := bdS h
      refine x_getR F (ci := 8) (C := RX8) (T := TX8) (N := 17) rfl ⟨by decide, rfl⟩ inU8 12 (by decide) (fun _ _ _ => rfl) wl_356 c12 dX4_signsMissing_12 ?_
      refine x_iload_n F dX4_signsMissing_15 rfl 2 rfl ?_
      obtain ⟨x16, c16, h⟩ := bdS h
      refine x_aI F c16 dX4_signsMissing_16 ?_
      refine x_icmp_ge F (tgt := 48) dX4_signsMissing_17 (by decide) (fun c17 => ?_) (fun c17 => ?_)
      · rw [if_pos c17] at h
        refine x_iload F dX4_signsMissing_48 4 rfl ?_
        obtain rfl := Option.some.inj h
        obtain ⟨rfl, rfl⟩ := hR _ _ rfl
        exact x_iret F hr hl dX4_signsMissing_50
      · rw [if_neg c17] at h
        refine x_aload_n F dX4_signsMissing_20 rfl 1 rfl ?_
        obtain ⟨x21, c21, h⟩ := bdS h
        refine x_getR F (ci := 0) (C := RX0) (T := TX0) (N := 12) rfl ⟨by decide, rfl⟩ inU0 1 (by decide) (fun _ _ _ => rfl) wl_357 c21 dX4_signsMissing_21 ?_
        refine x_iload_n F dX4_signsMissing_24 rfl 3 rfl ?_
        refine x_iload F dX4_signsMissing_25 5 rfl ?_
        refine x_iadd F dX4_signsMissing_27 ?_
        obtain ⟨x28, c28, h⟩ := bdS h
        refine x_aI F c28 dX4_signsMissing_28 ?_
        refine x_iconst F (v := (-1)) dX4_signsMissing_29 (by decide) ?_
        refine x_icmp_ne F (tgt := 42) dX4_signsMissing_30 (by decide) (fun c30 => ?_) (fun c30 => ?_)
        · rw [if_neg c30] at h
          refine x_iinc F (v := v5 + 1) (lv' := [(5, .int (v5 + 1)), (0, .ref (b + v0)), (1, .ref (b + v1)), (2, .int v2), (3, .int v3), (4, .int v4)]) dX4_signsMissing_42 5 rfl rfl (by decide) rfl ?_
          refine x_goto F (tgt := 6) dX4_signsMissing_45 (by decide) ?_
          refine x_sub [1, 2, 3, 4, 5, 0] rfl ?_
          exact ih v4 (v5 + 1) M o h hR
        · rw [if_pos c30] at h
          refine x_iload F dX4_signsMissing_33 4 rfl ?_
          refine x_iconst F (v := 1) dX4_signsMissing_35 (by decide) ?_
          refine x_iload F dX4_signsMissing_36 5 rfl ?_
          refine x_ishl F dX4_signsMissing_38 ?_
          refine x_ior F dX4_signsMissing_39 ?_
          refine x_istore F (lv' := [(4, .int (v4 ||| (1 <<< (v5 &&& 31)))), (0, .ref (b + v0)), (1, .ref (b + v1)), (2, .int v2), (3, .int v3), (5, .int v5)]) dX4_signsMissing_40 (by decide) rfl ?_
          refine x_iinc F (v := v5 + 1) (lv' := [(5, .int (v5 + 1)), (4, .int (v4 ||| (1 <<< (v5 &&& 31)))), (0, .ref (b + v0)), (1, .ref (b + v1)), (2, .int v2), (3, .int v3)]) dX4_signsMissing_42 5 rfl rfl (by decide) rfl ?_
          refine x_goto F (tgt := 6) dX4_signsMissing_45 (by decide) ?_
          refine x_sub [2, 3, 4, 5, 1, 0] rfl ?_
          exact ih (v4 ||| (1 <<< (v5 &&& 31))) (v5 + 1) M o h hR
  obtain ⟨o6, h6, h⟩ := bdS h
  refine x_sub [2, 3, 4, 5, 1, 0] rfl ?_
  refine L6 v0 v1 v2 v3 N 0 0 M o6 h6 (fun r' M' e => ?_)
  · subst e
    try dsimp only at h
    obtain ⟨rfl, rfl⟩ := retS h; exact ⟨rfl, rfl⟩
theorem dX4_strokesMissing_0 : decode cX4_strokesMissing 0 = .ok (.iconst 0, 1) := by decide +kernel
theorem dX4_strokesMissing_1 : decode cX4_strokesMissing 1 = .ok (.istore 4, 2) := by decide +kernel
theorem dX4_strokesMissing_3 : decode cX4_strokesMissing 3 = .ok (.iconst 0, 1) := by decide +kernel
theorem dX4_strokesMissing_4 : decode cX4_strokesMissing 4 = .ok (.istore 5, 2) := by decide +kernel
theorem dX4_strokesMissing_6 : decode cX4_strokesMissing 6 = .ok (.iload 5, 2) := by decide +kernel
theorem dX4_strokesMissing_8 : decode cX4_strokesMissing 8 = .ok (.aload_n 0, 1) := by decide +kernel
theorem dX4_strokesMissing_9 : decode cX4_strokesMissing 9 = .ok (.getfield 21, 3) := by decide +kernel
theorem dX4_strokesMissing_12 : decode cX4_strokesMissing 12 = .ok (.getfield 30, 3) := by decide +kernel
theorem dX4_strokesMissing_15 : decode cX4_strokesMissing 15 = .ok (.iload_n 2, 1) := by decide +kernel
theorem dX4_strokesMissing_16 : decode cX4_strokesMissing 16 = .ok (.iaload, 1) := by decide +kernel
theorem dX4_strokesMissing_17 : decode cX4_strokesMissing 17 = .ok (.if_icmp .ge 41, 3) := by decide +kernel
theorem dX4_strokesMissing_20 : decode cX4_strokesMissing 20 = .ok (.aload_n 1, 1) := by decide +kernel
theorem dX4_strokesMissing_21 : decode cX4_strokesMissing 21 = .ok (.getfield 41, 3) := by decide +kernel
theorem dX4_strokesMissing_24 : decode cX4_strokesMissing 24 = .ok (.iload_n 3, 1) := by decide +kernel
theorem dX4_strokesMissing_25 : decode cX4_strokesMissing 25 = .ok (.iload 5, 2) := by decide +kernel
theorem dX4_strokesMissing_27 : decode cX4_strokesMissing 27 = .ok (.iadd, 1) := by decide +kernel
theorem dX4_strokesMissing_28 : decode cX4_strokesMissing 28 = .ok (.iaload, 1) := by decide +kernel
theorem dX4_strokesMissing_29 : decode cX4_strokesMissing 29 = .ok (.iconst (-1), 1) := by decide +kernel
theorem dX4_strokesMissing_30 : decode cX4_strokesMissing 30 = .ok (.if_icmp .ne 22, 3) := by decide +kernel
theorem dX4_strokesMissing_33 : decode cX4_strokesMissing 33 = .ok (.iload 4, 2) := by decide +kernel
theorem dX4_strokesMissing_35 : decode cX4_strokesMissing 35 = .ok (.getstatic 57, 3) := by decide +kernel
theorem dX4_strokesMissing_38 : decode cX4_strokesMissing 38 = .ok (.aload_n 0, 1) := by decide +kernel
theorem dX4_strokesMissing_39 : decode cX4_strokesMissing 39 = .ok (.getfield 21, 3) := by decide +kernel
theorem dX4_strokesMissing_42 : decode cX4_strokesMissing 42 = .ok (.iload_n 2, 1) := by decide +kernel
theorem dX4_strokesMissing_43 : decode cX4_strokesMissing 43 = .ok (.iload 5, 2) := by decide +kernel
theorem dX4_strokesMissing_45 : decode cX4_strokesMissing 45 = .ok (.invokevirtual 60, 3) := by decide +kernel
theorem dX4_strokesMissing_48 : decode cX4_strokesMissing 48 = .ok (.iaload, 1) := by decide +kernel
theorem dX4_strokesMissing_49 : decode cX4_strokesMissing 49 = .ok (.iadd, 1) := by decide +kernel
theorem dX4_strokesMissing_50 : decode cX4_strokesMissing 50 = .ok (.istore 4, 2) := by decide +kernel
theorem dX4_strokesMissing_52 : decode cX4_strokesMissing 52 = .ok (.iinc 5 1, 3) := by decide +kernel
theorem dX4_strokesMissing_55 : decode cX4_strokesMissing 55 = .ok (.goto (-49), 3) := by decide +kernel
theorem dX4_strokesMissing_58 : decode cX4_strokesMissing 58 = .ok (.iload 4, 2) := by decide +kernel
theorem dX4_strokesMissing_60 : decode cX4_strokesMissing 60 = .ok (.ireturn, 1) := by decide +kernel
def fX4_strokesMissing_L6 (N : Nat) (v0 : Nat) (v1 : Nat) (v2 : Int32) (v3 : Int32) : Nat → Int32 → Int32 → Mem → Option (Int32 × Mem)
  | 0, _, _, _ => none
  | n + 1, v4, v5, M => ((fR M 4 v0 0).bind fun x9 => ((fR M 8 x9 12).bind fun x12 => ((aI M x12 v2).bind fun x16 => (if x16 ≤ v5 then some (v4, M) else ((fR M 0 v1 1).bind fun x21 => ((aI M x21 (v3 + v5)).bind fun x28 => (if x28 = ((-1)) then ((fR M 4 v0 0).bind fun x39 => (if mK M x39 = 9 then ((fX8_lawSign N x39 v2 v5 M).bind fun (x45, M45) => ((kS x45).bind fun x48 => fX4_strokesMissing_L6 N v0 v1 v2 v3 n (v4 + x48) (v5 + 1) M45)) else none)) else fX4_strokesMissing_L6 N v0 v1 v2 v3 n v4 (v5 + 1) M)))))))
def fX4_strokesMissing (N : Nat) (v0 : Nat) (v1 : Nat) (v2 : Int32) (v3 : Int32) (M : Mem) : Option (Int32 × Mem) := ((fX4_strokesMissing_L6 N v0 v1 v2 v3 N 0 0 M).bind fun o6 => some o6)
set_option maxHeartbeats 4000000 in
set_option maxRecDepth 100000 in
theorem k_X4_strokesMissing (l : Launch) (b : Nat) (D : va_G) (cy : Nat → ClassId) (N : Nat) (v0 : Nat) (v1 : Nat) (v2 : Int32) (v3 : Int32) (M : Mem) (r : Int32) (Mf : Mem) (h : fX4_strokesMissing N v0 v1 v2 v3 M = some (r, Mf)) : Ct l yX4_strokesMissing cX4_strokesMissing 6 (some .int) 2 0 0 b D cy [.ref (b + v0), .ref (b + v1), .int v2, .int v3] M (some (.int r)) Mf := by
  refine Ct_of (own := RX4) (by decide) rfl (Nat.le_of_ble_eq_true rfl) ?_
  intro p e s m args below meth c F hr hl hmn
  unfold fX4_strokesMissing at h
  show X p l e ({ frames := 2, cells := 0, slots := 0, locals := 100 * 2 }) s m args below meth c (MQ below (Qm b D cy (some (.int r)) Mf) args s 0 0 (fun q => b ≤ q)) 6 b D cy 0 0 M 0 [(0, .ref (b + v0)), (1, .ref (b + v1)), (2, .int v2), (3, .int v3)] []
  refine x_iconst F (v := 0) dX4_strokesMissing_0 (by decide) ?_
  refine x_istore F (lv' := [(4, .int 0), (0, .ref (b + v0)), (1, .ref (b + v1)), (2, .int v2), (3, .int v3)]) dX4_strokesMissing_1 (by decide) rfl ?_
  refine x_iconst F (v := 0) dX4_strokesMissing_3 (by decide) ?_
  refine x_istore F (lv' := [(5, .int 0), (4, .int 0), (0, .ref (b + v0)), (1, .ref (b + v1)), (2, .int v2), (3, .int v3)]) dX4_strokesMissing_4 (by decide) rfl ?_
  have L6 : ∀ (v0 : Nat) (v1 : Nat) (v2 : Int32) (v3 : Int32) (n : Nat) (v4 : Int32) (v5 : Int32) (M : Mem) (o : Int32 × Mem), fX4_strokesMissing_L6 N v0 v1 v2 v3 n v4 v5 M = some o → (∀ (r' : Int32) (M' : Mem), o = (r', M') → r' = r ∧ M' = Mf) → X p l e ({ frames := 2, cells := 0, slots := 0, locals := 100 * 2 }) s m args below meth c (MQ below (Qm b D cy (some (.int r)) Mf) args s 0 0 (fun q => b ≤ q)) 6 b D cy 0 0 M 6 [(0, .ref (b + v0)), (1, .ref (b + v1)), (2, .int v2), (3, .int v3), (4, .int v4), (5, .int v5)] [] := by
    intro v0 v1 v2 v3 n
    induction n with
    | zero => intro v4 v5 M o h; exact absurd h (by rw [fX4_strokesMissing_L6]; exact fun z => by cases z)
    | succ n ih =>
      intro v4 v5 M o h hR
      rw [fX4_strokesMissing_L6] at h
      refine x_iload F dX4_strokesMissing_6 5 rfl ?_
      refine x_aload_n F dX4_strokesMissing_8 rfl 0 rfl ?_
      obtain ⟨x9, c9, h⟩ := bdS h
      refine x_getR F (ci := 4) (C := RX4) (T := TX4) (N := 4) rfl ⟨by decide, rfl⟩ inU4 0 (by decide) (fun _ _ _ => rfl) wl_354 c9 dX4_strokesMissing_9 ?_
      obtain ⟨x12, c12, h⟩ := bdS h
      refine x_getR F (ci := 8) (C := RX8) (T := TX8) (N := 17) rfl ⟨by decide, rfl⟩ inU8 12 (by decide) (fun _ _ _ => rfl) wl_356 c12 dX4_strokesMissing_12 ?_
      refine x_iload_n F dX4_strokesMissing_15 rfl 2 rfl ?_
      obtain ⟨x16, c16, h⟩ := bdS h
      refine x_aI F c16 dX4_strokesMissing_16 ?_
      refine x_icmp_ge F (tgt := 58) dX4_strokesMissing_17 (by decide) (fun c17 => ?_) (fun c17 => ?_)
      · rw [if_pos c17] at h
        refine x_iload F dX4_strokesMissing_58 4 rfl ?_
        obtain rfl := Option.some.inj h
        obtain ⟨rfl, rfl⟩ := hR _ _ rfl
        exact x_iret F hr hl dX4_strokesMissing_60
      · rw [if_neg c17] at h
        refine x_aload_n F dX4_strokesMissing_20 rfl 1 rfl ?_
        obtain ⟨x21, c21, h⟩ := bdS h
        refine x_getR F (ci := 0) (C := RX0) (T := TX0) (N := 12) rfl ⟨by decide, rfl⟩ inU0 1 (by decide) (fun _ _ _ => rfl) wl_357 c21 dX4_strokesMissing_21 ?_
        refine x_iload_n F dX4_strokesMissing_24 rfl 3 rfl ?_
        refine x_iload F dX4_strokesMissing_25 5 rfl ?_
        refine x_iadd F dX4_strokesMissing_27 ?_
        obtain ⟨x28, c28, h⟩ := bdS h
        refine x_aI F c28 dX4_strokesMissing_28 ?_
        refine x_iconst F (v := (-1)) dX4_strokesMissing_29 (by decide) ?_
        refine x_icmp_ne F (tgt := 52) dX4_strokesMissing_30 (by decide) (fun c30 => ?_) (fun c30 => ?_)
        · rw [if_neg c30] at h
          refine x_iinc F (v := v5 + 1) (lv' := [(5, .int (v5 + 1)), (0, .ref (b + v0)), (1, .ref (b + v1)), (2, .int v2), (3, .int v3), (4, .int v4)]) dX4_strokesMissing_52 5 rfl rfl (by decide) rfl ?_
          refine x_goto F (tgt := 6) dX4_strokesMissing_55 (by decide) ?_
          refine x_sub [1, 2, 3, 4, 5, 0] rfl ?_
          exact ih v4 (v5 + 1) M o h hR
        · rw [if_pos c30] at h
          refine x_iload F dX4_strokesMissing_33 4 rfl ?_
          refine x_stk F (by decide +kernel) dX4_strokesMissing_35 (fun aS g2 => ?_)
          refine x_aload_n F dX4_strokesMissing_38 rfl 0 rfl ?_
          obtain ⟨x39, c39, h⟩ := bdS h
          refine x_getR F (ci := 4) (C := RX4) (T := TX4) (N := 4) rfl ⟨by decide, rfl⟩ inU4 0 (by decide) (fun _ _ _ => rfl) wl_354 c39 dX4_strokesMissing_39 ?_
          refine x_iload_n F dX4_strokesMissing_42 rfl 2 rfl ?_
          refine x_iload F dX4_strokesMissing_43 5 rfl ?_
          obtain ⟨k45, h⟩ := gdS h
          obtain ⟨⟨x45, M45⟩, c45, h⟩ := bdS h
          dsimp only at h
          refine x_callV F (As := [.int v2, .int v5]) (rest := [.ref aS, .int v4]) (res := (some (.int x45))) (ci := 8) (q := (RX8, TX8, 17)) rfl (by decide) k45 (k_X8_lawSign l b D cy N x39 v2 v5 M _ _ c45) wl_358 wl_103 wl_104 wl_75 wl_98 hd_X8_lawSign ⟨Nat.le_of_ble_eq_true rfl, Nat.le_of_ble_eq_true rfl⟩ ⟨Nat.le_refl _, Nat.le_refl _⟩ (Nat.le_of_ble_eq_true rfl) rfl dX4_strokesMissing_45 ?_
          obtain ⟨x48, c48, h⟩ := bdS h
          refine x_kS F g2 c48 dX4_strokesMissing_48 ?_
          refine x_iadd F dX4_strokesMissing_49 ?_
          refine x_istore F (lv' := [(4, .int (v4 + x48)), (0, .ref (b + v0)), (1, .ref (b + v1)), (2, .int v2), (3, .int v3), (5, .int v5)]) dX4_strokesMissing_50 (by decide) rfl ?_
          refine x_iinc F (v := v5 + 1) (lv' := [(5, .int (v5 + 1)), (4, .int (v4 + x48)), (0, .ref (b + v0)), (1, .ref (b + v1)), (2, .int v2), (3, .int v3)]) dX4_strokesMissing_52 5 rfl rfl (by decide) rfl ?_
          refine x_goto F (tgt := 6) dX4_strokesMissing_55 (by decide) ?_
          refine x_sub [2, 3, 4, 5, 1, 0] rfl ?_
          exact ih (v4 + x48) (v5 + 1) M45 o h hR
  obtain ⟨o6, h6, h⟩ := bdS h
  refine x_sub [2, 3, 4, 5, 1, 0] rfl ?_
  refine L6 v0 v1 v2 v3 N 0 0 M o6 h6 (fun r' M' e => ?_)
  · subst e
    try dsimp only at h
    obtain ⟨rfl, rfl⟩ := retS h; exact ⟨rfl, rfl⟩
theorem hd_X4_strokesMissing : (yX4_strokesMissing).cls = RX4 ∧ (yX4_strokesMissing).cls ≠ "java/lang/invoke/MethodHandle" ∧ (yX4_strokesMissing).cls ≠ "java/lang/invoke/VarHandle" ∧ (parseMethodDescriptor (yX4_strokesMissing).desc).map (fun d => d.parameters.length) = some 3 := by decide +kernel
theorem hd_X4_signsMissing : (yX4_signsMissing).cls = RX4 ∧ (yX4_signsMissing).cls ≠ "java/lang/invoke/MethodHandle" ∧ (yX4_signsMissing).cls ≠ "java/lang/invoke/VarHandle" ∧ (parseMethodDescriptor (yX4_signsMissing).desc).map (fun d => d.parameters.length) = some 3 := by decide +kernel
theorem dX4_fewestStrokes_0 : decode cX4_fewestStrokes 0 = .ok (.iconst (-1), 1) := by decide +kernel
theorem dX4_fewestStrokes_1 : decode cX4_fewestStrokes 1 = .ok (.istore_n 3, 1) := by decide +kernel
theorem dX4_fewestStrokes_2 : decode cX4_fewestStrokes 2 = .ok (.iconst 0, 1) := by decide +kernel
theorem dX4_fewestStrokes_3 : decode cX4_fewestStrokes 3 = .ok (.istore 4, 2) := by decide +kernel
theorem dX4_fewestStrokes_5 : decode cX4_fewestStrokes 5 = .ok (.iload 4, 2) := by decide +kernel
theorem dX4_fewestStrokes_7 : decode cX4_fewestStrokes 7 = .ok (.aload_n 0, 1) := by decide +kernel
theorem dX4_fewestStrokes_8 : decode cX4_fewestStrokes 8 = .ok (.getfield 21, 3) := by decide +kernel
theorem dX4_fewestStrokes_11 : decode cX4_fewestStrokes 11 = .ok (.getfield 25, 3) := by decide +kernel
theorem dX4_fewestStrokes_14 : decode cX4_fewestStrokes 14 = .ok (.if_icmp .ge 115, 3) := by decide +kernel
theorem dX4_fewestStrokes_17 : decode cX4_fewestStrokes 17 = .ok (.iconst 0, 1) := by decide +kernel
theorem dX4_fewestStrokes_18 : decode cX4_fewestStrokes 18 = .ok (.istore 5, 2) := by decide +kernel
theorem dX4_fewestStrokes_20 : decode cX4_fewestStrokes 20 = .ok (.iload 5, 2) := by decide +kernel
theorem dX4_fewestStrokes_22 : decode cX4_fewestStrokes 22 = .ok (.aload_n 0, 1) := by decide +kernel
theorem dX4_fewestStrokes_23 : decode cX4_fewestStrokes 23 = .ok (.getfield 21, 3) := by decide +kernel
theorem dX4_fewestStrokes_26 : decode cX4_fewestStrokes 26 = .ok (.getfield 30, 3) := by decide +kernel
theorem dX4_fewestStrokes_29 : decode cX4_fewestStrokes 29 = .ok (.iload_n 2, 1) := by decide +kernel
theorem dX4_fewestStrokes_30 : decode cX4_fewestStrokes 30 = .ok (.iaload, 1) := by decide +kernel
theorem dX4_fewestStrokes_31 : decode cX4_fewestStrokes 31 = .ok (.iadd, 1) := by decide +kernel
theorem dX4_fewestStrokes_32 : decode cX4_fewestStrokes 32 = .ok (.aload_n 0, 1) := by decide +kernel
theorem dX4_fewestStrokes_33 : decode cX4_fewestStrokes 33 = .ok (.getfield 21, 3) := by decide +kernel
theorem dX4_fewestStrokes_36 : decode cX4_fewestStrokes 36 = .ok (.getfield 34, 3) := by decide +kernel
theorem dX4_fewestStrokes_39 : decode cX4_fewestStrokes 39 = .ok (.iload 4, 2) := by decide +kernel
theorem dX4_fewestStrokes_41 : decode cX4_fewestStrokes 41 = .ok (.iaload, 1) := by decide +kernel
theorem dX4_fewestStrokes_42 : decode cX4_fewestStrokes 42 = .ok (.if_icmp .gt 81, 3) := by decide +kernel
theorem dX4_fewestStrokes_45 : decode cX4_fewestStrokes 45 = .ok (.iload 4, 2) := by decide +kernel
theorem dX4_fewestStrokes_47 : decode cX4_fewestStrokes 47 = .ok (.iload 5, 2) := by decide +kernel
theorem dX4_fewestStrokes_49 : decode cX4_fewestStrokes 49 = .ok (.invokestatic 37, 3) := by decide +kernel
theorem dX4_fewestStrokes_52 : decode cX4_fewestStrokes 52 = .ok (.istore 6, 2) := by decide +kernel
theorem dX4_fewestStrokes_54 : decode cX4_fewestStrokes 54 = .ok (.aload_n 0, 1) := by decide +kernel
theorem dX4_fewestStrokes_55 : decode cX4_fewestStrokes 55 = .ok (.getfield 21, 3) := by decide +kernel
theorem dX4_fewestStrokes_58 : decode cX4_fewestStrokes 58 = .ok (.aload_n 1, 1) := by decide +kernel
theorem dX4_fewestStrokes_59 : decode cX4_fewestStrokes 59 = .ok (.getfield 41, 3) := by decide +kernel
theorem dX4_fewestStrokes_62 : decode cX4_fewestStrokes 62 = .ok (.iload 6, 2) := by decide +kernel
theorem dX4_fewestStrokes_64 : decode cX4_fewestStrokes 64 = .ok (.iload_n 2, 1) := by decide +kernel
theorem dX4_fewestStrokes_65 : decode cX4_fewestStrokes 65 = .ok (.invokevirtual 46, 3) := by decide +kernel
theorem dX4_fewestStrokes_68 : decode cX4_fewestStrokes 68 = .ok (.ifCond .eq 14, 3) := by decide +kernel
theorem dX4_fewestStrokes_71 : decode cX4_fewestStrokes 71 = .ok (.aload_n 0, 1) := by decide +kernel
theorem dX4_fewestStrokes_72 : decode cX4_fewestStrokes 72 = .ok (.aload_n 1, 1) := by decide +kernel
theorem dX4_fewestStrokes_73 : decode cX4_fewestStrokes 73 = .ok (.iload_n 2, 1) := by decide +kernel
theorem dX4_fewestStrokes_74 : decode cX4_fewestStrokes 74 = .ok (.iload 6, 2) := by decide +kernel
theorem dX4_fewestStrokes_76 : decode cX4_fewestStrokes 76 = .ok (.invokevirtual 50, 3) := by decide +kernel
theorem dX4_fewestStrokes_79 : decode cX4_fewestStrokes 79 = .ok (.goto 4, 3) := by decide +kernel
theorem dX4_fewestStrokes_82 : decode cX4_fewestStrokes 82 = .ok (.iconst (-1), 1) := by decide +kernel
theorem dX4_fewestStrokes_83 : decode cX4_fewestStrokes 83 = .ok (.istore 7, 2) := by decide +kernel
theorem dX4_fewestStrokes_85 : decode cX4_fewestStrokes 85 = .ok (.iload 7, 2) := by decide +kernel
theorem dX4_fewestStrokes_87 : decode cX4_fewestStrokes 87 = .ok (.iconst (-1), 1) := by decide +kernel
theorem dX4_fewestStrokes_88 : decode cX4_fewestStrokes 88 = .ok (.if_icmp .eq 29, 3) := by decide +kernel
theorem dX4_fewestStrokes_91 : decode cX4_fewestStrokes 91 = .ok (.iload_n 3, 1) := by decide +kernel
theorem dX4_fewestStrokes_92 : decode cX4_fewestStrokes 92 = .ok (.iconst (-1), 1) := by decide +kernel
theorem dX4_fewestStrokes_93 : decode cX4_fewestStrokes 93 = .ok (.if_icmp .eq 9, 3) := by decide +kernel
theorem dX4_fewestStrokes_96 : decode cX4_fewestStrokes 96 = .ok (.iload 7, 2) := by decide +kernel
theorem dX4_fewestStrokes_98 : decode cX4_fewestStrokes 98 = .ok (.iload_n 3, 1) := by decide +kernel
theorem dX4_fewestStrokes_99 : decode cX4_fewestStrokes 99 = .ok (.if_icmp .ge 18, 3) := by decide +kernel
theorem dX4_fewestStrokes_102 : decode cX4_fewestStrokes 102 = .ok (.iload 7, 2) := by decide +kernel
theorem dX4_fewestStrokes_104 : decode cX4_fewestStrokes 104 = .ok (.istore_n 3, 1) := by decide +kernel
theorem dX4_fewestStrokes_105 : decode cX4_fewestStrokes 105 = .ok (.aload_n 0, 1) := by decide +kernel
theorem dX4_fewestStrokes_106 : decode cX4_fewestStrokes 106 = .ok (.iload 4, 2) := by decide +kernel
theorem dX4_fewestStrokes_108 : decode cX4_fewestStrokes 108 = .ok (.putfield 9, 3) := by decide +kernel
theorem dX4_fewestStrokes_111 : decode cX4_fewestStrokes 111 = .ok (.aload_n 0, 1) := by decide +kernel
theorem dX4_fewestStrokes_112 : decode cX4_fewestStrokes 112 = .ok (.iload 5, 2) := by decide +kernel
theorem dX4_fewestStrokes_114 : decode cX4_fewestStrokes 114 = .ok (.putfield 15, 3) := by decide +kernel
theorem dX4_fewestStrokes_117 : decode cX4_fewestStrokes 117 = .ok (.iinc 5 1, 3) := by decide +kernel
theorem dX4_fewestStrokes_120 : decode cX4_fewestStrokes 120 = .ok (.goto (-100), 3) := by decide +kernel
theorem dX4_fewestStrokes_123 : decode cX4_fewestStrokes 123 = .ok (.iinc 4 1, 3) := by decide +kernel
theorem dX4_fewestStrokes_126 : decode cX4_fewestStrokes 126 = .ok (.goto (-121), 3) := by decide +kernel
theorem dX4_fewestStrokes_129 : decode cX4_fewestStrokes 129 = .ok (.iload_n 3, 1) := by decide +kernel
theorem dX4_fewestStrokes_130 : decode cX4_fewestStrokes 130 = .ok (.iconst (-1), 1) := by decide +kernel
theorem dX4_fewestStrokes_131 : decode cX4_fewestStrokes 131 = .ok (.if_icmp .eq 24, 3) := by decide +kernel
theorem dX4_fewestStrokes_134 : decode cX4_fewestStrokes 134 = .ok (.aload_n 0, 1) := by decide +kernel
theorem dX4_fewestStrokes_135 : decode cX4_fewestStrokes 135 = .ok (.aload_n 0, 1) := by decide +kernel
theorem dX4_fewestStrokes_136 : decode cX4_fewestStrokes 136 = .ok (.aload_n 1, 1) := by decide +kernel
theorem dX4_fewestStrokes_137 : decode cX4_fewestStrokes 137 = .ok (.iload_n 2, 1) := by decide +kernel
theorem dX4_fewestStrokes_138 : decode cX4_fewestStrokes 138 = .ok (.aload_n 0, 1) := by decide +kernel
theorem dX4_fewestStrokes_139 : decode cX4_fewestStrokes 139 = .ok (.getfield 9, 3) := by decide +kernel
theorem dX4_fewestStrokes_142 : decode cX4_fewestStrokes 142 = .ok (.aload_n 0, 1) := by decide +kernel
theorem dX4_fewestStrokes_143 : decode cX4_fewestStrokes 143 = .ok (.getfield 15, 3) := by decide +kernel
theorem dX4_fewestStrokes_146 : decode cX4_fewestStrokes 146 = .ok (.invokestatic 37, 3) := by decide +kernel
theorem dX4_fewestStrokes_149 : decode cX4_fewestStrokes 149 = .ok (.invokevirtual 54, 3) := by decide +kernel
theorem dX4_fewestStrokes_152 : decode cX4_fewestStrokes 152 = .ok (.putfield 18, 3) := by decide +kernel
theorem dX4_fewestStrokes_155 : decode cX4_fewestStrokes 155 = .ok (.iload_n 3, 1) := by decide +kernel
theorem dX4_fewestStrokes_156 : decode cX4_fewestStrokes 156 = .ok (.ireturn, 1) := by decide +kernel
def fX4_fewestStrokes_J102_20 (N : Nat) (rc : Int32 → Int32 → Mem → Option (Int32 × Mem)) (v0 : Nat) (v1 : Nat) (v2 : Int32) (v4 : Int32) (v5 : Int32) (v7 : Int32) (M : Mem) : Option (Int32 × Mem) := ((pI M 4 v0 1 v4).bind fun M108 => ((pI M108 4 v0 2 v5).bind fun M114 => rc v7 (v5 + 1) M114))
def fX4_fewestStrokes_J83_20 (N : Nat) (rc : Int32 → Int32 → Mem → Option (Int32 × Mem)) (v0 : Nat) (v1 : Nat) (v2 : Int32) (v3 : Int32) (v4 : Int32) (v5 : Int32) (s0 : Int32) (M : Mem) : Option (Int32 × Mem) := (if s0 = ((-1)) then rc v3 (v5 + 1) M else (if v3 = ((-1)) then fX4_fewestStrokes_J102_20 N rc v0 v1 v2 v4 v5 s0 M else (if v3 ≤ s0 then rc v3 (v5 + 1) M else fX4_fewestStrokes_J102_20 N rc v0 v1 v2 v4 v5 s0 M)))
def fX4_fewestStrokes_L20 (N : Nat) (v0 : Nat) (v1 : Nat) (v2 : Int32) (v4 : Int32) : Nat → Int32 → Int32 → Mem → Option (Int32 × Mem)
  | 0, _, _, _ => none
  | n + 1, v3, v5, M => ((fR M 4 v0 0).bind fun x23 => ((fR M 8 x23 12).bind fun x26 => ((aI M x26 v2).bind fun x30 => ((fR M 4 v0 0).bind fun x33 => ((fR M 8 x33 3).bind fun x36 => ((aI M x36 v4).bind fun x41 => (if x41 < (v5 + x30) then some (v3, M) else ((fX10_placeIndex N v4 v5 M).bind fun (x49, M49) => ((fR M49 4 v0 0).bind fun x55 => ((fR M49 0 v1 1).bind fun x59 => (if mK M49 x55 = 9 then ((fX8_nothingAgainst N x55 x59 x49 v2 M49).bind fun (x65, M65) => (if x65 = 0 then fX4_fewestStrokes_J83_20 N (fX4_fewestStrokes_L20 N v0 v1 v2 v4 n) v0 v1 v2 v3 v4 v5 ((-1)) M65 else (if mK M65 v0 = 5 then ((fX4_strokesMissing N v0 v1 v2 x49 M65).bind fun (x76, M76) => fX4_fewestStrokes_J83_20 N (fX4_fewestStrokes_L20 N v0 v1 v2 v4 n) v0 v1 v2 v3 v4 v5 x76 M76) else none))) else none)))))))))))
def fX4_fewestStrokes_L5 (N : Nat) (v0 : Nat) (v1 : Nat) (v2 : Int32) : Nat → Int32 → Int32 → Mem → Option (Int32 × Mem)
  | 0, _, _, _ => none
  | n + 1, v3, v4, M => ((fR M 4 v0 0).bind fun x8 => ((fI M 8 x8 0).bind fun x11 => (if x11 ≤ v4 then some (v3, M) else ((fX4_fewestStrokes_L20 N v0 v1 v2 v4 N v3 0 M).bind fun o20 => match o20 with | (w3_20, M20) => fX4_fewestStrokes_L5 N v0 v1 v2 n w3_20 (v4 + 1) M20))))
def fX4_fewestStrokes (N : Nat) (v0 : Nat) (v1 : Nat) (v2 : Int32) (M : Mem) : Option (Int32 × Mem) := ((fX4_fewestStrokes_L5 N v0 v1 v2 N ((-1)) 0 M).bind fun o5 => match o5 with | (w3_5, M5) => (if w3_5 = ((-1)) then some (w3_5, M5) else ((fI M5 4 v0 1).bind fun x139 => ((fI M5 4 v0 2).bind fun x143 => ((fX10_placeIndex N x139 x143 M5).bind fun (x146, M146) => (if mK M146 v0 = 5 then ((fX4_signsMissing N v0 v1 v2 x146 M146).bind fun (x149, M149) => ((pI M149 4 v0 3 x149).bind fun M152 => some (w3_5, M152))) else none))))))
set_option maxHeartbeats 4000000 in
set_option maxRecDepth 100000 in
theorem k_X4_fewestStrokes (l : Launch) (b : Nat) (D : va_G) (cy : Nat → ClassId) (N : Nat) (v0 : Nat) (v1 : Nat) (v2 : Int32) (M : Mem) (r : Int32) (Mf : Mem) (h : fX4_fewestStrokes N v0 v1 v2 M = some (r, Mf)) : Ct l yX4_fewestStrokes cX4_fewestStrokes 8 (some .int) 3 0 0 b D cy [.ref (b + v0), .ref (b + v1), .int v2] M (some (.int r)) Mf := by
  refine Ct_of (own := RX4) (by decide) rfl (Nat.le_of_ble_eq_true rfl) ?_
  intro p e s m args below meth c F hr hl hmn
  unfold fX4_fewestStrokes at h
  show X p l e ({ frames := 3, cells := 0, slots := 0, locals := 100 * 3 }) s m args below meth c (MQ below (Qm b D cy (some (.int r)) Mf) args s 0 0 (fun q => b ≤ q)) 8 b D cy 0 0 M 0 [(0, .ref (b + v0)), (1, .ref (b + v1)), (2, .int v2)] []
  refine x_iconst F (v := (-1)) dX4_fewestStrokes_0 (by decide) ?_
  refine x_istore_n F (lv' := [(3, .int ((-1))), (0, .ref (b + v0)), (1, .ref (b + v1)), (2, .int v2)]) dX4_fewestStrokes_1 rfl (by decide) rfl ?_
  refine x_iconst F (v := 0) dX4_fewestStrokes_2 (by decide) ?_
  refine x_istore F (lv' := [(4, .int 0), (3, .int ((-1))), (0, .ref (b + v0)), (1, .ref (b + v1)), (2, .int v2)]) dX4_fewestStrokes_3 (by decide) rfl ?_
  have L5 : ∀ (v0 : Nat) (v1 : Nat) (v2 : Int32) (n : Nat) (v3 : Int32) (v4 : Int32) (M : Mem) (o : Int32 × Mem), fX4_fewestStrokes_L5 N v0 v1 v2 n v3 v4 M = some o → (∀ (w3 : Int32) (M' : Mem), o = (w3, M') → X p l e ({ frames := 3, cells := 0, slots := 0, locals := 100 * 3 }) s m args below meth c (MQ below (Qm b D cy (some (.int r)) Mf) args s 0 0 (fun q => b ≤ q)) 8 b D cy 0 0 M' 129 [(0, .ref (b + v0)), (1, .ref (b + v1)), (2, .int v2), (3, .int w3)] []) → X p l e ({ frames := 3, cells := 0, slots := 0, locals := 100 * 3 }) s m args below meth c (MQ below (Qm b D cy (some (.int r)) Mf) args s 0 0 (fun q => b ≤ q)) 8 b D cy 0 0 M 5 [(0, .ref (b + v0)), (1, .ref (b + v1)), (2, .int v2), (3, .int v3), (4, .int v4)] [] := by
    intro v0 v1 v2 n
    induction n with
    | zero => intro v3 v4 M o h; exact absurd h (by rw [fX4_fewestStrokes_L5]; exact fun z => by cases z)
    | succ n ih =>
      intro v3 v4 M o h hE
      rw [fX4_fewestStrokes_L5] at h
      refine x_iload F dX4_fewestStrokes_5 4 rfl ?_
      refine x_aload_n F dX4_fewestStrokes_7 rfl 0 rfl ?_
      obtain ⟨x8, c8, h⟩ := bdS h
      refine x_getR F (ci := 4) (C := RX4) (T := TX4) (N := 4) rfl ⟨by decide, rfl⟩ inU4 0 (by decide) (fun _ _ _ => rfl) wl_354 c8 dX4_fewestStrokes_8 ?_
      obtain ⟨x11, c11, h⟩ := bdS h
      refine x_getI F (ci := 8) (C := RX8) (T := TX8) (N := 17) rfl ⟨by decide, rfl⟩ inU8 0 (by decide) (fun _ _ _ => rfl) wl_360 c11 dX4_fewestStrokes_11 ?_
      refine x_icmp_ge F (tgt := 129) dX4_fewestStrokes_14 (by decide) (fun c14 => ?_) (fun c14 => ?_)
      · rw [if_pos c14] at h
        obtain rfl := Option.some.inj h
        refine x_sub [0, 1, 2, 3] rfl ?_
        exact hE _ _ rfl
      · rw [if_neg c14] at h
        refine x_iconst F (v := 0) dX4_fewestStrokes_17 (by decide) ?_
        refine x_istore F (lv' := [(5, .int 0), (0, .ref (b + v0)), (1, .ref (b + v1)), (2, .int v2), (3, .int v3), (4, .int v4)]) dX4_fewestStrokes_18 (by decide) rfl ?_
        have L20 : ∀ (v0 : Nat) (v1 : Nat) (v2 : Int32) (v4 : Int32) (n : Nat) (v3 : Int32) (v5 : Int32) (M : Mem) (o : Int32 × Mem), fX4_fewestStrokes_L20 N v0 v1 v2 v4 n v3 v5 M = some o → (∀ (w3 : Int32) (M' : Mem), o = (w3, M') → X p l e ({ frames := 3, cells := 0, slots := 0, locals := 100 * 3 }) s m args below meth c (MQ below (Qm b D cy (some (.int r)) Mf) args s 0 0 (fun q => b ≤ q)) 8 b D cy 0 0 M' 123 [(0, .ref (b + v0)), (1, .ref (b + v1)), (2, .int v2), (3, .int w3), (4, .int v4)] []) → X p l e ({ frames := 3, cells := 0, slots := 0, locals := 100 * 3 }) s m args below meth c (MQ below (Qm b D cy (some (.int r)) Mf) args s 0 0 (fun q => b ≤ q)) 8 b D cy 0 0 M 20 [(0, .ref (b + v0)), (1, .ref (b + v1)), (2, .int v2), (3, .int v3), (4, .int v4), (5, .int v5)] [] := by
          intro v0 v1 v2 v4 n
          induction n with
          | zero => intro v3 v5 M o h; exact absurd h (by rw [fX4_fewestStrokes_L20]; exact fun z => by cases z)
          | succ n ih =>
            intro v3 v5 M o h hE
            rw [fX4_fewestStrokes_L20] at h
            have J102 : ∀ (v5 : Int32) (v7 : Int32) (M : Mem), fX4_fewestStrokes_J102_20 N (fX4_fewestStrokes_L20 N v0 v1 v2 v4 n) v0 v1 v2 v4 v5 v7 M = some o → X p l e ({ frames := 3, cells := 0, slots := 0, locals := 100 * 3 }) s m args below meth c (MQ below (Qm b D cy (some (.int r)) Mf) args s 0 0 (fun q => b ≤ q)) 8 b D cy 0 0 M 102 [(0, .ref (b + v0)), (1, .ref (b + v1)), (2, .int v2), (4, .int v4), (5, .int v5), (7, .int v7)] [] := by
              intro v5 v7 M h
              unfold fX4_fewestStrokes_J102_20 at h
              refine x_iload F dX4_fewestStrokes_102 5 rfl ?_
              refine x_istore_n F (lv' := [(3, .int v7), (0, .ref (b + v0)), (1, .ref (b + v1)), (2, .int v2), (4, .int v4), (5, .int v5), (7, .int v7)]) dX4_fewestStrokes_104 rfl (by decide) rfl ?_
              refine x_aload_n F dX4_fewestStrokes_105 rfl 1 rfl ?_
              refine x_iload F dX4_fewestStrokes_106 4 rfl ?_
              obtain ⟨M108, c108, h⟩ := bdS h
              refine x_putI F (ci := 4) (C := RX4) (T := TX4) (N := 4) rfl ⟨by decide, rfl⟩ inU4 tyX4_ok nmX4 1 (by decide) rfl rfl wl_351 c108 dX4_fewestStrokes_108 ?_
              refine x_aload_n F dX4_fewestStrokes_111 rfl 1 rfl ?_
              refine x_iload F dX4_fewestStrokes_112 5 rfl ?_
              obtain ⟨M114, c114, h⟩ := bdS h
              refine x_putI F (ci := 4) (C := RX4) (T := TX4) (N := 4) rfl ⟨by decide, rfl⟩ inU4 tyX4_ok nmX4 2 (by decide) rfl rfl wl_352 c114 dX4_fewestStrokes_114 ?_
              refine x_iinc F (v := v5 + 1) (lv' := [(5, .int (v5 + 1)), (3, .int v7), (0, .ref (b + v0)), (1, .ref (b + v1)), (2, .int v2), (4, .int v4), (7, .int v7)]) dX4_fewestStrokes_117 5 rfl rfl (by decide) rfl ?_
              refine x_goto F (tgt := 20) dX4_fewestStrokes_120 (by decide) ?_
              refine x_sub [2, 3, 4, 1, 5, 0] rfl ?_
              exact ih v7 (v5 + 1) M114 o h hE
            have J83 : ∀ (v3 : Int32) (v5 : Int32) (s0 : Int32) (M : Mem), fX4_fewestStrokes_J83_20 N (fX4_fewestStrokes_L20 N v0 v1 v2 v4 n) v0 v1 v2 v3 v4 v5 s0 M = some o → X p l e ({ frames := 3, cells := 0, slots := 0, locals := 100 * 3 }) s m args below meth c (MQ below (Qm b D cy (some (.int r)) Mf) args s 0 0 (fun q => b ≤ q)) 8 b D cy 0 0 M 83 [(0, .ref (b + v0)), (1, .ref (b + v1)), (2, .int v2), (3, .int v3), (4, .int v4), (5, .int v5)] [.int s0] := by
              intro v3 v5 s0 M h
              unfold fX4_fewestStrokes_J83_20 at h
              refine x_istore F (lv' := [(7, .int s0), (0, .ref (b + v0)), (1, .ref (b + v1)), (2, .int v2), (3, .int v3), (4, .int v4), (5, .int v5)]) dX4_fewestStrokes_83 (by decide) rfl ?_
              refine x_iload F dX4_fewestStrokes_85 0 rfl ?_
              refine x_iconst F (v := (-1)) dX4_fewestStrokes_87 (by decide) ?_
              refine x_icmp_eq F (tgt := 117) dX4_fewestStrokes_88 (by decide) (fun c88 => ?_) (fun c88 => ?_)
              · rw [if_pos c88] at h
                refine x_iinc F (v := v5 + 1) (lv' := [(5, .int (v5 + 1)), (7, .int s0), (0, .ref (b + v0)), (1, .ref (b + v1)), (2, .int v2), (3, .int v3), (4, .int v4)]) dX4_fewestStrokes_117 6 rfl rfl (by decide) rfl ?_
                refine x_goto F (tgt := 20) dX4_fewestStrokes_120 (by decide) ?_
                refine x_sub [2, 3, 4, 5, 6, 0] rfl ?_
                exact ih v3 (v5 + 1) M o h hE
              · rw [if_neg c88] at h
                refine x_iload_n F dX4_fewestStrokes_91 rfl 4 rfl ?_
                refine x_iconst F (v := (-1)) dX4_fewestStrokes_92 (by decide) ?_
                refine x_icmp_eq F (tgt := 102) dX4_fewestStrokes_93 (by decide) (fun c93 => ?_) (fun c93 => ?_)
                · rw [if_pos c93] at h
                  refine x_sub [1, 2, 3, 5, 6, 0] rfl ?_
                  exact J102 v5 s0 M h
                · rw [if_neg c93] at h
                  refine x_iload F dX4_fewestStrokes_96 0 rfl ?_
                  refine x_iload_n F dX4_fewestStrokes_98 rfl 4 rfl ?_
                  refine x_icmp_ge F (tgt := 117) dX4_fewestStrokes_99 (by decide) (fun c99 => ?_) (fun c99 => ?_)
                  · rw [if_pos c99] at h
                    refine x_iinc F (v := v5 + 1) (lv' := [(5, .int (v5 + 1)), (7, .int s0), (0, .ref (b + v0)), (1, .ref (b + v1)), (2, .int v2), (3, .int v3), (4, .int v4)]) dX4_fewestStrokes_117 6 rfl rfl (by decide) rfl ?_
                    refine x_goto F (tgt := 20) dX4_fewestStrokes_120 (by decide) ?_
                    refine x_sub [2, 3, 4, 5, 6, 0] rfl ?_
                    exact ih v3 (v5 + 1) M o h hE
                  · rw [if_neg c99] at h
                    refine x_sub [1, 2, 3, 5, 6, 0] rfl ?_
                    exact J102 v5 s0 M h
            refine x_iload F dX4_fewestStrokes_20 5 rfl ?_
            refine x_aload_n F dX4_fewestStrokes_22 rfl 0 rfl ?_
            obtain ⟨x23, c23, h⟩ := bdS h
            refine x_getR F (ci := 4) (C := RX4) (T := TX4) (N := 4) rfl ⟨by decide, rfl⟩ inU4 0 (by decide) (fun _ _ _ => rfl) wl_354 c23 dX4_fewestStrokes_23 ?_
            obtain ⟨x26, c26, h⟩ := bdS h
            refine x_getR F (ci := 8) (C := RX8) (T := TX8) (N := 17) rfl ⟨by decide, rfl⟩ inU8 12 (by decide) (fun _ _ _ => rfl) wl_356 c26 dX4_fewestStrokes_26 ?_
            refine x_iload_n F dX4_fewestStrokes_29 rfl 2 rfl ?_
            obtain ⟨x30, c30, h⟩ := bdS h
            refine x_aI F c30 dX4_fewestStrokes_30 ?_
            refine x_iadd F dX4_fewestStrokes_31 ?_
            refine x_aload_n F dX4_fewestStrokes_32 rfl 0 rfl ?_
            obtain ⟨x33, c33, h⟩ := bdS h
            refine x_getR F (ci := 4) (C := RX4) (T := TX4) (N := 4) rfl ⟨by decide, rfl⟩ inU4 0 (by decide) (fun _ _ _ => rfl) wl_354 c33 dX4_fewestStrokes_33 ?_
            obtain ⟨x36, c36, h⟩ := bdS h
            refine x_getR F (ci := 8) (C := RX8) (T := TX8) (N := 17) rfl ⟨by decide, rfl⟩ inU8 3 (by decide) (fun _ _ _ => rfl) wl_361 c36 dX4_fewestStrokes_36 ?_
            refine x_iload F dX4_fewestStrokes_39 4 rfl ?_
            obtain ⟨x41, c41, h⟩ := bdS h
            refine x_aI F c41 dX4_fewestStrokes_41 ?_
            refine x_icmp_gt F (tgt := 123) dX4_fewestStrokes_42 (by decide) (fun c42 => ?_) (fun c42 => ?_)
            · rw [if_pos c42] at h
              obtain rfl := Option.some.inj h
              refine x_sub [0, 1, 2, 3, 4] rfl ?_
              exact hE _ _ rfl
            · rw [if_neg c42] at h
              refine x_iload F dX4_fewestStrokes_45 4 rfl ?_
              refine x_iload F dX4_fewestStrokes_47 5 rfl ?_
              obtain ⟨⟨x49, M49⟩, c49, h⟩ := bdS h
              dsimp only at h
              refine x_callSN F (As := [.int v4, .int v5]) (rest := []) (res := (some (.int x49))) (host := RX10) (k_X10_placeIndex l b D cy N v4 v5 M _ _ c49) wl_27 (by decide +kernel) wl_31 wl_30 (hd_X10_placeIndex).2 ⟨Nat.le_of_ble_eq_true rfl, Nat.le_of_ble_eq_true rfl⟩ ⟨Nat.le_refl _, Nat.le_refl _⟩ (Nat.le_of_ble_eq_true rfl) rfl dX4_fewestStrokes_49 ?_
              refine x_istore F (lv' := [(6, .int x49), (0, .ref (b + v0)), (1, .ref (b + v1)), (2, .int v2), (3, .int v3), (4, .int v4), (5, .int v5)]) dX4_fewestStrokes_52 (by decide) rfl ?_
              refine x_aload_n F dX4_fewestStrokes_54 rfl 1 rfl ?_
              obtain ⟨x55, c55, h⟩ := bdS h
              refine x_getR F (ci := 4) (C := RX4) (T := TX4) (N := 4) rfl ⟨by decide, rfl⟩ inU4 0 (by decide) (fun _ _ _ => rfl) wl_354 c55 dX4_fewestStrokes_55 ?_
              refine x_aload_n F dX4_fewestStrokes_58 rfl 2 rfl ?_
              obtain ⟨x59, c59, h⟩ := bdS h
              refine x_getR F (ci := 0) (C := RX0) (T := TX0) (N := 12) rfl ⟨by decide, rfl⟩ inU0 1 (by decide) (fun _ _ _ => rfl) wl_357 c59 dX4_fewestStrokes_59 ?_
              refine x_iload F dX4_fewestStrokes_62 0 rfl ?_
              refine x_iload_n F dX4_fewestStrokes_64 rfl 3 rfl ?_
              obtain ⟨k65, h⟩ := gdS h
              obtain ⟨⟨x65, M65⟩, c65, h⟩ := bdS h
              dsimp only at h
              refine x_callVN F (As := [.ref (b + x59), .int x49, .int v2]) (rest := []) (res := (some (.int x65))) (host := RX10) (ci := 8) (q := (RX8, TX8, 17)) rfl (by decide) k65 (k_X8_nothingAgainst l b D cy N x55 x59 x49 v2 M49 _ _ c65) wl_100 (by decide +kernel) wl_75 wl_107 wl_108 (hd_X8_nothingAgainst).2 ⟨Nat.le_of_ble_eq_true rfl, Nat.le_of_ble_eq_true rfl⟩ ⟨Nat.le_refl _, Nat.le_refl _⟩ (Nat.le_of_ble_eq_true rfl) rfl dX4_fewestStrokes_65 ?_
              refine x_if_eq F (tgt := 82) dX4_fewestStrokes_68 (by decide) (fun c68 => ?_) (fun c68 => ?_)
              · rw [if_pos c68] at h
                refine x_iconst F (v := (-1)) dX4_fewestStrokes_82 (by decide) ?_
                refine x_sub [1, 2, 3, 4, 5, 6] rfl ?_
                exact J83 v3 v5 ((-1)) M65 h
              · rw [if_neg c68] at h
                refine x_aload_n F dX4_fewestStrokes_71 rfl 1 rfl ?_
                refine x_aload_n F dX4_fewestStrokes_72 rfl 2 rfl ?_
                refine x_iload_n F dX4_fewestStrokes_73 rfl 3 rfl ?_
                refine x_iload F dX4_fewestStrokes_74 0 rfl ?_
                obtain ⟨k76, h⟩ := gdS h
                obtain ⟨⟨x76, M76⟩, c76, h⟩ := bdS h
                dsimp only at h
                refine x_callV F (As := [.ref (b + v1), .int v2, .int x49]) (rest := []) (res := (some (.int x76))) (ci := 4) (q := (RX4, TX4, 4)) rfl (by decide) k76 (k_X4_strokesMissing l b D cy N v0 v1 v2 x49 M65 _ _ c76) wl_362 wl_363 wl_364 wl_365 wl_355 hd_X4_strokesMissing ⟨Nat.le_of_ble_eq_true rfl, Nat.le_of_ble_eq_true rfl⟩ ⟨Nat.le_refl _, Nat.le_refl _⟩ (Nat.le_of_ble_eq_true rfl) rfl dX4_fewestStrokes_76 ?_
                refine x_goto F (tgt := 83) dX4_fewestStrokes_79 (by decide) ?_
                refine x_sub [1, 2, 3, 4, 5, 6] rfl ?_
                exact J83 v3 v5 x76 M76 h
        obtain ⟨o20, h20, h⟩ := bdS h
        refine x_sub [1, 2, 3, 4, 5, 0] rfl ?_
        refine L20 v0 v1 v2 v4 N v3 0 M o20 h20 (fun w3_20 M20 e => ?_)
        · subst e
          dsimp only at h
          refine x_iinc F (v := v4 + 1) (lv' := [(4, .int (v4 + 1)), (0, .ref (b + v0)), (1, .ref (b + v1)), (2, .int v2), (3, .int w3_20)]) dX4_fewestStrokes_123 4 rfl rfl (by decide) rfl ?_
          refine x_goto F (tgt := 5) dX4_fewestStrokes_126 (by decide) ?_
          refine x_sub [1, 2, 3, 4, 0] rfl ?_
          exact ih w3_20 (v4 + 1) M20 o h hE
  obtain ⟨o5, h5, h⟩ := bdS h
  refine x_sub [2, 3, 4, 1, 0] rfl ?_
  refine L5 v0 v1 v2 N ((-1)) 0 M o5 h5 (fun w3_5 M5 e => ?_)
  · subst e
    dsimp only at h
    refine x_iload_n F dX4_fewestStrokes_129 rfl 3 rfl ?_
    refine x_iconst F (v := (-1)) dX4_fewestStrokes_130 (by decide) ?_
    refine x_icmp_eq F (tgt := 155) dX4_fewestStrokes_131 (by decide) (fun c131 => ?_) (fun c131 => ?_)
    · rw [if_pos c131] at h
      refine x_iload_n F dX4_fewestStrokes_155 rfl 3 rfl ?_
      obtain ⟨rfl, rfl⟩ := retS h
      exact x_iret F hr hl dX4_fewestStrokes_156
    · rw [if_neg c131] at h
      refine x_aload_n F dX4_fewestStrokes_134 rfl 0 rfl ?_
      refine x_aload_n F dX4_fewestStrokes_135 rfl 0 rfl ?_
      refine x_aload_n F dX4_fewestStrokes_136 rfl 1 rfl ?_
      refine x_iload_n F dX4_fewestStrokes_137 rfl 2 rfl ?_
      refine x_aload_n F dX4_fewestStrokes_138 rfl 0 rfl ?_
      obtain ⟨x139, c139, h⟩ := bdS h
      refine x_getI F (ci := 4) (C := RX4) (T := TX4) (N := 4) rfl ⟨by decide, rfl⟩ inU4 1 (by decide) (fun _ _ _ => rfl) wl_351 c139 dX4_fewestStrokes_139 ?_
      refine x_aload_n F dX4_fewestStrokes_142 rfl 0 rfl ?_
      obtain ⟨x143, c143, h⟩ := bdS h
      refine x_getI F (ci := 4) (C := RX4) (T := TX4) (N := 4) rfl ⟨by decide, rfl⟩ inU4 2 (by decide) (fun _ _ _ => rfl) wl_352 c143 dX4_fewestStrokes_143 ?_
      obtain ⟨⟨x146, M146⟩, c146, h⟩ := bdS h
      dsimp only at h
      refine x_callSN F (As := [.int x139, .int x143]) (rest := [.int v2, .ref (b + v1), .ref (b + v0), .ref (b + v0)]) (res := (some (.int x146))) (host := RX10) (k_X10_placeIndex l b D cy N x139 x143 M5 _ _ c146) wl_27 (by decide +kernel) wl_31 wl_30 (hd_X10_placeIndex).2 ⟨Nat.le_of_ble_eq_true rfl, Nat.le_of_ble_eq_true rfl⟩ ⟨Nat.le_refl _, Nat.le_refl _⟩ (Nat.le_of_ble_eq_true rfl) rfl dX4_fewestStrokes_146 ?_
      obtain ⟨k149, h⟩ := gdS h
      obtain ⟨⟨x149, M149⟩, c149, h⟩ := bdS h
      dsimp only at h
      refine x_callV F (As := [.ref (b + v1), .int v2, .int x146]) (rest := [.ref (b + v0)]) (res := (some (.int x149))) (ci := 4) (q := (RX4, TX4, 4)) rfl (by decide) k149 (k_X4_signsMissing l b D cy N v0 v1 v2 x146 M146 _ _ c149) wl_366 wl_367 wl_368 wl_365 wl_359 hd_X4_signsMissing ⟨Nat.le_of_ble_eq_true rfl, Nat.le_of_ble_eq_true rfl⟩ ⟨Nat.le_refl _, Nat.le_refl _⟩ (Nat.le_of_ble_eq_true rfl) rfl dX4_fewestStrokes_149 ?_
      obtain ⟨M152, c152, h⟩ := bdS h
      refine x_putI F (ci := 4) (C := RX4) (T := TX4) (N := 4) rfl ⟨by decide, rfl⟩ inU4 tyX4_ok nmX4 3 (by decide) rfl rfl wl_353 c152 dX4_fewestStrokes_152 ?_
      refine x_iload_n F dX4_fewestStrokes_155 rfl 3 rfl ?_
      obtain ⟨rfl, rfl⟩ := retS h
      exact x_iret F hr hl dX4_fewestStrokes_156
theorem dX5_clear_0 : decode cX5_clear 0 = .ok (.aload_n 0, 1) := by decide +kernel
theorem dX5_clear_1 : decode cX5_clear 1 = .ok (.iconst 0, 1) := by decide +kernel
theorem dX5_clear_2 : decode cX5_clear 2 = .ok (.putfield 15, 3) := by decide +kernel
theorem dX5_clear_5 : decode cX5_clear 5 = .ok (.aload_n 0, 1) := by decide +kernel
theorem dX5_clear_6 : decode cX5_clear 6 = .ok (.iconst 0, 1) := by decide +kernel
theorem dX5_clear_7 : decode cX5_clear 7 = .ok (.putfield 19, 3) := by decide +kernel
theorem dX5_clear_10 : decode cX5_clear 10 = .ok (.return_, 1) := by decide +kernel
def fX5_clear (N : Nat) (v0 : Nat) (M : Mem) : Option (Unit × Mem) := ((pI M 5 v0 1 0).bind fun M2 => ((pI M2 5 v0 2 0).bind fun M7 => some ((), M7)))
set_option maxHeartbeats 4000000 in
set_option maxRecDepth 100000 in
theorem k_X5_clear (l : Launch) (b : Nat) (D : va_G) (cy : Nat → ClassId) (N : Nat) (v0 : Nat) (M : Mem) (r : Unit) (Mf : Mem) (h : fX5_clear N v0 M = some (r, Mf)) : Ct l yX5_clear cX5_clear 1 none 1 0 0 b D cy [.ref (b + v0)] M none Mf := by
  refine Ct_of (own := RX5) (by decide) rfl (Nat.le_of_ble_eq_true rfl) ?_
  intro p e s m args below meth c F hr hl hmn
  unfold fX5_clear at h
  show X p l e ({ frames := 1, cells := 0, slots := 0, locals := 100 * 1 }) s m args below meth c (MQ below (Qm b D cy none Mf) args s 0 0 (fun q => b ≤ q)) 1 b D cy 0 0 M 0 [(0, .ref (b + v0))] []
  refine x_aload_n F dX5_clear_0 rfl 0 rfl ?_
  refine x_iconst F (v := 0) dX5_clear_1 (by decide) ?_
  obtain ⟨M2, c2, h⟩ := bdS h
  refine x_putI F (ci := 5) (C := RX5) (T := TX5) (N := 3) rfl ⟨by decide, rfl⟩ inU5 tyX5_ok nmX5 1 (by decide) rfl rfl wl_373 c2 dX5_clear_2 ?_
  refine x_aload_n F dX5_clear_5 rfl 0 rfl ?_
  refine x_iconst F (v := 0) dX5_clear_6 (by decide) ?_
  obtain ⟨M7, c7, h⟩ := bdS h
  refine x_putI F (ci := 5) (C := RX5) (T := TX5) (N := 3) rfl ⟨by decide, rfl⟩ inU5 tyX5_ok nmX5 2 (by decide) rfl rfl wl_374 c7 dX5_clear_7 ?_
  obtain ⟨rfl, rfl⟩ := retS h
  exact x_vret F hr hl dX5_clear_10
theorem hd_X0_copyFrom : (yX0_copyFrom).cls = RX0 ∧ (yX0_copyFrom).cls ≠ "java/lang/invoke/MethodHandle" ∧ (yX0_copyFrom).cls ≠ "java/lang/invoke/VarHandle" ∧ (parseMethodDescriptor (yX0_copyFrom).desc).map (fun d => d.parameters.length) = some 1 := by decide +kernel
theorem dX5_keepCopy_0 : decode cX5_keepCopy 0 = .ok (.aload_n 0, 1) := by decide +kernel
theorem dX5_keepCopy_1 : decode cX5_keepCopy 1 = .ok (.getfield 19, 3) := by decide +kernel
theorem dX5_keepCopy_4 : decode cX5_keepCopy 4 = .ok (.bipush 8, 2) := by decide +kernel
theorem dX5_keepCopy_6 : decode cX5_keepCopy 6 = .ok (.if_icmp .ne 26, 3) := by decide +kernel
theorem dX5_keepCopy_9 : decode cX5_keepCopy 9 = .ok (.aload_n 0, 1) := by decide +kernel
theorem dX5_keepCopy_10 : decode cX5_keepCopy 10 = .ok (.aload_n 0, 1) := by decide +kernel
theorem dX5_keepCopy_11 : decode cX5_keepCopy 11 = .ok (.getfield 15, 3) := by decide +kernel
theorem dX5_keepCopy_14 : decode cX5_keepCopy 14 = .ok (.iconst 1, 1) := by decide +kernel
theorem dX5_keepCopy_15 : decode cX5_keepCopy 15 = .ok (.iadd, 1) := by decide +kernel
theorem dX5_keepCopy_16 : decode cX5_keepCopy 16 = .ok (.bipush 8, 2) := by decide +kernel
theorem dX5_keepCopy_18 : decode cX5_keepCopy 18 = .ok (.irem, 1) := by decide +kernel
theorem dX5_keepCopy_19 : decode cX5_keepCopy 19 = .ok (.putfield 15, 3) := by decide +kernel
theorem dX5_keepCopy_22 : decode cX5_keepCopy 22 = .ok (.aload_n 0, 1) := by decide +kernel
theorem dX5_keepCopy_23 : decode cX5_keepCopy 23 = .ok (.dup, 1) := by decide +kernel
theorem dX5_keepCopy_24 : decode cX5_keepCopy 24 = .ok (.getfield 19, 3) := by decide +kernel
theorem dX5_keepCopy_27 : decode cX5_keepCopy 27 = .ok (.iconst 1, 1) := by decide +kernel
theorem dX5_keepCopy_28 : decode cX5_keepCopy 28 = .ok (.isub, 1) := by decide +kernel
theorem dX5_keepCopy_29 : decode cX5_keepCopy 29 = .ok (.putfield 19, 3) := by decide +kernel
theorem dX5_keepCopy_32 : decode cX5_keepCopy 32 = .ok (.aload_n 0, 1) := by decide +kernel
theorem dX5_keepCopy_33 : decode cX5_keepCopy 33 = .ok (.getfield 11, 3) := by decide +kernel
theorem dX5_keepCopy_36 : decode cX5_keepCopy 36 = .ok (.aload_n 0, 1) := by decide +kernel
theorem dX5_keepCopy_37 : decode cX5_keepCopy 37 = .ok (.getfield 15, 3) := by decide +kernel
theorem dX5_keepCopy_40 : decode cX5_keepCopy 40 = .ok (.aload_n 0, 1) := by decide +kernel
theorem dX5_keepCopy_41 : decode cX5_keepCopy 41 = .ok (.getfield 19, 3) := by decide +kernel
theorem dX5_keepCopy_44 : decode cX5_keepCopy 44 = .ok (.iadd, 1) := by decide +kernel
theorem dX5_keepCopy_45 : decode cX5_keepCopy 45 = .ok (.bipush 8, 2) := by decide +kernel
theorem dX5_keepCopy_47 : decode cX5_keepCopy 47 = .ok (.irem, 1) := by decide +kernel
theorem dX5_keepCopy_48 : decode cX5_keepCopy 48 = .ok (.aaload, 1) := by decide +kernel
theorem dX5_keepCopy_49 : decode cX5_keepCopy 49 = .ok (.aload_n 1, 1) := by decide +kernel
theorem dX5_keepCopy_50 : decode cX5_keepCopy 50 = .ok (.invokevirtual 25, 3) := by decide +kernel
theorem dX5_keepCopy_53 : decode cX5_keepCopy 53 = .ok (.aload_n 0, 1) := by decide +kernel
theorem dX5_keepCopy_54 : decode cX5_keepCopy 54 = .ok (.dup, 1) := by decide +kernel
theorem dX5_keepCopy_55 : decode cX5_keepCopy 55 = .ok (.getfield 19, 3) := by decide +kernel
theorem dX5_keepCopy_58 : decode cX5_keepCopy 58 = .ok (.iconst 1, 1) := by decide +kernel
theorem dX5_keepCopy_59 : decode cX5_keepCopy 59 = .ok (.iadd, 1) := by decide +kernel
theorem dX5_keepCopy_60 : decode cX5_keepCopy 60 = .ok (.putfield 19, 3) := by decide +kernel
theorem dX5_keepCopy_63 : decode cX5_keepCopy 63 = .ok (.return_, 1) := by decide +kernel
def fX5_keepCopy_J32 (N : Nat) (v0 : Nat) (v1 : Nat) (M : Mem) : Option (Unit × Mem) := ((fR M 5 v0 0).bind fun x33 => ((fI M 5 v0 1).bind fun x37 => ((fI M 5 v0 2).bind fun x41 => ((aR M 23 x33 ((x37 + x41) - (x37 + x41) / 8 * 8)).bind fun x48 => (if mK M x48 = 1 then ((fX0_copyFrom N x48 v1 M).bind fun (u50, M50) => ((fI M50 5 v0 2).bind fun x55 => ((pI M50 5 v0 2 (x55 + 1)).bind fun M60 => some ((), M60)))) else none)))))
def fX5_keepCopy (N : Nat) (v0 : Nat) (v1 : Nat) (M : Mem) : Option (Unit × Mem) := ((fI M 5 v0 2).bind fun x1 => (if x1 = 8 then ((fI M 5 v0 1).bind fun x11 => ((pI M 5 v0 1 ((x11 + 1) - (x11 + 1) / 8 * 8)).bind fun M19 => ((fI M19 5 v0 2).bind fun x24 => ((pI M19 5 v0 2 (x24 - 1)).bind fun M29 => fX5_keepCopy_J32 N v0 v1 M29)))) else fX5_keepCopy_J32 N v0 v1 M))
set_option maxHeartbeats 4000000 in
set_option maxRecDepth 100000 in
theorem k_X5_keepCopy (l : Launch) (b : Nat) (D : va_G) (cy : Nat → ClassId) (N : Nat) (v0 : Nat) (v1 : Nat) (M : Mem) (r : Unit) (Mf : Mem) (h : fX5_keepCopy N v0 v1 M = some (r, Mf)) : Ct l yX5_keepCopy cX5_keepCopy 2 none 2 0 0 b D cy [.ref (b + v0), .ref (b + v1)] M none Mf := by
  refine Ct_of (own := RX5) (by decide) rfl (Nat.le_of_ble_eq_true rfl) ?_
  intro p e s m args below meth c F hr hl hmn
  unfold fX5_keepCopy at h
  have J32 : ∀ (v0 : Nat) (v1 : Nat) (M : Mem), fX5_keepCopy_J32 N v0 v1 M = some (r, Mf) → X p l e ({ frames := 2, cells := 0, slots := 0, locals := 100 * 2 }) s m args below meth c (MQ below (Qm b D cy none Mf) args s 0 0 (fun q => b ≤ q)) 2 b D cy 0 0 M 32 [(0, .ref (b + v0)), (1, .ref (b + v1))] [] := by
    intro v0 v1 M h
    unfold fX5_keepCopy_J32 at h
    refine x_aload_n F dX5_keepCopy_32 rfl 0 rfl ?_
    obtain ⟨x33, c33, h⟩ := bdS h
    refine x_getR F (ci := 5) (C := RX5) (T := TX5) (N := 3) rfl ⟨by decide, rfl⟩ inU5 0 (by decide) (fun _ _ _ => rfl) wl_372 c33 dX5_keepCopy_33 ?_
    refine x_aload_n F dX5_keepCopy_36 rfl 0 rfl ?_
    obtain ⟨x37, c37, h⟩ := bdS h
    refine x_getI F (ci := 5) (C := RX5) (T := TX5) (N := 3) rfl ⟨by decide, rfl⟩ inU5 1 (by decide) (fun _ _ _ => rfl) wl_373 c37 dX5_keepCopy_37 ?_
    refine x_aload_n F dX5_keepCopy_40 rfl 0 rfl ?_
    obtain ⟨x41, c41, h⟩ := bdS h
    refine x_getI F (ci := 5) (C := RX5) (T := TX5) (N := 3) rfl ⟨by decide, rfl⟩ inU5 2 (by decide) (fun _ _ _ => rfl) wl_374 c41 dX5_keepCopy_41 ?_
    refine x_iadd F dX5_keepCopy_44 ?_
    refine x_bipush F (v := 8) dX5_keepCopy_45 (by decide) ?_
    refine x_irem F dX5_keepCopy_47 (by decide) ?_
    obtain ⟨x48, c48, h⟩ := bdS h
    refine x_aR F (kd := 23) 3 rfl (by decide) c48 dX5_keepCopy_48 ?_
    refine x_aload_n F dX5_keepCopy_49 rfl 1 rfl ?_
    obtain ⟨k50, h⟩ := gdS h
    obtain ⟨⟨u50, M50⟩, c50, h⟩ := bdS h
    dsimp only at h
    refine x_callV F (As := [.ref (b + v1)]) (rest := []) (res := none) (ci := 0) (q := (RX0, TX0, 12)) rfl (by decide) k50 (k_X0_copyFrom l b D cy N x48 v1 M _ _ c50) wl_381 wl_382 wl_383 wl_52 wl_22 hd_X0_copyFrom ⟨Nat.le_of_ble_eq_true rfl, Nat.le_of_ble_eq_true rfl⟩ ⟨Nat.le_refl _, Nat.le_refl _⟩ (Nat.le_of_ble_eq_true rfl) rfl dX5_keepCopy_50 ?_
    refine x_aload_n F dX5_keepCopy_53 rfl 0 rfl ?_
    refine x_dup F dX5_keepCopy_54 rfl ?_
    obtain ⟨x55, c55, h⟩ := bdS h
    refine x_getI F (ci := 5) (C := RX5) (T := TX5) (N := 3) rfl ⟨by decide, rfl⟩ inU5 2 (by decide) (fun _ _ _ => rfl) wl_374 c55 dX5_keepCopy_55 ?_
    refine x_iconst F (v := 1) dX5_keepCopy_58 (by decide) ?_
    refine x_iadd F dX5_keepCopy_59 ?_
    obtain ⟨M60, c60, h⟩ := bdS h
    refine x_putI F (ci := 5) (C := RX5) (T := TX5) (N := 3) rfl ⟨by decide, rfl⟩ inU5 tyX5_ok nmX5 2 (by decide) rfl rfl wl_374 c60 dX5_keepCopy_60 ?_
    obtain ⟨rfl, rfl⟩ := retS h
    exact x_vret F hr hl dX5_keepCopy_63
  show X p l e ({ frames := 2, cells := 0, slots := 0, locals := 100 * 2 }) s m args below meth c (MQ below (Qm b D cy none Mf) args s 0 0 (fun q => b ≤ q)) 2 b D cy 0 0 M 0 [(0, .ref (b + v0)), (1, .ref (b + v1))] []
  refine x_aload_n F dX5_keepCopy_0 rfl 0 rfl ?_
  obtain ⟨x1, c1, h⟩ := bdS h
  refine x_getI F (ci := 5) (C := RX5) (T := TX5) (N := 3) rfl ⟨by decide, rfl⟩ inU5 2 (by decide) (fun _ _ _ => rfl) wl_374 c1 dX5_keepCopy_1 ?_
  refine x_bipush F (v := 8) dX5_keepCopy_4 (by decide) ?_
  refine x_icmp_ne F (tgt := 32) dX5_keepCopy_6 (by decide) (fun c6 => ?_) (fun c6 => ?_)
  · rw [if_neg c6] at h
    exact J32 v0 v1 M h
  · rw [if_pos c6] at h
    refine x_aload_n F dX5_keepCopy_9 rfl 0 rfl ?_
    refine x_aload_n F dX5_keepCopy_10 rfl 0 rfl ?_
    obtain ⟨x11, c11, h⟩ := bdS h
    refine x_getI F (ci := 5) (C := RX5) (T := TX5) (N := 3) rfl ⟨by decide, rfl⟩ inU5 1 (by decide) (fun _ _ _ => rfl) wl_373 c11 dX5_keepCopy_11 ?_
    refine x_iconst F (v := 1) dX5_keepCopy_14 (by decide) ?_
    refine x_iadd F dX5_keepCopy_15 ?_
    refine x_bipush F (v := 8) dX5_keepCopy_16 (by decide) ?_
    refine x_irem F dX5_keepCopy_18 (by decide) ?_
    obtain ⟨M19, c19, h⟩ := bdS h
    refine x_putI F (ci := 5) (C := RX5) (T := TX5) (N := 3) rfl ⟨by decide, rfl⟩ inU5 tyX5_ok nmX5 1 (by decide) rfl rfl wl_373 c19 dX5_keepCopy_19 ?_
    refine x_aload_n F dX5_keepCopy_22 rfl 0 rfl ?_
    refine x_dup F dX5_keepCopy_23 rfl ?_
    obtain ⟨x24, c24, h⟩ := bdS h
    refine x_getI F (ci := 5) (C := RX5) (T := TX5) (N := 3) rfl ⟨by decide, rfl⟩ inU5 2 (by decide) (fun _ _ _ => rfl) wl_374 c24 dX5_keepCopy_24 ?_
    refine x_iconst F (v := 1) dX5_keepCopy_27 (by decide) ?_
    refine x_isub F dX5_keepCopy_28 ?_
    obtain ⟨M29, c29, h⟩ := bdS h
    refine x_putI F (ci := 5) (C := RX5) (T := TX5) (N := 3) rfl ⟨by decide, rfl⟩ inU5 tyX5_ok nmX5 2 (by decide) rfl rfl wl_374 c29 dX5_keepCopy_29 ?_
    exact J32 v0 v1 M29 h
theorem dX5_bringBack_0 : decode cX5_bringBack 0 = .ok (.aload_n 0, 1) := by decide +kernel
theorem dX5_bringBack_1 : decode cX5_bringBack 1 = .ok (.getfield 19, 3) := by decide +kernel
theorem dX5_bringBack_4 : decode cX5_bringBack 4 = .ok (.ifCond .ne 5, 3) := by decide +kernel
theorem dX5_bringBack_7 : decode cX5_bringBack 7 = .ok (.iconst 0, 1) := by decide +kernel
theorem dX5_bringBack_8 : decode cX5_bringBack 8 = .ok (.ireturn, 1) := by decide +kernel
theorem dX5_bringBack_9 : decode cX5_bringBack 9 = .ok (.aload_n 0, 1) := by decide +kernel
theorem dX5_bringBack_10 : decode cX5_bringBack 10 = .ok (.dup, 1) := by decide +kernel
theorem dX5_bringBack_11 : decode cX5_bringBack 11 = .ok (.getfield 19, 3) := by decide +kernel
theorem dX5_bringBack_14 : decode cX5_bringBack 14 = .ok (.iconst 1, 1) := by decide +kernel
theorem dX5_bringBack_15 : decode cX5_bringBack 15 = .ok (.isub, 1) := by decide +kernel
theorem dX5_bringBack_16 : decode cX5_bringBack 16 = .ok (.putfield 19, 3) := by decide +kernel
theorem dX5_bringBack_19 : decode cX5_bringBack 19 = .ok (.aload_n 1, 1) := by decide +kernel
theorem dX5_bringBack_20 : decode cX5_bringBack 20 = .ok (.aload_n 0, 1) := by decide +kernel
theorem dX5_bringBack_21 : decode cX5_bringBack 21 = .ok (.getfield 11, 3) := by decide +kernel
theorem dX5_bringBack_24 : decode cX5_bringBack 24 = .ok (.aload_n 0, 1) := by decide +kernel
theorem dX5_bringBack_25 : decode cX5_bringBack 25 = .ok (.getfield 15, 3) := by decide +kernel
theorem dX5_bringBack_28 : decode cX5_bringBack 28 = .ok (.aload_n 0, 1) := by decide +kernel
theorem dX5_bringBack_29 : decode cX5_bringBack 29 = .ok (.getfield 19, 3) := by decide +kernel
theorem dX5_bringBack_32 : decode cX5_bringBack 32 = .ok (.iadd, 1) := by decide +kernel
theorem dX5_bringBack_33 : decode cX5_bringBack 33 = .ok (.bipush 8, 2) := by decide +kernel
theorem dX5_bringBack_35 : decode cX5_bringBack 35 = .ok (.irem, 1) := by decide +kernel
theorem dX5_bringBack_36 : decode cX5_bringBack 36 = .ok (.aaload, 1) := by decide +kernel
theorem dX5_bringBack_37 : decode cX5_bringBack 37 = .ok (.invokevirtual 25, 3) := by decide +kernel
theorem dX5_bringBack_40 : decode cX5_bringBack 40 = .ok (.iconst 1, 1) := by decide +kernel
theorem dX5_bringBack_41 : decode cX5_bringBack 41 = .ok (.ireturn, 1) := by decide +kernel
def fX5_bringBack (N : Nat) (v0 : Nat) (v1 : Nat) (M : Mem) : Option (Int32 × Mem) := ((fI M 5 v0 2).bind fun x1 => (if x1 = 0 then some (0, M) else ((fI M 5 v0 2).bind fun x11 => ((pI M 5 v0 2 (x11 - 1)).bind fun M16 => ((fR M16 5 v0 0).bind fun x21 => ((fI M16 5 v0 1).bind fun x25 => ((fI M16 5 v0 2).bind fun x29 => ((aR M16 23 x21 ((x25 + x29) - (x25 + x29) / 8 * 8)).bind fun x36 => (if mK M16 v1 = 1 then ((fX0_copyFrom N v1 x36 M16).bind fun (u37, M37) => some (1, M37)) else none)))))))))
set_option maxHeartbeats 4000000 in
set_option maxRecDepth 100000 in
theorem k_X5_bringBack (l : Launch) (b : Nat) (D : va_G) (cy : Nat → ClassId) (N : Nat) (v0 : Nat) (v1 : Nat) (M : Mem) (r : Int32) (Mf : Mem) (h : fX5_bringBack N v0 v1 M = some (r, Mf)) : Ct l yX5_bringBack cX5_bringBack 2 (some .boolean) 2 0 0 b D cy [.ref (b + v0), .ref (b + v1)] M (some (.int r)) Mf := by
  refine Ct_of (own := RX5) (by decide) rfl (Nat.le_of_ble_eq_true rfl) ?_
  intro p e s m args below meth c F hr hl hmn
  unfold fX5_bringBack at h
  show X p l e ({ frames := 2, cells := 0, slots := 0, locals := 100 * 2 }) s m args below meth c (MQ below (Qm b D cy (some (.int r)) Mf) args s 0 0 (fun q => b ≤ q)) 2 b D cy 0 0 M 0 [(0, .ref (b + v0)), (1, .ref (b + v1))] []
  refine x_aload_n F dX5_bringBack_0 rfl 0 rfl ?_
  obtain ⟨x1, c1, h⟩ := bdS h
  refine x_getI F (ci := 5) (C := RX5) (T := TX5) (N := 3) rfl ⟨by decide, rfl⟩ inU5 2 (by decide) (fun _ _ _ => rfl) wl_374 c1 dX5_bringBack_1 ?_
  refine x_if_ne F (tgt := 9) dX5_bringBack_4 (by decide) (fun c4 => ?_) (fun c4 => ?_)
  · rw [if_neg c4] at h
    refine x_aload_n F dX5_bringBack_9 rfl 0 rfl ?_
    refine x_dup F dX5_bringBack_10 rfl ?_
    obtain ⟨x11, c11, h⟩ := bdS h
    refine x_getI F (ci := 5) (C := RX5) (T := TX5) (N := 3) rfl ⟨by decide, rfl⟩ inU5 2 (by decide) (fun _ _ _ => rfl) wl_374 c11 dX5_bringBack_11 ?_
    refine x_iconst F (v := 1) dX5_bringBack_14 (by decide) ?_
    refine x_isub F dX5_bringBack_15 ?_
    obtain ⟨M16, c16, h⟩ := bdS h
    refine x_putI F (ci := 5) (C := RX5) (T := TX5) (N := 3) rfl ⟨by decide, rfl⟩ inU5 tyX5_ok nmX5 2 (by decide) rfl rfl wl_374 c16 dX5_bringBack_16 ?_
    refine x_aload_n F dX5_bringBack_19 rfl 1 rfl ?_
    refine x_aload_n F dX5_bringBack_20 rfl 0 rfl ?_
    obtain ⟨x21, c21, h⟩ := bdS h
    refine x_getR F (ci := 5) (C := RX5) (T := TX5) (N := 3) rfl ⟨by decide, rfl⟩ inU5 0 (by decide) (fun _ _ _ => rfl) wl_372 c21 dX5_bringBack_21 ?_
    refine x_aload_n F dX5_bringBack_24 rfl 0 rfl ?_
    obtain ⟨x25, c25, h⟩ := bdS h
    refine x_getI F (ci := 5) (C := RX5) (T := TX5) (N := 3) rfl ⟨by decide, rfl⟩ inU5 1 (by decide) (fun _ _ _ => rfl) wl_373 c25 dX5_bringBack_25 ?_
    refine x_aload_n F dX5_bringBack_28 rfl 0 rfl ?_
    obtain ⟨x29, c29, h⟩ := bdS h
    refine x_getI F (ci := 5) (C := RX5) (T := TX5) (N := 3) rfl ⟨by decide, rfl⟩ inU5 2 (by decide) (fun _ _ _ => rfl) wl_374 c29 dX5_bringBack_29 ?_
    refine x_iadd F dX5_bringBack_32 ?_
    refine x_bipush F (v := 8) dX5_bringBack_33 (by decide) ?_
    refine x_irem F dX5_bringBack_35 (by decide) ?_
    obtain ⟨x36, c36, h⟩ := bdS h
    refine x_aR F (kd := 23) 3 rfl (by decide) c36 dX5_bringBack_36 ?_
    obtain ⟨k37, h⟩ := gdS h
    obtain ⟨⟨u37, M37⟩, c37, h⟩ := bdS h
    dsimp only at h
    refine x_callV F (As := [.ref (b + x36)]) (rest := []) (res := none) (ci := 0) (q := (RX0, TX0, 12)) rfl (by decide) k37 (k_X0_copyFrom l b D cy N v1 x36 M16 _ _ c37) wl_381 wl_382 wl_383 wl_52 wl_22 hd_X0_copyFrom ⟨Nat.le_of_ble_eq_true rfl, Nat.le_of_ble_eq_true rfl⟩ ⟨Nat.le_refl _, Nat.le_refl _⟩ (Nat.le_of_ble_eq_true rfl) rfl dX5_bringBack_37 ?_
    refine x_iconst F (v := 1) dX5_bringBack_40 (by decide) ?_
    obtain ⟨rfl, rfl⟩ := retS h
    exact x_zret F hr hl (by decide) dX5_bringBack_41
  · rw [if_pos c4] at h
    refine x_iconst F (v := 0) dX5_bringBack_7 (by decide) ?_
    obtain ⟨rfl, rfl⟩ := retS h
    exact x_zret F hr hl (by decide) dX5_bringBack_8
theorem hd_X6_settle : (yX6_settle).cls = RX6 ∧ (yX6_settle).cls ≠ "java/lang/invoke/MethodHandle" ∧ (yX6_settle).cls ≠ "java/lang/invoke/VarHandle" ∧ (parseMethodDescriptor (yX6_settle).desc).map (fun d => d.parameters.length) = some 3 := by decide +kernel
theorem dX6_settle_0 : decode cX6_settle 0 = .ok (.iload_n 3, 1) := by decide +kernel
theorem dX6_settle_1 : decode cX6_settle 1 = .ok (.aload_n 0, 1) := by decide +kernel
theorem dX6_settle_2 : decode cX6_settle 2 = .ok (.getfield 21, 3) := by decide +kernel
theorem dX6_settle_5 : decode cX6_settle 5 = .ok (.if_icmp .lt 4, 3) := by decide +kernel
theorem dX6_settle_8 : decode cX6_settle 8 = .ok (.return_, 1) := by decide +kernel
theorem dX6_settle_9 : decode cX6_settle 9 = .ok (.iload_n 2, 1) := by decide +kernel
theorem dX6_settle_10 : decode cX6_settle 10 = .ok (.aload_n 0, 1) := by decide +kernel
theorem dX6_settle_11 : decode cX6_settle 11 = .ok (.getfield 25, 3) := by decide +kernel
theorem dX6_settle_14 : decode cX6_settle 14 = .ok (.getfield 55, 3) := by decide +kernel
theorem dX6_settle_17 : decode cX6_settle 17 = .ok (.if_icmp .lt 24, 3) := by decide +kernel
theorem dX6_settle_20 : decode cX6_settle 20 = .ok (.aload_n 0, 1) := by decide +kernel
theorem dX6_settle_21 : decode cX6_settle 21 = .ok (.iload_n 3, 1) := by decide +kernel
theorem dX6_settle_22 : decode cX6_settle 22 = .ok (.putfield 21, 3) := by decide +kernel
theorem dX6_settle_25 : decode cX6_settle 25 = .ok (.aload_n 0, 1) := by decide +kernel
theorem dX6_settle_26 : decode cX6_settle 26 = .ok (.getfield 15, 3) := by decide +kernel
theorem dX6_settle_29 : decode cX6_settle 29 = .ok (.iconst 0, 1) := by decide +kernel
theorem dX6_settle_30 : decode cX6_settle 30 = .ok (.aload_n 0, 1) := by decide +kernel
theorem dX6_settle_31 : decode cX6_settle 31 = .ok (.getfield 18, 3) := by decide +kernel
theorem dX6_settle_34 : decode cX6_settle 34 = .ok (.iconst 0, 1) := by decide +kernel
theorem dX6_settle_35 : decode cX6_settle 35 = .ok (.bipush 6, 2) := by decide +kernel
theorem dX6_settle_37 : decode cX6_settle 37 = .ok (.invokestatic 40, 3) := by decide +kernel
theorem dX6_settle_40 : decode cX6_settle 40 = .ok (.return_, 1) := by decide +kernel
theorem dX6_settle_41 : decode cX6_settle 41 = .ok (.iload_n 1, 1) := by decide +kernel
theorem dX6_settle_42 : decode cX6_settle 42 = .ok (.iload_n 2, 1) := by decide +kernel
theorem dX6_settle_43 : decode cX6_settle 43 = .ok (.ishr, 1) := by decide +kernel
theorem dX6_settle_44 : decode cX6_settle 44 = .ok (.iconst 1, 1) := by decide +kernel
theorem dX6_settle_45 : decode cX6_settle 45 = .ok (.iand, 1) := by decide +kernel
theorem dX6_settle_46 : decode cX6_settle 46 = .ok (.ifCond .eq 13, 3) := by decide +kernel
theorem dX6_settle_49 : decode cX6_settle 49 = .ok (.aload_n 0, 1) := by decide +kernel
theorem dX6_settle_50 : decode cX6_settle 50 = .ok (.iload_n 1, 1) := by decide +kernel
theorem dX6_settle_51 : decode cX6_settle 51 = .ok (.iload_n 2, 1) := by decide +kernel
theorem dX6_settle_52 : decode cX6_settle 52 = .ok (.iconst 1, 1) := by decide +kernel
theorem dX6_settle_53 : decode cX6_settle 53 = .ok (.iadd, 1) := by decide +kernel
theorem dX6_settle_54 : decode cX6_settle 54 = .ok (.iload_n 3, 1) := by decide +kernel
theorem dX6_settle_55 : decode cX6_settle 55 = .ok (.invokevirtual 51, 3) := by decide +kernel
theorem dX6_settle_58 : decode cX6_settle 58 = .ok (.return_, 1) := by decide +kernel
theorem dX6_settle_59 : decode cX6_settle 59 = .ok (.aload_n 0, 1) := by decide +kernel
theorem dX6_settle_60 : decode cX6_settle 60 = .ok (.getfield 25, 3) := by decide +kernel
theorem dX6_settle_63 : decode cX6_settle 63 = .ok (.getfield 58, 3) := by decide +kernel
theorem dX6_settle_66 : decode cX6_settle 66 = .ok (.iload_n 2, 1) := by decide +kernel
theorem dX6_settle_67 : decode cX6_settle 67 = .ok (.iaload, 1) := by decide +kernel
theorem dX6_settle_68 : decode cX6_settle 68 = .ok (.istore 4, 2) := by decide +kernel
theorem dX6_settle_70 : decode cX6_settle 70 = .ok (.iconst 0, 1) := by decide +kernel
theorem dX6_settle_71 : decode cX6_settle 71 = .ok (.istore 5, 2) := by decide +kernel
theorem dX6_settle_73 : decode cX6_settle 73 = .ok (.iload 5, 2) := by decide +kernel
theorem dX6_settle_75 : decode cX6_settle 75 = .ok (.aload_n 0, 1) := by decide +kernel
theorem dX6_settle_76 : decode cX6_settle 76 = .ok (.getfield 25, 3) := by decide +kernel
theorem dX6_settle_79 : decode cX6_settle 79 = .ok (.getfield 61, 3) := by decide +kernel
theorem dX6_settle_82 : decode cX6_settle 82 = .ok (.if_icmp .ge 92, 3) := by decide +kernel
theorem dX6_settle_85 : decode cX6_settle 85 = .ok (.aload_n 0, 1) := by decide +kernel
theorem dX6_settle_86 : decode cX6_settle 86 = .ok (.getfield 9, 3) := by decide +kernel
theorem dX6_settle_89 : decode cX6_settle 89 = .ok (.iload 5, 2) := by decide +kernel
theorem dX6_settle_91 : decode cX6_settle 91 = .ok (.iaload, 1) := by decide +kernel
theorem dX6_settle_92 : decode cX6_settle 92 = .ok (.iload 4, 2) := by decide +kernel
theorem dX6_settle_94 : decode cX6_settle 94 = .ok (.if_icmp .lt 74, 3) := by decide +kernel
theorem dX6_settle_97 : decode cX6_settle 97 = .ok (.aload_n 0, 1) := by decide +kernel
theorem dX6_settle_98 : decode cX6_settle 98 = .ok (.getfield 9, 3) := by decide +kernel
theorem dX6_settle_101 : decode cX6_settle 101 = .ok (.iload 5, 2) := by decide +kernel
theorem dX6_settle_103 : decode cX6_settle 103 = .ok (.iaload, 1) := by decide +kernel
theorem dX6_settle_104 : decode cX6_settle 104 = .ok (.aload_n 0, 1) := by decide +kernel
theorem dX6_settle_105 : decode cX6_settle 105 = .ok (.getfield 25, 3) := by decide +kernel
theorem dX6_settle_108 : decode cX6_settle 108 = .ok (.getfield 35, 3) := by decide +kernel
theorem dX6_settle_111 : decode cX6_settle 111 = .ok (.iload 5, 2) := by decide +kernel
theorem dX6_settle_113 : decode cX6_settle 113 = .ok (.iaload, 1) := by decide +kernel
theorem dX6_settle_114 : decode cX6_settle 114 = .ok (.if_icmp .ne 7, 3) := by decide +kernel
theorem dX6_settle_117 : decode cX6_settle 117 = .ok (.iconst 1, 1) := by decide +kernel
theorem dX6_settle_118 : decode cX6_settle 118 = .ok (.goto 4, 3) := by decide +kernel
theorem dX6_settle_121 : decode cX6_settle 121 = .ok (.iconst 0, 1) := by decide +kernel
theorem dX6_settle_122 : decode cX6_settle 122 = .ok (.istore 6, 2) := by decide +kernel
theorem dX6_settle_124 : decode cX6_settle 124 = .ok (.aload_n 0, 1) := by decide +kernel
theorem dX6_settle_125 : decode cX6_settle 125 = .ok (.getfield 9, 3) := by decide +kernel
theorem dX6_settle_128 : decode cX6_settle 128 = .ok (.iload 5, 2) := by decide +kernel
theorem dX6_settle_130 : decode cX6_settle 130 = .ok (.dup2, 1) := by decide +kernel
theorem dX6_settle_131 : decode cX6_settle 131 = .ok (.iaload, 1) := by decide +kernel
theorem dX6_settle_132 : decode cX6_settle 132 = .ok (.iload 4, 2) := by decide +kernel
theorem dX6_settle_134 : decode cX6_settle 134 = .ok (.isub, 1) := by decide +kernel
theorem dX6_settle_135 : decode cX6_settle 135 = .ok (.iastore, 1) := by decide +kernel
theorem dX6_settle_136 : decode cX6_settle 136 = .ok (.aload_n 0, 1) := by decide +kernel
theorem dX6_settle_137 : decode cX6_settle 137 = .ok (.getfield 15, 3) := by decide +kernel
theorem dX6_settle_140 : decode cX6_settle 140 = .ok (.iload_n 2, 1) := by decide +kernel
theorem dX6_settle_141 : decode cX6_settle 141 = .ok (.iload 5, 2) := by decide +kernel
theorem dX6_settle_143 : decode cX6_settle 143 = .ok (.iastore, 1) := by decide +kernel
theorem dX6_settle_144 : decode cX6_settle 144 = .ok (.aload_n 0, 1) := by decide +kernel
theorem dX6_settle_145 : decode cX6_settle 145 = .ok (.iload_n 1, 1) := by decide +kernel
theorem dX6_settle_146 : decode cX6_settle 146 = .ok (.iload_n 2, 1) := by decide +kernel
theorem dX6_settle_147 : decode cX6_settle 147 = .ok (.iconst 1, 1) := by decide +kernel
theorem dX6_settle_148 : decode cX6_settle 148 = .ok (.iadd, 1) := by decide +kernel
theorem dX6_settle_149 : decode cX6_settle 149 = .ok (.iload_n 3, 1) := by decide +kernel
theorem dX6_settle_150 : decode cX6_settle 150 = .ok (.iload 6, 2) := by decide +kernel
theorem dX6_settle_152 : decode cX6_settle 152 = .ok (.iadd, 1) := by decide +kernel
theorem dX6_settle_153 : decode cX6_settle 153 = .ok (.invokevirtual 51, 3) := by decide +kernel
theorem dX6_settle_156 : decode cX6_settle 156 = .ok (.aload_n 0, 1) := by decide +kernel
theorem dX6_settle_157 : decode cX6_settle 157 = .ok (.getfield 9, 3) := by decide +kernel
theorem dX6_settle_160 : decode cX6_settle 160 = .ok (.iload 5, 2) := by decide +kernel
theorem dX6_settle_162 : decode cX6_settle 162 = .ok (.dup2, 1) := by decide +kernel
theorem dX6_settle_163 : decode cX6_settle 163 = .ok (.iaload, 1) := by decide +kernel
theorem dX6_settle_164 : decode cX6_settle 164 = .ok (.iload 4, 2) := by decide +kernel
theorem dX6_settle_166 : decode cX6_settle 166 = .ok (.iadd, 1) := by decide +kernel
theorem dX6_settle_167 : decode cX6_settle 167 = .ok (.iastore, 1) := by decide +kernel
theorem dX6_settle_168 : decode cX6_settle 168 = .ok (.iinc 5 1, 3) := by decide +kernel
theorem dX6_settle_171 : decode cX6_settle 171 = .ok (.goto (-98), 3) := by decide +kernel
theorem dX6_settle_174 : decode cX6_settle 174 = .ok (.aload_n 0, 1) := by decide +kernel
theorem dX6_settle_175 : decode cX6_settle 175 = .ok (.getfield 15, 3) := by decide +kernel
theorem dX6_settle_178 : decode cX6_settle 178 = .ok (.iload_n 2, 1) := by decide +kernel
theorem dX6_settle_179 : decode cX6_settle 179 = .ok (.iconst (-1), 1) := by decide +kernel
theorem dX6_settle_180 : decode cX6_settle 180 = .ok (.iastore, 1) := by decide +kernel
theorem dX6_settle_181 : decode cX6_settle 181 = .ok (.return_, 1) := by decide +kernel
def fX6_settle_J122_73 (N : Nat) (rf : Nat → Int32 → Int32 → Int32 → Mem → Option (Unit × Mem)) (rc : Int32 → Mem → Option (Mem)) (v0 : Nat) (v1 : Int32) (v2 : Int32) (v3 : Int32) (v4 : Int32) (v5 : Int32) (s0 : Int32) (M : Mem) : Option (Mem) := ((fR M 6 v0 1).bind fun x125 => ((aI M x125 v5).bind fun x131 => ((tI M x125 v5 (x131 - v4)).bind fun M135 => ((fR M135 6 v0 2).bind fun x137 => ((tI M135 x137 v2 v5).bind fun M143 => (if mK M143 v0 = 7 then ((rf v0 v1 (v2 + 1) (v3 + s0) M143).bind fun (u153, M153) => ((fR M153 6 v0 1).bind fun x157 => ((aI M153 x157 v5).bind fun x163 => ((tI M153 x157 v5 (x163 + v4)).bind fun M167 => rc (v5 + 1) M167)))) else none))))))
def fX6_settle_L73 (N : Nat) (rf : Nat → Int32 → Int32 → Int32 → Mem → Option (Unit × Mem)) (v0 : Nat) (v1 : Int32) (v2 : Int32) (v3 : Int32) (v4 : Int32) : Nat → Int32 → Mem → Option (Mem)
  | 0, _, _ => none
  | n + 1, v5, M => ((fR M 6 v0 0).bind fun x76 => ((fI M 8 x76 0).bind fun x79 => (if x79 ≤ v5 then some M else ((fR M 6 v0 1).bind fun x86 => ((aI M x86 v5).bind fun x91 => (if x91 < v4 then fX6_settle_L73 N rf v0 v1 v2 v3 v4 n (v5 + 1) M else ((fR M 6 v0 1).bind fun x98 => ((aI M x98 v5).bind fun x103 => ((fR M 6 v0 0).bind fun x105 => ((fR M 8 x105 3).bind fun x108 => ((aI M x108 v5).bind fun x113 => (if x103 = x113 then fX6_settle_J122_73 N rf (fX6_settle_L73 N rf v0 v1 v2 v3 v4 n) v0 v1 v2 v3 v4 v5 1 M else fX6_settle_J122_73 N rf (fX6_settle_L73 N rf v0 v1 v2 v3 v4 n) v0 v1 v2 v3 v4 v5 0 M))))))))))))
def fX6_settle_b (N : Nat) (rf : Nat → Int32 → Int32 → Int32 → Mem → Option (Unit × Mem)) (v0 : Nat) (v1 : Int32) (v2 : Int32) (v3 : Int32) (M : Mem) : Option (Unit × Mem) := ((fI M 6 v0 4).bind fun x2 => (if v3 < x2 then ((fR M 6 v0 0).bind fun x11 => ((fI M 8 x11 9).bind fun x14 => (if v2 < x14 then (if ((v1 >>> (v2 &&& 31)) &&& 1) = 0 then ((fR M 6 v0 0).bind fun x60 => ((fR M 8 x60 12).bind fun x63 => ((aI M x63 v2).bind fun x67 => ((fX6_settle_L73 N rf v0 v1 v2 v3 x67 N 0 M).bind fun o73 => ((fR o73 6 v0 2).bind fun x175 => ((tI o73 x175 v2 ((-1))).bind fun M180 => some ((), M180))))))) else (if mK M v0 = 7 then ((rf v0 v1 (v2 + 1) v3 M).bind fun (u55, M55) => some ((), M55)) else none)) else ((pI M 6 v0 4 v3).bind fun M22 => ((fR M22 6 v0 2).bind fun x26 => ((fR M22 6 v0 3).bind fun x31 => ((cI M22 x26 0 x31 0 6).bind fun M37 => some ((), M37)))))))) else some ((), M)))
set_option maxHeartbeats 4000000 in
set_option maxRecDepth 100000 in
theorem kb_X6_settle (l : Launch) (b : Nat) (D : va_G) (cy : Nat → ClassId) (N n0 : Nat) (hn0 : 1 ≤ n0) (rf : Nat → Int32 → Int32 → Int32 → Mem → Option (Unit × Mem)) (hrf_X6_settle : ∀ (v0 : Nat) (v1 : Int32) (v2 : Int32) (v3 : Int32) (M : Mem) (r : Unit) (Mf : Mem), rf v0 v1 v2 v3 M = some (r, Mf) → Ct l yX6_settle cX6_settle 7 none n0 0 0 b D cy [.ref (b + v0), .int v1, .int v2, .int v3] M none Mf) (v0 : Nat) (v1 : Int32) (v2 : Int32) (v3 : Int32) (M : Mem) (r : Unit) (Mf : Mem) (h : fX6_settle_b N rf v0 v1 v2 v3 M = some (r, Mf)) : Ct l yX6_settle cX6_settle 7 none (n0 + 1) 0 0 b D cy [.ref (b + v0), .int v1, .int v2, .int v3] M none Mf := by
  refine Ct_of (own := RX6) (by decide) rfl (Nat.le_of_ble_eq_true rfl) ?_
  intro p e s m args below meth c F hr hl hmn
  unfold fX6_settle_b at h
  show X p l e ({ frames := n0 + 1, cells := 0, slots := 0, locals := 100 * (n0 + 1) }) s m args below meth c (MQ below (Qm b D cy none Mf) args s 0 0 (fun q => b ≤ q)) 7 b D cy 0 0 M 0 [(0, .ref (b + v0)), (1, .int v1), (2, .int v2), (3, .int v3)] []
  refine x_iload_n F dX6_settle_0 rfl 3 rfl ?_
  refine x_aload_n F dX6_settle_1 rfl 0 rfl ?_
  obtain ⟨x2, c2, h⟩ := bdS h
  refine x_getI F (ci := 6) (C := RX6) (T := TX6) (N := 5) rfl ⟨by decide, rfl⟩ inU6 4 (by decide) (fun _ _ _ => rfl) wl_390 c2 dX6_settle_2 ?_
  refine x_icmp_lt F (tgt := 9) dX6_settle_5 (by decide) (fun c5 => ?_) (fun c5 => ?_)
  · rw [if_pos c5] at h
    refine x_iload_n F dX6_settle_9 rfl 2 rfl ?_
    refine x_aload_n F dX6_settle_10 rfl 0 rfl ?_
    obtain ⟨x11, c11, h⟩ := bdS h
    refine x_getR F (ci := 6) (C := RX6) (T := TX6) (N := 5) rfl ⟨by decide, rfl⟩ inU6 0 (by decide) (fun _ _ _ => rfl) wl_391 c11 dX6_settle_11 ?_
    obtain ⟨x14, c14, h⟩ := bdS h
    refine x_getI F (ci := 8) (C := RX8) (T := TX8) (N := 17) rfl ⟨by decide, rfl⟩ inU8 9 (by decide) (fun _ _ _ => rfl) wl_394 c14 dX6_settle_14 ?_
    refine x_icmp_lt F (tgt := 41) dX6_settle_17 (by decide) (fun c17 => ?_) (fun c17 => ?_)
    · rw [if_pos c17] at h
      refine x_iload_n F dX6_settle_41 rfl 1 rfl ?_
      refine x_iload_n F dX6_settle_42 rfl 2 rfl ?_
      refine x_ishr F dX6_settle_43 ?_
      refine x_iconst F (v := 1) dX6_settle_44 (by decide) ?_
      refine x_iand F dX6_settle_45 ?_
      refine x_if_eq F (tgt := 59) dX6_settle_46 (by decide) (fun c46 => ?_) (fun c46 => ?_)
      · rw [if_pos c46] at h
        refine x_aload_n F dX6_settle_59 rfl 0 rfl ?_
        obtain ⟨x60, c60, h⟩ := bdS h
        refine x_getR F (ci := 6) (C := RX6) (T := TX6) (N := 5) rfl ⟨by decide, rfl⟩ inU6 0 (by decide) (fun _ _ _ => rfl) wl_391 c60 dX6_settle_60 ?_
        obtain ⟨x63, c63, h⟩ := bdS h
        refine x_getR F (ci := 8) (C := RX8) (T := TX8) (N := 17) rfl ⟨by decide, rfl⟩ inU8 12 (by decide) (fun _ _ _ => rfl) wl_396 c63 dX6_settle_63 ?_
        refine x_iload_n F dX6_settle_66 rfl 2 rfl ?_
        obtain ⟨x67, c67, h⟩ := bdS h
        refine x_aI F c67 dX6_settle_67 ?_
        refine x_istore F (lv' := [(4, .int x67), (0, .ref (b + v0)), (1, .int v1), (2, .int v2), (3, .int v3)]) dX6_settle_68 (by decide) rfl ?_
        refine x_iconst F (v := 0) dX6_settle_70 (by decide) ?_
        refine x_istore F (lv' := [(5, .int 0), (4, .int x67), (0, .ref (b + v0)), (1, .int v1), (2, .int v2), (3, .int v3)]) dX6_settle_71 (by decide) rfl ?_
        have L73 : ∀ (v0 : Nat) (v1 : Int32) (v2 : Int32) (v3 : Int32) (v4 : Int32) (n : Nat) (v5 : Int32) (M : Mem) (o : Mem), fX6_settle_L73 N rf v0 v1 v2 v3 v4 n v5 M = some o → X p l e ({ frames := n0 + 1, cells := 0, slots := 0, locals := 100 * (n0 + 1) }) s m args below meth c (MQ below (Qm b D cy none Mf) args s 0 0 (fun q => b ≤ q)) 7 b D cy 0 0 o 174 [(0, .ref (b + v0)), (2, .int v2)] [] → X p l e ({ frames := n0 + 1, cells := 0, slots := 0, locals := 100 * (n0 + 1) }) s m args below meth c (MQ below (Qm b D cy none Mf) args s 0 0 (fun q => b ≤ q)) 7 b D cy 0 0 M 73 [(0, .ref (b + v0)), (1, .int v1), (2, .int v2), (3, .int v3), (4, .int v4), (5, .int v5)] [] := by
          intro v0 v1 v2 v3 v4 n
          induction n with
          | zero => intro v5 M o h; exact absurd h (by rw [fX6_settle_L73]; exact fun z => by cases z)
          | succ n ih =>
            intro v5 M o h hE
            rw [fX6_settle_L73] at h
            have J122 : ∀ (v5 : Int32) (s0 : Int32) (M : Mem), fX6_settle_J122_73 N rf (fX6_settle_L73 N rf v0 v1 v2 v3 v4 n) v0 v1 v2 v3 v4 v5 s0 M = some o → X p l e ({ frames := n0 + 1, cells := 0, slots := 0, locals := 100 * (n0 + 1) }) s m args below meth c (MQ below (Qm b D cy none Mf) args s 0 0 (fun q => b ≤ q)) 7 b D cy 0 0 M 122 [(0, .ref (b + v0)), (1, .int v1), (2, .int v2), (3, .int v3), (4, .int v4), (5, .int v5)] [.int s0] := by
              intro v5 s0 M h
              unfold fX6_settle_J122_73 at h
              refine x_istore F (lv' := [(6, .int s0), (0, .ref (b + v0)), (1, .int v1), (2, .int v2), (3, .int v3), (4, .int v4), (5, .int v5)]) dX6_settle_122 (by decide) rfl ?_
              refine x_aload_n F dX6_settle_124 rfl 1 rfl ?_
              obtain ⟨x125, c125, h⟩ := bdS h
              refine x_getR F (ci := 6) (C := RX6) (T := TX6) (N := 5) rfl ⟨by decide, rfl⟩ inU6 1 (by decide) (fun _ _ _ => rfl) wl_387 c125 dX6_settle_125 ?_
              refine x_iload F dX6_settle_128 6 rfl ?_
              refine x_dup2 F dX6_settle_130 rfl rfl ?_
              obtain ⟨x131, c131, h⟩ := bdS h
              refine x_aI F c131 dX6_settle_131 ?_
              refine x_iload F dX6_settle_132 5 rfl ?_
              refine x_isub F dX6_settle_134 ?_
              obtain ⟨M135, c135, h⟩ := bdS h
              refine x_tI F c135 dX6_settle_135 ?_
              refine x_aload_n F dX6_settle_136 rfl 1 rfl ?_
              obtain ⟨x137, c137, h⟩ := bdS h
              refine x_getR F (ci := 6) (C := RX6) (T := TX6) (N := 5) rfl ⟨by decide, rfl⟩ inU6 2 (by decide) (fun _ _ _ => rfl) wl_388 c137 dX6_settle_137 ?_
              refine x_iload_n F dX6_settle_140 rfl 3 rfl ?_
              refine x_iload F dX6_settle_141 6 rfl ?_
              obtain ⟨M143, c143, h⟩ := bdS h
              refine x_tI F c143 dX6_settle_143 ?_
              refine x_aload_n F dX6_settle_144 rfl 1 rfl ?_
              refine x_iload_n F dX6_settle_145 rfl 2 rfl ?_
              refine x_iload_n F dX6_settle_146 rfl 3 rfl ?_
              refine x_iconst F (v := 1) dX6_settle_147 (by decide) ?_
              refine x_iadd F dX6_settle_148 ?_
              refine x_iload_n F dX6_settle_149 rfl 4 rfl ?_
              refine x_iload F dX6_settle_150 0 rfl ?_
              refine x_iadd F dX6_settle_152 ?_
              obtain ⟨k153, h⟩ := gdS h
              obtain ⟨⟨u153, M153⟩, c153, h⟩ := bdS h
              dsimp only at h
              refine x_callV F (As := [.int v1, .int (v2 + 1), .int (v3 + s0)]) (rest := []) (res := none) (ci := 6) (q := (RX6, TX6, 5)) rfl (by decide) k153 (hrf_X6_settle v0 v1 (v2 + 1) (v3 + s0) M143 _ _ c153) wl_399 wl_400 wl_401 wl_402 wl_393 hd_X6_settle ⟨by show n0 + 1 ≤ n0 + 1; omega, by show 8 + (7 + 11) + 100 * n0 ≤ 100 * (n0 + 1); omega⟩ ⟨Nat.le_refl _, Nat.le_refl _⟩ (Nat.le_of_ble_eq_true rfl) rfl dX6_settle_153 ?_
              refine x_aload_n F dX6_settle_156 rfl 1 rfl ?_
              obtain ⟨x157, c157, h⟩ := bdS h
              refine x_getR F (ci := 6) (C := RX6) (T := TX6) (N := 5) rfl ⟨by decide, rfl⟩ inU6 1 (by decide) (fun _ _ _ => rfl) wl_387 c157 dX6_settle_157 ?_
              refine x_iload F dX6_settle_160 6 rfl ?_
              refine x_dup2 F dX6_settle_162 rfl rfl ?_
              obtain ⟨x163, c163, h⟩ := bdS h
              refine x_aI F c163 dX6_settle_163 ?_
              refine x_iload F dX6_settle_164 5 rfl ?_
              refine x_iadd F dX6_settle_166 ?_
              obtain ⟨M167, c167, h⟩ := bdS h
              refine x_tI F c167 dX6_settle_167 ?_
              refine x_iinc F (v := v5 + 1) (lv' := [(5, .int (v5 + 1)), (6, .int s0), (0, .ref (b + v0)), (1, .int v1), (2, .int v2), (3, .int v3), (4, .int v4)]) dX6_settle_168 6 rfl rfl (by decide) rfl ?_
              refine x_goto F (tgt := 73) dX6_settle_171 (by decide) ?_
              refine x_sub [2, 3, 4, 5, 6, 0] rfl ?_
              exact ih (v5 + 1) M167 o h hE
            refine x_iload F dX6_settle_73 5 rfl ?_
            refine x_aload_n F dX6_settle_75 rfl 0 rfl ?_
            obtain ⟨x76, c76, h⟩ := bdS h
            refine x_getR F (ci := 6) (C := RX6) (T := TX6) (N := 5) rfl ⟨by decide, rfl⟩ inU6 0 (by decide) (fun _ _ _ => rfl) wl_391 c76 dX6_settle_76 ?_
            obtain ⟨x79, c79, h⟩ := bdS h
            refine x_getI F (ci := 8) (C := RX8) (T := TX8) (N := 17) rfl ⟨by decide, rfl⟩ inU8 0 (by decide) (fun _ _ _ => rfl) wl_397 c79 dX6_settle_79 ?_
            refine x_icmp_ge F (tgt := 174) dX6_settle_82 (by decide) (fun c82 => ?_) (fun c82 => ?_)
            · rw [if_pos c82] at h
              obtain rfl := Option.some.inj h
              refine x_sub [0, 2] rfl ?_
              exact hE
            · rw [if_neg c82] at h
              refine x_aload_n F dX6_settle_85 rfl 0 rfl ?_
              obtain ⟨x86, c86, h⟩ := bdS h
              refine x_getR F (ci := 6) (C := RX6) (T := TX6) (N := 5) rfl ⟨by decide, rfl⟩ inU6 1 (by decide) (fun _ _ _ => rfl) wl_387 c86 dX6_settle_86 ?_
              refine x_iload F dX6_settle_89 5 rfl ?_
              obtain ⟨x91, c91, h⟩ := bdS h
              refine x_aI F c91 dX6_settle_91 ?_
              refine x_iload F dX6_settle_92 4 rfl ?_
              refine x_icmp_lt F (tgt := 168) dX6_settle_94 (by decide) (fun c94 => ?_) (fun c94 => ?_)
              · rw [if_pos c94] at h
                refine x_iinc F (v := v5 + 1) (lv' := [(5, .int (v5 + 1)), (0, .ref (b + v0)), (1, .int v1), (2, .int v2), (3, .int v3), (4, .int v4)]) dX6_settle_168 5 rfl rfl (by decide) rfl ?_
                refine x_goto F (tgt := 73) dX6_settle_171 (by decide) ?_
                refine x_sub [1, 2, 3, 4, 5, 0] rfl ?_
                exact ih (v5 + 1) M o h hE
              · rw [if_neg c94] at h
                refine x_aload_n F dX6_settle_97 rfl 0 rfl ?_
                obtain ⟨x98, c98, h⟩ := bdS h
                refine x_getR F (ci := 6) (C := RX6) (T := TX6) (N := 5) rfl ⟨by decide, rfl⟩ inU6 1 (by decide) (fun _ _ _ => rfl) wl_387 c98 dX6_settle_98 ?_
                refine x_iload F dX6_settle_101 5 rfl ?_
                obtain ⟨x103, c103, h⟩ := bdS h
                refine x_aI F c103 dX6_settle_103 ?_
                refine x_aload_n F dX6_settle_104 rfl 0 rfl ?_
                obtain ⟨x105, c105, h⟩ := bdS h
                refine x_getR F (ci := 6) (C := RX6) (T := TX6) (N := 5) rfl ⟨by decide, rfl⟩ inU6 0 (by decide) (fun _ _ _ => rfl) wl_391 c105 dX6_settle_105 ?_
                obtain ⟨x108, c108, h⟩ := bdS h
                refine x_getR F (ci := 8) (C := RX8) (T := TX8) (N := 17) rfl ⟨by decide, rfl⟩ inU8 3 (by decide) (fun _ _ _ => rfl) wl_398 c108 dX6_settle_108 ?_
                refine x_iload F dX6_settle_111 5 rfl ?_
                obtain ⟨x113, c113, h⟩ := bdS h
                refine x_aI F c113 dX6_settle_113 ?_
                refine x_icmp_ne F (tgt := 121) dX6_settle_114 (by decide) (fun c114 => ?_) (fun c114 => ?_)
                · rw [if_neg c114] at h
                  refine x_iconst F (v := 0) dX6_settle_121 (by decide) ?_
                  exact J122 v5 0 M h
                · rw [if_pos c114] at h
                  refine x_iconst F (v := 1) dX6_settle_117 (by decide) ?_
                  refine x_goto F (tgt := 122) dX6_settle_118 (by decide) ?_
                  exact J122 v5 1 M h
        obtain ⟨o73, h73, h⟩ := bdS h
        refine x_sub [2, 3, 4, 5, 1, 0] rfl ?_
        refine L73 v0 v1 v2 v3 x67 N 0 M o73 h73 ?_
        refine x_aload_n F dX6_settle_174 rfl 0 rfl ?_
        obtain ⟨x175, c175, h⟩ := bdS h
        refine x_getR F (ci := 6) (C := RX6) (T := TX6) (N := 5) rfl ⟨by decide, rfl⟩ inU6 2 (by decide) (fun _ _ _ => rfl) wl_388 c175 dX6_settle_175 ?_
        refine x_iload_n F dX6_settle_178 rfl 1 rfl ?_
        refine x_iconst F (v := (-1)) dX6_settle_179 (by decide) ?_
        obtain ⟨M180, c180, h⟩ := bdS h
        refine x_tI F c180 dX6_settle_180 ?_
        obtain ⟨rfl, rfl⟩ := retS h
        exact x_vret F hr hl dX6_settle_181
      · rw [if_neg c46] at h
        refine x_aload_n F dX6_settle_49 rfl 0 rfl ?_
        refine x_iload_n F dX6_settle_50 rfl 1 rfl ?_
        refine x_iload_n F dX6_settle_51 rfl 2 rfl ?_
        refine x_iconst F (v := 1) dX6_settle_52 (by decide) ?_
        refine x_iadd F dX6_settle_53 ?_
        refine x_iload_n F dX6_settle_54 rfl 3 rfl ?_
        obtain ⟨k55, h⟩ := gdS h
        obtain ⟨⟨u55, M55⟩, c55, h⟩ := bdS h
        dsimp only at h
        refine x_callV F (As := [.int v1, .int (v2 + 1), .int v3]) (rest := []) (res := none) (ci := 6) (q := (RX6, TX6, 5)) rfl (by decide) k55 (hrf_X6_settle v0 v1 (v2 + 1) v3 M _ _ c55) wl_399 wl_400 wl_401 wl_402 wl_393 hd_X6_settle ⟨by show n0 + 1 ≤ n0 + 1; omega, by show 8 + (7 + 11) + 100 * n0 ≤ 100 * (n0 + 1); omega⟩ ⟨Nat.le_refl _, Nat.le_refl _⟩ (Nat.le_of_ble_eq_true rfl) rfl dX6_settle_55 ?_
        obtain ⟨rfl, rfl⟩ := retS h
        exact x_vret F hr hl dX6_settle_58
    · rw [if_neg c17] at h
      refine x_aload_n F dX6_settle_20 rfl 0 rfl ?_
      refine x_iload_n F dX6_settle_21 rfl 3 rfl ?_
      obtain ⟨M22, c22, h⟩ := bdS h
      refine x_putI F (ci := 6) (C := RX6) (T := TX6) (N := 5) rfl ⟨by decide, rfl⟩ inU6 tyX6_ok nmX6 4 (by decide) rfl rfl wl_390 c22 dX6_settle_22 ?_
      refine x_aload_n F dX6_settle_25 rfl 0 rfl ?_
      obtain ⟨x26, c26, h⟩ := bdS h
      refine x_getR F (ci := 6) (C := RX6) (T := TX6) (N := 5) rfl ⟨by decide, rfl⟩ inU6 2 (by decide) (fun _ _ _ => rfl) wl_388 c26 dX6_settle_26 ?_
      refine x_iconst F (v := 0) dX6_settle_29 (by decide) ?_
      refine x_aload_n F dX6_settle_30 rfl 0 rfl ?_
      obtain ⟨x31, c31, h⟩ := bdS h
      refine x_getR F (ci := 6) (C := RX6) (T := TX6) (N := 5) rfl ⟨by decide, rfl⟩ inU6 3 (by decide) (fun _ _ _ => rfl) wl_389 c31 dX6_settle_31 ?_
      refine x_iconst F (v := 0) dX6_settle_34 (by decide) ?_
      refine x_bipush F (v := 6) dX6_settle_35 (by decide) ?_
      obtain ⟨M37, c37, h⟩ := bdS h
      refine x_cI F wl_395 wl_24 wl_25 wl_26 (by show 1 ≤ n0 + 1; omega) (by show _ ≤ 100 * (n0 + 1); have z : nativeFrameWords "java/lang/System" "arraycopy" 5 + 11 ≤ 100 := (by decide +kernel); simp only [List.map, List.sum_nil]; omega) c37 dX6_settle_37 ?_
      obtain ⟨rfl, rfl⟩ := retS h
      exact x_vret F hr hl dX6_settle_40
  · rw [if_neg c5] at h
    obtain ⟨rfl, rfl⟩ := retS h
    exact x_vret F hr hl dX6_settle_8
def fX6_settle (N : Nat) : Nat → Nat → Int32 → Int32 → Int32 → Mem → Option (Unit × Mem)
  | 0, _, _, _, _, _ => none
  | d + 1, v0, v1, v2, v3, M => fX6_settle_b N (fX6_settle N d) v0 v1 v2 v3 M
theorem kg_X6_settle (l : Launch) (b : Nat) (D : va_G) (cy : Nat → ClassId) (N : Nat) : ∀ d : Nat, (∀ (v0 : Nat) (v1 : Int32) (v2 : Int32) (v3 : Int32) (M : Mem) (r : Unit) (Mf : Mem), fX6_settle N d v0 v1 v2 v3 M = some (r, Mf) → Ct l yX6_settle cX6_settle 7 none (1 + d) 0 0 b D cy [.ref (b + v0), .int v1, .int v2, .int v3] M none Mf) := by
  intro d
  induction d with
  | zero => exact fun v0 v1 v2 v3 M r Mf h => (by rw [fX6_settle] at h; cases h)
  | succ d ih =>
    exact fun v0 v1 v2 v3 M r Mf h => (by rw [fX6_settle] at h; exact kb_X6_settle l b D cy N (1 + d) (by omega) _ (ih) v0 v1 v2 v3 M r Mf h)
theorem k_X6_settle (l : Launch) (b : Nat) (D : va_G) (cy : Nat → ClassId) (N d : Nat) (v0 : Nat) (v1 : Int32) (v2 : Int32) (v3 : Int32) (M : Mem) (r : Unit) (Mf : Mem) (h : fX6_settle N d v0 v1 v2 v3 M = some (r, Mf)) : Ct l yX6_settle cX6_settle 7 none (1 + d) 0 0 b D cy [.ref (b + v0), .int v1, .int v2, .int v3] M none Mf := (kg_X6_settle l b D cy N d) v0 v1 v2 v3 M r Mf h
theorem dX6_fewestBands_0 : decode cX6_fewestBands 0 = .ok (.aload_n 0, 1) := by decide +kernel
theorem dX6_fewestBands_1 : decode cX6_fewestBands 1 = .ok (.getfield 25, 3) := by decide +kernel
theorem dX6_fewestBands_4 : decode cX6_fewestBands 4 = .ok (.getfield 35, 3) := by decide +kernel
theorem dX6_fewestBands_7 : decode cX6_fewestBands 7 = .ok (.iconst 0, 1) := by decide +kernel
theorem dX6_fewestBands_8 : decode cX6_fewestBands 8 = .ok (.aload_n 0, 1) := by decide +kernel
theorem dX6_fewestBands_9 : decode cX6_fewestBands 9 = .ok (.getfield 9, 3) := by decide +kernel
theorem dX6_fewestBands_12 : decode cX6_fewestBands 12 = .ok (.iconst 0, 1) := by decide +kernel
theorem dX6_fewestBands_13 : decode cX6_fewestBands 13 = .ok (.bipush 6, 2) := by decide +kernel
theorem dX6_fewestBands_15 : decode cX6_fewestBands 15 = .ok (.invokestatic 40, 3) := by decide +kernel
theorem dX6_fewestBands_18 : decode cX6_fewestBands 18 = .ok (.aload_n 0, 1) := by decide +kernel
theorem dX6_fewestBands_19 : decode cX6_fewestBands 19 = .ok (.getfield 15, 3) := by decide +kernel
theorem dX6_fewestBands_22 : decode cX6_fewestBands 22 = .ok (.iconst (-1), 1) := by decide +kernel
theorem dX6_fewestBands_23 : decode cX6_fewestBands 23 = .ok (.invokestatic 29, 3) := by decide +kernel
theorem dX6_fewestBands_26 : decode cX6_fewestBands 26 = .ok (.aload_n 0, 1) := by decide +kernel
theorem dX6_fewestBands_27 : decode cX6_fewestBands 27 = .ok (.bipush 7, 2) := by decide +kernel
theorem dX6_fewestBands_29 : decode cX6_fewestBands 29 = .ok (.putfield 21, 3) := by decide +kernel
theorem dX6_fewestBands_32 : decode cX6_fewestBands 32 = .ok (.aload_n 0, 1) := by decide +kernel
theorem dX6_fewestBands_33 : decode cX6_fewestBands 33 = .ok (.aload_n 1, 1) := by decide +kernel
theorem dX6_fewestBands_34 : decode cX6_fewestBands 34 = .ok (.getfield 46, 3) := by decide +kernel
theorem dX6_fewestBands_37 : decode cX6_fewestBands 37 = .ok (.iconst 0, 1) := by decide +kernel
theorem dX6_fewestBands_38 : decode cX6_fewestBands 38 = .ok (.iconst 0, 1) := by decide +kernel
theorem dX6_fewestBands_39 : decode cX6_fewestBands 39 = .ok (.invokevirtual 51, 3) := by decide +kernel
theorem dX6_fewestBands_42 : decode cX6_fewestBands 42 = .ok (.aload_n 0, 1) := by decide +kernel
theorem dX6_fewestBands_43 : decode cX6_fewestBands 43 = .ok (.getfield 21, 3) := by decide +kernel
theorem dX6_fewestBands_46 : decode cX6_fewestBands 46 = .ok (.bipush 6, 2) := by decide +kernel
theorem dX6_fewestBands_48 : decode cX6_fewestBands 48 = .ok (.if_icmp .le 7, 3) := by decide +kernel
theorem dX6_fewestBands_51 : decode cX6_fewestBands 51 = .ok (.iconst (-1), 1) := by decide +kernel
theorem dX6_fewestBands_52 : decode cX6_fewestBands 52 = .ok (.goto 7, 3) := by decide +kernel
theorem dX6_fewestBands_55 : decode cX6_fewestBands 55 = .ok (.aload_n 0, 1) := by decide +kernel
theorem dX6_fewestBands_56 : decode cX6_fewestBands 56 = .ok (.getfield 21, 3) := by decide +kernel
theorem dX6_fewestBands_59 : decode cX6_fewestBands 59 = .ok (.ireturn, 1) := by decide +kernel
def fX6_fewestBands (N : Nat) (v0 : Nat) (v1 : Nat) (M : Mem) : Option (Int32 × Mem) := ((fR M 6 v0 0).bind fun x1 => ((fR M 8 x1 3).bind fun x4 => ((fR M 6 v0 1).bind fun x9 => ((cI M x4 0 x9 0 6).bind fun M15 => ((fR M15 6 v0 2).bind fun x19 => ((fJ7_fill_53178 N x19 ((-1)) M15).bind fun (u23, M23) => ((pI M23 6 v0 4 7).bind fun M29 => ((fI M29 0 v1 8).bind fun x34 => (if mK M29 v0 = 7 then ((fX6_settle N 8 v0 x34 0 0 M29).bind fun (u39, M39) => ((fI M39 6 v0 4).bind fun x43 => (if x43 ≤ 6 then ((fI M39 6 v0 4).bind fun x56 => some (x56, M39)) else some ((-1), M39)))) else none)))))))))
set_option maxHeartbeats 4000000 in
set_option maxRecDepth 100000 in
theorem k_X6_fewestBands (l : Launch) (b : Nat) (D : va_G) (cy : Nat → ClassId) (N : Nat) (v0 : Nat) (v1 : Nat) (M : Mem) (r : Int32) (Mf : Mem) (h : fX6_fewestBands N v0 v1 M = some (r, Mf)) : Ct l yX6_fewestBands cX6_fewestBands 2 (some .int) 10 0 0 b D cy [.ref (b + v0), .ref (b + v1)] M (some (.int r)) Mf := by
  refine Ct_of (own := RX6) (by decide) rfl (Nat.le_of_ble_eq_true rfl) ?_
  intro p e s m args below meth c F hr hl hmn
  unfold fX6_fewestBands at h
  show X p l e ({ frames := 10, cells := 0, slots := 0, locals := 100 * 10 }) s m args below meth c (MQ below (Qm b D cy (some (.int r)) Mf) args s 0 0 (fun q => b ≤ q)) 2 b D cy 0 0 M 0 [(0, .ref (b + v0)), (1, .ref (b + v1))] []
  refine x_aload_n F dX6_fewestBands_0 rfl 0 rfl ?_
  obtain ⟨x1, c1, h⟩ := bdS h
  refine x_getR F (ci := 6) (C := RX6) (T := TX6) (N := 5) rfl ⟨by decide, rfl⟩ inU6 0 (by decide) (fun _ _ _ => rfl) wl_391 c1 dX6_fewestBands_1 ?_
  obtain ⟨x4, c4, h⟩ := bdS h
  refine x_getR F (ci := 8) (C := RX8) (T := TX8) (N := 17) rfl ⟨by decide, rfl⟩ inU8 3 (by decide) (fun _ _ _ => rfl) wl_398 c4 dX6_fewestBands_4 ?_
  refine x_iconst F (v := 0) dX6_fewestBands_7 (by decide) ?_
  refine x_aload_n F dX6_fewestBands_8 rfl 0 rfl ?_
  obtain ⟨x9, c9, h⟩ := bdS h
  refine x_getR F (ci := 6) (C := RX6) (T := TX6) (N := 5) rfl ⟨by decide, rfl⟩ inU6 1 (by decide) (fun _ _ _ => rfl) wl_387 c9 dX6_fewestBands_9 ?_
  refine x_iconst F (v := 0) dX6_fewestBands_12 (by decide) ?_
  refine x_bipush F (v := 6) dX6_fewestBands_13 (by decide) ?_
  obtain ⟨M15, c15, h⟩ := bdS h
  refine x_cI F wl_395 wl_24 wl_25 wl_26 (Nat.le_of_ble_eq_true rfl) (by decide +kernel) c15 dX6_fewestBands_15 ?_
  refine x_aload_n F dX6_fewestBands_18 rfl 0 rfl ?_
  obtain ⟨x19, c19, h⟩ := bdS h
  refine x_getR F (ci := 6) (C := RX6) (T := TX6) (N := 5) rfl ⟨by decide, rfl⟩ inU6 2 (by decide) (fun _ _ _ => rfl) wl_388 c19 dX6_fewestBands_19 ?_
  refine x_iconst F (v := (-1)) dX6_fewestBands_22 (by decide) ?_
  obtain ⟨⟨u23, M23⟩, c23, h⟩ := bdS h
  dsimp only at h
  refine x_callS F (As := [.ref (b + x19), .int ((-1))]) (rest := []) (res := none) (k_J7_fill_53178 l b D cy N x19 ((-1)) M15 _ _ c23) wl_392 wl_19 wl_20 wl_0 (hd_J7_fill_53178).2 ⟨Nat.le_of_ble_eq_true rfl, Nat.le_of_ble_eq_true rfl⟩ ⟨Nat.le_refl _, Nat.le_refl _⟩ (Nat.le_of_ble_eq_true rfl) rfl dX6_fewestBands_23 ?_
  refine x_aload_n F dX6_fewestBands_26 rfl 0 rfl ?_
  refine x_bipush F (v := 7) dX6_fewestBands_27 (by decide) ?_
  obtain ⟨M29, c29, h⟩ := bdS h
  refine x_putI F (ci := 6) (C := RX6) (T := TX6) (N := 5) rfl ⟨by decide, rfl⟩ inU6 tyX6_ok nmX6 4 (by decide) rfl rfl wl_390 c29 dX6_fewestBands_29 ?_
  refine x_aload_n F dX6_fewestBands_32 rfl 0 rfl ?_
  refine x_aload_n F dX6_fewestBands_33 rfl 1 rfl ?_
  obtain ⟨x34, c34, h⟩ := bdS h
  refine x_getI F (ci := 0) (C := RX0) (T := TX0) (N := 12) rfl ⟨by decide, rfl⟩ inU0 8 (by decide) (fun _ _ _ => rfl) wl_404 c34 dX6_fewestBands_34 ?_
  refine x_iconst F (v := 0) dX6_fewestBands_37 (by decide) ?_
  refine x_iconst F (v := 0) dX6_fewestBands_38 (by decide) ?_
  obtain ⟨k39, h⟩ := gdS h
  obtain ⟨⟨u39, M39⟩, c39, h⟩ := bdS h
  dsimp only at h
  refine x_callV F (As := [.int x34, .int 0, .int 0]) (rest := []) (res := none) (ci := 6) (q := (RX6, TX6, 5)) rfl (by decide) k39 (k_X6_settle l b D cy N 8 v0 x34 0 0 M29 _ _ c39) wl_399 wl_400 wl_401 wl_402 wl_393 hd_X6_settle ⟨Nat.le_of_ble_eq_true rfl, Nat.le_of_ble_eq_true rfl⟩ ⟨Nat.le_refl _, Nat.le_refl _⟩ (Nat.le_of_ble_eq_true rfl) rfl dX6_fewestBands_39 ?_
  refine x_aload_n F dX6_fewestBands_42 rfl 0 rfl ?_
  obtain ⟨x43, c43, h⟩ := bdS h
  refine x_getI F (ci := 6) (C := RX6) (T := TX6) (N := 5) rfl ⟨by decide, rfl⟩ inU6 4 (by decide) (fun _ _ _ => rfl) wl_390 c43 dX6_fewestBands_43 ?_
  refine x_bipush F (v := 6) dX6_fewestBands_46 (by decide) ?_
  refine x_icmp_le F (tgt := 55) dX6_fewestBands_48 (by decide) (fun c48 => ?_) (fun c48 => ?_)
  · rw [if_pos c48] at h
    refine x_aload_n F dX6_fewestBands_55 rfl 0 rfl ?_
    obtain ⟨x56, c56, h⟩ := bdS h
    refine x_getI F (ci := 6) (C := RX6) (T := TX6) (N := 5) rfl ⟨by decide, rfl⟩ inU6 4 (by decide) (fun _ _ _ => rfl) wl_390 c56 dX6_fewestBands_56 ?_
    obtain ⟨rfl, rfl⟩ := retS h
    exact x_iret F hr hl dX6_fewestBands_59
  · rw [if_neg c48] at h
    refine x_iconst F (v := (-1)) dX6_fewestBands_51 (by decide) ?_
    refine x_goto F (tgt := 59) dX6_fewestBands_52 (by decide) ?_
    obtain ⟨rfl, rfl⟩ := retS h
    exact x_iret F hr hl dX6_fewestBands_59
theorem dX7_clear_0 : decode cX7_clear 0 = .ok (.aload_n 0, 1) := by decide +kernel
theorem dX7_clear_1 : decode cX7_clear 1 = .ok (.iconst 0, 1) := by decide +kernel
theorem dX7_clear_2 : decode cX7_clear 2 = .ok (.putfield 24, 3) := by decide +kernel
theorem dX7_clear_5 : decode cX7_clear 5 = .ok (.aload_n 0, 1) := by decide +kernel
theorem dX7_clear_6 : decode cX7_clear 6 = .ok (.iconst 0, 1) := by decide +kernel
theorem dX7_clear_7 : decode cX7_clear 7 = .ok (.putfield 28, 3) := by decide +kernel
theorem dX7_clear_10 : decode cX7_clear 10 = .ok (.return_, 1) := by decide +kernel
def fX7_clear (N : Nat) (v0 : Nat) (M : Mem) : Option (Unit × Mem) := ((pI M 7 v0 5 0).bind fun M2 => ((pI M2 7 v0 6 0).bind fun M7 => some ((), M7)))
set_option maxHeartbeats 4000000 in
set_option maxRecDepth 100000 in
theorem k_X7_clear (l : Launch) (b : Nat) (D : va_G) (cy : Nat → ClassId) (N : Nat) (v0 : Nat) (M : Mem) (r : Unit) (Mf : Mem) (h : fX7_clear N v0 M = some (r, Mf)) : Ct l yX7_clear cX7_clear 1 none 1 0 0 b D cy [.ref (b + v0)] M none Mf := by
  refine Ct_of (own := RX7) (by decide) rfl (Nat.le_of_ble_eq_true rfl) ?_
  intro p e s m args below meth c F hr hl hmn
  unfold fX7_clear at h
  show X p l e ({ frames := 1, cells := 0, slots := 0, locals := 100 * 1 }) s m args below meth c (MQ below (Qm b D cy none Mf) args s 0 0 (fun q => b ≤ q)) 1 b D cy 0 0 M 0 [(0, .ref (b + v0))] []
  refine x_aload_n F dX7_clear_0 rfl 0 rfl ?_
  refine x_iconst F (v := 0) dX7_clear_1 (by decide) ?_
  obtain ⟨M2, c2, h⟩ := bdS h
  refine x_putI F (ci := 7) (C := RX7) (T := TX7) (N := 7) rfl ⟨by decide, rfl⟩ inU7 tyX7_ok nmX7 5 (by decide) rfl rfl wl_411 c2 dX7_clear_2 ?_
  refine x_aload_n F dX7_clear_5 rfl 0 rfl ?_
  refine x_iconst F (v := 0) dX7_clear_6 (by decide) ?_
  obtain ⟨M7, c7, h⟩ := bdS h
  refine x_putI F (ci := 7) (C := RX7) (T := TX7) (N := 7) rfl ⟨by decide, rfl⟩ inU7 tyX7_ok nmX7 6 (by decide) rfl rfl wl_412 c7 dX7_clear_7 ?_
  obtain ⟨rfl, rfl⟩ := retS h
  exact x_vret F hr hl dX7_clear_10
theorem dX7_copyFrom_0 : decode cX7_copyFrom 0 = .ok (.aload_n 1, 1) := by decide +kernel
theorem dX7_copyFrom_1 : decode cX7_copyFrom 1 = .ok (.getfield 11, 3) := by decide +kernel
theorem dX7_copyFrom_4 : decode cX7_copyFrom 4 = .ok (.iconst 0, 1) := by decide +kernel
theorem dX7_copyFrom_5 : decode cX7_copyFrom 5 = .ok (.aload_n 0, 1) := by decide +kernel
theorem dX7_copyFrom_6 : decode cX7_copyFrom 6 = .ok (.getfield 11, 3) := by decide +kernel
theorem dX7_copyFrom_9 : decode cX7_copyFrom 9 = .ok (.iconst 0, 1) := by decide +kernel
theorem dX7_copyFrom_10 : decode cX7_copyFrom 10 = .ok (.bipush 40, 2) := by decide +kernel
theorem dX7_copyFrom_12 : decode cX7_copyFrom 12 = .ok (.invokestatic 35, 3) := by decide +kernel
theorem dX7_copyFrom_15 : decode cX7_copyFrom 15 = .ok (.aload_n 1, 1) := by decide +kernel
theorem dX7_copyFrom_16 : decode cX7_copyFrom 16 = .ok (.getfield 15, 3) := by decide +kernel
theorem dX7_copyFrom_19 : decode cX7_copyFrom 19 = .ok (.iconst 0, 1) := by decide +kernel
theorem dX7_copyFrom_20 : decode cX7_copyFrom 20 = .ok (.aload_n 0, 1) := by decide +kernel
theorem dX7_copyFrom_21 : decode cX7_copyFrom 21 = .ok (.getfield 15, 3) := by decide +kernel
theorem dX7_copyFrom_24 : decode cX7_copyFrom 24 = .ok (.iconst 0, 1) := by decide +kernel
theorem dX7_copyFrom_25 : decode cX7_copyFrom 25 = .ok (.bipush 40, 2) := by decide +kernel
theorem dX7_copyFrom_27 : decode cX7_copyFrom 27 = .ok (.invokestatic 35, 3) := by decide +kernel
theorem dX7_copyFrom_30 : decode cX7_copyFrom 30 = .ok (.aload_n 1, 1) := by decide +kernel
theorem dX7_copyFrom_31 : decode cX7_copyFrom 31 = .ok (.getfield 18, 3) := by decide +kernel
theorem dX7_copyFrom_34 : decode cX7_copyFrom 34 = .ok (.iconst 0, 1) := by decide +kernel
theorem dX7_copyFrom_35 : decode cX7_copyFrom 35 = .ok (.aload_n 0, 1) := by decide +kernel
theorem dX7_copyFrom_36 : decode cX7_copyFrom 36 = .ok (.getfield 18, 3) := by decide +kernel
theorem dX7_copyFrom_39 : decode cX7_copyFrom 39 = .ok (.iconst 0, 1) := by decide +kernel
theorem dX7_copyFrom_40 : decode cX7_copyFrom 40 = .ok (.bipush 40, 2) := by decide +kernel
theorem dX7_copyFrom_42 : decode cX7_copyFrom 42 = .ok (.invokestatic 35, 3) := by decide +kernel
theorem dX7_copyFrom_45 : decode cX7_copyFrom 45 = .ok (.aload_n 0, 1) := by decide +kernel
theorem dX7_copyFrom_46 : decode cX7_copyFrom 46 = .ok (.aload_n 1, 1) := by decide +kernel
theorem dX7_copyFrom_47 : decode cX7_copyFrom 47 = .ok (.getfield 24, 3) := by decide +kernel
theorem dX7_copyFrom_50 : decode cX7_copyFrom 50 = .ok (.putfield 24, 3) := by decide +kernel
theorem dX7_copyFrom_53 : decode cX7_copyFrom 53 = .ok (.aload_n 0, 1) := by decide +kernel
theorem dX7_copyFrom_54 : decode cX7_copyFrom 54 = .ok (.aload_n 1, 1) := by decide +kernel
theorem dX7_copyFrom_55 : decode cX7_copyFrom 55 = .ok (.getfield 28, 3) := by decide +kernel
theorem dX7_copyFrom_58 : decode cX7_copyFrom 58 = .ok (.putfield 28, 3) := by decide +kernel
theorem dX7_copyFrom_61 : decode cX7_copyFrom 61 = .ok (.return_, 1) := by decide +kernel
def fX7_copyFrom (N : Nat) (v0 : Nat) (v1 : Nat) (M : Mem) : Option (Unit × Mem) := ((fR M 7 v1 1).bind fun x1 => ((fR M 7 v0 1).bind fun x6 => ((cI M x1 0 x6 0 40).bind fun M12 => ((fR M12 7 v1 2).bind fun x16 => ((fR M12 7 v0 2).bind fun x21 => ((cI M12 x16 0 x21 0 40).bind fun M27 => ((fR M27 7 v1 3).bind fun x31 => ((fR M27 7 v0 3).bind fun x36 => ((cI M27 x31 0 x36 0 40).bind fun M42 => ((fI M42 7 v1 5).bind fun x47 => ((pI M42 7 v0 5 x47).bind fun M50 => ((fI M50 7 v1 6).bind fun x55 => ((pI M50 7 v0 6 x55).bind fun M58 => some ((), M58))))))))))))))
set_option maxHeartbeats 4000000 in
set_option maxRecDepth 100000 in
theorem k_X7_copyFrom (l : Launch) (b : Nat) (D : va_G) (cy : Nat → ClassId) (N : Nat) (v0 : Nat) (v1 : Nat) (M : Mem) (r : Unit) (Mf : Mem) (h : fX7_copyFrom N v0 v1 M = some (r, Mf)) : Ct l yX7_copyFrom cX7_copyFrom 2 none 1 0 0 b D cy [.ref (b + v0), .ref (b + v1)] M none Mf := by
  refine Ct_of (own := RX7) (by decide) rfl (Nat.le_of_ble_eq_true rfl) ?_
  intro p e s m args below meth c F hr hl hmn
  unfold fX7_copyFrom at h
  show X p l e ({ frames := 1, cells := 0, slots := 0, locals := 100 * 1 }) s m args below meth c (MQ below (Qm b D cy none Mf) args s 0 0 (fun q => b ≤ q)) 2 b D cy 0 0 M 0 [(0, .ref (b + v0)), (1, .ref (b + v1))] []
  refine x_aload_n F dX7_copyFrom_0 rfl 1 rfl ?_
  obtain ⟨x1, c1, h⟩ := bdS h
  refine x_getR F (ci := 7) (C := RX7) (T := TX7) (N := 7) rfl ⟨by decide, rfl⟩ inU7 1 (by decide) (fun _ _ _ => rfl) wl_407 c1 dX7_copyFrom_1 ?_
  refine x_iconst F (v := 0) dX7_copyFrom_4 (by decide) ?_
  refine x_aload_n F dX7_copyFrom_5 rfl 0 rfl ?_
  obtain ⟨x6, c6, h⟩ := bdS h
  refine x_getR F (ci := 7) (C := RX7) (T := TX7) (N := 7) rfl ⟨by decide, rfl⟩ inU7 1 (by decide) (fun _ _ _ => rfl) wl_407 c6 dX7_copyFrom_6 ?_
  refine x_iconst F (v := 0) dX7_copyFrom_9 (by decide) ?_
  refine x_bipush F (v := 40) dX7_copyFrom_10 (by decide) ?_
  obtain ⟨M12, c12, h⟩ := bdS h
  refine x_cI F wl_416 wl_24 wl_25 wl_26 (Nat.le_of_ble_eq_true rfl) (by decide +kernel) c12 dX7_copyFrom_12 ?_
  refine x_aload_n F dX7_copyFrom_15 rfl 1 rfl ?_
  obtain ⟨x16, c16, h⟩ := bdS h
  refine x_getR F (ci := 7) (C := RX7) (T := TX7) (N := 7) rfl ⟨by decide, rfl⟩ inU7 2 (by decide) (fun _ _ _ => rfl) wl_408 c16 dX7_copyFrom_16 ?_
  refine x_iconst F (v := 0) dX7_copyFrom_19 (by decide) ?_
  refine x_aload_n F dX7_copyFrom_20 rfl 0 rfl ?_
  obtain ⟨x21, c21, h⟩ := bdS h
  refine x_getR F (ci := 7) (C := RX7) (T := TX7) (N := 7) rfl ⟨by decide, rfl⟩ inU7 2 (by decide) (fun _ _ _ => rfl) wl_408 c21 dX7_copyFrom_21 ?_
  refine x_iconst F (v := 0) dX7_copyFrom_24 (by decide) ?_
  refine x_bipush F (v := 40) dX7_copyFrom_25 (by decide) ?_
  obtain ⟨M27, c27, h⟩ := bdS h
  refine x_cI F wl_416 wl_24 wl_25 wl_26 (Nat.le_of_ble_eq_true rfl) (by decide +kernel) c27 dX7_copyFrom_27 ?_
  refine x_aload_n F dX7_copyFrom_30 rfl 1 rfl ?_
  obtain ⟨x31, c31, h⟩ := bdS h
  refine x_getR F (ci := 7) (C := RX7) (T := TX7) (N := 7) rfl ⟨by decide, rfl⟩ inU7 3 (by decide) (fun _ _ _ => rfl) wl_409 c31 dX7_copyFrom_31 ?_
  refine x_iconst F (v := 0) dX7_copyFrom_34 (by decide) ?_
  refine x_aload_n F dX7_copyFrom_35 rfl 0 rfl ?_
  obtain ⟨x36, c36, h⟩ := bdS h
  refine x_getR F (ci := 7) (C := RX7) (T := TX7) (N := 7) rfl ⟨by decide, rfl⟩ inU7 3 (by decide) (fun _ _ _ => rfl) wl_409 c36 dX7_copyFrom_36 ?_
  refine x_iconst F (v := 0) dX7_copyFrom_39 (by decide) ?_
  refine x_bipush F (v := 40) dX7_copyFrom_40 (by decide) ?_
  obtain ⟨M42, c42, h⟩ := bdS h
  refine x_cI F wl_416 wl_24 wl_25 wl_26 (Nat.le_of_ble_eq_true rfl) (by decide +kernel) c42 dX7_copyFrom_42 ?_
  refine x_aload_n F dX7_copyFrom_45 rfl 0 rfl ?_
  refine x_aload_n F dX7_copyFrom_46 rfl 1 rfl ?_
  obtain ⟨x47, c47, h⟩ := bdS h
  refine x_getI F (ci := 7) (C := RX7) (T := TX7) (N := 7) rfl ⟨by decide, rfl⟩ inU7 5 (by decide) (fun _ _ _ => rfl) wl_411 c47 dX7_copyFrom_47 ?_
  obtain ⟨M50, c50, h⟩ := bdS h
  refine x_putI F (ci := 7) (C := RX7) (T := TX7) (N := 7) rfl ⟨by decide, rfl⟩ inU7 tyX7_ok nmX7 5 (by decide) rfl rfl wl_411 c50 dX7_copyFrom_50 ?_
  refine x_aload_n F dX7_copyFrom_53 rfl 0 rfl ?_
  refine x_aload_n F dX7_copyFrom_54 rfl 1 rfl ?_
  obtain ⟨x55, c55, h⟩ := bdS h
  refine x_getI F (ci := 7) (C := RX7) (T := TX7) (N := 7) rfl ⟨by decide, rfl⟩ inU7 6 (by decide) (fun _ _ _ => rfl) wl_412 c55 dX7_copyFrom_55 ?_
  obtain ⟨M58, c58, h⟩ := bdS h
  refine x_putI F (ci := 7) (C := RX7) (T := TX7) (N := 7) rfl ⟨by decide, rfl⟩ inU7 tyX7_ok nmX7 6 (by decide) rfl rfl wl_412 c58 dX7_copyFrom_58 ?_
  obtain ⟨rfl, rfl⟩ := retS h
  exact x_vret F hr hl dX7_copyFrom_61
theorem dX7_addStep_0 : decode cX7_addStep 0 = .ok (.aload_n 0, 1) := by decide +kernel
theorem dX7_addStep_1 : decode cX7_addStep 1 = .ok (.getfield 24, 3) := by decide +kernel
theorem dX7_addStep_4 : decode cX7_addStep 4 = .ok (.bipush 40, 2) := by decide +kernel
theorem dX7_addStep_6 : decode cX7_addStep 6 = .ok (.if_icmp .ge 43, 3) := by decide +kernel
theorem dX7_addStep_9 : decode cX7_addStep 9 = .ok (.aload_n 0, 1) := by decide +kernel
theorem dX7_addStep_10 : decode cX7_addStep 10 = .ok (.getfield 11, 3) := by decide +kernel
theorem dX7_addStep_13 : decode cX7_addStep 13 = .ok (.aload_n 0, 1) := by decide +kernel
theorem dX7_addStep_14 : decode cX7_addStep 14 = .ok (.getfield 24, 3) := by decide +kernel
theorem dX7_addStep_17 : decode cX7_addStep 17 = .ok (.iload_n 1, 1) := by decide +kernel
theorem dX7_addStep_18 : decode cX7_addStep 18 = .ok (.iastore, 1) := by decide +kernel
theorem dX7_addStep_19 : decode cX7_addStep 19 = .ok (.aload_n 0, 1) := by decide +kernel
theorem dX7_addStep_20 : decode cX7_addStep 20 = .ok (.getfield 15, 3) := by decide +kernel
theorem dX7_addStep_23 : decode cX7_addStep 23 = .ok (.aload_n 0, 1) := by decide +kernel
theorem dX7_addStep_24 : decode cX7_addStep 24 = .ok (.getfield 24, 3) := by decide +kernel
theorem dX7_addStep_27 : decode cX7_addStep 27 = .ok (.iload_n 2, 1) := by decide +kernel
theorem dX7_addStep_28 : decode cX7_addStep 28 = .ok (.iastore, 1) := by decide +kernel
theorem dX7_addStep_29 : decode cX7_addStep 29 = .ok (.aload_n 0, 1) := by decide +kernel
theorem dX7_addStep_30 : decode cX7_addStep 30 = .ok (.getfield 18, 3) := by decide +kernel
theorem dX7_addStep_33 : decode cX7_addStep 33 = .ok (.aload_n 0, 1) := by decide +kernel
theorem dX7_addStep_34 : decode cX7_addStep 34 = .ok (.getfield 24, 3) := by decide +kernel
theorem dX7_addStep_37 : decode cX7_addStep 37 = .ok (.iload_n 3, 1) := by decide +kernel
theorem dX7_addStep_38 : decode cX7_addStep 38 = .ok (.iastore, 1) := by decide +kernel
theorem dX7_addStep_39 : decode cX7_addStep 39 = .ok (.aload_n 0, 1) := by decide +kernel
theorem dX7_addStep_40 : decode cX7_addStep 40 = .ok (.dup, 1) := by decide +kernel
theorem dX7_addStep_41 : decode cX7_addStep 41 = .ok (.getfield 24, 3) := by decide +kernel
theorem dX7_addStep_44 : decode cX7_addStep 44 = .ok (.iconst 1, 1) := by decide +kernel
theorem dX7_addStep_45 : decode cX7_addStep 45 = .ok (.iadd, 1) := by decide +kernel
theorem dX7_addStep_46 : decode cX7_addStep 46 = .ok (.putfield 24, 3) := by decide +kernel
theorem dX7_addStep_49 : decode cX7_addStep 49 = .ok (.return_, 1) := by decide +kernel
def fX7_addStep (N : Nat) (v0 : Nat) (v1 : Int32) (v2 : Int32) (v3 : Int32) (M : Mem) : Option (Unit × Mem) := ((fI M 7 v0 5).bind fun x1 => (if 40 ≤ x1 then some ((), M) else ((fR M 7 v0 1).bind fun x10 => ((fI M 7 v0 5).bind fun x14 => ((tI M x10 x14 v1).bind fun M18 => ((fR M18 7 v0 2).bind fun x20 => ((fI M18 7 v0 5).bind fun x24 => ((tI M18 x20 x24 v2).bind fun M28 => ((fR M28 7 v0 3).bind fun x30 => ((fI M28 7 v0 5).bind fun x34 => ((tI M28 x30 x34 v3).bind fun M38 => ((fI M38 7 v0 5).bind fun x41 => ((pI M38 7 v0 5 (x41 + 1)).bind fun M46 => some ((), M46))))))))))))))
set_option maxHeartbeats 4000000 in
set_option maxRecDepth 100000 in
theorem k_X7_addStep (l : Launch) (b : Nat) (D : va_G) (cy : Nat → ClassId) (N : Nat) (v0 : Nat) (v1 : Int32) (v2 : Int32) (v3 : Int32) (M : Mem) (r : Unit) (Mf : Mem) (h : fX7_addStep N v0 v1 v2 v3 M = some (r, Mf)) : Ct l yX7_addStep cX7_addStep 4 none 1 0 0 b D cy [.ref (b + v0), .int v1, .int v2, .int v3] M none Mf := by
  refine Ct_of (own := RX7) (by decide) rfl (Nat.le_of_ble_eq_true rfl) ?_
  intro p e s m args below meth c F hr hl hmn
  unfold fX7_addStep at h
  show X p l e ({ frames := 1, cells := 0, slots := 0, locals := 100 * 1 }) s m args below meth c (MQ below (Qm b D cy none Mf) args s 0 0 (fun q => b ≤ q)) 4 b D cy 0 0 M 0 [(0, .ref (b + v0)), (1, .int v1), (2, .int v2), (3, .int v3)] []
  refine x_aload_n F dX7_addStep_0 rfl 0 rfl ?_
  obtain ⟨x1, c1, h⟩ := bdS h
  refine x_getI F (ci := 7) (C := RX7) (T := TX7) (N := 7) rfl ⟨by decide, rfl⟩ inU7 5 (by decide) (fun _ _ _ => rfl) wl_411 c1 dX7_addStep_1 ?_
  refine x_bipush F (v := 40) dX7_addStep_4 (by decide) ?_
  refine x_icmp_ge F (tgt := 49) dX7_addStep_6 (by decide) (fun c6 => ?_) (fun c6 => ?_)
  · rw [if_pos c6] at h
    obtain ⟨rfl, rfl⟩ := retS h
    exact x_vret F hr hl dX7_addStep_49
  · rw [if_neg c6] at h
    refine x_aload_n F dX7_addStep_9 rfl 0 rfl ?_
    obtain ⟨x10, c10, h⟩ := bdS h
    refine x_getR F (ci := 7) (C := RX7) (T := TX7) (N := 7) rfl ⟨by decide, rfl⟩ inU7 1 (by decide) (fun _ _ _ => rfl) wl_407 c10 dX7_addStep_10 ?_
    refine x_aload_n F dX7_addStep_13 rfl 0 rfl ?_
    obtain ⟨x14, c14, h⟩ := bdS h
    refine x_getI F (ci := 7) (C := RX7) (T := TX7) (N := 7) rfl ⟨by decide, rfl⟩ inU7 5 (by decide) (fun _ _ _ => rfl) wl_411 c14 dX7_addStep_14 ?_
    refine x_iload_n F dX7_addStep_17 rfl 1 rfl ?_
    obtain ⟨M18, c18, h⟩ := bdS h
    refine x_tI F c18 dX7_addStep_18 ?_
    refine x_aload_n F dX7_addStep_19 rfl 0 rfl ?_
    obtain ⟨x20, c20, h⟩ := bdS h
    refine x_getR F (ci := 7) (C := RX7) (T := TX7) (N := 7) rfl ⟨by decide, rfl⟩ inU7 2 (by decide) (fun _ _ _ => rfl) wl_408 c20 dX7_addStep_20 ?_
    refine x_aload_n F dX7_addStep_23 rfl 0 rfl ?_
    obtain ⟨x24, c24, h⟩ := bdS h
    refine x_getI F (ci := 7) (C := RX7) (T := TX7) (N := 7) rfl ⟨by decide, rfl⟩ inU7 5 (by decide) (fun _ _ _ => rfl) wl_411 c24 dX7_addStep_24 ?_
    refine x_iload_n F dX7_addStep_27 rfl 2 rfl ?_
    obtain ⟨M28, c28, h⟩ := bdS h
    refine x_tI F c28 dX7_addStep_28 ?_
    refine x_aload_n F dX7_addStep_29 rfl 0 rfl ?_
    obtain ⟨x30, c30, h⟩ := bdS h
    refine x_getR F (ci := 7) (C := RX7) (T := TX7) (N := 7) rfl ⟨by decide, rfl⟩ inU7 3 (by decide) (fun _ _ _ => rfl) wl_409 c30 dX7_addStep_30 ?_
    refine x_aload_n F dX7_addStep_33 rfl 0 rfl ?_
    obtain ⟨x34, c34, h⟩ := bdS h
    refine x_getI F (ci := 7) (C := RX7) (T := TX7) (N := 7) rfl ⟨by decide, rfl⟩ inU7 5 (by decide) (fun _ _ _ => rfl) wl_411 c34 dX7_addStep_34 ?_
    refine x_iload_n F dX7_addStep_37 rfl 3 rfl ?_
    obtain ⟨M38, c38, h⟩ := bdS h
    refine x_tI F c38 dX7_addStep_38 ?_
    refine x_aload_n F dX7_addStep_39 rfl 0 rfl ?_
    refine x_dup F dX7_addStep_40 rfl ?_
    obtain ⟨x41, c41, h⟩ := bdS h
    refine x_getI F (ci := 7) (C := RX7) (T := TX7) (N := 7) rfl ⟨by decide, rfl⟩ inU7 5 (by decide) (fun _ _ _ => rfl) wl_411 c41 dX7_addStep_41 ?_
    refine x_iconst F (v := 1) dX7_addStep_44 (by decide) ?_
    refine x_iadd F dX7_addStep_45 ?_
    obtain ⟨M46, c46, h⟩ := bdS h
    refine x_putI F (ci := 7) (C := RX7) (T := TX7) (N := 7) rfl ⟨by decide, rfl⟩ inU7 tyX7_ok nmX7 5 (by decide) rfl rfl wl_411 c46 dX7_addStep_46 ?_
    obtain ⟨rfl, rfl⟩ := retS h
    exact x_vret F hr hl dX7_addStep_49
theorem dX7_takeRelation_0 : decode cX7_takeRelation 0 = .ok (.aload_n 0, 1) := by decide +kernel
theorem dX7_takeRelation_1 : decode cX7_takeRelation 1 = .ok (.getfield 113, 3) := by decide +kernel
theorem dX7_takeRelation_4 : decode cX7_takeRelation 4 = .ok (.istore_n 1, 1) := by decide +kernel
theorem dX7_takeRelation_5 : decode cX7_takeRelation 5 = .ok (.aload_n 0, 1) := by decide +kernel
theorem dX7_takeRelation_6 : decode cX7_takeRelation 6 = .ok (.bipush 60, 2) := by decide +kernel
theorem dX7_takeRelation_8 : decode cX7_takeRelation 8 = .ok (.invokevirtual 76, 3) := by decide +kernel
theorem dX7_takeRelation_11 : decode cX7_takeRelation 11 = .ok (.ifCond .ne 21, 3) := by decide +kernel
theorem dX7_takeRelation_14 : decode cX7_takeRelation 14 = .ok (.aload_n 0, 1) := by decide +kernel
theorem dX7_takeRelation_15 : decode cX7_takeRelation 15 = .ok (.bipush 61, 2) := by decide +kernel
theorem dX7_takeRelation_17 : decode cX7_takeRelation 17 = .ok (.invokevirtual 76, 3) := by decide +kernel
theorem dX7_takeRelation_20 : decode cX7_takeRelation 20 = .ok (.ifCond .ne 12, 3) := by decide +kernel
theorem dX7_takeRelation_23 : decode cX7_takeRelation 23 = .ok (.aload_n 0, 1) := by decide +kernel
theorem dX7_takeRelation_24 : decode cX7_takeRelation 24 = .ok (.bipush 62, 2) := by decide +kernel
theorem dX7_takeRelation_26 : decode cX7_takeRelation 26 = .ok (.invokevirtual 76, 3) := by decide +kernel
theorem dX7_takeRelation_29 : decode cX7_takeRelation 29 = .ok (.ifCond .eq 10, 3) := by decide +kernel
theorem dX7_takeRelation_32 : decode cX7_takeRelation 32 = .ok (.aload_n 0, 1) := by decide +kernel
theorem dX7_takeRelation_33 : decode cX7_takeRelation 33 = .ok (.invokevirtual 69, 3) := by decide +kernel
theorem dX7_takeRelation_36 : decode cX7_takeRelation 36 = .ok (.goto 8, 3) := by decide +kernel
theorem dX7_takeRelation_39 : decode cX7_takeRelation 39 = .ok (.aload_n 0, 1) := by decide +kernel
theorem dX7_takeRelation_40 : decode cX7_takeRelation 40 = .ok (.iconst 1, 1) := by decide +kernel
theorem dX7_takeRelation_41 : decode cX7_takeRelation 41 = .ok (.invokevirtual 57, 3) := by decide +kernel
theorem dX7_takeRelation_44 : decode cX7_takeRelation 44 = .ok (.iload_n 1, 1) := by decide +kernel
theorem dX7_takeRelation_45 : decode cX7_takeRelation 45 = .ok (.ireturn, 1) := by decide +kernel
def fX7_takeRelation (N : Nat) (v0 : Nat) (M : Mem) : Option (Int32 × Mem) := ((fI M 9 v0 7).bind fun x1 => (if mK M v0 = 10 then ((fX9_atMark N v0 60 M).bind fun (x8, M8) => (if x8 = 0 then (if mK M8 v0 = 10 then ((fX9_atMark N v0 61 M8).bind fun (x17, M17) => (if x17 = 0 then (if mK M17 v0 = 10 then ((fX9_atMark N v0 62 M17).bind fun (x26, M26) => (if x26 = 0 then (if mK M26 v0 = 10 then ((fX9_fail N v0 1 M26).bind fun (u41, M41) => some (x1, M41)) else none) else (if mK M26 v0 = 10 then ((fX9_advance N v0 M26).bind fun (u33, M33) => some (x1, M33)) else none))) else none) else (if mK M17 v0 = 10 then ((fX9_advance N v0 M17).bind fun (u33, M33) => some (x1, M33)) else none))) else none) else (if mK M8 v0 = 10 then ((fX9_advance N v0 M8).bind fun (u33, M33) => some (x1, M33)) else none))) else none))
set_option maxHeartbeats 4000000 in
set_option maxRecDepth 100000 in
theorem k_X7_takeRelation (l : Launch) (b : Nat) (D : va_G) (cy : Nat → ClassId) (N : Nat) (v0 : Nat) (M : Mem) (r : Int32) (Mf : Mem) (h : fX7_takeRelation N v0 M = some (r, Mf)) : Ct l yX7_takeRelation cX7_takeRelation 2 (some .int) 3 0 0 b D cy [.ref (b + v0)] M (some (.int r)) Mf := by
  refine Ct_of (own := RX7) (by decide) rfl (Nat.le_of_ble_eq_true rfl) ?_
  intro p e s m args below meth c F hr hl hmn
  unfold fX7_takeRelation at h
  show X p l e ({ frames := 3, cells := 0, slots := 0, locals := 100 * 3 }) s m args below meth c (MQ below (Qm b D cy (some (.int r)) Mf) args s 0 0 (fun q => b ≤ q)) 2 b D cy 0 0 M 0 [(0, .ref (b + v0))] []
  refine x_aload_n F dX7_takeRelation_0 rfl 0 rfl ?_
  obtain ⟨x1, c1, h⟩ := bdS h
  refine x_getI F (ci := 9) (C := RX9) (T := TX9) (N := 12) rfl ⟨by decide, rfl⟩ inU9 7 (by decide) (fun _ _ _ => rfl) wl_418 c1 dX7_takeRelation_1 ?_
  refine x_istore_n F (lv' := [(1, .int x1), (0, .ref (b + v0))]) dX7_takeRelation_4 rfl (by decide) rfl ?_
  refine x_aload_n F dX7_takeRelation_5 rfl 1 rfl ?_
  refine x_bipush F (v := 60) dX7_takeRelation_6 (by decide) ?_
  obtain ⟨k8, h⟩ := gdS h
  obtain ⟨⟨x8, M8⟩, c8, h⟩ := bdS h
  dsimp only at h
  refine x_callV F (As := [.int 60]) (rest := []) (res := (some (.int x8))) (ci := 9) (q := (RX9, TX9, 12)) rfl (by decide) k8 (k_X9_atMark l b D cy N v0 60 M _ _ c8) wl_419 wl_223 wl_224 wl_164 wl_221 hd_X9_atMark ⟨Nat.le_of_ble_eq_true rfl, Nat.le_of_ble_eq_true rfl⟩ ⟨Nat.le_refl _, Nat.le_refl _⟩ (Nat.le_of_ble_eq_true rfl) rfl dX7_takeRelation_8 ?_
  refine x_if_ne F (tgt := 32) dX7_takeRelation_11 (by decide) (fun c11 => ?_) (fun c11 => ?_)
  · rw [if_neg c11] at h
    refine x_aload_n F dX7_takeRelation_32 rfl 1 rfl ?_
    obtain ⟨k33, h⟩ := gdS h
    obtain ⟨⟨u33, M33⟩, c33, h⟩ := bdS h
    dsimp only at h
    refine x_callV F (As := []) (rest := []) (res := none) (ci := 9) (q := (RX9, TX9, 12)) rfl (by decide) k33 (k_X9_advance l b D cy N v0 M8 _ _ c33) wl_420 wl_178 wl_179 wl_164 wl_174 hd_X9_advance ⟨Nat.le_of_ble_eq_true rfl, Nat.le_of_ble_eq_true rfl⟩ ⟨Nat.le_refl _, Nat.le_refl _⟩ (Nat.le_of_ble_eq_true rfl) rfl dX7_takeRelation_33 ?_
    refine x_goto F (tgt := 44) dX7_takeRelation_36 (by decide) ?_
    refine x_iload_n F dX7_takeRelation_44 rfl 0 rfl ?_
    obtain ⟨rfl, rfl⟩ := retS h
    exact x_iret F hr hl dX7_takeRelation_45
  · rw [if_pos c11] at h
    refine x_aload_n F dX7_takeRelation_14 rfl 1 rfl ?_
    refine x_bipush F (v := 61) dX7_takeRelation_15 (by decide) ?_
    obtain ⟨k17, h⟩ := gdS h
    obtain ⟨⟨x17, M17⟩, c17, h⟩ := bdS h
    dsimp only at h
    refine x_callV F (As := [.int 61]) (rest := []) (res := (some (.int x17))) (ci := 9) (q := (RX9, TX9, 12)) rfl (by decide) k17 (k_X9_atMark l b D cy N v0 61 M8 _ _ c17) wl_419 wl_223 wl_224 wl_164 wl_221 hd_X9_atMark ⟨Nat.le_of_ble_eq_true rfl, Nat.le_of_ble_eq_true rfl⟩ ⟨Nat.le_refl _, Nat.le_refl _⟩ (Nat.le_of_ble_eq_true rfl) rfl dX7_takeRelation_17 ?_
    refine x_if_ne F (tgt := 32) dX7_takeRelation_20 (by decide) (fun c20 => ?_) (fun c20 => ?_)
    · rw [if_neg c20] at h
      refine x_aload_n F dX7_takeRelation_32 rfl 1 rfl ?_
      obtain ⟨k33, h⟩ := gdS h
      obtain ⟨⟨u33, M33⟩, c33, h⟩ := bdS h
      dsimp only at h
      refine x_callV F (As := []) (rest := []) (res := none) (ci := 9) (q := (RX9, TX9, 12)) rfl (by decide) k33 (k_X9_advance l b D cy N v0 M17 _ _ c33) wl_420 wl_178 wl_179 wl_164 wl_174 hd_X9_advance ⟨Nat.le_of_ble_eq_true rfl, Nat.le_of_ble_eq_true rfl⟩ ⟨Nat.le_refl _, Nat.le_refl _⟩ (Nat.le_of_ble_eq_true rfl) rfl dX7_takeRelation_33 ?_
      refine x_goto F (tgt := 44) dX7_takeRelation_36 (by decide) ?_
      refine x_iload_n F dX7_takeRelation_44 rfl 0 rfl ?_
      obtain ⟨rfl, rfl⟩ := retS h
      exact x_iret F hr hl dX7_takeRelation_45
    · rw [if_pos c20] at h
      refine x_aload_n F dX7_takeRelation_23 rfl 1 rfl ?_
      refine x_bipush F (v := 62) dX7_takeRelation_24 (by decide) ?_
      obtain ⟨k26, h⟩ := gdS h
      obtain ⟨⟨x26, M26⟩, c26, h⟩ := bdS h
      dsimp only at h
      refine x_callV F (As := [.int 62]) (rest := []) (res := (some (.int x26))) (ci := 9) (q := (RX9, TX9, 12)) rfl (by decide) k26 (k_X9_atMark l b D cy N v0 62 M17 _ _ c26) wl_419 wl_223 wl_224 wl_164 wl_221 hd_X9_atMark ⟨Nat.le_of_ble_eq_true rfl, Nat.le_of_ble_eq_true rfl⟩ ⟨Nat.le_refl _, Nat.le_refl _⟩ (Nat.le_of_ble_eq_true rfl) rfl dX7_takeRelation_26 ?_
      refine x_if_eq F (tgt := 39) dX7_takeRelation_29 (by decide) (fun c29 => ?_) (fun c29 => ?_)
      · rw [if_pos c29] at h
        refine x_aload_n F dX7_takeRelation_39 rfl 1 rfl ?_
        refine x_iconst F (v := 1) dX7_takeRelation_40 (by decide) ?_
        obtain ⟨k41, h⟩ := gdS h
        obtain ⟨⟨u41, M41⟩, c41, h⟩ := bdS h
        dsimp only at h
        refine x_callV F (As := [.int 1]) (rest := []) (res := none) (ci := 9) (q := (RX9, TX9, 12)) rfl (by decide) k41 (k_X9_fail l b D cy N v0 1 M26 _ _ c41) wl_421 wl_185 wl_186 wl_164 wl_182 hd_X9_fail ⟨Nat.le_of_ble_eq_true rfl, Nat.le_of_ble_eq_true rfl⟩ ⟨Nat.le_refl _, Nat.le_refl _⟩ (Nat.le_of_ble_eq_true rfl) rfl dX7_takeRelation_41 ?_
        refine x_iload_n F dX7_takeRelation_44 rfl 0 rfl ?_
        obtain ⟨rfl, rfl⟩ := retS h
        exact x_iret F hr hl dX7_takeRelation_45
      · rw [if_neg c29] at h
        refine x_aload_n F dX7_takeRelation_32 rfl 1 rfl ?_
        obtain ⟨k33, h⟩ := gdS h
        obtain ⟨⟨u33, M33⟩, c33, h⟩ := bdS h
        dsimp only at h
        refine x_callV F (As := []) (rest := []) (res := none) (ci := 9) (q := (RX9, TX9, 12)) rfl (by decide) k33 (k_X9_advance l b D cy N v0 M26 _ _ c33) wl_420 wl_178 wl_179 wl_164 wl_174 hd_X9_advance ⟨Nat.le_of_ble_eq_true rfl, Nat.le_of_ble_eq_true rfl⟩ ⟨Nat.le_refl _, Nat.le_refl _⟩ (Nat.le_of_ble_eq_true rfl) rfl dX7_takeRelation_33 ?_
        refine x_goto F (tgt := 44) dX7_takeRelation_36 (by decide) ?_
        refine x_iload_n F dX7_takeRelation_44 rfl 0 rfl ?_
        obtain ⟨rfl, rfl⟩ := retS h
        exact x_iret F hr hl dX7_takeRelation_45
theorem hd_X7_addStep : (yX7_addStep).cls = RX7 ∧ (yX7_addStep).cls ≠ "java/lang/invoke/MethodHandle" ∧ (yX7_addStep).cls ≠ "java/lang/invoke/VarHandle" ∧ (parseMethodDescriptor (yX7_addStep).desc).map (fun d => d.parameters.length) = some 3 := by decide +kernel
theorem hd_X7_takeRelation : (yX7_takeRelation).cls = RX7 ∧ (yX7_takeRelation).cls ≠ "java/lang/invoke/MethodHandle" ∧ (yX7_takeRelation).cls ≠ "java/lang/invoke/VarHandle" ∧ (parseMethodDescriptor (yX7_takeRelation).desc).map (fun d => d.parameters.length) = some 1 := by decide +kernel
theorem dX7_readPlain_0 : decode cX7_readPlain 0 = .ok (.iconst 0, 1) := by decide +kernel
theorem dX7_readPlain_1 : decode cX7_readPlain 1 = .ok (.istore_n 3, 1) := by decide +kernel
theorem dX7_readPlain_2 : decode cX7_readPlain 2 = .ok (.iconst 0, 1) := by decide +kernel
theorem dX7_readPlain_3 : decode cX7_readPlain 3 = .ok (.istore 4, 2) := by decide +kernel
theorem dX7_readPlain_5 : decode cX7_readPlain 5 = .ok (.iload_n 2, 1) := by decide +kernel
theorem dX7_readPlain_6 : decode cX7_readPlain 6 = .ok (.bipush 14, 2) := by decide +kernel
theorem dX7_readPlain_8 : decode cX7_readPlain 8 = .ok (.if_icmp .ne 25, 3) := by decide +kernel
theorem dX7_readPlain_11 : decode cX7_readPlain 11 = .ok (.aload_n 1, 1) := by decide +kernel
theorem dX7_readPlain_12 : decode cX7_readPlain 12 = .ok (.aload_n 0, 1) := by decide +kernel
theorem dX7_readPlain_13 : decode cX7_readPlain 13 = .ok (.getfield 31, 3) := by decide +kernel
theorem dX7_readPlain_16 : decode cX7_readPlain 16 = .ok (.getfield 86, 3) := by decide +kernel
theorem dX7_readPlain_19 : decode cX7_readPlain 19 = .ok (.aload_n 0, 1) := by decide +kernel
theorem dX7_readPlain_20 : decode cX7_readPlain 20 = .ok (.getfield 31, 3) := by decide +kernel
theorem dX7_readPlain_23 : decode cX7_readPlain 23 = .ok (.getfield 92, 3) := by decide +kernel
theorem dX7_readPlain_26 : decode cX7_readPlain 26 = .ok (.invokevirtual 95, 3) := by decide +kernel
theorem dX7_readPlain_29 : decode cX7_readPlain 29 = .ok (.istore_n 3, 1) := by decide +kernel
theorem dX7_readPlain_30 : decode cX7_readPlain 30 = .ok (.goto 52, 3) := by decide +kernel
theorem dX7_readPlain_33 : decode cX7_readPlain 33 = .ok (.iload_n 2, 1) := by decide +kernel
theorem dX7_readPlain_34 : decode cX7_readPlain 34 = .ok (.bipush 15, 2) := by decide +kernel
theorem dX7_readPlain_36 : decode cX7_readPlain 36 = .ok (.if_icmp .ne 25, 3) := by decide +kernel
theorem dX7_readPlain_39 : decode cX7_readPlain 39 = .ok (.aload_n 1, 1) := by decide +kernel
theorem dX7_readPlain_40 : decode cX7_readPlain 40 = .ok (.aload_n 0, 1) := by decide +kernel
theorem dX7_readPlain_41 : decode cX7_readPlain 41 = .ok (.getfield 31, 3) := by decide +kernel
theorem dX7_readPlain_44 : decode cX7_readPlain 44 = .ok (.getfield 99, 3) := by decide +kernel
theorem dX7_readPlain_47 : decode cX7_readPlain 47 = .ok (.aload_n 0, 1) := by decide +kernel
theorem dX7_readPlain_48 : decode cX7_readPlain 48 = .ok (.getfield 31, 3) := by decide +kernel
theorem dX7_readPlain_51 : decode cX7_readPlain 51 = .ok (.getfield 102, 3) := by decide +kernel
theorem dX7_readPlain_54 : decode cX7_readPlain 54 = .ok (.invokevirtual 95, 3) := by decide +kernel
theorem dX7_readPlain_57 : decode cX7_readPlain 57 = .ok (.istore_n 3, 1) := by decide +kernel
theorem dX7_readPlain_58 : decode cX7_readPlain 58 = .ok (.goto 24, 3) := by decide +kernel
theorem dX7_readPlain_61 : decode cX7_readPlain 61 = .ok (.iload_n 2, 1) := by decide +kernel
theorem dX7_readPlain_62 : decode cX7_readPlain 62 = .ok (.bipush 16, 2) := by decide +kernel
theorem dX7_readPlain_64 : decode cX7_readPlain 64 = .ok (.if_icmp .lt 18, 3) := by decide +kernel
theorem dX7_readPlain_67 : decode cX7_readPlain 67 = .ok (.aload_n 1, 1) := by decide +kernel
theorem dX7_readPlain_68 : decode cX7_readPlain 68 = .ok (.invokestatic 105, 3) := by decide +kernel
theorem dX7_readPlain_71 : decode cX7_readPlain 71 = .ok (.istore_n 3, 1) := by decide +kernel
theorem dX7_readPlain_72 : decode cX7_readPlain 72 = .ok (.aload_n 1, 1) := by decide +kernel
theorem dX7_readPlain_73 : decode cX7_readPlain 73 = .ok (.iconst 0, 1) := by decide +kernel
theorem dX7_readPlain_74 : decode cX7_readPlain 74 = .ok (.sipush 999, 3) := by decide +kernel
theorem dX7_readPlain_77 : decode cX7_readPlain 77 = .ok (.invokevirtual 109, 3) := by decide +kernel
theorem dX7_readPlain_80 : decode cX7_readPlain 80 = .ok (.istore 4, 2) := by decide +kernel
theorem dX7_readPlain_82 : decode cX7_readPlain 82 = .ok (.aload_n 0, 1) := by decide +kernel
theorem dX7_readPlain_83 : decode cX7_readPlain 83 = .ok (.iload_n 2, 1) := by decide +kernel
theorem dX7_readPlain_84 : decode cX7_readPlain 84 = .ok (.iload_n 3, 1) := by decide +kernel
theorem dX7_readPlain_85 : decode cX7_readPlain 85 = .ok (.iload 4, 2) := by decide +kernel
theorem dX7_readPlain_87 : decode cX7_readPlain 87 = .ok (.invokevirtual 72, 3) := by decide +kernel
theorem dX7_readPlain_90 : decode cX7_readPlain 90 = .ok (.return_, 1) := by decide +kernel
def fX7_readPlain (N : Nat) (v0 : Nat) (v1 : Nat) (v2 : Int32) (M : Mem) : Option (Unit × Mem) := (if v2 = 14 then ((fR M 7 v0 0).bind fun x13 => ((fR M 8 x13 10).bind fun x16 => ((fR M 7 v0 0).bind fun x20 => ((fI M 8 x20 9).bind fun x23 => (if mK M v1 = 10 then ((fX9_takeNameOf N v1 x16 x23 M).bind fun (x26, M26) => (if mK M26 v0 = 8 then ((fX7_addStep N v0 v2 x26 0 M26).bind fun (u87, M87) => some ((), M87)) else none)) else none))))) else (if v2 = 15 then ((fR M 7 v0 0).bind fun x41 => ((fR M 8 x41 7).bind fun x44 => ((fR M 7 v0 0).bind fun x48 => ((fI M 8 x48 6).bind fun x51 => (if mK M v1 = 10 then ((fX9_takeNameOf N v1 x44 x51 M).bind fun (x54, M54) => (if mK M54 v0 = 8 then ((fX7_addStep N v0 v2 x54 0 M54).bind fun (u87, M87) => some ((), M87)) else none)) else none))))) else (if v2 < 16 then (if mK M v0 = 8 then ((fX7_addStep N v0 v2 0 0 M).bind fun (u87, M87) => some ((), M87)) else none) else ((fX7_takeRelation N v1 M).bind fun (x68, M68) => (if mK M68 v1 = 10 then ((fX9_takeNumber N v1 0 999 M68).bind fun (x77, M77) => (if mK M77 v0 = 8 then ((fX7_addStep N v0 v2 x68 x77 M77).bind fun (u87, M87) => some ((), M87)) else none)) else none)))))
set_option maxHeartbeats 4000000 in
set_option maxRecDepth 100000 in
theorem k_X7_readPlain (l : Launch) (b : Nat) (D : va_G) (cy : Nat → ClassId) (N : Nat) (v0 : Nat) (v1 : Nat) (v2 : Int32) (M : Mem) (r : Unit) (Mf : Mem) (h : fX7_readPlain N v0 v1 v2 M = some (r, Mf)) : Ct l yX7_readPlain cX7_readPlain 5 none 4 0 0 b D cy [.ref (b + v0), .ref (b + v1), .int v2] M none Mf := by
  refine Ct_of (own := RX7) (by decide) rfl (Nat.le_of_ble_eq_true rfl) ?_
  intro p e s m args below meth c F hr hl hmn
  unfold fX7_readPlain at h
  show X p l e ({ frames := 4, cells := 0, slots := 0, locals := 100 * 4 }) s m args below meth c (MQ below (Qm b D cy none Mf) args s 0 0 (fun q => b ≤ q)) 5 b D cy 0 0 M 0 [(0, .ref (b + v0)), (1, .ref (b + v1)), (2, .int v2)] []
  refine x_iconst F (v := 0) dX7_readPlain_0 (by decide) ?_
  refine x_istore_n F (lv' := [(3, .int 0), (0, .ref (b + v0)), (1, .ref (b + v1)), (2, .int v2)]) dX7_readPlain_1 rfl (by decide) rfl ?_
  refine x_iconst F (v := 0) dX7_readPlain_2 (by decide) ?_
  refine x_istore F (lv' := [(4, .int 0), (3, .int 0), (0, .ref (b + v0)), (1, .ref (b + v1)), (2, .int v2)]) dX7_readPlain_3 (by decide) rfl ?_
  refine x_iload_n F dX7_readPlain_5 rfl 4 rfl ?_
  refine x_bipush F (v := 14) dX7_readPlain_6 (by decide) ?_
  refine x_icmp_ne F (tgt := 33) dX7_readPlain_8 (by decide) (fun c8 => ?_) (fun c8 => ?_)
  · rw [if_neg c8] at h
    refine x_iload_n F dX7_readPlain_33 rfl 4 rfl ?_
    refine x_bipush F (v := 15) dX7_readPlain_34 (by decide) ?_
    refine x_icmp_ne F (tgt := 61) dX7_readPlain_36 (by decide) (fun c36 => ?_) (fun c36 => ?_)
    · rw [if_neg c36] at h
      refine x_iload_n F dX7_readPlain_61 rfl 4 rfl ?_
      refine x_bipush F (v := 16) dX7_readPlain_62 (by decide) ?_
      refine x_icmp_lt F (tgt := 82) dX7_readPlain_64 (by decide) (fun c64 => ?_) (fun c64 => ?_)
      · rw [if_pos c64] at h
        refine x_aload_n F dX7_readPlain_82 rfl 2 rfl ?_
        refine x_iload_n F dX7_readPlain_83 rfl 4 rfl ?_
        refine x_iload_n F dX7_readPlain_84 rfl 1 rfl ?_
        refine x_iload F dX7_readPlain_85 0 rfl ?_
        obtain ⟨k87, h⟩ := gdS h
        obtain ⟨⟨u87, M87⟩, c87, h⟩ := bdS h
        dsimp only at h
        refine x_callV F (As := [.int v2, .int 0, .int 0]) (rest := []) (res := none) (ci := 7) (q := (RX7, TX7, 7)) rfl (by decide) k87 (k_X7_addStep l b D cy N v0 v2 0 0 M _ _ c87) wl_432 wl_433 wl_434 wl_430 wl_417 hd_X7_addStep ⟨Nat.le_of_ble_eq_true rfl, Nat.le_of_ble_eq_true rfl⟩ ⟨Nat.le_refl _, Nat.le_refl _⟩ (Nat.le_of_ble_eq_true rfl) rfl dX7_readPlain_87 ?_
        obtain ⟨rfl, rfl⟩ := retS h
        exact x_vret F hr hl dX7_readPlain_90
      · rw [if_neg c64] at h
        refine x_aload_n F dX7_readPlain_67 rfl 3 rfl ?_
        obtain ⟨⟨x68, M68⟩, c68, h⟩ := bdS h
        dsimp only at h
        refine x_callS F (As := [.ref (b + v1)]) (rest := []) (res := (some (.int x68))) (k_X7_takeRelation l b D cy N v1 M _ _ c68) wl_428 wl_429 wl_430 wl_422 (hd_X7_takeRelation).2 ⟨Nat.le_of_ble_eq_true rfl, Nat.le_of_ble_eq_true rfl⟩ ⟨Nat.le_refl _, Nat.le_refl _⟩ (Nat.le_of_ble_eq_true rfl) rfl dX7_readPlain_68 ?_
        refine x_istore_n F (lv' := [(3, .int x68), (4, .int 0), (0, .ref (b + v0)), (1, .ref (b + v1)), (2, .int v2)]) dX7_readPlain_71 rfl (by decide) rfl ?_
        refine x_aload_n F dX7_readPlain_72 rfl 3 rfl ?_
        refine x_iconst F (v := 0) dX7_readPlain_73 (by decide) ?_
        refine x_sipush F (v := 999) dX7_readPlain_74 (by decide) ?_
        obtain ⟨k77, h⟩ := gdS h
        obtain ⟨⟨x77, M77⟩, c77, h⟩ := bdS h
        dsimp only at h
        refine x_callV F (As := [.int 0, .int 999]) (rest := []) (res := (some (.int x77))) (ci := 9) (q := (RX9, TX9, 12)) rfl (by decide) k77 (k_X9_takeNumber l b D cy N v1 0 999 M68 _ _ c77) wl_431 wl_203 wl_204 wl_164 wl_187 hd_X9_takeNumber ⟨Nat.le_of_ble_eq_true rfl, Nat.le_of_ble_eq_true rfl⟩ ⟨Nat.le_refl _, Nat.le_refl _⟩ (Nat.le_of_ble_eq_true rfl) rfl dX7_readPlain_77 ?_
        refine x_istore F (lv' := [(4, .int x77), (3, .int x68), (0, .ref (b + v0)), (1, .ref (b + v1)), (2, .int v2)]) dX7_readPlain_80 (by decide) rfl ?_
        refine x_aload_n F dX7_readPlain_82 rfl 2 rfl ?_
        refine x_iload_n F dX7_readPlain_83 rfl 4 rfl ?_
        refine x_iload_n F dX7_readPlain_84 rfl 1 rfl ?_
        refine x_iload F dX7_readPlain_85 0 rfl ?_
        obtain ⟨k87, h⟩ := gdS h
        obtain ⟨⟨u87, M87⟩, c87, h⟩ := bdS h
        dsimp only at h
        refine x_callV F (As := [.int v2, .int x68, .int x77]) (rest := []) (res := none) (ci := 7) (q := (RX7, TX7, 7)) rfl (by decide) k87 (k_X7_addStep l b D cy N v0 v2 x68 x77 M77 _ _ c87) wl_432 wl_433 wl_434 wl_430 wl_417 hd_X7_addStep ⟨Nat.le_of_ble_eq_true rfl, Nat.le_of_ble_eq_true rfl⟩ ⟨Nat.le_refl _, Nat.le_refl _⟩ (Nat.le_of_ble_eq_true rfl) rfl dX7_readPlain_87 ?_
        obtain ⟨rfl, rfl⟩ := retS h
        exact x_vret F hr hl dX7_readPlain_90
    · rw [if_pos c36] at h
      refine x_aload_n F dX7_readPlain_39 rfl 3 rfl ?_
      refine x_aload_n F dX7_readPlain_40 rfl 2 rfl ?_
      obtain ⟨x41, c41, h⟩ := bdS h
      refine x_getR F (ci := 7) (C := RX7) (T := TX7) (N := 7) rfl ⟨by decide, rfl⟩ inU7 0 (by decide) (fun _ _ _ => rfl) wl_413 c41 dX7_readPlain_41 ?_
      obtain ⟨x44, c44, h⟩ := bdS h
      refine x_getR F (ci := 8) (C := RX8) (T := TX8) (N := 17) rfl ⟨by decide, rfl⟩ inU8 7 (by decide) (fun _ _ _ => rfl) wl_425 c44 dX7_readPlain_44 ?_
      refine x_aload_n F dX7_readPlain_47 rfl 2 rfl ?_
      obtain ⟨x48, c48, h⟩ := bdS h
      refine x_getR F (ci := 7) (C := RX7) (T := TX7) (N := 7) rfl ⟨by decide, rfl⟩ inU7 0 (by decide) (fun _ _ _ => rfl) wl_413 c48 dX7_readPlain_48 ?_
      obtain ⟨x51, c51, h⟩ := bdS h
      refine x_getI F (ci := 8) (C := RX8) (T := TX8) (N := 17) rfl ⟨by decide, rfl⟩ inU8 6 (by decide) (fun _ _ _ => rfl) wl_426 c51 dX7_readPlain_51 ?_
      obtain ⟨k54, h⟩ := gdS h
      obtain ⟨⟨x54, M54⟩, c54, h⟩ := bdS h
      dsimp only at h
      refine x_callV F (As := [.ref (b + x44), .int x51]) (rest := []) (res := (some (.int x54))) (ci := 9) (q := (RX9, TX9, 12)) rfl (by decide) k54 (k_X9_takeNameOf l b D cy N v1 x44 x51 M _ _ c54) wl_427 wl_206 wl_207 wl_164 wl_193 hd_X9_takeNameOf ⟨Nat.le_of_ble_eq_true rfl, Nat.le_of_ble_eq_true rfl⟩ ⟨Nat.le_refl _, Nat.le_refl _⟩ (Nat.le_of_ble_eq_true rfl) rfl dX7_readPlain_54 ?_
      refine x_istore_n F (lv' := [(3, .int x54), (4, .int 0), (0, .ref (b + v0)), (1, .ref (b + v1)), (2, .int v2)]) dX7_readPlain_57 rfl (by decide) rfl ?_
      refine x_goto F (tgt := 82) dX7_readPlain_58 (by decide) ?_
      refine x_aload_n F dX7_readPlain_82 rfl 2 rfl ?_
      refine x_iload_n F dX7_readPlain_83 rfl 4 rfl ?_
      refine x_iload_n F dX7_readPlain_84 rfl 0 rfl ?_
      refine x_iload F dX7_readPlain_85 1 rfl ?_
      obtain ⟨k87, h⟩ := gdS h
      obtain ⟨⟨u87, M87⟩, c87, h⟩ := bdS h
      dsimp only at h
      refine x_callV F (As := [.int v2, .int x54, .int 0]) (rest := []) (res := none) (ci := 7) (q := (RX7, TX7, 7)) rfl (by decide) k87 (k_X7_addStep l b D cy N v0 v2 x54 0 M54 _ _ c87) wl_432 wl_433 wl_434 wl_430 wl_417 hd_X7_addStep ⟨Nat.le_of_ble_eq_true rfl, Nat.le_of_ble_eq_true rfl⟩ ⟨Nat.le_refl _, Nat.le_refl _⟩ (Nat.le_of_ble_eq_true rfl) rfl dX7_readPlain_87 ?_
      obtain ⟨rfl, rfl⟩ := retS h
      exact x_vret F hr hl dX7_readPlain_90
  · rw [if_pos c8] at h
    refine x_aload_n F dX7_readPlain_11 rfl 3 rfl ?_
    refine x_aload_n F dX7_readPlain_12 rfl 2 rfl ?_
    obtain ⟨x13, c13, h⟩ := bdS h
    refine x_getR F (ci := 7) (C := RX7) (T := TX7) (N := 7) rfl ⟨by decide, rfl⟩ inU7 0 (by decide) (fun _ _ _ => rfl) wl_413 c13 dX7_readPlain_13 ?_
    obtain ⟨x16, c16, h⟩ := bdS h
    refine x_getR F (ci := 8) (C := RX8) (T := TX8) (N := 17) rfl ⟨by decide, rfl⟩ inU8 10 (by decide) (fun _ _ _ => rfl) wl_423 c16 dX7_readPlain_16 ?_
    refine x_aload_n F dX7_readPlain_19 rfl 2 rfl ?_
    obtain ⟨x20, c20, h⟩ := bdS h
    refine x_getR F (ci := 7) (C := RX7) (T := TX7) (N := 7) rfl ⟨by decide, rfl⟩ inU7 0 (by decide) (fun _ _ _ => rfl) wl_413 c20 dX7_readPlain_20 ?_
    obtain ⟨x23, c23, h⟩ := bdS h
    refine x_getI F (ci := 8) (C := RX8) (T := TX8) (N := 17) rfl ⟨by decide, rfl⟩ inU8 9 (by decide) (fun _ _ _ => rfl) wl_424 c23 dX7_readPlain_23 ?_
    obtain ⟨k26, h⟩ := gdS h
    obtain ⟨⟨x26, M26⟩, c26, h⟩ := bdS h
    dsimp only at h
    refine x_callV F (As := [.ref (b + x16), .int x23]) (rest := []) (res := (some (.int x26))) (ci := 9) (q := (RX9, TX9, 12)) rfl (by decide) k26 (k_X9_takeNameOf l b D cy N v1 x16 x23 M _ _ c26) wl_427 wl_206 wl_207 wl_164 wl_193 hd_X9_takeNameOf ⟨Nat.le_of_ble_eq_true rfl, Nat.le_of_ble_eq_true rfl⟩ ⟨Nat.le_refl _, Nat.le_refl _⟩ (Nat.le_of_ble_eq_true rfl) rfl dX7_readPlain_26 ?_
    refine x_istore_n F (lv' := [(3, .int x26), (4, .int 0), (0, .ref (b + v0)), (1, .ref (b + v1)), (2, .int v2)]) dX7_readPlain_29 rfl (by decide) rfl ?_
    refine x_goto F (tgt := 82) dX7_readPlain_30 (by decide) ?_
    refine x_aload_n F dX7_readPlain_82 rfl 2 rfl ?_
    refine x_iload_n F dX7_readPlain_83 rfl 4 rfl ?_
    refine x_iload_n F dX7_readPlain_84 rfl 0 rfl ?_
    refine x_iload F dX7_readPlain_85 1 rfl ?_
    obtain ⟨k87, h⟩ := gdS h
    obtain ⟨⟨u87, M87⟩, c87, h⟩ := bdS h
    dsimp only at h
    refine x_callV F (As := [.int v2, .int x26, .int 0]) (rest := []) (res := none) (ci := 7) (q := (RX7, TX7, 7)) rfl (by decide) k87 (k_X7_addStep l b D cy N v0 v2 x26 0 M26 _ _ c87) wl_432 wl_433 wl_434 wl_430 wl_417 hd_X7_addStep ⟨Nat.le_of_ble_eq_true rfl, Nat.le_of_ble_eq_true rfl⟩ ⟨Nat.le_refl _, Nat.le_refl _⟩ (Nat.le_of_ble_eq_true rfl) rfl dX7_readPlain_87 ?_
    obtain ⟨rfl, rfl⟩ := retS h
    exact x_vret F hr hl dX7_readPlain_90
theorem hd_X7_readOne : (yX7_readOne).cls = RX7 ∧ (yX7_readOne).cls ≠ "java/lang/invoke/MethodHandle" ∧ (yX7_readOne).cls ≠ "java/lang/invoke/VarHandle" ∧ (parseMethodDescriptor (yX7_readOne).desc).map (fun d => d.parameters.length) = some 2 := by decide +kernel
theorem dX7_readCond_0 : decode cX7_readCond 0 = .ok (.iconst 0, 1) := by decide +kernel
theorem dX7_readCond_1 : decode cX7_readCond 1 = .ok (.istore_n 3, 1) := by decide +kernel
theorem dX7_readCond_2 : decode cX7_readCond 2 = .ok (.aload_n 0, 1) := by decide +kernel
theorem dX7_readCond_3 : decode cX7_readCond 3 = .ok (.aload_n 1, 1) := by decide +kernel
theorem dX7_readCond_4 : decode cX7_readCond 4 = .ok (.iload_n 2, 1) := by decide +kernel
theorem dX7_readCond_5 : decode cX7_readCond 5 = .ok (.invokevirtual 60, 3) := by decide +kernel
theorem dX7_readCond_8 : decode cX7_readCond 8 = .ok (.iconst 0, 1) := by decide +kernel
theorem dX7_readCond_9 : decode cX7_readCond 9 = .ok (.istore 4, 2) := by decide +kernel
theorem dX7_readCond_11 : decode cX7_readCond 11 = .ok (.iload 4, 2) := by decide +kernel
theorem dX7_readCond_13 : decode cX7_readCond 13 = .ok (.bipush 20, 2) := by decide +kernel
theorem dX7_readCond_15 : decode cX7_readCond 15 = .ok (.if_icmp .ge 79, 3) := by decide +kernel
theorem dX7_readCond_18 : decode cX7_readCond 18 = .ok (.aload_n 1, 1) := by decide +kernel
theorem dX7_readCond_19 : decode cX7_readCond 19 = .ok (.getfield 63, 3) := by decide +kernel
theorem dX7_readCond_22 : decode cX7_readCond 22 = .ok (.ifCond .ne 72, 3) := by decide +kernel
theorem dX7_readCond_25 : decode cX7_readCond 25 = .ok (.aload_n 1, 1) := by decide +kernel
theorem dX7_readCond_26 : decode cX7_readCond 26 = .ok (.getfield 66, 3) := by decide +kernel
theorem dX7_readCond_29 : decode cX7_readCond 29 = .ok (.bipush 8, 2) := by decide +kernel
theorem dX7_readCond_31 : decode cX7_readCond 31 = .ok (.if_icmp .eq 12, 3) := by decide +kernel
theorem dX7_readCond_34 : decode cX7_readCond 34 = .ok (.aload_n 1, 1) := by decide +kernel
theorem dX7_readCond_35 : decode cX7_readCond 35 = .ok (.getfield 66, 3) := by decide +kernel
theorem dX7_readCond_38 : decode cX7_readCond 38 = .ok (.bipush 9, 2) := by decide +kernel
theorem dX7_readCond_40 : decode cX7_readCond 40 = .ok (.if_icmp .ne 54, 3) := by decide +kernel
theorem dX7_readCond_43 : decode cX7_readCond 43 = .ok (.aload_n 1, 1) := by decide +kernel
theorem dX7_readCond_44 : decode cX7_readCond 44 = .ok (.getfield 66, 3) := by decide +kernel
theorem dX7_readCond_47 : decode cX7_readCond 47 = .ok (.bipush 9, 2) := by decide +kernel
theorem dX7_readCond_49 : decode cX7_readCond 49 = .ok (.if_icmp .ne 7, 3) := by decide +kernel
theorem dX7_readCond_52 : decode cX7_readCond 52 = .ok (.iconst 1, 1) := by decide +kernel
theorem dX7_readCond_53 : decode cX7_readCond 53 = .ok (.goto 4, 3) := by decide +kernel
theorem dX7_readCond_56 : decode cX7_readCond 56 = .ok (.iconst 0, 1) := by decide +kernel
theorem dX7_readCond_57 : decode cX7_readCond 57 = .ok (.istore 5, 2) := by decide +kernel
theorem dX7_readCond_59 : decode cX7_readCond 59 = .ok (.aload_n 1, 1) := by decide +kernel
theorem dX7_readCond_60 : decode cX7_readCond 60 = .ok (.invokevirtual 69, 3) := by decide +kernel
theorem dX7_readCond_63 : decode cX7_readCond 63 = .ok (.aload_n 0, 1) := by decide +kernel
theorem dX7_readCond_64 : decode cX7_readCond 64 = .ok (.aload_n 1, 1) := by decide +kernel
theorem dX7_readCond_65 : decode cX7_readCond 65 = .ok (.iload_n 2, 1) := by decide +kernel
theorem dX7_readCond_66 : decode cX7_readCond 66 = .ok (.invokevirtual 60, 3) := by decide +kernel
theorem dX7_readCond_69 : decode cX7_readCond 69 = .ok (.iload 5, 2) := by decide +kernel
theorem dX7_readCond_71 : decode cX7_readCond 71 = .ok (.ifCond .eq 14, 3) := by decide +kernel
theorem dX7_readCond_74 : decode cX7_readCond 74 = .ok (.aload_n 0, 1) := by decide +kernel
theorem dX7_readCond_75 : decode cX7_readCond 75 = .ok (.bipush 9, 2) := by decide +kernel
theorem dX7_readCond_77 : decode cX7_readCond 77 = .ok (.iconst 0, 1) := by decide +kernel
theorem dX7_readCond_78 : decode cX7_readCond 78 = .ok (.iconst 0, 1) := by decide +kernel
theorem dX7_readCond_79 : decode cX7_readCond 79 = .ok (.invokevirtual 72, 3) := by decide +kernel
theorem dX7_readCond_82 : decode cX7_readCond 82 = .ok (.goto 6, 3) := by decide +kernel
theorem dX7_readCond_85 : decode cX7_readCond 85 = .ok (.iinc 3 1, 3) := by decide +kernel
theorem dX7_readCond_88 : decode cX7_readCond 88 = .ok (.iinc 4 1, 3) := by decide +kernel
theorem dX7_readCond_91 : decode cX7_readCond 91 = .ok (.goto (-80), 3) := by decide +kernel
theorem dX7_readCond_94 : decode cX7_readCond 94 = .ok (.iconst 0, 1) := by decide +kernel
theorem dX7_readCond_95 : decode cX7_readCond 95 = .ok (.istore 4, 2) := by decide +kernel
theorem dX7_readCond_97 : decode cX7_readCond 97 = .ok (.iload 4, 2) := by decide +kernel
theorem dX7_readCond_99 : decode cX7_readCond 99 = .ok (.iload_n 3, 1) := by decide +kernel
theorem dX7_readCond_100 : decode cX7_readCond 100 = .ok (.if_icmp .ge 17, 3) := by decide +kernel
theorem dX7_readCond_103 : decode cX7_readCond 103 = .ok (.aload_n 0, 1) := by decide +kernel
theorem dX7_readCond_104 : decode cX7_readCond 104 = .ok (.bipush 8, 2) := by decide +kernel
theorem dX7_readCond_106 : decode cX7_readCond 106 = .ok (.iconst 0, 1) := by decide +kernel
theorem dX7_readCond_107 : decode cX7_readCond 107 = .ok (.iconst 0, 1) := by decide +kernel
theorem dX7_readCond_108 : decode cX7_readCond 108 = .ok (.invokevirtual 72, 3) := by decide +kernel
theorem dX7_readCond_111 : decode cX7_readCond 111 = .ok (.iinc 4 1, 3) := by decide +kernel
theorem dX7_readCond_114 : decode cX7_readCond 114 = .ok (.goto (-17), 3) := by decide +kernel
theorem dX7_readCond_117 : decode cX7_readCond 117 = .ok (.return_, 1) := by decide +kernel
def fX7_readCond_L97 (N : Nat) (rf : Nat → Nat → Nat → Int32 → Mem → Option (Unit × Mem)) (v0 : Nat) (v3 : Int32) : Nat → Int32 → Mem → Option (Mem)
  | 0, _, _ => none
  | n + 1, v4, M => (if v3 ≤ v4 then some M else (if mK M v0 = 8 then ((fX7_addStep N v0 8 0 0 M).bind fun (u108, M108) => fX7_readCond_L97 N rf v0 v3 n (v4 + 1) M108) else none))
def fX7_readCond_J94 (N : Nat) (rf : Nat → Nat → Nat → Int32 → Mem → Option (Unit × Mem)) (v0 : Nat) (v3 : Int32) (M : Mem) : Option (Unit × Mem) := ((fX7_readCond_L97 N rf v0 v3 N 0 M).bind fun o97 => some ((), o97))
def fX7_readCond_J57_11 (N : Nat) (rf : Nat → Nat → Nat → Int32 → Mem → Option (Unit × Mem)) (rc : Int32 → Int32 → Mem → Option (Int32 × Mem)) (v0 : Nat) (v1 : Nat) (v2 : Int32) (v3 : Int32) (v4 : Int32) (s0 : Int32) (M : Mem) : Option (Int32 × Mem) := (if mK M v1 = 10 then ((fX9_advance N v1 M).bind fun (u60, M60) => (if mK M60 v0 = 8 then ((rf 1 v0 v1 v2 M60).bind fun (u66, M66) => (if s0 = 0 then rc (v3 + 1) (v4 + 1) M66 else (if mK M66 v0 = 8 then ((fX7_addStep N v0 9 0 0 M66).bind fun (u79, M79) => rc v3 (v4 + 1) M79) else none))) else none)) else none)
def fX7_readCond_J43_11 (N : Nat) (rf : Nat → Nat → Nat → Int32 → Mem → Option (Unit × Mem)) (rc : Int32 → Int32 → Mem → Option (Int32 × Mem)) (v0 : Nat) (v1 : Nat) (v2 : Int32) (v3 : Int32) (v4 : Int32) (M : Mem) : Option (Int32 × Mem) := ((fI M 9 v1 9).bind fun x44 => (if x44 = 9 then fX7_readCond_J57_11 N rf rc v0 v1 v2 v3 v4 1 M else fX7_readCond_J57_11 N rf rc v0 v1 v2 v3 v4 0 M))
def fX7_readCond_L11 (N : Nat) (rf : Nat → Nat → Nat → Int32 → Mem → Option (Unit × Mem)) (v0 : Nat) (v1 : Nat) (v2 : Int32) : Nat → Int32 → Int32 → Mem → Option (Int32 × Mem)
  | 0, _, _, _ => none
  | n + 1, v3, v4, M => (if 20 ≤ v4 then some (v3, M) else ((fI M 9 v1 10).bind fun x19 => (if x19 = 0 then ((fI M 9 v1 9).bind fun x26 => (if x26 = 8 then fX7_readCond_J43_11 N rf (fX7_readCond_L11 N rf v0 v1 v2 n) v0 v1 v2 v3 v4 M else ((fI M 9 v1 9).bind fun x35 => (if x35 = 9 then fX7_readCond_J43_11 N rf (fX7_readCond_L11 N rf v0 v1 v2 n) v0 v1 v2 v3 v4 M else some (v3, M))))) else some (v3, M))))
def fX7_readCond_b (N : Nat) (rf : Nat → Nat → Nat → Int32 → Mem → Option (Unit × Mem)) (v0 : Nat) (v1 : Nat) (v2 : Int32) (M : Mem) : Option (Unit × Mem) := (if mK M v0 = 8 then ((rf 1 v0 v1 v2 M).bind fun (u5, M5) => ((fX7_readCond_L11 N rf v0 v1 v2 N 0 0 M5).bind fun o11 => match o11 with | (w3_11, M11) => fX7_readCond_J94 N rf v0 w3_11 M11)) else none)
set_option maxHeartbeats 4000000 in
set_option maxRecDepth 100000 in
theorem kb_X7_readCond (l : Launch) (b : Nat) (D : va_G) (cy : Nat → ClassId) (N n0 : Nat) (hn0 : 5 ≤ n0) (rf : Nat → Nat → Nat → Int32 → Mem → Option (Unit × Mem)) (hrf_X7_readCond : ∀ (v0 : Nat) (v1 : Nat) (v2 : Int32) (M : Mem) (r : Unit) (Mf : Mem), rf 0 v0 v1 v2 M = some (r, Mf) → Ct l yX7_readCond cX7_readCond 6 none n0 0 0 b D cy [.ref (b + v0), .ref (b + v1), .int v2] M none Mf) (hrf_X7_readOne : ∀ (v0 : Nat) (v1 : Nat) (v2 : Int32) (M : Mem) (r : Unit) (Mf : Mem), rf 1 v0 v1 v2 M = some (r, Mf) → Ct l yX7_readOne cX7_readOne 4 none n0 0 0 b D cy [.ref (b + v0), .ref (b + v1), .int v2] M none Mf) (v0 : Nat) (v1 : Nat) (v2 : Int32) (M : Mem) (r : Unit) (Mf : Mem) (h : fX7_readCond_b N rf v0 v1 v2 M = some (r, Mf)) : Ct l yX7_readCond cX7_readCond 6 none (n0 + 1) 0 0 b D cy [.ref (b + v0), .ref (b + v1), .int v2] M none Mf := by
  refine Ct_of (own := RX7) (by decide) rfl (Nat.le_of_ble_eq_true rfl) ?_
  intro p e s m args below meth c F hr hl hmn
  unfold fX7_readCond_b at h
  have J94 : ∀ (v0 : Nat) (v3 : Int32) (M : Mem), fX7_readCond_J94 N rf v0 v3 M = some (r, Mf) → X p l e ({ frames := n0 + 1, cells := 0, slots := 0, locals := 100 * (n0 + 1) }) s m args below meth c (MQ below (Qm b D cy none Mf) args s 0 0 (fun q => b ≤ q)) 6 b D cy 0 0 M 94 [(0, .ref (b + v0)), (3, .int v3)] [] := by
    intro v0 v3 M h
    unfold fX7_readCond_J94 at h
    refine x_iconst F (v := 0) dX7_readCond_94 (by decide) ?_
    refine x_istore F (lv' := [(4, .int 0), (0, .ref (b + v0)), (3, .int v3)]) dX7_readCond_95 (by decide) rfl ?_
    have L97 : ∀ (v0 : Nat) (v3 : Int32) (n : Nat) (v4 : Int32) (M : Mem) (o : Mem), fX7_readCond_L97 N rf v0 v3 n v4 M = some o → X p l e ({ frames := n0 + 1, cells := 0, slots := 0, locals := 100 * (n0 + 1) }) s m args below meth c (MQ below (Qm b D cy none Mf) args s 0 0 (fun q => b ≤ q)) 6 b D cy 0 0 o 117 [] [] → X p l e ({ frames := n0 + 1, cells := 0, slots := 0, locals := 100 * (n0 + 1) }) s m args below meth c (MQ below (Qm b D cy none Mf) args s 0 0 (fun q => b ≤ q)) 6 b D cy 0 0 M 97 [(0, .ref (b + v0)), (3, .int v3), (4, .int v4)] [] := by
      intro v0 v3 n
      induction n with
      | zero => intro v4 M o h; exact absurd h (by rw [fX7_readCond_L97]; exact fun z => by cases z)
      | succ n ih =>
        intro v4 M o h hE
        rw [fX7_readCond_L97] at h
        refine x_iload F dX7_readCond_97 2 rfl ?_
        refine x_iload_n F dX7_readCond_99 rfl 1 rfl ?_
        refine x_icmp_ge F (tgt := 117) dX7_readCond_100 (by decide) (fun c100 => ?_) (fun c100 => ?_)
        · rw [if_pos c100] at h
          obtain rfl := Option.some.inj h
          refine x_sub [] rfl ?_
          exact hE
        · rw [if_neg c100] at h
          refine x_aload_n F dX7_readCond_103 rfl 0 rfl ?_
          refine x_bipush F (v := 8) dX7_readCond_104 (by decide) ?_
          refine x_iconst F (v := 0) dX7_readCond_106 (by decide) ?_
          refine x_iconst F (v := 0) dX7_readCond_107 (by decide) ?_
          obtain ⟨k108, h⟩ := gdS h
          obtain ⟨⟨u108, M108⟩, c108, h⟩ := bdS h
          dsimp only at h
          refine x_callV F (As := [.int 8, .int 0, .int 0]) (rest := []) (res := none) (ci := 7) (q := (RX7, TX7, 7)) rfl (by decide) k108 (k_X7_addStep l b D cy N v0 8 0 0 M _ _ c108) wl_432 wl_433 wl_434 wl_430 wl_417 hd_X7_addStep ⟨by show 1 + 1 ≤ n0 + 1; omega, by show 8 + (4 + 11) + 100 * 1 ≤ 100 * (n0 + 1); omega⟩ ⟨Nat.le_refl _, Nat.le_refl _⟩ (Nat.le_of_ble_eq_true rfl) rfl dX7_readCond_108 ?_
          refine x_iinc F (v := v4 + 1) (lv' := [(4, .int (v4 + 1)), (0, .ref (b + v0)), (3, .int v3)]) dX7_readCond_111 2 rfl rfl (by decide) rfl ?_
          refine x_goto F (tgt := 97) dX7_readCond_114 (by decide) ?_
          refine x_sub [1, 2, 0] rfl ?_
          exact ih (v4 + 1) M108 o h hE
    obtain ⟨o97, h97, h⟩ := bdS h
    refine x_sub [1, 2, 0] rfl ?_
    refine L97 v0 v3 N 0 M o97 h97 ?_
    obtain ⟨rfl, rfl⟩ := retS h
    exact x_vret F hr hl dX7_readCond_117
  show X p l e ({ frames := n0 + 1, cells := 0, slots := 0, locals := 100 * (n0 + 1) }) s m args below meth c (MQ below (Qm b D cy none Mf) args s 0 0 (fun q => b ≤ q)) 6 b D cy 0 0 M 0 [(0, .ref (b + v0)), (1, .ref (b + v1)), (2, .int v2)] []
  refine x_iconst F (v := 0) dX7_readCond_0 (by decide) ?_
  refine x_istore_n F (lv' := [(3, .int 0), (0, .ref (b + v0)), (1, .ref (b + v1)), (2, .int v2)]) dX7_readCond_1 rfl (by decide) rfl ?_
  refine x_aload_n F dX7_readCond_2 rfl 1 rfl ?_
  refine x_aload_n F dX7_readCond_3 rfl 2 rfl ?_
  refine x_iload_n F dX7_readCond_4 rfl 3 rfl ?_
  obtain ⟨k5, h⟩ := gdS h
  obtain ⟨⟨u5, M5⟩, c5, h⟩ := bdS h
  dsimp only at h
  refine x_callV F (As := [.ref (b + v1), .int v2]) (rest := []) (res := none) (ci := 7) (q := (RX7, TX7, 7)) rfl (by decide) k5 (hrf_X7_readOne v0 v1 v2 M _ _ c5) wl_438 wl_439 wl_440 wl_430 wl_441 hd_X7_readOne ⟨by show n0 + 1 ≤ n0 + 1; omega, by show 8 + (4 + 11) + 100 * n0 ≤ 100 * (n0 + 1); omega⟩ ⟨Nat.le_refl _, Nat.le_refl _⟩ (Nat.le_of_ble_eq_true rfl) rfl dX7_readCond_5 ?_
  refine x_iconst F (v := 0) dX7_readCond_8 (by decide) ?_
  refine x_istore F (lv' := [(4, .int 0), (3, .int 0), (0, .ref (b + v0)), (1, .ref (b + v1)), (2, .int v2)]) dX7_readCond_9 (by decide) rfl ?_
  have L11 : ∀ (v0 : Nat) (v1 : Nat) (v2 : Int32) (n : Nat) (v3 : Int32) (v4 : Int32) (M : Mem) (o : Int32 × Mem), fX7_readCond_L11 N rf v0 v1 v2 n v3 v4 M = some o → (∀ (w3 : Int32) (M' : Mem), o = (w3, M') → X p l e ({ frames := n0 + 1, cells := 0, slots := 0, locals := 100 * (n0 + 1) }) s m args below meth c (MQ below (Qm b D cy none Mf) args s 0 0 (fun q => b ≤ q)) 6 b D cy 0 0 M' 94 [(0, .ref (b + v0)), (3, .int w3)] []) → X p l e ({ frames := n0 + 1, cells := 0, slots := 0, locals := 100 * (n0 + 1) }) s m args below meth c (MQ below (Qm b D cy none Mf) args s 0 0 (fun q => b ≤ q)) 6 b D cy 0 0 M 11 [(0, .ref (b + v0)), (1, .ref (b + v1)), (2, .int v2), (3, .int v3), (4, .int v4)] [] := by
    intro v0 v1 v2 n
    induction n with
    | zero => intro v3 v4 M o h; exact absurd h (by rw [fX7_readCond_L11]; exact fun z => by cases z)
    | succ n ih =>
      intro v3 v4 M o h hE
      rw [fX7_readCond_L11] at h
      have J57 : ∀ (v3 : Int32) (v4 : Int32) (s0 : Int32) (M : Mem), fX7_readCond_J57_11 N rf (fX7_readCond_L11 N rf v0 v1 v2 n) v0 v1 v2 v3 v4 s0 M = some o → X p l e ({ frames := n0 + 1, cells := 0, slots := 0, locals := 100 * (n0 + 1) }) s m args below meth c (MQ below (Qm b D cy none Mf) args s 0 0 (fun q => b ≤ q)) 6 b D cy 0 0 M 57 [(0, .ref (b + v0)), (1, .ref (b + v1)), (2, .int v2), (3, .int v3), (4, .int v4)] [.int s0] := by
        intro v3 v4 s0 M h
        unfold fX7_readCond_J57_11 at h
        refine x_istore F (lv' := [(5, .int s0), (0, .ref (b + v0)), (1, .ref (b + v1)), (2, .int v2), (3, .int v3), (4, .int v4)]) dX7_readCond_57 (by decide) rfl ?_
        refine x_aload_n F dX7_readCond_59 rfl 2 rfl ?_
        obtain ⟨k60, h⟩ := gdS h
        obtain ⟨⟨u60, M60⟩, c60, h⟩ := bdS h
        dsimp only at h
        refine x_callV F (As := []) (rest := []) (res := none) (ci := 9) (q := (RX9, TX9, 12)) rfl (by decide) k60 (k_X9_advance l b D cy N v1 M _ _ c60) wl_420 wl_178 wl_179 wl_164 wl_174 hd_X9_advance ⟨by show 2 + 1 ≤ n0 + 1; omega, by show 8 + (1 + 11) + 100 * 2 ≤ 100 * (n0 + 1); omega⟩ ⟨Nat.le_refl _, Nat.le_refl _⟩ (Nat.le_of_ble_eq_true rfl) rfl dX7_readCond_60 ?_
        refine x_aload_n F dX7_readCond_63 rfl 1 rfl ?_
        refine x_aload_n F dX7_readCond_64 rfl 2 rfl ?_
        refine x_iload_n F dX7_readCond_65 rfl 3 rfl ?_
        obtain ⟨k66, h⟩ := gdS h
        obtain ⟨⟨u66, M66⟩, c66, h⟩ := bdS h
        dsimp only at h
        refine x_callV F (As := [.ref (b + v1), .int v2]) (rest := []) (res := none) (ci := 7) (q := (RX7, TX7, 7)) rfl (by decide) k66 (hrf_X7_readOne v0 v1 v2 M60 _ _ c66) wl_438 wl_439 wl_440 wl_430 wl_441 hd_X7_readOne ⟨by show n0 + 1 ≤ n0 + 1; omega, by show 8 + (4 + 11) + 100 * n0 ≤ 100 * (n0 + 1); omega⟩ ⟨Nat.le_refl _, Nat.le_refl _⟩ (Nat.le_of_ble_eq_true rfl) rfl dX7_readCond_66 ?_
        refine x_iload F dX7_readCond_69 0 rfl ?_
        refine x_if_eq F (tgt := 85) dX7_readCond_71 (by decide) (fun c71 => ?_) (fun c71 => ?_)
        · rw [if_pos c71] at h
          refine x_iinc F (v := v3 + 1) (lv' := [(3, .int (v3 + 1)), (5, .int s0), (0, .ref (b + v0)), (1, .ref (b + v1)), (2, .int v2), (4, .int v4)]) dX7_readCond_85 4 rfl rfl (by decide) rfl ?_
          refine x_iinc F (v := v4 + 1) (lv' := [(4, .int (v4 + 1)), (3, .int (v3 + 1)), (5, .int s0), (0, .ref (b + v0)), (1, .ref (b + v1)), (2, .int v2)]) dX7_readCond_88 5 rfl rfl (by decide) rfl ?_
          refine x_goto F (tgt := 11) dX7_readCond_91 (by decide) ?_
          refine x_sub [3, 4, 5, 1, 0] rfl ?_
          exact ih (v3 + 1) (v4 + 1) M66 o h hE
        · rw [if_neg c71] at h
          refine x_aload_n F dX7_readCond_74 rfl 1 rfl ?_
          refine x_bipush F (v := 9) dX7_readCond_75 (by decide) ?_
          refine x_iconst F (v := 0) dX7_readCond_77 (by decide) ?_
          refine x_iconst F (v := 0) dX7_readCond_78 (by decide) ?_
          obtain ⟨k79, h⟩ := gdS h
          obtain ⟨⟨u79, M79⟩, c79, h⟩ := bdS h
          dsimp only at h
          refine x_callV F (As := [.int 9, .int 0, .int 0]) (rest := []) (res := none) (ci := 7) (q := (RX7, TX7, 7)) rfl (by decide) k79 (k_X7_addStep l b D cy N v0 9 0 0 M66 _ _ c79) wl_432 wl_433 wl_434 wl_430 wl_417 hd_X7_addStep ⟨by show 1 + 1 ≤ n0 + 1; omega, by show 8 + (4 + 11) + 100 * 1 ≤ 100 * (n0 + 1); omega⟩ ⟨Nat.le_refl _, Nat.le_refl _⟩ (Nat.le_of_ble_eq_true rfl) rfl dX7_readCond_79 ?_
          refine x_goto F (tgt := 88) dX7_readCond_82 (by decide) ?_
          refine x_iinc F (v := v4 + 1) (lv' := [(4, .int (v4 + 1)), (5, .int s0), (0, .ref (b + v0)), (1, .ref (b + v1)), (2, .int v2), (3, .int v3)]) dX7_readCond_88 5 rfl rfl (by decide) rfl ?_
          refine x_goto F (tgt := 11) dX7_readCond_91 (by decide) ?_
          refine x_sub [2, 3, 4, 5, 0] rfl ?_
          exact ih v3 (v4 + 1) M79 o h hE
      have J43 : ∀ (v3 : Int32) (v4 : Int32) (M : Mem), fX7_readCond_J43_11 N rf (fX7_readCond_L11 N rf v0 v1 v2 n) v0 v1 v2 v3 v4 M = some o → X p l e ({ frames := n0 + 1, cells := 0, slots := 0, locals := 100 * (n0 + 1) }) s m args below meth c (MQ below (Qm b D cy none Mf) args s 0 0 (fun q => b ≤ q)) 6 b D cy 0 0 M 43 [(0, .ref (b + v0)), (1, .ref (b + v1)), (2, .int v2), (3, .int v3), (4, .int v4)] [] := by
        intro v3 v4 M h
        unfold fX7_readCond_J43_11 at h
        refine x_aload_n F dX7_readCond_43 rfl 1 rfl ?_
        obtain ⟨x44, c44, h⟩ := bdS h
        refine x_getI F (ci := 9) (C := RX9) (T := TX9) (N := 12) rfl ⟨by decide, rfl⟩ inU9 9 (by decide) (fun _ _ _ => rfl) wl_437 c44 dX7_readCond_44 ?_
        refine x_bipush F (v := 9) dX7_readCond_47 (by decide) ?_
        refine x_icmp_ne F (tgt := 56) dX7_readCond_49 (by decide) (fun c49 => ?_) (fun c49 => ?_)
        · rw [if_neg c49] at h
          refine x_iconst F (v := 0) dX7_readCond_56 (by decide) ?_
          exact J57 v3 v4 0 M h
        · rw [if_pos c49] at h
          refine x_iconst F (v := 1) dX7_readCond_52 (by decide) ?_
          refine x_goto F (tgt := 57) dX7_readCond_53 (by decide) ?_
          exact J57 v3 v4 1 M h
      refine x_iload F dX7_readCond_11 4 rfl ?_
      refine x_bipush F (v := 20) dX7_readCond_13 (by decide) ?_
      refine x_icmp_ge F (tgt := 94) dX7_readCond_15 (by decide) (fun c15 => ?_) (fun c15 => ?_)
      · rw [if_pos c15] at h
        obtain rfl := Option.some.inj h
        refine x_sub [0, 3] rfl ?_
        exact hE _ _ rfl
      · rw [if_neg c15] at h
        refine x_aload_n F dX7_readCond_18 rfl 1 rfl ?_
        obtain ⟨x19, c19, h⟩ := bdS h
        refine x_getI F (ci := 9) (C := RX9) (T := TX9) (N := 12) rfl ⟨by decide, rfl⟩ inU9 10 (by decide) (fun _ _ _ => rfl) wl_436 c19 dX7_readCond_19 ?_
        refine x_if_ne F (tgt := 94) dX7_readCond_22 (by decide) (fun c22 => ?_) (fun c22 => ?_)
        · rw [if_neg c22] at h
          obtain rfl := Option.some.inj h
          refine x_sub [0, 3] rfl ?_
          exact hE _ _ rfl
        · rw [if_pos c22] at h
          refine x_aload_n F dX7_readCond_25 rfl 1 rfl ?_
          obtain ⟨x26, c26, h⟩ := bdS h
          refine x_getI F (ci := 9) (C := RX9) (T := TX9) (N := 12) rfl ⟨by decide, rfl⟩ inU9 9 (by decide) (fun _ _ _ => rfl) wl_437 c26 dX7_readCond_26 ?_
          refine x_bipush F (v := 8) dX7_readCond_29 (by decide) ?_
          refine x_icmp_eq F (tgt := 43) dX7_readCond_31 (by decide) (fun c31 => ?_) (fun c31 => ?_)
          · rw [if_pos c31] at h
            exact J43 v3 v4 M h
          · rw [if_neg c31] at h
            refine x_aload_n F dX7_readCond_34 rfl 1 rfl ?_
            obtain ⟨x35, c35, h⟩ := bdS h
            refine x_getI F (ci := 9) (C := RX9) (T := TX9) (N := 12) rfl ⟨by decide, rfl⟩ inU9 9 (by decide) (fun _ _ _ => rfl) wl_437 c35 dX7_readCond_35 ?_
            refine x_bipush F (v := 9) dX7_readCond_38 (by decide) ?_
            refine x_icmp_ne F (tgt := 94) dX7_readCond_40 (by decide) (fun c40 => ?_) (fun c40 => ?_)
            · rw [if_neg c40] at h
              obtain rfl := Option.some.inj h
              refine x_sub [0, 3] rfl ?_
              exact hE _ _ rfl
            · rw [if_pos c40] at h
              exact J43 v3 v4 M h
  obtain ⟨o11, h11, h⟩ := bdS h
  refine x_sub [2, 3, 4, 1, 0] rfl ?_
  refine L11 v0 v1 v2 N 0 0 M5 o11 h11 (fun w3_11 M11 e => ?_)
  · subst e
    dsimp only at h
    exact J94 v0 w3_11 M11 h
theorem hd_X7_readPlain : (yX7_readPlain).cls = RX7 ∧ (yX7_readPlain).cls ≠ "java/lang/invoke/MethodHandle" ∧ (yX7_readPlain).cls ≠ "java/lang/invoke/VarHandle" ∧ (parseMethodDescriptor (yX7_readPlain).desc).map (fun d => d.parameters.length) = some 2 := by decide +kernel
theorem hd_X7_readCond : (yX7_readCond).cls = RX7 ∧ (yX7_readCond).cls ≠ "java/lang/invoke/MethodHandle" ∧ (yX7_readCond).cls ≠ "java/lang/invoke/VarHandle" ∧ (parseMethodDescriptor (yX7_readCond).desc).map (fun d => d.parameters.length) = some 2 := by decide +kernel
theorem dX7_readOne_0 : decode cX7_readOne 0 = .ok (.aload_n 1, 1) := by decide +kernel
theorem dX7_readOne_1 : decode cX7_readOne 1 = .ok (.bipush 40, 2) := by decide +kernel
theorem dX7_readOne_3 : decode cX7_readOne 3 = .ok (.invokevirtual 76, 3) := by decide +kernel
theorem dX7_readOne_6 : decode cX7_readOne 6 = .ok (.ifCond .eq 8, 3) := by decide +kernel
theorem dX7_readOne_9 : decode cX7_readOne 9 = .ok (.bipush 20, 2) := by decide +kernel
theorem dX7_readOne_11 : decode cX7_readOne 11 = .ok (.goto 7, 3) := by decide +kernel
theorem dX7_readOne_14 : decode cX7_readOne 14 = .ok (.aload_n 1, 1) := by decide +kernel
theorem dX7_readOne_15 : decode cX7_readOne 15 = .ok (.getfield 66, 3) := by decide +kernel
theorem dX7_readOne_18 : decode cX7_readOne 18 = .ok (.istore_n 3, 1) := by decide +kernel
theorem dX7_readOne_19 : decode cX7_readOne 19 = .ok (.aload_n 1, 1) := by decide +kernel
theorem dX7_readOne_20 : decode cX7_readOne 20 = .ok (.getfield 63, 3) := by decide +kernel
theorem dX7_readOne_23 : decode cX7_readOne 23 = .ok (.ifCond .ne 9, 3) := by decide +kernel
theorem dX7_readOne_26 : decode cX7_readOne 26 = .ok (.iload_n 3, 1) := by decide +kernel
theorem dX7_readOne_27 : decode cX7_readOne 27 = .ok (.bipush 10, 2) := by decide +kernel
theorem dX7_readOne_29 : decode cX7_readOne 29 = .ok (.if_icmp .ge 9, 3) := by decide +kernel
theorem dX7_readOne_32 : decode cX7_readOne 32 = .ok (.aload_n 1, 1) := by decide +kernel
theorem dX7_readOne_33 : decode cX7_readOne 33 = .ok (.iconst 1, 1) := by decide +kernel
theorem dX7_readOne_34 : decode cX7_readOne 34 = .ok (.invokevirtual 57, 3) := by decide +kernel
theorem dX7_readOne_37 : decode cX7_readOne 37 = .ok (.return_, 1) := by decide +kernel
theorem dX7_readOne_38 : decode cX7_readOne 38 = .ok (.aload_n 0, 1) := by decide +kernel
theorem dX7_readOne_39 : decode cX7_readOne 39 = .ok (.getfield 28, 3) := by decide +kernel
theorem dX7_readOne_42 : decode cX7_readOne 42 = .ok (.bipush 20, 2) := by decide +kernel
theorem dX7_readOne_44 : decode cX7_readOne 44 = .ok (.if_icmp .ge 9, 3) := by decide +kernel
theorem dX7_readOne_47 : decode cX7_readOne 47 = .ok (.iload_n 2, 1) := by decide +kernel
theorem dX7_readOne_48 : decode cX7_readOne 48 = .ok (.bipush 8, 2) := by decide +kernel
theorem dX7_readOne_50 : decode cX7_readOne 50 = .ok (.if_icmp .le 9, 3) := by decide +kernel
theorem dX7_readOne_53 : decode cX7_readOne 53 = .ok (.aload_n 1, 1) := by decide +kernel
theorem dX7_readOne_54 : decode cX7_readOne 54 = .ok (.iconst 4, 1) := by decide +kernel
theorem dX7_readOne_55 : decode cX7_readOne 55 = .ok (.invokevirtual 57, 3) := by decide +kernel
theorem dX7_readOne_58 : decode cX7_readOne 58 = .ok (.return_, 1) := by decide +kernel
theorem dX7_readOne_59 : decode cX7_readOne 59 = .ok (.aload_n 0, 1) := by decide +kernel
theorem dX7_readOne_60 : decode cX7_readOne 60 = .ok (.dup, 1) := by decide +kernel
theorem dX7_readOne_61 : decode cX7_readOne 61 = .ok (.getfield 28, 3) := by decide +kernel
theorem dX7_readOne_64 : decode cX7_readOne 64 = .ok (.iconst 1, 1) := by decide +kernel
theorem dX7_readOne_65 : decode cX7_readOne 65 = .ok (.iadd, 1) := by decide +kernel
theorem dX7_readOne_66 : decode cX7_readOne 66 = .ok (.putfield 28, 3) := by decide +kernel
theorem dX7_readOne_69 : decode cX7_readOne 69 = .ok (.aload_n 1, 1) := by decide +kernel
theorem dX7_readOne_70 : decode cX7_readOne 70 = .ok (.invokevirtual 69, 3) := by decide +kernel
theorem dX7_readOne_73 : decode cX7_readOne 73 = .ok (.iload_n 3, 1) := by decide +kernel
theorem dX7_readOne_74 : decode cX7_readOne 74 = .ok (.bipush 10, 2) := by decide +kernel
theorem dX7_readOne_76 : decode cX7_readOne 76 = .ok (.if_icmp .ne 22, 3) := by decide +kernel
theorem dX7_readOne_79 : decode cX7_readOne 79 = .ok (.aload_n 0, 1) := by decide +kernel
theorem dX7_readOne_80 : decode cX7_readOne 80 = .ok (.aload_n 1, 1) := by decide +kernel
theorem dX7_readOne_81 : decode cX7_readOne 81 = .ok (.iload_n 2, 1) := by decide +kernel
theorem dX7_readOne_82 : decode cX7_readOne 82 = .ok (.iconst 1, 1) := by decide +kernel
theorem dX7_readOne_83 : decode cX7_readOne 83 = .ok (.iadd, 1) := by decide +kernel
theorem dX7_readOne_84 : decode cX7_readOne 84 = .ok (.invokevirtual 60, 3) := by decide +kernel
theorem dX7_readOne_87 : decode cX7_readOne 87 = .ok (.aload_n 0, 1) := by decide +kernel
theorem dX7_readOne_88 : decode cX7_readOne 88 = .ok (.bipush 10, 2) := by decide +kernel
theorem dX7_readOne_90 : decode cX7_readOne 90 = .ok (.iconst 0, 1) := by decide +kernel
theorem dX7_readOne_91 : decode cX7_readOne 91 = .ok (.iconst 0, 1) := by decide +kernel
theorem dX7_readOne_92 : decode cX7_readOne 92 = .ok (.invokevirtual 72, 3) := by decide +kernel
theorem dX7_readOne_95 : decode cX7_readOne 95 = .ok (.goto 32, 3) := by decide +kernel
theorem dX7_readOne_98 : decode cX7_readOne 98 = .ok (.iload_n 3, 1) := by decide +kernel
theorem dX7_readOne_99 : decode cX7_readOne 99 = .ok (.bipush 20, 2) := by decide +kernel
theorem dX7_readOne_101 : decode cX7_readOne 101 = .ok (.if_icmp .ne 20, 3) := by decide +kernel
theorem dX7_readOne_104 : decode cX7_readOne 104 = .ok (.aload_n 0, 1) := by decide +kernel
theorem dX7_readOne_105 : decode cX7_readOne 105 = .ok (.aload_n 1, 1) := by decide +kernel
theorem dX7_readOne_106 : decode cX7_readOne 106 = .ok (.iload_n 2, 1) := by decide +kernel
theorem dX7_readOne_107 : decode cX7_readOne 107 = .ok (.iconst 1, 1) := by decide +kernel
theorem dX7_readOne_108 : decode cX7_readOne 108 = .ok (.iadd, 1) := by decide +kernel
theorem dX7_readOne_109 : decode cX7_readOne 109 = .ok (.invokevirtual 50, 3) := by decide +kernel
theorem dX7_readOne_112 : decode cX7_readOne 112 = .ok (.aload_n 1, 1) := by decide +kernel
theorem dX7_readOne_113 : decode cX7_readOne 113 = .ok (.bipush 41, 2) := by decide +kernel
theorem dX7_readOne_115 : decode cX7_readOne 115 = .ok (.invokevirtual 80, 3) := by decide +kernel
theorem dX7_readOne_118 : decode cX7_readOne 118 = .ok (.goto 9, 3) := by decide +kernel
theorem dX7_readOne_121 : decode cX7_readOne 121 = .ok (.aload_n 0, 1) := by decide +kernel
theorem dX7_readOne_122 : decode cX7_readOne 122 = .ok (.aload_n 1, 1) := by decide +kernel
theorem dX7_readOne_123 : decode cX7_readOne 123 = .ok (.iload_n 3, 1) := by decide +kernel
theorem dX7_readOne_124 : decode cX7_readOne 124 = .ok (.invokevirtual 83, 3) := by decide +kernel
theorem dX7_readOne_127 : decode cX7_readOne 127 = .ok (.return_, 1) := by decide +kernel
def fX7_readOne_J18 (N : Nat) (rf : Nat → Nat → Nat → Int32 → Mem → Option (Unit × Mem)) (v0 : Nat) (v1 : Nat) (v2 : Int32) (s0 : Int32) (M : Mem) : Option (Unit × Mem) := ((fI M 9 v1 10).bind fun x20 => (if x20 = 0 then (if 10 ≤ s0 then ((fI M 7 v0 6).bind fun x39 => (if 20 ≤ x39 then (if mK M v1 = 10 then ((fX9_fail N v1 4 M).bind fun (u55, M55) => some ((), M55)) else none) else (if v2 ≤ 8 then ((fI M 7 v0 6).bind fun x61 => ((pI M 7 v0 6 (x61 + 1)).bind fun M66 => (if mK M66 v1 = 10 then ((fX9_advance N v1 M66).bind fun (u70, M70) => (if s0 = 10 then (if mK M70 v0 = 8 then ((rf 1 v0 v1 (v2 + 1) M70).bind fun (u84, M84) => (if mK M84 v0 = 8 then ((fX7_addStep N v0 10 0 0 M84).bind fun (u92, M92) => some ((), M92)) else none)) else none) else (if s0 = 20 then (if mK M70 v0 = 8 then ((rf 0 v0 v1 (v2 + 1) M70).bind fun (u109, M109) => (if mK M109 v1 = 10 then ((fX9_takeMark N v1 41 M109).bind fun (u115, M115) => some ((), M115)) else none)) else none) else (if mK M70 v0 = 8 then ((fX7_readPlain N v0 v1 s0 M70).bind fun (u124, M124) => some ((), M124)) else none)))) else none))) else (if mK M v1 = 10 then ((fX9_fail N v1 4 M).bind fun (u55, M55) => some ((), M55)) else none)))) else (if mK M v1 = 10 then ((fX9_fail N v1 1 M).bind fun (u34, M34) => some ((), M34)) else none)) else (if mK M v1 = 10 then ((fX9_fail N v1 1 M).bind fun (u34, M34) => some ((), M34)) else none)))
def fX7_readOne_b (N : Nat) (rf : Nat → Nat → Nat → Int32 → Mem → Option (Unit × Mem)) (v0 : Nat) (v1 : Nat) (v2 : Int32) (M : Mem) : Option (Unit × Mem) := (if mK M v1 = 10 then ((fX9_atMark N v1 40 M).bind fun (x3, M3) => (if x3 = 0 then ((fI M3 9 v1 9).bind fun x15 => fX7_readOne_J18 N rf v0 v1 v2 x15 M3) else fX7_readOne_J18 N rf v0 v1 v2 20 M3)) else none)
set_option maxHeartbeats 4000000 in
set_option maxRecDepth 100000 in
theorem kb_X7_readOne (l : Launch) (b : Nat) (D : va_G) (cy : Nat → ClassId) (N n0 : Nat) (hn0 : 5 ≤ n0) (rf : Nat → Nat → Nat → Int32 → Mem → Option (Unit × Mem)) (hrf_X7_readCond : ∀ (v0 : Nat) (v1 : Nat) (v2 : Int32) (M : Mem) (r : Unit) (Mf : Mem), rf 0 v0 v1 v2 M = some (r, Mf) → Ct l yX7_readCond cX7_readCond 6 none n0 0 0 b D cy [.ref (b + v0), .ref (b + v1), .int v2] M none Mf) (hrf_X7_readOne : ∀ (v0 : Nat) (v1 : Nat) (v2 : Int32) (M : Mem) (r : Unit) (Mf : Mem), rf 1 v0 v1 v2 M = some (r, Mf) → Ct l yX7_readOne cX7_readOne 4 none n0 0 0 b D cy [.ref (b + v0), .ref (b + v1), .int v2] M none Mf) (v0 : Nat) (v1 : Nat) (v2 : Int32) (M : Mem) (r : Unit) (Mf : Mem) (h : fX7_readOne_b N rf v0 v1 v2 M = some (r, Mf)) : Ct l yX7_readOne cX7_readOne 4 none (n0 + 1) 0 0 b D cy [.ref (b + v0), .ref (b + v1), .int v2] M none Mf := by
  refine Ct_of (own := RX7) (by decide) rfl (Nat.le_of_ble_eq_true rfl) ?_
  intro p e s m args below meth c F hr hl hmn
  unfold fX7_readOne_b at h
  have J18 : ∀ (v0 : Nat) (v1 : Nat) (v2 : Int32) (s0 : Int32) (M : Mem), fX7_readOne_J18 N rf v0 v1 v2 s0 M = some (r, Mf) → X p l e ({ frames := n0 + 1, cells := 0, slots := 0, locals := 100 * (n0 + 1) }) s m args below meth c (MQ below (Qm b D cy none Mf) args s 0 0 (fun q => b ≤ q)) 4 b D cy 0 0 M 18 [(0, .ref (b + v0)), (1, .ref (b + v1)), (2, .int v2)] [.int s0] := by
    intro v0 v1 v2 s0 M h
    unfold fX7_readOne_J18 at h
    refine x_istore_n F (lv' := [(3, .int s0), (0, .ref (b + v0)), (1, .ref (b + v1)), (2, .int v2)]) dX7_readOne_18 rfl (by decide) rfl ?_
    refine x_aload_n F dX7_readOne_19 rfl 2 rfl ?_
    obtain ⟨x20, c20, h⟩ := bdS h
    refine x_getI F (ci := 9) (C := RX9) (T := TX9) (N := 12) rfl ⟨by decide, rfl⟩ inU9 10 (by decide) (fun _ _ _ => rfl) wl_436 c20 dX7_readOne_20 ?_
    refine x_if_ne F (tgt := 32) dX7_readOne_23 (by decide) (fun c23 => ?_) (fun c23 => ?_)
    · rw [if_neg c23] at h
      refine x_aload_n F dX7_readOne_32 rfl 2 rfl ?_
      refine x_iconst F (v := 1) dX7_readOne_33 (by decide) ?_
      obtain ⟨k34, h⟩ := gdS h
      obtain ⟨⟨u34, M34⟩, c34, h⟩ := bdS h
      dsimp only at h
      refine x_callV F (As := [.int 1]) (rest := []) (res := none) (ci := 9) (q := (RX9, TX9, 12)) rfl (by decide) k34 (k_X9_fail l b D cy N v1 1 M _ _ c34) wl_421 wl_185 wl_186 wl_164 wl_182 hd_X9_fail ⟨by show 1 + 1 ≤ n0 + 1; omega, by show 8 + (2 + 11) + 100 * 1 ≤ 100 * (n0 + 1); omega⟩ ⟨Nat.le_refl _, Nat.le_refl _⟩ (Nat.le_of_ble_eq_true rfl) rfl dX7_readOne_34 ?_
      obtain ⟨rfl, rfl⟩ := retS h
      exact x_vret F hr hl dX7_readOne_37
    · rw [if_pos c23] at h
      refine x_iload_n F dX7_readOne_26 rfl 0 rfl ?_
      refine x_bipush F (v := 10) dX7_readOne_27 (by decide) ?_
      refine x_icmp_ge F (tgt := 38) dX7_readOne_29 (by decide) (fun c29 => ?_) (fun c29 => ?_)
      · rw [if_pos c29] at h
        refine x_aload_n F dX7_readOne_38 rfl 1 rfl ?_
        obtain ⟨x39, c39, h⟩ := bdS h
        refine x_getI F (ci := 7) (C := RX7) (T := TX7) (N := 7) rfl ⟨by decide, rfl⟩ inU7 6 (by decide) (fun _ _ _ => rfl) wl_412 c39 dX7_readOne_39 ?_
        refine x_bipush F (v := 20) dX7_readOne_42 (by decide) ?_
        refine x_icmp_ge F (tgt := 53) dX7_readOne_44 (by decide) (fun c44 => ?_) (fun c44 => ?_)
        · rw [if_pos c44] at h
          refine x_aload_n F dX7_readOne_53 rfl 2 rfl ?_
          refine x_iconst F (v := 4) dX7_readOne_54 (by decide) ?_
          obtain ⟨k55, h⟩ := gdS h
          obtain ⟨⟨u55, M55⟩, c55, h⟩ := bdS h
          dsimp only at h
          refine x_callV F (As := [.int 4]) (rest := []) (res := none) (ci := 9) (q := (RX9, TX9, 12)) rfl (by decide) k55 (k_X9_fail l b D cy N v1 4 M _ _ c55) wl_421 wl_185 wl_186 wl_164 wl_182 hd_X9_fail ⟨by show 1 + 1 ≤ n0 + 1; omega, by show 8 + (2 + 11) + 100 * 1 ≤ 100 * (n0 + 1); omega⟩ ⟨Nat.le_refl _, Nat.le_refl _⟩ (Nat.le_of_ble_eq_true rfl) rfl dX7_readOne_55 ?_
          obtain ⟨rfl, rfl⟩ := retS h
          exact x_vret F hr hl dX7_readOne_58
        · rw [if_neg c44] at h
          refine x_iload_n F dX7_readOne_47 rfl 3 rfl ?_
          refine x_bipush F (v := 8) dX7_readOne_48 (by decide) ?_
          refine x_icmp_le F (tgt := 59) dX7_readOne_50 (by decide) (fun c50 => ?_) (fun c50 => ?_)
          · rw [if_pos c50] at h
            refine x_aload_n F dX7_readOne_59 rfl 1 rfl ?_
            refine x_dup F dX7_readOne_60 rfl ?_
            obtain ⟨x61, c61, h⟩ := bdS h
            refine x_getI F (ci := 7) (C := RX7) (T := TX7) (N := 7) rfl ⟨by decide, rfl⟩ inU7 6 (by decide) (fun _ _ _ => rfl) wl_412 c61 dX7_readOne_61 ?_
            refine x_iconst F (v := 1) dX7_readOne_64 (by decide) ?_
            refine x_iadd F dX7_readOne_65 ?_
            obtain ⟨M66, c66, h⟩ := bdS h
            refine x_putI F (ci := 7) (C := RX7) (T := TX7) (N := 7) rfl ⟨by decide, rfl⟩ inU7 tyX7_ok nmX7 6 (by decide) rfl rfl wl_412 c66 dX7_readOne_66 ?_
            refine x_aload_n F dX7_readOne_69 rfl 2 rfl ?_
            obtain ⟨k70, h⟩ := gdS h
            obtain ⟨⟨u70, M70⟩, c70, h⟩ := bdS h
            dsimp only at h
            refine x_callV F (As := []) (rest := []) (res := none) (ci := 9) (q := (RX9, TX9, 12)) rfl (by decide) k70 (k_X9_advance l b D cy N v1 M66 _ _ c70) wl_420 wl_178 wl_179 wl_164 wl_174 hd_X9_advance ⟨by show 2 + 1 ≤ n0 + 1; omega, by show 8 + (1 + 11) + 100 * 2 ≤ 100 * (n0 + 1); omega⟩ ⟨Nat.le_refl _, Nat.le_refl _⟩ (Nat.le_of_ble_eq_true rfl) rfl dX7_readOne_70 ?_
            refine x_iload_n F dX7_readOne_73 rfl 0 rfl ?_
            refine x_bipush F (v := 10) dX7_readOne_74 (by decide) ?_
            refine x_icmp_ne F (tgt := 98) dX7_readOne_76 (by decide) (fun c76 => ?_) (fun c76 => ?_)
            · rw [if_neg c76] at h
              refine x_iload_n F dX7_readOne_98 rfl 0 rfl ?_
              refine x_bipush F (v := 20) dX7_readOne_99 (by decide) ?_
              refine x_icmp_ne F (tgt := 121) dX7_readOne_101 (by decide) (fun c101 => ?_) (fun c101 => ?_)
              · rw [if_neg c101] at h
                refine x_aload_n F dX7_readOne_121 rfl 1 rfl ?_
                refine x_aload_n F dX7_readOne_122 rfl 2 rfl ?_
                refine x_iload_n F dX7_readOne_123 rfl 0 rfl ?_
                obtain ⟨k124, h⟩ := gdS h
                obtain ⟨⟨u124, M124⟩, c124, h⟩ := bdS h
                dsimp only at h
                refine x_callV F (As := [.ref (b + v1), .int s0]) (rest := []) (res := none) (ci := 7) (q := (RX7, TX7, 7)) rfl (by decide) k124 (k_X7_readPlain l b D cy N v0 v1 s0 M70 _ _ c124) wl_446 wl_447 wl_448 wl_430 wl_435 hd_X7_readPlain ⟨by show 4 + 1 ≤ n0 + 1; omega, by show 8 + (5 + 11) + 100 * 4 ≤ 100 * (n0 + 1); omega⟩ ⟨Nat.le_refl _, Nat.le_refl _⟩ (Nat.le_of_ble_eq_true rfl) rfl dX7_readOne_124 ?_
                obtain ⟨rfl, rfl⟩ := retS h
                exact x_vret F hr hl dX7_readOne_127
              · rw [if_pos c101] at h
                refine x_aload_n F dX7_readOne_104 rfl 1 rfl ?_
                refine x_aload_n F dX7_readOne_105 rfl 2 rfl ?_
                refine x_iload_n F dX7_readOne_106 rfl 3 rfl ?_
                refine x_iconst F (v := 1) dX7_readOne_107 (by decide) ?_
                refine x_iadd F dX7_readOne_108 ?_
                obtain ⟨k109, h⟩ := gdS h
                obtain ⟨⟨u109, M109⟩, c109, h⟩ := bdS h
                dsimp only at h
                refine x_callV F (As := [.ref (b + v1), .int (v2 + 1)]) (rest := []) (res := none) (ci := 7) (q := (RX7, TX7, 7)) rfl (by decide) k109 (hrf_X7_readCond v0 v1 (v2 + 1) M70 _ _ c109) wl_442 wl_443 wl_444 wl_430 wl_449 hd_X7_readCond ⟨by show n0 + 1 ≤ n0 + 1; omega, by show 8 + (6 + 11) + 100 * n0 ≤ 100 * (n0 + 1); omega⟩ ⟨Nat.le_refl _, Nat.le_refl _⟩ (Nat.le_of_ble_eq_true rfl) rfl dX7_readOne_109 ?_
                refine x_aload_n F dX7_readOne_112 rfl 2 rfl ?_
                refine x_bipush F (v := 41) dX7_readOne_113 (by decide) ?_
                obtain ⟨k115, h⟩ := gdS h
                obtain ⟨⟨u115, M115⟩, c115, h⟩ := bdS h
                dsimp only at h
                refine x_callV F (As := [.int 41]) (rest := []) (res := none) (ci := 9) (q := (RX9, TX9, 12)) rfl (by decide) k115 (k_X9_takeMark l b D cy N v1 41 M109 _ _ c115) wl_445 wl_234 wl_235 wl_164 wl_225 hd_X9_takeMark ⟨by show 3 + 1 ≤ n0 + 1; omega, by show 8 + (2 + 11) + 100 * 3 ≤ 100 * (n0 + 1); omega⟩ ⟨Nat.le_refl _, Nat.le_refl _⟩ (Nat.le_of_ble_eq_true rfl) rfl dX7_readOne_115 ?_
                refine x_goto F (tgt := 127) dX7_readOne_118 (by decide) ?_
                obtain ⟨rfl, rfl⟩ := retS h
                exact x_vret F hr hl dX7_readOne_127
            · rw [if_pos c76] at h
              refine x_aload_n F dX7_readOne_79 rfl 1 rfl ?_
              refine x_aload_n F dX7_readOne_80 rfl 2 rfl ?_
              refine x_iload_n F dX7_readOne_81 rfl 3 rfl ?_
              refine x_iconst F (v := 1) dX7_readOne_82 (by decide) ?_
              refine x_iadd F dX7_readOne_83 ?_
              obtain ⟨k84, h⟩ := gdS h
              obtain ⟨⟨u84, M84⟩, c84, h⟩ := bdS h
              dsimp only at h
              refine x_callV F (As := [.ref (b + v1), .int (v2 + 1)]) (rest := []) (res := none) (ci := 7) (q := (RX7, TX7, 7)) rfl (by decide) k84 (hrf_X7_readOne v0 v1 (v2 + 1) M70 _ _ c84) wl_438 wl_439 wl_440 wl_430 wl_441 hd_X7_readOne ⟨by show n0 + 1 ≤ n0 + 1; omega, by show 8 + (4 + 11) + 100 * n0 ≤ 100 * (n0 + 1); omega⟩ ⟨Nat.le_refl _, Nat.le_refl _⟩ (Nat.le_of_ble_eq_true rfl) rfl dX7_readOne_84 ?_
              refine x_aload_n F dX7_readOne_87 rfl 1 rfl ?_
              refine x_bipush F (v := 10) dX7_readOne_88 (by decide) ?_
              refine x_iconst F (v := 0) dX7_readOne_90 (by decide) ?_
              refine x_iconst F (v := 0) dX7_readOne_91 (by decide) ?_
              obtain ⟨k92, h⟩ := gdS h
              obtain ⟨⟨u92, M92⟩, c92, h⟩ := bdS h
              dsimp only at h
              refine x_callV F (As := [.int 10, .int 0, .int 0]) (rest := []) (res := none) (ci := 7) (q := (RX7, TX7, 7)) rfl (by decide) k92 (k_X7_addStep l b D cy N v0 10 0 0 M84 _ _ c92) wl_432 wl_433 wl_434 wl_430 wl_417 hd_X7_addStep ⟨by show 1 + 1 ≤ n0 + 1; omega, by show 8 + (4 + 11) + 100 * 1 ≤ 100 * (n0 + 1); omega⟩ ⟨Nat.le_refl _, Nat.le_refl _⟩ (Nat.le_of_ble_eq_true rfl) rfl dX7_readOne_92 ?_
              refine x_goto F (tgt := 127) dX7_readOne_95 (by decide) ?_
              obtain ⟨rfl, rfl⟩ := retS h
              exact x_vret F hr hl dX7_readOne_127
          · rw [if_neg c50] at h
            refine x_aload_n F dX7_readOne_53 rfl 2 rfl ?_
            refine x_iconst F (v := 4) dX7_readOne_54 (by decide) ?_
            obtain ⟨k55, h⟩ := gdS h
            obtain ⟨⟨u55, M55⟩, c55, h⟩ := bdS h
            dsimp only at h
            refine x_callV F (As := [.int 4]) (rest := []) (res := none) (ci := 9) (q := (RX9, TX9, 12)) rfl (by decide) k55 (k_X9_fail l b D cy N v1 4 M _ _ c55) wl_421 wl_185 wl_186 wl_164 wl_182 hd_X9_fail ⟨by show 1 + 1 ≤ n0 + 1; omega, by show 8 + (2 + 11) + 100 * 1 ≤ 100 * (n0 + 1); omega⟩ ⟨Nat.le_refl _, Nat.le_refl _⟩ (Nat.le_of_ble_eq_true rfl) rfl dX7_readOne_55 ?_
            obtain ⟨rfl, rfl⟩ := retS h
            exact x_vret F hr hl dX7_readOne_58
      · rw [if_neg c29] at h
        refine x_aload_n F dX7_readOne_32 rfl 2 rfl ?_
        refine x_iconst F (v := 1) dX7_readOne_33 (by decide) ?_
        obtain ⟨k34, h⟩ := gdS h
        obtain ⟨⟨u34, M34⟩, c34, h⟩ := bdS h
        dsimp only at h
        refine x_callV F (As := [.int 1]) (rest := []) (res := none) (ci := 9) (q := (RX9, TX9, 12)) rfl (by decide) k34 (k_X9_fail l b D cy N v1 1 M _ _ c34) wl_421 wl_185 wl_186 wl_164 wl_182 hd_X9_fail ⟨by show 1 + 1 ≤ n0 + 1; omega, by show 8 + (2 + 11) + 100 * 1 ≤ 100 * (n0 + 1); omega⟩ ⟨Nat.le_refl _, Nat.le_refl _⟩ (Nat.le_of_ble_eq_true rfl) rfl dX7_readOne_34 ?_
        obtain ⟨rfl, rfl⟩ := retS h
        exact x_vret F hr hl dX7_readOne_37
  show X p l e ({ frames := n0 + 1, cells := 0, slots := 0, locals := 100 * (n0 + 1) }) s m args below meth c (MQ below (Qm b D cy none Mf) args s 0 0 (fun q => b ≤ q)) 4 b D cy 0 0 M 0 [(0, .ref (b + v0)), (1, .ref (b + v1)), (2, .int v2)] []
  refine x_aload_n F dX7_readOne_0 rfl 1 rfl ?_
  refine x_bipush F (v := 40) dX7_readOne_1 (by decide) ?_
  obtain ⟨k3, h⟩ := gdS h
  obtain ⟨⟨x3, M3⟩, c3, h⟩ := bdS h
  dsimp only at h
  refine x_callV F (As := [.int 40]) (rest := []) (res := (some (.int x3))) (ci := 9) (q := (RX9, TX9, 12)) rfl (by decide) k3 (k_X9_atMark l b D cy N v1 40 M _ _ c3) wl_419 wl_223 wl_224 wl_164 wl_221 hd_X9_atMark ⟨by show 1 + 1 ≤ n0 + 1; omega, by show 8 + (2 + 11) + 100 * 1 ≤ 100 * (n0 + 1); omega⟩ ⟨Nat.le_refl _, Nat.le_refl _⟩ (Nat.le_of_ble_eq_true rfl) rfl dX7_readOne_3 ?_
  refine x_if_eq F (tgt := 14) dX7_readOne_6 (by decide) (fun c6 => ?_) (fun c6 => ?_)
  · rw [if_pos c6] at h
    refine x_aload_n F dX7_readOne_14 rfl 1 rfl ?_
    obtain ⟨x15, c15, h⟩ := bdS h
    refine x_getI F (ci := 9) (C := RX9) (T := TX9) (N := 12) rfl ⟨by decide, rfl⟩ inU9 9 (by decide) (fun _ _ _ => rfl) wl_437 c15 dX7_readOne_15 ?_
    exact J18 v0 v1 v2 x15 M3 h
  · rw [if_neg c6] at h
    refine x_bipush F (v := 20) dX7_readOne_9 (by decide) ?_
    refine x_goto F (tgt := 18) dX7_readOne_11 (by decide) ?_
    exact J18 v0 v1 v2 20 M3 h
def fX7_rd (N : Nat) : Nat → Nat → Nat → Nat → Int32 → Mem → Option (Unit × Mem)
  | 0, _, _, _, _, _ => none
  | d + 1, t, v0, v1, v2, M => if t = 0 then fX7_readCond_b N (fX7_rd N d) v0 v1 v2 M else fX7_readOne_b N (fX7_rd N d) v0 v1 v2 M
theorem kg_X7_rd (l : Launch) (b : Nat) (D : va_G) (cy : Nat → ClassId) (N : Nat) : ∀ d : Nat, (∀ (v0 : Nat) (v1 : Nat) (v2 : Int32) (M : Mem) (r : Unit) (Mf : Mem), fX7_rd N d 0 v0 v1 v2 M = some (r, Mf) → Ct l yX7_readCond cX7_readCond 6 none (5 + d) 0 0 b D cy [.ref (b + v0), .ref (b + v1), .int v2] M none Mf) ∧ (∀ (v0 : Nat) (v1 : Nat) (v2 : Int32) (M : Mem) (r : Unit) (Mf : Mem), fX7_rd N d 1 v0 v1 v2 M = some (r, Mf) → Ct l yX7_readOne cX7_readOne 4 none (5 + d) 0 0 b D cy [.ref (b + v0), .ref (b + v1), .int v2] M none Mf) := by
  intro d
  induction d with
  | zero => exact ⟨fun v0 v1 v2 M r Mf h => (by rw [fX7_rd] at h; cases h), fun v0 v1 v2 M r Mf h => (by rw [fX7_rd] at h; cases h)⟩
  | succ d ih =>
    exact ⟨fun v0 v1 v2 M r Mf h => (by rw [fX7_rd] at h; rw [if_pos rfl] at h; exact kb_X7_readCond l b D cy N (5 + d) (by omega) _ (ih.1) (ih.2) v0 v1 v2 M r Mf h),
      fun v0 v1 v2 M r Mf h => (by rw [fX7_rd] at h; rw [if_neg (by decide)] at h; exact kb_X7_readOne l b D cy N (5 + d) (by omega) _ (ih.1) (ih.2) v0 v1 v2 M r Mf h)⟩
theorem k_X7_readCond (l : Launch) (b : Nat) (D : va_G) (cy : Nat → ClassId) (N d : Nat) (v0 : Nat) (v1 : Nat) (v2 : Int32) (M : Mem) (r : Unit) (Mf : Mem) (h : fX7_rd N d 0 v0 v1 v2 M = some (r, Mf)) : Ct l yX7_readCond cX7_readCond 6 none (5 + d) 0 0 b D cy [.ref (b + v0), .ref (b + v1), .int v2] M none Mf := (kg_X7_rd l b D cy N d).1 v0 v1 v2 M r Mf h
theorem k_X7_readOne (l : Launch) (b : Nat) (D : va_G) (cy : Nat → ClassId) (N d : Nat) (v0 : Nat) (v1 : Nat) (v2 : Int32) (M : Mem) (r : Unit) (Mf : Mem) (h : fX7_rd N d 1 v0 v1 v2 M = some (r, Mf)) : Ct l yX7_readOne cX7_readOne 4 none (5 + d) 0 0 b D cy [.ref (b + v0), .ref (b + v1), .int v2] M none Mf := (kg_X7_rd l b D cy N d).2 v0 v1 v2 M r Mf h
theorem hd_X7_clear : (yX7_clear).cls = RX7 ∧ (yX7_clear).cls ≠ "java/lang/invoke/MethodHandle" ∧ (yX7_clear).cls ≠ "java/lang/invoke/VarHandle" ∧ (parseMethodDescriptor (yX7_clear).desc).map (fun d => d.parameters.length) = some 0 := by decide +kernel
theorem dX7_readFrom_0 : decode cX7_readFrom 0 = .ok (.aload_n 0, 1) := by decide +kernel
theorem dX7_readFrom_1 : decode cX7_readFrom 1 = .ok (.invokevirtual 41, 3) := by decide +kernel
theorem dX7_readFrom_4 : decode cX7_readFrom 4 = .ok (.aload_n 1, 1) := by decide +kernel
theorem dX7_readFrom_5 : decode cX7_readFrom 5 = .ok (.sipush 200, 3) := by decide +kernel
theorem dX7_readFrom_8 : decode cX7_readFrom 8 = .ok (.invokevirtual 44, 3) := by decide +kernel
theorem dX7_readFrom_11 : decode cX7_readFrom 11 = .ok (.aload_n 0, 1) := by decide +kernel
theorem dX7_readFrom_12 : decode cX7_readFrom 12 = .ok (.aload_n 1, 1) := by decide +kernel
theorem dX7_readFrom_13 : decode cX7_readFrom 13 = .ok (.iconst 1, 1) := by decide +kernel
theorem dX7_readFrom_14 : decode cX7_readFrom 14 = .ok (.invokevirtual 50, 3) := by decide +kernel
theorem dX7_readFrom_17 : decode cX7_readFrom 17 = .ok (.aload_n 1, 1) := by decide +kernel
theorem dX7_readFrom_18 : decode cX7_readFrom 18 = .ok (.getfield 54, 3) := by decide +kernel
theorem dX7_readFrom_21 : decode cX7_readFrom 21 = .ok (.ifCond .eq 8, 3) := by decide +kernel
theorem dX7_readFrom_24 : decode cX7_readFrom 24 = .ok (.aload_n 1, 1) := by decide +kernel
theorem dX7_readFrom_25 : decode cX7_readFrom 25 = .ok (.iconst 1, 1) := by decide +kernel
theorem dX7_readFrom_26 : decode cX7_readFrom 26 = .ok (.invokevirtual 57, 3) := by decide +kernel
theorem dX7_readFrom_29 : decode cX7_readFrom 29 = .ok (.return_, 1) := by decide +kernel
def fX7_readFrom (N : Nat) (v0 : Nat) (v1 : Nat) (M : Mem) : Option (Unit × Mem) := (if mK M v0 = 8 then ((fX7_clear N v0 M).bind fun (u1, M1) => (if mK M1 v1 = 10 then ((fX9_startReading N v1 200 M1).bind fun (u8, M8) => (if mK M8 v0 = 8 then ((fX7_rd N 40 0 v0 v1 1 M8).bind fun (u14, M14) => ((fI M14 9 v1 5).bind fun x18 => (if x18 = 0 then some ((), M14) else (if mK M14 v1 = 10 then ((fX9_fail N v1 1 M14).bind fun (u26, M26) => some ((), M26)) else none)))) else none)) else none)) else none)
set_option maxHeartbeats 4000000 in
set_option maxRecDepth 100000 in
theorem k_X7_readFrom (l : Launch) (b : Nat) (D : va_G) (cy : Nat → ClassId) (N : Nat) (v0 : Nat) (v1 : Nat) (M : Mem) (r : Unit) (Mf : Mem) (h : fX7_readFrom N v0 v1 M = some (r, Mf)) : Ct l yX7_readFrom cX7_readFrom 2 none 46 0 0 b D cy [.ref (b + v0), .ref (b + v1)] M none Mf := by
  refine Ct_of (own := RX7) (by decide) rfl (Nat.le_of_ble_eq_true rfl) ?_
  intro p e s m args below meth c F hr hl hmn
  unfold fX7_readFrom at h
  show X p l e ({ frames := 46, cells := 0, slots := 0, locals := 100 * 46 }) s m args below meth c (MQ below (Qm b D cy none Mf) args s 0 0 (fun q => b ≤ q)) 2 b D cy 0 0 M 0 [(0, .ref (b + v0)), (1, .ref (b + v1))] []
  refine x_aload_n F dX7_readFrom_0 rfl 0 rfl ?_
  obtain ⟨k1, h⟩ := gdS h
  obtain ⟨⟨u1, M1⟩, c1, h⟩ := bdS h
  dsimp only at h
  refine x_callV F (As := []) (rest := []) (res := none) (ci := 7) (q := (RX7, TX7, 7)) rfl (by decide) k1 (k_X7_clear l b D cy N v0 M _ _ c1) wl_451 wl_452 wl_453 wl_430 wl_414 hd_X7_clear ⟨Nat.le_of_ble_eq_true rfl, Nat.le_of_ble_eq_true rfl⟩ ⟨Nat.le_refl _, Nat.le_refl _⟩ (Nat.le_of_ble_eq_true rfl) rfl dX7_readFrom_1 ?_
  refine x_aload_n F dX7_readFrom_4 rfl 1 rfl ?_
  refine x_sipush F (v := 200) dX7_readFrom_5 (by decide) ?_
  obtain ⟨k8, h⟩ := gdS h
  obtain ⟨⟨u8, M8⟩, c8, h⟩ := bdS h
  dsimp only at h
  refine x_callV F (As := [.int 200]) (rest := []) (res := none) (ci := 9) (q := (RX9, TX9, 12)) rfl (by decide) k8 (k_X9_startReading l b D cy N v1 200 M1 _ _ c8) wl_454 wl_228 wl_229 wl_164 wl_180 hd_X9_startReading ⟨Nat.le_of_ble_eq_true rfl, Nat.le_of_ble_eq_true rfl⟩ ⟨Nat.le_refl _, Nat.le_refl _⟩ (Nat.le_of_ble_eq_true rfl) rfl dX7_readFrom_8 ?_
  refine x_aload_n F dX7_readFrom_11 rfl 0 rfl ?_
  refine x_aload_n F dX7_readFrom_12 rfl 1 rfl ?_
  refine x_iconst F (v := 1) dX7_readFrom_13 (by decide) ?_
  obtain ⟨k14, h⟩ := gdS h
  obtain ⟨⟨u14, M14⟩, c14, h⟩ := bdS h
  dsimp only at h
  refine x_callV F (As := [.ref (b + v1), .int 1]) (rest := []) (res := none) (ci := 7) (q := (RX7, TX7, 7)) rfl (by decide) k14 (k_X7_readCond l b D cy N 40 v0 v1 1 M8 _ _ c14) wl_442 wl_443 wl_444 wl_430 wl_449 hd_X7_readCond ⟨Nat.le_of_ble_eq_true rfl, Nat.le_of_ble_eq_true rfl⟩ ⟨Nat.le_refl _, Nat.le_refl _⟩ (Nat.le_of_ble_eq_true rfl) rfl dX7_readFrom_14 ?_
  refine x_aload_n F dX7_readFrom_17 rfl 1 rfl ?_
  obtain ⟨x18, c18, h⟩ := bdS h
  refine x_getI F (ci := 9) (C := RX9) (T := TX9) (N := 12) rfl ⟨by decide, rfl⟩ inU9 5 (by decide) (fun _ _ _ => rfl) wl_450 c18 dX7_readFrom_18 ?_
  refine x_if_eq F (tgt := 29) dX7_readFrom_21 (by decide) (fun c21 => ?_) (fun c21 => ?_)
  · rw [if_pos c21] at h
    obtain ⟨rfl, rfl⟩ := retS h
    exact x_vret F hr hl dX7_readFrom_29
  · rw [if_neg c21] at h
    refine x_aload_n F dX7_readFrom_24 rfl 1 rfl ?_
    refine x_iconst F (v := 1) dX7_readFrom_25 (by decide) ?_
    obtain ⟨k26, h⟩ := gdS h
    obtain ⟨⟨u26, M26⟩, c26, h⟩ := bdS h
    dsimp only at h
    refine x_callV F (As := [.int 1]) (rest := []) (res := none) (ci := 9) (q := (RX9, TX9, 12)) rfl (by decide) k26 (k_X9_fail l b D cy N v1 1 M14 _ _ c26) wl_421 wl_185 wl_186 wl_164 wl_182 hd_X9_fail ⟨Nat.le_of_ble_eq_true rfl, Nat.le_of_ble_eq_true rfl⟩ ⟨Nat.le_refl _, Nat.le_refl _⟩ (Nat.le_of_ble_eq_true rfl) rfl dX7_readFrom_26 ?_
    obtain ⟨rfl, rfl⟩ := retS h
    exact x_vret F hr hl dX7_readFrom_29
theorem dX7_compares_0 : decode cX7_compares 0 = .ok (.iload_n 1, 1) := by decide +kernel
theorem dX7_compares_1 : decode cX7_compares 1 = .ok (.bipush 60, 2) := by decide +kernel
theorem dX7_compares_3 : decode cX7_compares 3 = .ok (.if_icmp .ne 14, 3) := by decide +kernel
theorem dX7_compares_6 : decode cX7_compares 6 = .ok (.iload_n 0, 1) := by decide +kernel
theorem dX7_compares_7 : decode cX7_compares 7 = .ok (.iload_n 2, 1) := by decide +kernel
theorem dX7_compares_8 : decode cX7_compares 8 = .ok (.if_icmp .ge 7, 3) := by decide +kernel
theorem dX7_compares_11 : decode cX7_compares 11 = .ok (.iconst 1, 1) := by decide +kernel
theorem dX7_compares_12 : decode cX7_compares 12 = .ok (.goto 4, 3) := by decide +kernel
theorem dX7_compares_15 : decode cX7_compares 15 = .ok (.iconst 0, 1) := by decide +kernel
theorem dX7_compares_16 : decode cX7_compares 16 = .ok (.ireturn, 1) := by decide +kernel
theorem dX7_compares_17 : decode cX7_compares 17 = .ok (.iload_n 1, 1) := by decide +kernel
theorem dX7_compares_18 : decode cX7_compares 18 = .ok (.bipush 62, 2) := by decide +kernel
theorem dX7_compares_20 : decode cX7_compares 20 = .ok (.if_icmp .ne 16, 3) := by decide +kernel
theorem dX7_compares_23 : decode cX7_compares 23 = .ok (.iload_n 0, 1) := by decide +kernel
theorem dX7_compares_24 : decode cX7_compares 24 = .ok (.iload_n 2, 1) := by decide +kernel
theorem dX7_compares_25 : decode cX7_compares 25 = .ok (.if_icmp .le 7, 3) := by decide +kernel
theorem dX7_compares_28 : decode cX7_compares 28 = .ok (.iconst 1, 1) := by decide +kernel
theorem dX7_compares_29 : decode cX7_compares 29 = .ok (.goto 17, 3) := by decide +kernel
theorem dX7_compares_32 : decode cX7_compares 32 = .ok (.iconst 0, 1) := by decide +kernel
theorem dX7_compares_33 : decode cX7_compares 33 = .ok (.goto 13, 3) := by decide +kernel
theorem dX7_compares_36 : decode cX7_compares 36 = .ok (.iload_n 0, 1) := by decide +kernel
theorem dX7_compares_37 : decode cX7_compares 37 = .ok (.iload_n 2, 1) := by decide +kernel
theorem dX7_compares_38 : decode cX7_compares 38 = .ok (.if_icmp .ne 7, 3) := by decide +kernel
theorem dX7_compares_41 : decode cX7_compares 41 = .ok (.iconst 1, 1) := by decide +kernel
theorem dX7_compares_42 : decode cX7_compares 42 = .ok (.goto 4, 3) := by decide +kernel
theorem dX7_compares_45 : decode cX7_compares 45 = .ok (.iconst 0, 1) := by decide +kernel
theorem dX7_compares_46 : decode cX7_compares 46 = .ok (.ireturn, 1) := by decide +kernel
def fX7_compares (N : Nat) (v0 : Int32) (v1 : Int32) (v2 : Int32) (M : Mem) : Option (Int32 × Mem) := (if v1 = 60 then (if v2 ≤ v0 then some (0, M) else some (1, M)) else (if v1 = 62 then (if v0 ≤ v2 then some (0, M) else some (1, M)) else (if v0 = v2 then some (1, M) else some (0, M))))
set_option maxHeartbeats 4000000 in
set_option maxRecDepth 100000 in
theorem k_X7_compares (l : Launch) (b : Nat) (D : va_G) (cy : Nat → ClassId) (N : Nat) (v0 : Int32) (v1 : Int32) (v2 : Int32) (M : Mem) (r : Int32) (Mf : Mem) (h : fX7_compares N v0 v1 v2 M = some (r, Mf)) : Ct l yX7_compares cX7_compares 3 (some .boolean) 1 0 0 b D cy [.int v0, .int v1, .int v2] M (some (.int r)) Mf := by
  refine Ct_of (own := RX7) (by decide) rfl (Nat.le_of_ble_eq_true rfl) ?_
  intro p e s m args below meth c F hr hl hmn
  unfold fX7_compares at h
  show X p l e ({ frames := 1, cells := 0, slots := 0, locals := 100 * 1 }) s m args below meth c (MQ below (Qm b D cy (some (.int r)) Mf) args s 0 0 (fun q => b ≤ q)) 3 b D cy 0 0 M 0 [(0, .int v0), (1, .int v1), (2, .int v2)] []
  refine x_iload_n F dX7_compares_0 rfl 1 rfl ?_
  refine x_bipush F (v := 60) dX7_compares_1 (by decide) ?_
  refine x_icmp_ne F (tgt := 17) dX7_compares_3 (by decide) (fun c3 => ?_) (fun c3 => ?_)
  · rw [if_neg c3] at h
    refine x_iload_n F dX7_compares_17 rfl 1 rfl ?_
    refine x_bipush F (v := 62) dX7_compares_18 (by decide) ?_
    refine x_icmp_ne F (tgt := 36) dX7_compares_20 (by decide) (fun c20 => ?_) (fun c20 => ?_)
    · rw [if_neg c20] at h
      refine x_iload_n F dX7_compares_36 rfl 0 rfl ?_
      refine x_iload_n F dX7_compares_37 rfl 2 rfl ?_
      refine x_icmp_ne F (tgt := 45) dX7_compares_38 (by decide) (fun c38 => ?_) (fun c38 => ?_)
      · rw [if_neg c38] at h
        refine x_iconst F (v := 0) dX7_compares_45 (by decide) ?_
        obtain ⟨rfl, rfl⟩ := retS h
        exact x_zret F hr hl (by decide) dX7_compares_46
      · rw [if_pos c38] at h
        refine x_iconst F (v := 1) dX7_compares_41 (by decide) ?_
        refine x_goto F (tgt := 46) dX7_compares_42 (by decide) ?_
        obtain ⟨rfl, rfl⟩ := retS h
        exact x_zret F hr hl (by decide) dX7_compares_46
    · rw [if_pos c20] at h
      refine x_iload_n F dX7_compares_23 rfl 0 rfl ?_
      refine x_iload_n F dX7_compares_24 rfl 2 rfl ?_
      refine x_icmp_le F (tgt := 32) dX7_compares_25 (by decide) (fun c25 => ?_) (fun c25 => ?_)
      · rw [if_pos c25] at h
        refine x_iconst F (v := 0) dX7_compares_32 (by decide) ?_
        refine x_goto F (tgt := 46) dX7_compares_33 (by decide) ?_
        obtain ⟨rfl, rfl⟩ := retS h
        exact x_zret F hr hl (by decide) dX7_compares_46
      · rw [if_neg c25] at h
        refine x_iconst F (v := 1) dX7_compares_28 (by decide) ?_
        refine x_goto F (tgt := 46) dX7_compares_29 (by decide) ?_
        obtain ⟨rfl, rfl⟩ := retS h
        exact x_zret F hr hl (by decide) dX7_compares_46
  · rw [if_pos c3] at h
    refine x_iload_n F dX7_compares_6 rfl 0 rfl ?_
    refine x_iload_n F dX7_compares_7 rfl 2 rfl ?_
    refine x_icmp_ge F (tgt := 15) dX7_compares_8 (by decide) (fun c8 => ?_) (fun c8 => ?_)
    · rw [if_pos c8] at h
      refine x_iconst F (v := 0) dX7_compares_15 (by decide) ?_
      obtain ⟨rfl, rfl⟩ := retS h
      exact x_zret F hr hl (by decide) dX7_compares_16
    · rw [if_neg c8] at h
      refine x_iconst F (v := 1) dX7_compares_11 (by decide) ?_
      refine x_goto F (tgt := 16) dX7_compares_12 (by decide) ?_
      obtain ⟨rfl, rfl⟩ := retS h
      exact x_zret F hr hl (by decide) dX7_compares_16
