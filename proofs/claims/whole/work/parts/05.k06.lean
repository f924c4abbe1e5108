theorem dX10_restore_0 : decode cX10_restore 0 = .ok (.iload_n 1, 1) := by decide +kernel
theorem dX10_restore_1 : decode cX10_restore 1 = .ok (.ifCond .lt 17, 3) := by decide +kernel
theorem dX10_restore_4 : decode cX10_restore 4 = .ok (.iload_n 1, 1) := by decide +kernel
theorem dX10_restore_5 : decode cX10_restore 5 = .ok (.iconst 2, 1) := by decide +kernel
theorem dX10_restore_6 : decode cX10_restore 6 = .ok (.if_icmp .ge 12, 3) := by decide +kernel
theorem dX10_restore_9 : decode cX10_restore 9 = .ok (.aload_n 0, 1) := by decide +kernel
theorem dX10_restore_10 : decode cX10_restore 10 = .ok (.getfield 110, 3) := by decide +kernel
theorem dX10_restore_13 : decode cX10_restore 13 = .ok (.iload_n 1, 1) := by decide +kernel
theorem dX10_restore_14 : decode cX10_restore 14 = .ok (.baload, 1) := by decide +kernel
theorem dX10_restore_15 : decode cX10_restore 15 = .ok (.ifCond .ne 5, 3) := by decide +kernel
theorem dX10_restore_18 : decode cX10_restore 18 = .ok (.iconst 0, 1) := by decide +kernel
theorem dX10_restore_19 : decode cX10_restore 19 = .ok (.ireturn, 1) := by decide +kernel
theorem dX10_restore_20 : decode cX10_restore 20 = .ok (.aload_n 0, 1) := by decide +kernel
theorem dX10_restore_21 : decode cX10_restore 21 = .ok (.getfield 19, 3) := by decide +kernel
theorem dX10_restore_24 : decode cX10_restore 24 = .ok (.aload_n 0, 1) := by decide +kernel
theorem dX10_restore_25 : decode cX10_restore 25 = .ok (.getfield 98, 3) := by decide +kernel
theorem dX10_restore_28 : decode cX10_restore 28 = .ok (.iload_n 1, 1) := by decide +kernel
theorem dX10_restore_29 : decode cX10_restore 29 = .ok (.aaload, 1) := by decide +kernel
theorem dX10_restore_30 : decode cX10_restore 30 = .ok (.invokevirtual 131, 3) := by decide +kernel
theorem dX10_restore_33 : decode cX10_restore 33 = .ok (.aload_n 0, 1) := by decide +kernel
theorem dX10_restore_34 : decode cX10_restore 34 = .ok (.getfield 31, 3) := by decide +kernel
theorem dX10_restore_37 : decode cX10_restore 37 = .ok (.aload_n 0, 1) := by decide +kernel
theorem dX10_restore_38 : decode cX10_restore 38 = .ok (.getfield 102, 3) := by decide +kernel
theorem dX10_restore_41 : decode cX10_restore 41 = .ok (.iload_n 1, 1) := by decide +kernel
theorem dX10_restore_42 : decode cX10_restore 42 = .ok (.aaload, 1) := by decide +kernel
theorem dX10_restore_43 : decode cX10_restore 43 = .ok (.invokevirtual 347, 3) := by decide +kernel
theorem dX10_restore_46 : decode cX10_restore 46 = .ok (.aload_n 0, 1) := by decide +kernel
theorem dX10_restore_47 : decode cX10_restore 47 = .ok (.getfield 55, 3) := by decide +kernel
theorem dX10_restore_50 : decode cX10_restore 50 = .ok (.aload_n 0, 1) := by decide +kernel
theorem dX10_restore_51 : decode cX10_restore 51 = .ok (.getfield 106, 3) := by decide +kernel
theorem dX10_restore_54 : decode cX10_restore 54 = .ok (.iload_n 1, 1) := by decide +kernel
theorem dX10_restore_55 : decode cX10_restore 55 = .ok (.aaload, 1) := by decide +kernel
theorem dX10_restore_56 : decode cX10_restore 56 = .ok (.invokevirtual 366, 3) := by decide +kernel
theorem dX10_restore_59 : decode cX10_restore 59 = .ok (.aload_n 0, 1) := by decide +kernel
theorem dX10_restore_60 : decode cX10_restore 60 = .ok (.getfield 41, 3) := by decide +kernel
theorem dX10_restore_63 : decode cX10_restore 63 = .ok (.invokevirtual 137, 3) := by decide +kernel
theorem dX10_restore_66 : decode cX10_restore 66 = .ok (.iconst 1, 1) := by decide +kernel
theorem dX10_restore_67 : decode cX10_restore 67 = .ok (.ireturn, 1) := by decide +kernel
def fX10_restore (N : Nat) (v0 : Nat) (v1 : Int32) (M : Mem) : Option (Int32 × Mem) := (if v1 < 0 then some (0, M) else (if 2 ≤ v1 then some (0, M) else ((fR M 10 v0 18).bind fun x10 => ((aZ M x10 v1).bind fun x14 => (if x14 = 0 then some (0, M) else ((fR M 10 v0 1).bind fun x21 => ((fR M 10 v0 15).bind fun x25 => ((aR M 25 x25 v1).bind fun x29 => (if mK M x21 = 9 then ((fX8_copyFrom N x21 x29 M).bind fun (u30, M30) => ((fR M30 10 v0 3).bind fun x34 => ((fR M30 10 v0 16).bind fun x38 => ((aR M30 23 x38 v1).bind fun x42 => (if mK M30 x34 = 1 then ((fX0_copyFrom N x34 x42 M30).bind fun (u43, M43) => ((fR M43 10 v0 7).bind fun x47 => ((fR M43 10 v0 17).bind fun x51 => ((aR M43 24 x51 v1).bind fun x55 => (if mK M43 x47 = 8 then ((fX7_copyFrom N x47 x55 M43).bind fun (u56, M56) => ((fR M56 10 v0 5).bind fun x60 => (if mK M56 x60 = 6 then ((fX5_clear N x60 M56).bind fun (u63, M63) => some (1, M63)) else none))) else none))))) else none))))) else none)))))))))
set_option maxHeartbeats 4000000 in
set_option maxRecDepth 100000 in
theorem k_X10_restore (l : Launch) (b : Nat) (D : va_G) (cy : Nat → ClassId) (N : Nat) (v0 : Nat) (v1 : Int32) (M : Mem) (r : Int32) (Mf : Mem) (h : fX10_restore N v0 v1 M = some (r, Mf)) : Ct l yX10_restore cX10_restore 2 (some .boolean) 2 0 0 b D cy [.ref (b + v0), .int v1] M (some (.int r)) Mf := by
  refine Ct_of (own := RX10) (by decide) rfl (Nat.le_of_ble_eq_true rfl) ?_
  intro p e s m args below meth c F hr hl hmn
  unfold fX10_restore at h
  show X p l e ({ frames := 2, cells := 0, slots := 0, locals := 100 * 2 }) s m args below meth c (MQ below (Qm b D cy (some (.int r)) Mf) args s 0 0 (fun q => b ≤ q)) 2 b D cy 0 0 M 0 [(0, .ref (b + v0)), (1, .int v1)] []
  refine x_iload_n F dX10_restore_0 rfl 1 rfl ?_
  refine x_if_lt F (tgt := 18) dX10_restore_1 (by decide) (fun c1 => ?_) (fun c1 => ?_)
  · rw [if_pos c1] at h
    refine x_iconst F (v := 0) dX10_restore_18 (by decide) ?_
    obtain ⟨rfl, rfl⟩ := retS h
    exact x_zret F hr hl (by decide) dX10_restore_19
  · rw [if_neg c1] at h
    refine x_iload_n F dX10_restore_4 rfl 1 rfl ?_
    refine x_iconst F (v := 2) dX10_restore_5 (by decide) ?_
    refine x_icmp_ge F (tgt := 18) dX10_restore_6 (by decide) (fun c6 => ?_) (fun c6 => ?_)
    · rw [if_pos c6] at h
      refine x_iconst F (v := 0) dX10_restore_18 (by decide) ?_
      obtain ⟨rfl, rfl⟩ := retS h
      exact x_zret F hr hl (by decide) dX10_restore_19
    · rw [if_neg c6] at h
      refine x_aload_n F dX10_restore_9 rfl 0 rfl ?_
      obtain ⟨x10, c10, h⟩ := bdS h
      refine x_getR F (ci := 10) (C := RX10) (T := TX10) (N := 19) rfl ⟨by decide, rfl⟩ inU10 18 (by decide) (fun _ _ _ => rfl) wl_653 c10 dX10_restore_10 ?_
      refine x_iload_n F dX10_restore_13 rfl 1 rfl ?_
      obtain ⟨x14, c14, h⟩ := bdS h
      refine x_aZ F c14 dX10_restore_14 ?_
      refine x_if_ne F (tgt := 20) dX10_restore_15 (by decide) (fun c15 => ?_) (fun c15 => ?_)
      · rw [if_neg c15] at h
        refine x_aload_n F dX10_restore_20 rfl 0 rfl ?_
        obtain ⟨x21, c21, h⟩ := bdS h
        refine x_getR F (ci := 10) (C := RX10) (T := TX10) (N := 19) rfl ⟨by decide, rfl⟩ inU10 1 (by decide) (fun _ _ _ => rfl) wl_619 c21 dX10_restore_21 ?_
        refine x_aload_n F dX10_restore_24 rfl 0 rfl ?_
        obtain ⟨x25, c25, h⟩ := bdS h
        refine x_getR F (ci := 10) (C := RX10) (T := TX10) (N := 19) rfl ⟨by decide, rfl⟩ inU10 15 (by decide) (fun _ _ _ => rfl) wl_649 c25 dX10_restore_25 ?_
        refine x_iload_n F dX10_restore_28 rfl 1 rfl ?_
        obtain ⟨x29, c29, h⟩ := bdS h
        refine x_aR F (kd := 25) 5 rfl (by decide) c29 dX10_restore_29 ?_
        obtain ⟨k30, h⟩ := gdS h
        obtain ⟨⟨u30, M30⟩, c30, h⟩ := bdS h
        dsimp only at h
        refine x_callV F (As := [.ref (b + x29)]) (rest := []) (res := none) (ci := 8) (q := (RX8, TX8, 17)) rfl (by decide) k30 (k_X8_copyFrom l b D cy N x21 x29 M _ _ c30) wl_685 wl_686 wl_687 wl_75 wl_496 hd_X8_copyFrom ⟨Nat.le_of_ble_eq_true rfl, Nat.le_of_ble_eq_true rfl⟩ ⟨Nat.le_refl _, Nat.le_refl _⟩ (Nat.le_of_ble_eq_true rfl) rfl dX10_restore_30 ?_
        refine x_aload_n F dX10_restore_33 rfl 0 rfl ?_
        obtain ⟨x34, c34, h⟩ := bdS h
        refine x_getR F (ci := 10) (C := RX10) (T := TX10) (N := 19) rfl ⟨by decide, rfl⟩ inU10 3 (by decide) (fun _ _ _ => rfl) wl_622 c34 dX10_restore_34 ?_
        refine x_aload_n F dX10_restore_37 rfl 0 rfl ?_
        obtain ⟨x38, c38, h⟩ := bdS h
        refine x_getR F (ci := 10) (C := RX10) (T := TX10) (N := 19) rfl ⟨by decide, rfl⟩ inU10 16 (by decide) (fun _ _ _ => rfl) wl_650 c38 dX10_restore_38 ?_
        refine x_iload_n F dX10_restore_41 rfl 1 rfl ?_
        obtain ⟨x42, c42, h⟩ := bdS h
        refine x_aR F (kd := 23) 3 rfl (by decide) c42 dX10_restore_42 ?_
        obtain ⟨k43, h⟩ := gdS h
        obtain ⟨⟨u43, M43⟩, c43, h⟩ := bdS h
        dsimp only at h
        refine x_callV F (As := [.ref (b + x42)]) (rest := []) (res := none) (ci := 0) (q := (RX0, TX0, 12)) rfl (by decide) k43 (k_X0_copyFrom l b D cy N x34 x42 M30 _ _ c43) wl_815 wl_382 wl_383 wl_52 wl_22 hd_X0_copyFrom ⟨Nat.le_of_ble_eq_true rfl, Nat.le_of_ble_eq_true rfl⟩ ⟨Nat.le_refl _, Nat.le_refl _⟩ (Nat.le_of_ble_eq_true rfl) rfl dX10_restore_43 ?_
        refine x_aload_n F dX10_restore_46 rfl 0 rfl ?_
        obtain ⟨x47, c47, h⟩ := bdS h
        refine x_getR F (ci := 10) (C := RX10) (T := TX10) (N := 19) rfl ⟨by decide, rfl⟩ inU10 7 (by decide) (fun _ _ _ => rfl) wl_633 c47 dX10_restore_47 ?_
        refine x_aload_n F dX10_restore_50 rfl 0 rfl ?_
        obtain ⟨x51, c51, h⟩ := bdS h
        refine x_getR F (ci := 10) (C := RX10) (T := TX10) (N := 19) rfl ⟨by decide, rfl⟩ inU10 17 (by decide) (fun _ _ _ => rfl) wl_651 c51 dX10_restore_51 ?_
        refine x_iload_n F dX10_restore_54 rfl 1 rfl ?_
        obtain ⟨x55, c55, h⟩ := bdS h
        refine x_aR F (kd := 24) 4 rfl (by decide) c55 dX10_restore_55 ?_
        obtain ⟨k56, h⟩ := gdS h
        obtain ⟨⟨u56, M56⟩, c56, h⟩ := bdS h
        dsimp only at h
        refine x_callV F (As := [.ref (b + x55)]) (rest := []) (res := none) (ci := 7) (q := (RX7, TX7, 7)) rfl (by decide) k56 (k_X7_copyFrom l b D cy N x47 x55 M43 _ _ c56) wl_833 wl_834 wl_835 wl_430 wl_415 hd_X7_copyFrom ⟨Nat.le_of_ble_eq_true rfl, Nat.le_of_ble_eq_true rfl⟩ ⟨Nat.le_refl _, Nat.le_refl _⟩ (Nat.le_of_ble_eq_true rfl) rfl dX10_restore_56 ?_
        refine x_aload_n F dX10_restore_59 rfl 0 rfl ?_
        obtain ⟨x60, c60, h⟩ := bdS h
        refine x_getR F (ci := 10) (C := RX10) (T := TX10) (N := 19) rfl ⟨by decide, rfl⟩ inU10 5 (by decide) (fun _ _ _ => rfl) wl_627 c60 dX10_restore_60 ?_
        obtain ⟨k63, h⟩ := gdS h
        obtain ⟨⟨u63, M63⟩, c63, h⟩ := bdS h
        dsimp only at h
        refine x_callV F (As := []) (rest := []) (res := none) (ci := 5) (q := (RX5, TX5, 3)) rfl (by decide) k63 (k_X5_clear l b D cy N x60 M56 _ _ c63) wl_691 wl_692 wl_693 wl_626 wl_379 hd_X5_clear ⟨Nat.le_of_ble_eq_true rfl, Nat.le_of_ble_eq_true rfl⟩ ⟨Nat.le_refl _, Nat.le_refl _⟩ (Nat.le_of_ble_eq_true rfl) rfl dX10_restore_63 ?_
        refine x_iconst F (v := 1) dX10_restore_66 (by decide) ?_
        obtain ⟨rfl, rfl⟩ := retS h
        exact x_zret F hr hl (by decide) dX10_restore_67
      · rw [if_pos c15] at h
        refine x_iconst F (v := 0) dX10_restore_18 (by decide) ?_
        obtain ⟨rfl, rfl⟩ := retS h
        exact x_zret F hr hl (by decide) dX10_restore_19
theorem dX11_thrown_0 : decode cX11_thrown 0 = .ok (.aload_n 0, 1) := by decide +kernel
theorem dX11_thrown_1 : decode cX11_thrown 1 = .ok (.getfield 1, 3) := by decide +kernel
theorem dX11_thrown_4 : decode cX11_thrown 4 = .ok (.ireturn, 1) := by decide +kernel
def fX11_thrown (N : Nat) (v0 : Nat) (M : Mem) : Option (Int32 × Mem) := ((fI M 11 v0 0).bind fun x1 => some (x1, M))
set_option maxHeartbeats 4000000 in
set_option maxRecDepth 100000 in
theorem k_X11_thrown (l : Launch) (b : Nat) (D : va_G) (cy : Nat → ClassId) (N : Nat) (v0 : Nat) (M : Mem) (r : Int32) (Mf : Mem) (h : fX11_thrown N v0 M = some (r, Mf)) : Ct l yX11_thrown cX11_thrown 1 (some .int) 1 0 0 b D cy [.ref (b + v0)] M (some (.int r)) Mf := by
  refine Ct_of (own := RX11) (by decide) rfl (Nat.le_of_ble_eq_true rfl) ?_
  intro p e s m args below meth c F hr hl hmn
  unfold fX11_thrown at h
  show X p l e ({ frames := 1, cells := 0, slots := 0, locals := 100 * 1 }) s m args below meth c (MQ below (Qm b D cy (some (.int r)) Mf) args s 0 0 (fun q => b ≤ q)) 1 b D cy 0 0 M 0 [(0, .ref (b + v0))] []
  refine x_aload_n F dX11_thrown_0 rfl 0 rfl ?_
  obtain ⟨x1, c1, h⟩ := bdS h
  refine x_getI F (ci := 11) (C := RX11) (T := TX11) (N := 45) rfl ⟨by decide, rfl⟩ inU11 0 (by decide) (fun _ _ _ => rfl) wl_845 c1 dX11_thrown_1 ?_
  obtain ⟨rfl, rfl⟩ := retS h
  exact x_iret F hr hl dX11_thrown_4
theorem dX11_refuse_0 : decode cX11_refuse 0 = .ok (.aload_n 0, 1) := by decide +kernel
theorem dX11_refuse_1 : decode cX11_refuse 1 = .ok (.iconst 1, 1) := by decide +kernel
theorem dX11_refuse_2 : decode cX11_refuse 2 = .ok (.putfield 1, 3) := by decide +kernel
theorem dX11_refuse_5 : decode cX11_refuse 5 = .ok (.iconst 0, 1) := by decide +kernel
theorem dX11_refuse_6 : decode cX11_refuse 6 = .ok (.ireturn, 1) := by decide +kernel
def fX11_refuse (N : Nat) (v0 : Nat) (M : Mem) : Option (Int32 × Mem) := ((pI M 11 v0 0 1).bind fun M2 => some (0, M2))
set_option maxHeartbeats 4000000 in
set_option maxRecDepth 100000 in
theorem k_X11_refuse (l : Launch) (b : Nat) (D : va_G) (cy : Nat → ClassId) (N : Nat) (v0 : Nat) (M : Mem) (r : Int32) (Mf : Mem) (h : fX11_refuse N v0 M = some (r, Mf)) : Ct l yX11_refuse cX11_refuse 1 (some .int) 1 0 0 b D cy [.ref (b + v0)] M (some (.int r)) Mf := by
  refine Ct_of (own := RX11) (by decide) rfl (Nat.le_of_ble_eq_true rfl) ?_
  intro p e s m args below meth c F hr hl hmn
  unfold fX11_refuse at h
  show X p l e ({ frames := 1, cells := 0, slots := 0, locals := 100 * 1 }) s m args below meth c (MQ below (Qm b D cy (some (.int r)) Mf) args s 0 0 (fun q => b ≤ q)) 1 b D cy 0 0 M 0 [(0, .ref (b + v0))] []
  refine x_aload_n F dX11_refuse_0 rfl 0 rfl ?_
  refine x_iconst F (v := 1) dX11_refuse_1 (by decide) ?_
  obtain ⟨M2, c2, h⟩ := bdS h
  refine x_putI F (ci := 11) (C := RX11) (T := TX11) (N := 45) rfl ⟨by decide, rfl⟩ inU11 tyX11_ok nmX11 0 (by decide) rfl rfl wl_845 c2 dX11_refuse_2 ?_
  refine x_iconst F (v := 0) dX11_refuse_5 (by decide) ?_
  obtain ⟨rfl, rfl⟩ := retS h
  exact x_iret F hr hl dX11_refuse_6
theorem dX11_come_0 : decode cX11_come 0 = .ok (.bipush 24, 2) := by decide +kernel
theorem dX11_come_2 : decode cX11_come 2 = .ok (.istore_n 2, 1) := by decide +kernel
theorem dX11_come_3 : decode cX11_come 3 = .ok (.iload_n 2, 1) := by decide +kernel
theorem dX11_come_4 : decode cX11_come 4 = .ok (.ifCond .lt 35, 3) := by decide +kernel
theorem dX11_come_7 : decode cX11_come 7 = .ok (.aload_n 0, 1) := by decide +kernel
theorem dX11_come_8 : decode cX11_come 8 = .ok (.getfield 7, 3) := by decide +kernel
theorem dX11_come_11 : decode cX11_come 11 = .ok (.aload_n 0, 1) := by decide +kernel
theorem dX11_come_12 : decode cX11_come 12 = .ok (.getfield 11, 3) := by decide +kernel
theorem dX11_come_15 : decode cX11_come 15 = .ok (.iload_n 1, 1) := by decide +kernel
theorem dX11_come_16 : decode cX11_come 16 = .ok (.iload_n 2, 1) := by decide +kernel
theorem dX11_come_17 : decode cX11_come 17 = .ok (.iushr, 1) := by decide +kernel
theorem dX11_come_18 : decode cX11_come 18 = .ok (.sipush 255, 3) := by decide +kernel
theorem dX11_come_21 : decode cX11_come 21 = .ok (.iand, 1) := by decide +kernel
theorem dX11_come_22 : decode cX11_come 22 = .ok (.iastore, 1) := by decide +kernel
theorem dX11_come_23 : decode cX11_come 23 = .ok (.aload_n 0, 1) := by decide +kernel
theorem dX11_come_24 : decode cX11_come 24 = .ok (.dup, 1) := by decide +kernel
theorem dX11_come_25 : decode cX11_come 25 = .ok (.getfield 11, 3) := by decide +kernel
theorem dX11_come_28 : decode cX11_come 28 = .ok (.iconst 1, 1) := by decide +kernel
theorem dX11_come_29 : decode cX11_come 29 = .ok (.iadd, 1) := by decide +kernel
theorem dX11_come_30 : decode cX11_come 30 = .ok (.putfield 11, 3) := by decide +kernel
theorem dX11_come_33 : decode cX11_come 33 = .ok (.iinc 2 (-8), 3) := by decide +kernel
theorem dX11_come_36 : decode cX11_come 36 = .ok (.goto (-33), 3) := by decide +kernel
theorem dX11_come_39 : decode cX11_come 39 = .ok (.return_, 1) := by decide +kernel
def fX11_come_L3 (N : Nat) (v0 : Nat) (v1 : Int32) : Nat → Int32 → Mem → Option (Mem)
  | 0, _, _ => none
  | n + 1, v2, M => (if v2 < 0 then some M else ((fR M 11 v0 1).bind fun x8 => ((fI M 11 v0 2).bind fun x12 => ((tI M x8 x12 ((UInt32.toInt32 ((Int32.toUInt32 v1) >>> ((Int32.toUInt32 v2) &&& Int32.toUInt32 31))) &&& 255)).bind fun M22 => ((fI M22 11 v0 2).bind fun x25 => ((pI M22 11 v0 2 (x25 + 1)).bind fun M30 => fX11_come_L3 N v0 v1 n (v2 + (-8)) M30))))))
def fX11_come (N : Nat) (v0 : Nat) (v1 : Int32) (M : Mem) : Option (Unit × Mem) := ((fX11_come_L3 N v0 v1 N 24 M).bind fun o3 => some ((), o3))
set_option maxHeartbeats 4000000 in
set_option maxRecDepth 100000 in
theorem k_X11_come (l : Launch) (b : Nat) (D : va_G) (cy : Nat → ClassId) (N : Nat) (v0 : Nat) (v1 : Int32) (M : Mem) (r : Unit) (Mf : Mem) (h : fX11_come N v0 v1 M = some (r, Mf)) : Ct l yX11_come cX11_come 3 none 1 0 0 b D cy [.ref (b + v0), .int v1] M none Mf := by
  refine Ct_of (own := RX11) (by decide) rfl (Nat.le_of_ble_eq_true rfl) ?_
  intro p e s m args below meth c F hr hl hmn
  unfold fX11_come at h
  show X p l e ({ frames := 1, cells := 0, slots := 0, locals := 100 * 1 }) s m args below meth c (MQ below (Qm b D cy none Mf) args s 0 0 (fun q => b ≤ q)) 3 b D cy 0 0 M 0 [(0, .ref (b + v0)), (1, .int v1)] []
  refine x_bipush F (v := 24) dX11_come_0 (by decide) ?_
  refine x_istore_n F (lv' := [(2, .int 24), (0, .ref (b + v0)), (1, .int v1)]) dX11_come_2 rfl (by decide) rfl ?_
  have L3 : ∀ (v0 : Nat) (v1 : Int32) (n : Nat) (v2 : Int32) (M : Mem) (o : Mem), fX11_come_L3 N v0 v1 n v2 M = some o → X p l e ({ frames := 1, cells := 0, slots := 0, locals := 100 * 1 }) s m args below meth c (MQ below (Qm b D cy none Mf) args s 0 0 (fun q => b ≤ q)) 3 b D cy 0 0 o 39 [] [] → X p l e ({ frames := 1, cells := 0, slots := 0, locals := 100 * 1 }) s m args below meth c (MQ below (Qm b D cy none Mf) args s 0 0 (fun q => b ≤ q)) 3 b D cy 0 0 M 3 [(0, .ref (b + v0)), (1, .int v1), (2, .int v2)] [] := by
    intro v0 v1 n
    induction n with
    | zero => intro v2 M o h; exact absurd h (by rw [fX11_come_L3]; exact fun z => by cases z)
    | succ n ih =>
      intro v2 M o h hE
      rw [fX11_come_L3] at h
      refine x_iload_n F dX11_come_3 rfl 2 rfl ?_
      refine x_if_lt F (tgt := 39) dX11_come_4 (by decide) (fun c4 => ?_) (fun c4 => ?_)
      · rw [if_pos c4] at h
        obtain rfl := Option.some.inj h
        refine x_sub [] rfl ?_
        exact hE
      · rw [if_neg c4] at h
        refine x_aload_n F dX11_come_7 rfl 0 rfl ?_
        obtain ⟨x8, c8, h⟩ := bdS h
        refine x_getR F (ci := 11) (C := RX11) (T := TX11) (N := 45) rfl ⟨by decide, rfl⟩ inU11 1 (by decide) (fun _ _ _ => rfl) wl_848 c8 dX11_come_8 ?_
        refine x_aload_n F dX11_come_11 rfl 0 rfl ?_
        obtain ⟨x12, c12, h⟩ := bdS h
        refine x_getI F (ci := 11) (C := RX11) (T := TX11) (N := 45) rfl ⟨by decide, rfl⟩ inU11 2 (by decide) (fun _ _ _ => rfl) wl_849 c12 dX11_come_12 ?_
        refine x_iload_n F dX11_come_15 rfl 1 rfl ?_
        refine x_iload_n F dX11_come_16 rfl 2 rfl ?_
        refine x_iushr F dX11_come_17 ?_
        refine x_sipush F (v := 255) dX11_come_18 (by decide) ?_
        refine x_iand F dX11_come_21 ?_
        obtain ⟨M22, c22, h⟩ := bdS h
        refine x_tI F c22 dX11_come_22 ?_
        refine x_aload_n F dX11_come_23 rfl 0 rfl ?_
        refine x_dup F dX11_come_24 rfl ?_
        obtain ⟨x25, c25, h⟩ := bdS h
        refine x_getI F (ci := 11) (C := RX11) (T := TX11) (N := 45) rfl ⟨by decide, rfl⟩ inU11 2 (by decide) (fun _ _ _ => rfl) wl_849 c25 dX11_come_25 ?_
        refine x_iconst F (v := 1) dX11_come_28 (by decide) ?_
        refine x_iadd F dX11_come_29 ?_
        obtain ⟨M30, c30, h⟩ := bdS h
        refine x_putI F (ci := 11) (C := RX11) (T := TX11) (N := 45) rfl ⟨by decide, rfl⟩ inU11 tyX11_ok nmX11 2 (by decide) rfl rfl wl_849 c30 dX11_come_30 ?_
        refine x_iinc F (v := v2 + (-8)) (lv' := [(2, .int (v2 + (-8))), (0, .ref (b + v0)), (1, .int v1)]) dX11_come_33 2 rfl rfl (by decide) rfl ?_
        refine x_goto F (tgt := 3) dX11_come_36 (by decide) ?_
        refine x_sub [1, 2, 0] rfl ?_
        exact ih (v2 + (-8)) M30 o h hE
  obtain ⟨o3, h3, h⟩ := bdS h
  refine x_sub [1, 2, 0] rfl ?_
  refine L3 v0 v1 N 24 M o3 h3 ?_
  obtain ⟨rfl, rfl⟩ := retS h
  exact x_vret F hr hl dX11_come_39
theorem hd_X11_come : (yX11_come).cls = RX11 ∧ (yX11_come).cls ≠ "java/lang/invoke/MethodHandle" ∧ (yX11_come).cls ≠ "java/lang/invoke/VarHandle" ∧ (parseMethodDescriptor (yX11_come).desc).map (fun d => d.parameters.length) = some 1 := by decide +kernel
theorem dX11_feed_0 : decode cX11_feed 0 = .ok (.aload_n 0, 1) := by decide +kernel
theorem dX11_feed_1 : decode cX11_feed 1 = .ok (.iconst 0, 1) := by decide +kernel
theorem dX11_feed_2 : decode cX11_feed 2 = .ok (.putfield 1, 3) := by decide +kernel
theorem dX11_feed_5 : decode cX11_feed 5 = .ok (.aload_n 0, 1) := by decide +kernel
theorem dX11_feed_6 : decode cX11_feed 6 = .ok (.getfield 11, 3) := by decide +kernel
theorem dX11_feed_9 : decode cX11_feed 9 = .ok (.bipush 20, 2) := by decide +kernel
theorem dX11_feed_11 : decode cX11_feed 11 = .ok (.iadd, 1) := by decide +kernel
theorem dX11_feed_12 : decode cX11_feed 12 = .ok (.sipush 940, 3) := by decide +kernel
theorem dX11_feed_15 : decode cX11_feed 15 = .ok (.if_icmp .le 5, 3) := by decide +kernel
theorem dX11_feed_18 : decode cX11_feed 18 = .ok (.iconst (-1), 1) := by decide +kernel
theorem dX11_feed_19 : decode cX11_feed 19 = .ok (.ireturn, 1) := by decide +kernel
theorem dX11_feed_20 : decode cX11_feed 20 = .ok (.aload_n 0, 1) := by decide +kernel
theorem dX11_feed_21 : decode cX11_feed 21 = .ok (.iload_n 1, 1) := by decide +kernel
theorem dX11_feed_22 : decode cX11_feed 22 = .ok (.invokevirtual 14, 3) := by decide +kernel
theorem dX11_feed_25 : decode cX11_feed 25 = .ok (.aload_n 0, 1) := by decide +kernel
theorem dX11_feed_26 : decode cX11_feed 26 = .ok (.iload_n 2, 1) := by decide +kernel
theorem dX11_feed_27 : decode cX11_feed 27 = .ok (.invokevirtual 14, 3) := by decide +kernel
theorem dX11_feed_30 : decode cX11_feed 30 = .ok (.aload_n 0, 1) := by decide +kernel
theorem dX11_feed_31 : decode cX11_feed 31 = .ok (.iload_n 3, 1) := by decide +kernel
theorem dX11_feed_32 : decode cX11_feed 32 = .ok (.invokevirtual 14, 3) := by decide +kernel
theorem dX11_feed_35 : decode cX11_feed 35 = .ok (.aload_n 0, 1) := by decide +kernel
theorem dX11_feed_36 : decode cX11_feed 36 = .ok (.iload 4, 2) := by decide +kernel
theorem dX11_feed_38 : decode cX11_feed 38 = .ok (.invokevirtual 14, 3) := by decide +kernel
theorem dX11_feed_41 : decode cX11_feed 41 = .ok (.aload_n 0, 1) := by decide +kernel
theorem dX11_feed_42 : decode cX11_feed 42 = .ok (.iload 5, 2) := by decide +kernel
theorem dX11_feed_44 : decode cX11_feed 44 = .ok (.invokevirtual 14, 3) := by decide +kernel
theorem dX11_feed_47 : decode cX11_feed 47 = .ok (.aload_n 0, 1) := by decide +kernel
theorem dX11_feed_48 : decode cX11_feed 48 = .ok (.getfield 11, 3) := by decide +kernel
theorem dX11_feed_51 : decode cX11_feed 51 = .ok (.ireturn, 1) := by decide +kernel
def fX11_feed (N : Nat) (v0 : Nat) (v1 : Int32) (v2 : Int32) (v3 : Int32) (v4 : Int32) (v5 : Int32) (M : Mem) : Option (Int32 × Mem) := ((pI M 11 v0 0 0).bind fun M2 => ((fI M2 11 v0 2).bind fun x6 => (if (x6 + 20) ≤ 940 then (if mK M2 v0 = 12 then ((fX11_come N v0 v1 M2).bind fun (u22, M22) => (if mK M22 v0 = 12 then ((fX11_come N v0 v2 M22).bind fun (u27, M27) => (if mK M27 v0 = 12 then ((fX11_come N v0 v3 M27).bind fun (u32, M32) => (if mK M32 v0 = 12 then ((fX11_come N v0 v4 M32).bind fun (u38, M38) => (if mK M38 v0 = 12 then ((fX11_come N v0 v5 M38).bind fun (u44, M44) => ((fI M44 11 v0 2).bind fun x48 => some (x48, M44))) else none)) else none)) else none)) else none)) else none) else some ((-1), M2))))
set_option maxHeartbeats 4000000 in
set_option maxRecDepth 100000 in
theorem k_X11_feed (l : Launch) (b : Nat) (D : va_G) (cy : Nat → ClassId) (N : Nat) (v0 : Nat) (v1 : Int32) (v2 : Int32) (v3 : Int32) (v4 : Int32) (v5 : Int32) (M : Mem) (r : Int32) (Mf : Mem) (h : fX11_feed N v0 v1 v2 v3 v4 v5 M = some (r, Mf)) : Ct l yX11_feed cX11_feed 6 (some .int) 2 0 0 b D cy [.ref (b + v0), .int v1, .int v2, .int v3, .int v4, .int v5] M (some (.int r)) Mf := by
  refine Ct_of (own := RX11) (by decide) rfl (Nat.le_of_ble_eq_true rfl) ?_
  intro p e s m args below meth c F hr hl hmn
  unfold fX11_feed at h
  show X p l e ({ frames := 2, cells := 0, slots := 0, locals := 100 * 2 }) s m args below meth c (MQ below (Qm b D cy (some (.int r)) Mf) args s 0 0 (fun q => b ≤ q)) 6 b D cy 0 0 M 0 [(0, .ref (b + v0)), (1, .int v1), (2, .int v2), (3, .int v3), (4, .int v4), (5, .int v5)] []
  refine x_aload_n F dX11_feed_0 rfl 0 rfl ?_
  refine x_iconst F (v := 0) dX11_feed_1 (by decide) ?_
  obtain ⟨M2, c2, h⟩ := bdS h
  refine x_putI F (ci := 11) (C := RX11) (T := TX11) (N := 45) rfl ⟨by decide, rfl⟩ inU11 tyX11_ok nmX11 0 (by decide) rfl rfl wl_845 c2 dX11_feed_2 ?_
  refine x_aload_n F dX11_feed_5 rfl 0 rfl ?_
  obtain ⟨x6, c6, h⟩ := bdS h
  refine x_getI F (ci := 11) (C := RX11) (T := TX11) (N := 45) rfl ⟨by decide, rfl⟩ inU11 2 (by decide) (fun _ _ _ => rfl) wl_849 c6 dX11_feed_6 ?_
  refine x_bipush F (v := 20) dX11_feed_9 (by decide) ?_
  refine x_iadd F dX11_feed_11 ?_
  refine x_sipush F (v := 940) dX11_feed_12 (by decide) ?_
  refine x_icmp_le F (tgt := 20) dX11_feed_15 (by decide) (fun c15 => ?_) (fun c15 => ?_)
  · rw [if_pos c15] at h
    refine x_aload_n F dX11_feed_20 rfl 0 rfl ?_
    refine x_iload_n F dX11_feed_21 rfl 1 rfl ?_
    obtain ⟨k22, h⟩ := gdS h
    obtain ⟨⟨u22, M22⟩, c22, h⟩ := bdS h
    dsimp only at h
    refine x_callV F (As := [.int v1]) (rest := []) (res := none) (ci := 11) (q := (RX11, TX11, 45)) rfl (by decide) k22 (k_X11_come l b D cy N v0 v1 M2 _ _ c22) wl_851 wl_852 wl_853 wl_854 wl_847 hd_X11_come ⟨Nat.le_of_ble_eq_true rfl, Nat.le_of_ble_eq_true rfl⟩ ⟨Nat.le_refl _, Nat.le_refl _⟩ (Nat.le_of_ble_eq_true rfl) rfl dX11_feed_22 ?_
    refine x_aload_n F dX11_feed_25 rfl 0 rfl ?_
    refine x_iload_n F dX11_feed_26 rfl 2 rfl ?_
    obtain ⟨k27, h⟩ := gdS h
    obtain ⟨⟨u27, M27⟩, c27, h⟩ := bdS h
    dsimp only at h
    refine x_callV F (As := [.int v2]) (rest := []) (res := none) (ci := 11) (q := (RX11, TX11, 45)) rfl (by decide) k27 (k_X11_come l b D cy N v0 v2 M22 _ _ c27) wl_851 wl_852 wl_853 wl_854 wl_847 hd_X11_come ⟨Nat.le_of_ble_eq_true rfl, Nat.le_of_ble_eq_true rfl⟩ ⟨Nat.le_refl _, Nat.le_refl _⟩ (Nat.le_of_ble_eq_true rfl) rfl dX11_feed_27 ?_
    refine x_aload_n F dX11_feed_30 rfl 0 rfl ?_
    refine x_iload_n F dX11_feed_31 rfl 3 rfl ?_
    obtain ⟨k32, h⟩ := gdS h
    obtain ⟨⟨u32, M32⟩, c32, h⟩ := bdS h
    dsimp only at h
    refine x_callV F (As := [.int v3]) (rest := []) (res := none) (ci := 11) (q := (RX11, TX11, 45)) rfl (by decide) k32 (k_X11_come l b D cy N v0 v3 M27 _ _ c32) wl_851 wl_852 wl_853 wl_854 wl_847 hd_X11_come ⟨Nat.le_of_ble_eq_true rfl, Nat.le_of_ble_eq_true rfl⟩ ⟨Nat.le_refl _, Nat.le_refl _⟩ (Nat.le_of_ble_eq_true rfl) rfl dX11_feed_32 ?_
    refine x_aload_n F dX11_feed_35 rfl 0 rfl ?_
    refine x_iload F dX11_feed_36 4 rfl ?_
    obtain ⟨k38, h⟩ := gdS h
    obtain ⟨⟨u38, M38⟩, c38, h⟩ := bdS h
    dsimp only at h
    refine x_callV F (As := [.int v4]) (rest := []) (res := none) (ci := 11) (q := (RX11, TX11, 45)) rfl (by decide) k38 (k_X11_come l b D cy N v0 v4 M32 _ _ c38) wl_851 wl_852 wl_853 wl_854 wl_847 hd_X11_come ⟨Nat.le_of_ble_eq_true rfl, Nat.le_of_ble_eq_true rfl⟩ ⟨Nat.le_refl _, Nat.le_refl _⟩ (Nat.le_of_ble_eq_true rfl) rfl dX11_feed_38 ?_
    refine x_aload_n F dX11_feed_41 rfl 0 rfl ?_
    refine x_iload F dX11_feed_42 5 rfl ?_
    obtain ⟨k44, h⟩ := gdS h
    obtain ⟨⟨u44, M44⟩, c44, h⟩ := bdS h
    dsimp only at h
    refine x_callV F (As := [.int v5]) (rest := []) (res := none) (ci := 11) (q := (RX11, TX11, 45)) rfl (by decide) k44 (k_X11_come l b D cy N v0 v5 M38 _ _ c44) wl_851 wl_852 wl_853 wl_854 wl_847 hd_X11_come ⟨Nat.le_of_ble_eq_true rfl, Nat.le_of_ble_eq_true rfl⟩ ⟨Nat.le_refl _, Nat.le_refl _⟩ (Nat.le_of_ble_eq_true rfl) rfl dX11_feed_44 ?_
    refine x_aload_n F dX11_feed_47 rfl 0 rfl ?_
    obtain ⟨x48, c48, h⟩ := bdS h
    refine x_getI F (ci := 11) (C := RX11) (T := TX11) (N := 45) rfl ⟨by decide, rfl⟩ inU11 2 (by decide) (fun _ _ _ => rfl) wl_849 c48 dX11_feed_48 ?_
    obtain ⟨rfl, rfl⟩ := retS h
    exact x_iret F hr hl dX11_feed_51
  · rw [if_neg c15] at h
    refine x_iconst F (v := (-1)) dX11_feed_18 (by decide) ?_
    obtain ⟨rfl, rfl⟩ := retS h
    exact x_iret F hr hl dX11_feed_19
theorem dX11_end_0 : decode cX11_end 0 = .ok (.aload_n 0, 1) := by decide +kernel
theorem dX11_end_1 : decode cX11_end 1 = .ok (.iconst 0, 1) := by decide +kernel
theorem dX11_end_2 : decode cX11_end 2 = .ok (.putfield 1, 3) := by decide +kernel
theorem dX11_end_5 : decode cX11_end 5 = .ok (.iload_n 1, 1) := by decide +kernel
theorem dX11_end_6 : decode cX11_end 6 = .ok (.ifCond .lt 11, 3) := by decide +kernel
theorem dX11_end_9 : decode cX11_end 9 = .ok (.iload_n 1, 1) := by decide +kernel
theorem dX11_end_10 : decode cX11_end 10 = .ok (.aload_n 0, 1) := by decide +kernel
theorem dX11_end_11 : decode cX11_end 11 = .ok (.getfield 11, 3) := by decide +kernel
theorem dX11_end_14 : decode cX11_end 14 = .ok (.if_icmp .le 5, 3) := by decide +kernel
theorem dX11_end_17 : decode cX11_end 17 = .ok (.iconst 0, 1) := by decide +kernel
theorem dX11_end_18 : decode cX11_end 18 = .ok (.ireturn, 1) := by decide +kernel
theorem dX11_end_19 : decode cX11_end 19 = .ok (.aload_n 0, 1) := by decide +kernel
theorem dX11_end_20 : decode cX11_end 20 = .ok (.iload_n 1, 1) := by decide +kernel
theorem dX11_end_21 : decode cX11_end 21 = .ok (.putfield 11, 3) := by decide +kernel
theorem dX11_end_24 : decode cX11_end 24 = .ok (.iconst 1, 1) := by decide +kernel
theorem dX11_end_25 : decode cX11_end 25 = .ok (.ireturn, 1) := by decide +kernel
def fX11_end (N : Nat) (v0 : Nat) (v1 : Int32) (M : Mem) : Option (Int32 × Mem) := ((pI M 11 v0 0 0).bind fun M2 => (if v1 < 0 then some (0, M2) else ((fI M2 11 v0 2).bind fun x11 => (if v1 ≤ x11 then ((pI M2 11 v0 2 v1).bind fun M21 => some (1, M21)) else some (0, M2)))))
set_option maxHeartbeats 4000000 in
set_option maxRecDepth 100000 in
theorem k_X11_end (l : Launch) (b : Nat) (D : va_G) (cy : Nat → ClassId) (N : Nat) (v0 : Nat) (v1 : Int32) (M : Mem) (r : Int32) (Mf : Mem) (h : fX11_end N v0 v1 M = some (r, Mf)) : Ct l yX11_end cX11_end 2 (some .boolean) 1 0 0 b D cy [.ref (b + v0), .int v1] M (some (.int r)) Mf := by
  refine Ct_of (own := RX11) (by decide) rfl (Nat.le_of_ble_eq_true rfl) ?_
  intro p e s m args below meth c F hr hl hmn
  unfold fX11_end at h
  show X p l e ({ frames := 1, cells := 0, slots := 0, locals := 100 * 1 }) s m args below meth c (MQ below (Qm b D cy (some (.int r)) Mf) args s 0 0 (fun q => b ≤ q)) 2 b D cy 0 0 M 0 [(0, .ref (b + v0)), (1, .int v1)] []
  refine x_aload_n F dX11_end_0 rfl 0 rfl ?_
  refine x_iconst F (v := 0) dX11_end_1 (by decide) ?_
  obtain ⟨M2, c2, h⟩ := bdS h
  refine x_putI F (ci := 11) (C := RX11) (T := TX11) (N := 45) rfl ⟨by decide, rfl⟩ inU11 tyX11_ok nmX11 0 (by decide) rfl rfl wl_845 c2 dX11_end_2 ?_
  refine x_iload_n F dX11_end_5 rfl 1 rfl ?_
  refine x_if_lt F (tgt := 17) dX11_end_6 (by decide) (fun c6 => ?_) (fun c6 => ?_)
  · rw [if_pos c6] at h
    refine x_iconst F (v := 0) dX11_end_17 (by decide) ?_
    obtain ⟨rfl, rfl⟩ := retS h
    exact x_zret F hr hl (by decide) dX11_end_18
  · rw [if_neg c6] at h
    refine x_iload_n F dX11_end_9 rfl 1 rfl ?_
    refine x_aload_n F dX11_end_10 rfl 0 rfl ?_
    obtain ⟨x11, c11, h⟩ := bdS h
    refine x_getI F (ci := 11) (C := RX11) (T := TX11) (N := 45) rfl ⟨by decide, rfl⟩ inU11 2 (by decide) (fun _ _ _ => rfl) wl_849 c11 dX11_end_11 ?_
    refine x_icmp_le F (tgt := 19) dX11_end_14 (by decide) (fun c14 => ?_) (fun c14 => ?_)
    · rw [if_pos c14] at h
      refine x_aload_n F dX11_end_19 rfl 0 rfl ?_
      refine x_iload_n F dX11_end_20 rfl 1 rfl ?_
      obtain ⟨M21, c21, h⟩ := bdS h
      refine x_putI F (ci := 11) (C := RX11) (T := TX11) (N := 45) rfl ⟨by decide, rfl⟩ inU11 tyX11_ok nmX11 2 (by decide) rfl rfl wl_849 c21 dX11_end_21 ?_
      refine x_iconst F (v := 1) dX11_end_24 (by decide) ?_
      obtain ⟨rfl, rfl⟩ := retS h
      exact x_zret F hr hl (by decide) dX11_end_25
    · rw [if_neg c14] at h
      refine x_iconst F (v := 0) dX11_end_17 (by decide) ?_
      obtain ⟨rfl, rfl⟩ := retS h
      exact x_zret F hr hl (by decide) dX11_end_18
theorem dX11_take_0 : decode cX11_take 0 = .ok (.aload_n 0, 1) := by decide +kernel
theorem dX11_take_1 : decode cX11_take 1 = .ok (.getfield 11, 3) := by decide +kernel
theorem dX11_take_4 : decode cX11_take 4 = .ok (.istore_n 1, 1) := by decide +kernel
theorem dX11_take_5 : decode cX11_take 5 = .ok (.aload_n 0, 1) := by decide +kernel
theorem dX11_take_6 : decode cX11_take 6 = .ok (.iconst 0, 1) := by decide +kernel
theorem dX11_take_7 : decode cX11_take 7 = .ok (.putfield 11, 3) := by decide +kernel
theorem dX11_take_10 : decode cX11_take 10 = .ok (.iload_n 1, 1) := by decide +kernel
theorem dX11_take_11 : decode cX11_take 11 = .ok (.ireturn, 1) := by decide +kernel
def fX11_take (N : Nat) (v0 : Nat) (M : Mem) : Option (Int32 × Mem) := ((fI M 11 v0 2).bind fun x1 => ((pI M 11 v0 2 0).bind fun M7 => some (x1, M7)))
set_option maxHeartbeats 4000000 in
set_option maxRecDepth 100000 in
theorem k_X11_take (l : Launch) (b : Nat) (D : va_G) (cy : Nat → ClassId) (N : Nat) (v0 : Nat) (M : Mem) (r : Int32) (Mf : Mem) (h : fX11_take N v0 M = some (r, Mf)) : Ct l yX11_take cX11_take 2 (some .int) 1 0 0 b D cy [.ref (b + v0)] M (some (.int r)) Mf := by
  refine Ct_of (own := RX11) (by decide) rfl (Nat.le_of_ble_eq_true rfl) ?_
  intro p e s m args below meth c F hr hl hmn
  unfold fX11_take at h
  show X p l e ({ frames := 1, cells := 0, slots := 0, locals := 100 * 1 }) s m args below meth c (MQ below (Qm b D cy (some (.int r)) Mf) args s 0 0 (fun q => b ≤ q)) 2 b D cy 0 0 M 0 [(0, .ref (b + v0))] []
  refine x_aload_n F dX11_take_0 rfl 0 rfl ?_
  obtain ⟨x1, c1, h⟩ := bdS h
  refine x_getI F (ci := 11) (C := RX11) (T := TX11) (N := 45) rfl ⟨by decide, rfl⟩ inU11 2 (by decide) (fun _ _ _ => rfl) wl_849 c1 dX11_take_1 ?_
  refine x_istore_n F (lv' := [(1, .int x1), (0, .ref (b + v0))]) dX11_take_4 rfl (by decide) rfl ?_
  refine x_aload_n F dX11_take_5 rfl 1 rfl ?_
  refine x_iconst F (v := 0) dX11_take_6 (by decide) ?_
  obtain ⟨M7, c7, h⟩ := bdS h
  refine x_putI F (ci := 11) (C := RX11) (T := TX11) (N := 45) rfl ⟨by decide, rfl⟩ inU11 tyX11_ok nmX11 2 (by decide) rfl rfl wl_849 c7 dX11_take_7 ?_
  refine x_iload_n F dX11_take_10 rfl 0 rfl ?_
  obtain ⟨rfl, rfl⟩ := retS h
  exact x_iret F hr hl dX11_take_11
theorem dX11_isIn_0 : decode cX11_isIn 0 = .ok (.iload_n 0, 1) := by decide +kernel
theorem dX11_isIn_1 : decode cX11_isIn 1 = .ok (.iload_n 1, 1) := by decide +kernel
theorem dX11_isIn_2 : decode cX11_isIn 2 = .ok (.if_icmp .lt 12, 3) := by decide +kernel
theorem dX11_isIn_5 : decode cX11_isIn 5 = .ok (.iload_n 0, 1) := by decide +kernel
theorem dX11_isIn_6 : decode cX11_isIn 6 = .ok (.iload_n 2, 1) := by decide +kernel
theorem dX11_isIn_7 : decode cX11_isIn 7 = .ok (.if_icmp .gt 7, 3) := by decide +kernel
theorem dX11_isIn_10 : decode cX11_isIn 10 = .ok (.iconst 1, 1) := by decide +kernel
theorem dX11_isIn_11 : decode cX11_isIn 11 = .ok (.goto 4, 3) := by decide +kernel
theorem dX11_isIn_14 : decode cX11_isIn 14 = .ok (.iconst 0, 1) := by decide +kernel
theorem dX11_isIn_15 : decode cX11_isIn 15 = .ok (.ireturn, 1) := by decide +kernel
def fX11_isIn (N : Nat) (v0 : Int32) (v1 : Int32) (v2 : Int32) (M : Mem) : Option (Int32 × Mem) := (if v0 < v1 then some (0, M) else (if v2 < v0 then some (0, M) else some (1, M)))
set_option maxHeartbeats 4000000 in
set_option maxRecDepth 100000 in
theorem k_X11_isIn (l : Launch) (b : Nat) (D : va_G) (cy : Nat → ClassId) (N : Nat) (v0 : Int32) (v1 : Int32) (v2 : Int32) (M : Mem) (r : Int32) (Mf : Mem) (h : fX11_isIn N v0 v1 v2 M = some (r, Mf)) : Ct l yX11_isIn cX11_isIn 3 (some .boolean) 1 0 0 b D cy [.int v0, .int v1, .int v2] M (some (.int r)) Mf := by
  refine Ct_of (own := RX11) (by decide) rfl (Nat.le_of_ble_eq_true rfl) ?_
  intro p e s m args below meth c F hr hl hmn
  unfold fX11_isIn at h
  show X p l e ({ frames := 1, cells := 0, slots := 0, locals := 100 * 1 }) s m args below meth c (MQ below (Qm b D cy (some (.int r)) Mf) args s 0 0 (fun q => b ≤ q)) 3 b D cy 0 0 M 0 [(0, .int v0), (1, .int v1), (2, .int v2)] []
  refine x_iload_n F dX11_isIn_0 rfl 0 rfl ?_
  refine x_iload_n F dX11_isIn_1 rfl 1 rfl ?_
  refine x_icmp_lt F (tgt := 14) dX11_isIn_2 (by decide) (fun c2 => ?_) (fun c2 => ?_)
  · rw [if_pos c2] at h
    refine x_iconst F (v := 0) dX11_isIn_14 (by decide) ?_
    obtain ⟨rfl, rfl⟩ := retS h
    exact x_zret F hr hl (by decide) dX11_isIn_15
  · rw [if_neg c2] at h
    refine x_iload_n F dX11_isIn_5 rfl 0 rfl ?_
    refine x_iload_n F dX11_isIn_6 rfl 2 rfl ?_
    refine x_icmp_gt F (tgt := 14) dX11_isIn_7 (by decide) (fun c7 => ?_) (fun c7 => ?_)
    · rw [if_pos c7] at h
      refine x_iconst F (v := 0) dX11_isIn_14 (by decide) ?_
      obtain ⟨rfl, rfl⟩ := retS h
      exact x_zret F hr hl (by decide) dX11_isIn_15
    · rw [if_neg c7] at h
      refine x_iconst F (v := 1) dX11_isIn_10 (by decide) ?_
      refine x_goto F (tgt := 15) dX11_isIn_11 (by decide) ?_
      obtain ⟨rfl, rfl⟩ := retS h
      exact x_zret F hr hl (by decide) dX11_isIn_15
theorem dX11_has_0 : decode cX11_has 0 = .ok (.iload_n 0, 1) := by decide +kernel
theorem dX11_has_1 : decode cX11_has 1 = .ok (.iload_n 1, 1) := by decide +kernel
theorem dX11_has_2 : decode cX11_has 2 = .ok (.ishr, 1) := by decide +kernel
theorem dX11_has_3 : decode cX11_has 3 = .ok (.iconst 1, 1) := by decide +kernel
theorem dX11_has_4 : decode cX11_has 4 = .ok (.iand, 1) := by decide +kernel
theorem dX11_has_5 : decode cX11_has 5 = .ok (.iconst 1, 1) := by decide +kernel
theorem dX11_has_6 : decode cX11_has 6 = .ok (.if_icmp .ne 7, 3) := by decide +kernel
theorem dX11_has_9 : decode cX11_has 9 = .ok (.iconst 1, 1) := by decide +kernel
theorem dX11_has_10 : decode cX11_has 10 = .ok (.goto 4, 3) := by decide +kernel
theorem dX11_has_13 : decode cX11_has 13 = .ok (.iconst 0, 1) := by decide +kernel
theorem dX11_has_14 : decode cX11_has 14 = .ok (.ireturn, 1) := by decide +kernel
def fX11_has (N : Nat) (v0 : Int32) (v1 : Int32) (M : Mem) : Option (Int32 × Mem) := (if ((v0 >>> (v1 &&& 31)) &&& 1) = 1 then some (1, M) else some (0, M))
set_option maxHeartbeats 4000000 in
set_option maxRecDepth 100000 in
theorem k_X11_has (l : Launch) (b : Nat) (D : va_G) (cy : Nat → ClassId) (N : Nat) (v0 : Int32) (v1 : Int32) (M : Mem) (r : Int32) (Mf : Mem) (h : fX11_has N v0 v1 M = some (r, Mf)) : Ct l yX11_has cX11_has 2 (some .boolean) 1 0 0 b D cy [.int v0, .int v1] M (some (.int r)) Mf := by
  refine Ct_of (own := RX11) (by decide) rfl (Nat.le_of_ble_eq_true rfl) ?_
  intro p e s m args below meth c F hr hl hmn
  unfold fX11_has at h
  show X p l e ({ frames := 1, cells := 0, slots := 0, locals := 100 * 1 }) s m args below meth c (MQ below (Qm b D cy (some (.int r)) Mf) args s 0 0 (fun q => b ≤ q)) 2 b D cy 0 0 M 0 [(0, .int v0), (1, .int v1)] []
  refine x_iload_n F dX11_has_0 rfl 0 rfl ?_
  refine x_iload_n F dX11_has_1 rfl 1 rfl ?_
  refine x_ishr F dX11_has_2 ?_
  refine x_iconst F (v := 1) dX11_has_3 (by decide) ?_
  refine x_iand F dX11_has_4 ?_
  refine x_iconst F (v := 1) dX11_has_5 (by decide) ?_
  refine x_icmp_ne F (tgt := 13) dX11_has_6 (by decide) (fun c6 => ?_) (fun c6 => ?_)
  · rw [if_neg c6] at h
    refine x_iconst F (v := 0) dX11_has_13 (by decide) ?_
    obtain ⟨rfl, rfl⟩ := retS h
    exact x_zret F hr hl (by decide) dX11_has_14
  · rw [if_pos c6] at h
    refine x_iconst F (v := 1) dX11_has_9 (by decide) ?_
    refine x_goto F (tgt := 14) dX11_has_10 (by decide) ?_
    obtain ⟨rfl, rfl⟩ := retS h
    exact x_zret F hr hl (by decide) dX11_has_14
theorem dX11_bits_0 : decode cX11_bits 0 = .ok (.iconst 0, 1) := by decide +kernel
theorem dX11_bits_1 : decode cX11_bits 1 = .ok (.istore_n 1, 1) := by decide +kernel
theorem dX11_bits_2 : decode cX11_bits 2 = .ok (.iload_n 0, 1) := by decide +kernel
theorem dX11_bits_3 : decode cX11_bits 3 = .ok (.istore_n 2, 1) := by decide +kernel
theorem dX11_bits_4 : decode cX11_bits 4 = .ok (.iload_n 2, 1) := by decide +kernel
theorem dX11_bits_5 : decode cX11_bits 5 = .ok (.ifCond .eq 15, 3) := by decide +kernel
theorem dX11_bits_8 : decode cX11_bits 8 = .ok (.iinc 1 1, 3) := by decide +kernel
theorem dX11_bits_11 : decode cX11_bits 11 = .ok (.iload_n 2, 1) := by decide +kernel
theorem dX11_bits_12 : decode cX11_bits 12 = .ok (.iload_n 2, 1) := by decide +kernel
theorem dX11_bits_13 : decode cX11_bits 13 = .ok (.iconst 1, 1) := by decide +kernel
theorem dX11_bits_14 : decode cX11_bits 14 = .ok (.isub, 1) := by decide +kernel
theorem dX11_bits_15 : decode cX11_bits 15 = .ok (.iand, 1) := by decide +kernel
theorem dX11_bits_16 : decode cX11_bits 16 = .ok (.istore_n 2, 1) := by decide +kernel
theorem dX11_bits_17 : decode cX11_bits 17 = .ok (.goto (-13), 3) := by decide +kernel
theorem dX11_bits_20 : decode cX11_bits 20 = .ok (.iload_n 1, 1) := by decide +kernel
theorem dX11_bits_21 : decode cX11_bits 21 = .ok (.ireturn, 1) := by decide +kernel
def fX11_bits_L4 (N : Nat)  : Nat → Int32 → Int32 → Mem → Option (Int32 × Mem)
  | 0, _, _, _ => none
  | n + 1, v1, v2, M => (if v2 = 0 then some (v1, M) else fX11_bits_L4 N n (v1 + 1) (v2 &&& (v2 - 1)) M)
def fX11_bits (N : Nat) (v0 : Int32) (M : Mem) : Option (Int32 × Mem) := ((fX11_bits_L4 N N 0 v0 M).bind fun o4 => some o4)
set_option maxHeartbeats 4000000 in
set_option maxRecDepth 100000 in
theorem k_X11_bits (l : Launch) (b : Nat) (D : va_G) (cy : Nat → ClassId) (N : Nat) (v0 : Int32) (M : Mem) (r : Int32) (Mf : Mem) (h : fX11_bits N v0 M = some (r, Mf)) : Ct l yX11_bits cX11_bits 3 (some .int) 1 0 0 b D cy [.int v0] M (some (.int r)) Mf := by
  refine Ct_of (own := RX11) (by decide) rfl (Nat.le_of_ble_eq_true rfl) ?_
  intro p e s m args below meth c F hr hl hmn
  unfold fX11_bits at h
  show X p l e ({ frames := 1, cells := 0, slots := 0, locals := 100 * 1 }) s m args below meth c (MQ below (Qm b D cy (some (.int r)) Mf) args s 0 0 (fun q => b ≤ q)) 3 b D cy 0 0 M 0 [(0, .int v0)] []
  refine x_iconst F (v := 0) dX11_bits_0 (by decide) ?_
  refine x_istore_n F (lv' := [(1, .int 0), (0, .int v0)]) dX11_bits_1 rfl (by decide) rfl ?_
  refine x_iload_n F dX11_bits_2 rfl 1 rfl ?_
  refine x_istore_n F (lv' := [(2, .int v0), (1, .int 0), (0, .int v0)]) dX11_bits_3 rfl (by decide) rfl ?_
  have L4 : ∀ (n : Nat) (v1 : Int32) (v2 : Int32) (M : Mem) (o : Int32 × Mem), fX11_bits_L4 N n v1 v2 M = some o → (∀ (r' : Int32) (M' : Mem), o = (r', M') → r' = r ∧ M' = Mf) → X p l e ({ frames := 1, cells := 0, slots := 0, locals := 100 * 1 }) s m args below meth c (MQ below (Qm b D cy (some (.int r)) Mf) args s 0 0 (fun q => b ≤ q)) 3 b D cy 0 0 M 4 [(1, .int v1), (2, .int v2)] [] := by
    intro  n
    induction n with
    | zero => intro v1 v2 M o h; exact absurd h (by rw [fX11_bits_L4]; exact fun z => by cases z)
    | succ n ih =>
      intro v1 v2 M o h hR
      rw [fX11_bits_L4] at h
      refine x_iload_n F dX11_bits_4 rfl 1 rfl ?_
      refine x_if_eq F (tgt := 20) dX11_bits_5 (by decide) (fun c5 => ?_) (fun c5 => ?_)
      · rw [if_pos c5] at h
        refine x_iload_n F dX11_bits_20 rfl 0 rfl ?_
        obtain rfl := Option.some.inj h
        obtain ⟨rfl, rfl⟩ := hR _ _ rfl
        exact x_iret F hr hl dX11_bits_21
      · rw [if_neg c5] at h
        refine x_iinc F (v := v1 + 1) (lv' := [(1, .int (v1 + 1)), (2, .int v2)]) dX11_bits_8 0 rfl rfl (by decide) rfl ?_
        refine x_iload_n F dX11_bits_11 rfl 1 rfl ?_
        refine x_iload_n F dX11_bits_12 rfl 1 rfl ?_
        refine x_iconst F (v := 1) dX11_bits_13 (by decide) ?_
        refine x_isub F dX11_bits_14 ?_
        refine x_iand F dX11_bits_15 ?_
        refine x_istore_n F (lv' := [(2, .int (v2 &&& (v2 - 1))), (1, .int (v1 + 1))]) dX11_bits_16 rfl (by decide) rfl ?_
        refine x_goto F (tgt := 4) dX11_bits_17 (by decide) ?_
        refine x_sub [1, 0] rfl ?_
        exact ih (v1 + 1) (v2 &&& (v2 - 1)) M o h hR
  obtain ⟨o4, h4, h⟩ := bdS h
  refine x_sub [1, 0] rfl ?_
  refine L4 N 0 v0 M o4 h4 (fun r' M' e => ?_)
  · subst e
    try dsimp only at h
    obtain ⟨rfl, rfl⟩ := retS h; exact ⟨rfl, rfl⟩
theorem dX11_least_0 : decode cX11_least 0 = .ok (.iload_n 0, 1) := by decide +kernel
theorem dX11_least_1 : decode cX11_least 1 = .ok (.iload_n 1, 1) := by decide +kernel
theorem dX11_least_2 : decode cX11_least 2 = .ok (.if_icmp .ge 7, 3) := by decide +kernel
theorem dX11_least_5 : decode cX11_least 5 = .ok (.iload_n 0, 1) := by decide +kernel
theorem dX11_least_6 : decode cX11_least 6 = .ok (.goto 4, 3) := by decide +kernel
theorem dX11_least_9 : decode cX11_least 9 = .ok (.iload_n 1, 1) := by decide +kernel
theorem dX11_least_10 : decode cX11_least 10 = .ok (.ireturn, 1) := by decide +kernel
def fX11_least (N : Nat) (v0 : Int32) (v1 : Int32) (M : Mem) : Option (Int32 × Mem) := (if v1 ≤ v0 then some (v1, M) else some (v0, M))
set_option maxHeartbeats 4000000 in
set_option maxRecDepth 100000 in
theorem k_X11_least (l : Launch) (b : Nat) (D : va_G) (cy : Nat → ClassId) (N : Nat) (v0 : Int32) (v1 : Int32) (M : Mem) (r : Int32) (Mf : Mem) (h : fX11_least N v0 v1 M = some (r, Mf)) : Ct l yX11_least cX11_least 2 (some .int) 1 0 0 b D cy [.int v0, .int v1] M (some (.int r)) Mf := by
  refine Ct_of (own := RX11) (by decide) rfl (Nat.le_of_ble_eq_true rfl) ?_
  intro p e s m args below meth c F hr hl hmn
  unfold fX11_least at h
  show X p l e ({ frames := 1, cells := 0, slots := 0, locals := 100 * 1 }) s m args below meth c (MQ below (Qm b D cy (some (.int r)) Mf) args s 0 0 (fun q => b ≤ q)) 2 b D cy 0 0 M 0 [(0, .int v0), (1, .int v1)] []
  refine x_iload_n F dX11_least_0 rfl 0 rfl ?_
  refine x_iload_n F dX11_least_1 rfl 1 rfl ?_
  refine x_icmp_ge F (tgt := 9) dX11_least_2 (by decide) (fun c2 => ?_) (fun c2 => ?_)
  · rw [if_pos c2] at h
    refine x_iload_n F dX11_least_9 rfl 1 rfl ?_
    obtain ⟨rfl, rfl⟩ := retS h
    exact x_iret F hr hl dX11_least_10
  · rw [if_neg c2] at h
    refine x_iload_n F dX11_least_5 rfl 0 rfl ?_
    refine x_goto F (tgt := 10) dX11_least_6 (by decide) ?_
    obtain ⟨rfl, rfl⟩ := retS h
    exact x_iret F hr hl dX11_least_10
theorem dX11_tapeAt_0 : decode cX11_tapeAt 0 = .ok (.iload_n 1, 1) := by decide +kernel
theorem dX11_tapeAt_1 : decode cX11_tapeAt 1 = .ok (.aload_n 0, 1) := by decide +kernel
theorem dX11_tapeAt_2 : decode cX11_tapeAt 2 = .ok (.getfield 18, 3) := by decide +kernel
theorem dX11_tapeAt_5 : decode cX11_tapeAt 5 = .ok (.if_icmp .ge 12, 3) := by decide +kernel
theorem dX11_tapeAt_8 : decode cX11_tapeAt 8 = .ok (.aload_n 0, 1) := by decide +kernel
theorem dX11_tapeAt_9 : decode cX11_tapeAt 9 = .ok (.getfield 7, 3) := by decide +kernel
theorem dX11_tapeAt_12 : decode cX11_tapeAt 12 = .ok (.iload_n 1, 1) := by decide +kernel
theorem dX11_tapeAt_13 : decode cX11_tapeAt 13 = .ok (.iaload, 1) := by decide +kernel
theorem dX11_tapeAt_14 : decode cX11_tapeAt 14 = .ok (.goto 4, 3) := by decide +kernel
theorem dX11_tapeAt_17 : decode cX11_tapeAt 17 = .ok (.iconst 0, 1) := by decide +kernel
theorem dX11_tapeAt_18 : decode cX11_tapeAt 18 = .ok (.ireturn, 1) := by decide +kernel
def fX11_tapeAt (N : Nat) (v0 : Nat) (v1 : Int32) (M : Mem) : Option (Int32 × Mem) := ((fI M 11 v0 3).bind fun x2 => (if x2 ≤ v1 then some (0, M) else ((fR M 11 v0 1).bind fun x9 => ((aI M x9 v1).bind fun x13 => some (x13, M)))))
set_option maxHeartbeats 4000000 in
set_option maxRecDepth 100000 in
theorem k_X11_tapeAt (l : Launch) (b : Nat) (D : va_G) (cy : Nat → ClassId) (N : Nat) (v0 : Nat) (v1 : Int32) (M : Mem) (r : Int32) (Mf : Mem) (h : fX11_tapeAt N v0 v1 M = some (r, Mf)) : Ct l yX11_tapeAt cX11_tapeAt 2 (some .int) 1 0 0 b D cy [.ref (b + v0), .int v1] M (some (.int r)) Mf := by
  refine Ct_of (own := RX11) (by decide) rfl (Nat.le_of_ble_eq_true rfl) ?_
  intro p e s m args below meth c F hr hl hmn
  unfold fX11_tapeAt at h
  show X p l e ({ frames := 1, cells := 0, slots := 0, locals := 100 * 1 }) s m args below meth c (MQ below (Qm b D cy (some (.int r)) Mf) args s 0 0 (fun q => b ≤ q)) 2 b D cy 0 0 M 0 [(0, .ref (b + v0)), (1, .int v1)] []
  refine x_iload_n F dX11_tapeAt_0 rfl 1 rfl ?_
  refine x_aload_n F dX11_tapeAt_1 rfl 0 rfl ?_
  obtain ⟨x2, c2, h⟩ := bdS h
  refine x_getI F (ci := 11) (C := RX11) (T := TX11) (N := 45) rfl ⟨by decide, rfl⟩ inU11 3 (by decide) (fun _ _ _ => rfl) wl_862 c2 dX11_tapeAt_2 ?_
  refine x_icmp_ge F (tgt := 17) dX11_tapeAt_5 (by decide) (fun c5 => ?_) (fun c5 => ?_)
  · rw [if_pos c5] at h
    refine x_iconst F (v := 0) dX11_tapeAt_17 (by decide) ?_
    obtain ⟨rfl, rfl⟩ := retS h
    exact x_iret F hr hl dX11_tapeAt_18
  · rw [if_neg c5] at h
    refine x_aload_n F dX11_tapeAt_8 rfl 0 rfl ?_
    obtain ⟨x9, c9, h⟩ := bdS h
    refine x_getR F (ci := 11) (C := RX11) (T := TX11) (N := 45) rfl ⟨by decide, rfl⟩ inU11 1 (by decide) (fun _ _ _ => rfl) wl_848 c9 dX11_tapeAt_9 ?_
    refine x_iload_n F dX11_tapeAt_12 rfl 1 rfl ?_
    obtain ⟨x13, c13, h⟩ := bdS h
    refine x_aI F c13 dX11_tapeAt_13 ?_
    refine x_goto F (tgt := 18) dX11_tapeAt_14 (by decide) ?_
    obtain ⟨rfl, rfl⟩ := retS h
    exact x_iret F hr hl dX11_tapeAt_18
theorem dX11_isDigit_0 : decode cX11_isDigit 0 = .ok (.iload_n 0, 1) := by decide +kernel
theorem dX11_isDigit_1 : decode cX11_isDigit 1 = .ok (.bipush 48, 2) := by decide +kernel
theorem dX11_isDigit_3 : decode cX11_isDigit 3 = .ok (.if_icmp .lt 13, 3) := by decide +kernel
theorem dX11_isDigit_6 : decode cX11_isDigit 6 = .ok (.iload_n 0, 1) := by decide +kernel
theorem dX11_isDigit_7 : decode cX11_isDigit 7 = .ok (.bipush 57, 2) := by decide +kernel
theorem dX11_isDigit_9 : decode cX11_isDigit 9 = .ok (.if_icmp .gt 7, 3) := by decide +kernel
theorem dX11_isDigit_12 : decode cX11_isDigit 12 = .ok (.iconst 1, 1) := by decide +kernel
theorem dX11_isDigit_13 : decode cX11_isDigit 13 = .ok (.goto 4, 3) := by decide +kernel
theorem dX11_isDigit_16 : decode cX11_isDigit 16 = .ok (.iconst 0, 1) := by decide +kernel
theorem dX11_isDigit_17 : decode cX11_isDigit 17 = .ok (.ireturn, 1) := by decide +kernel
def fX11_isDigit (N : Nat) (v0 : Int32) (M : Mem) : Option (Int32 × Mem) := (if v0 < 48 then some (0, M) else (if 57 < v0 then some (0, M) else some (1, M)))
set_option maxHeartbeats 4000000 in
set_option maxRecDepth 100000 in
theorem k_X11_isDigit (l : Launch) (b : Nat) (D : va_G) (cy : Nat → ClassId) (N : Nat) (v0 : Int32) (M : Mem) (r : Int32) (Mf : Mem) (h : fX11_isDigit N v0 M = some (r, Mf)) : Ct l yX11_isDigit cX11_isDigit 1 (some .boolean) 1 0 0 b D cy [.int v0] M (some (.int r)) Mf := by
  refine Ct_of (own := RX11) (by decide) rfl (Nat.le_of_ble_eq_true rfl) ?_
  intro p e s m args below meth c F hr hl hmn
  unfold fX11_isDigit at h
  show X p l e ({ frames := 1, cells := 0, slots := 0, locals := 100 * 1 }) s m args below meth c (MQ below (Qm b D cy (some (.int r)) Mf) args s 0 0 (fun q => b ≤ q)) 1 b D cy 0 0 M 0 [(0, .int v0)] []
  refine x_iload_n F dX11_isDigit_0 rfl 0 rfl ?_
  refine x_bipush F (v := 48) dX11_isDigit_1 (by decide) ?_
  refine x_icmp_lt F (tgt := 16) dX11_isDigit_3 (by decide) (fun c3 => ?_) (fun c3 => ?_)
  · rw [if_pos c3] at h
    refine x_iconst F (v := 0) dX11_isDigit_16 (by decide) ?_
    obtain ⟨rfl, rfl⟩ := retS h
    exact x_zret F hr hl (by decide) dX11_isDigit_17
  · rw [if_neg c3] at h
    refine x_iload_n F dX11_isDigit_6 rfl 0 rfl ?_
    refine x_bipush F (v := 57) dX11_isDigit_7 (by decide) ?_
    refine x_icmp_gt F (tgt := 16) dX11_isDigit_9 (by decide) (fun c9 => ?_) (fun c9 => ?_)
    · rw [if_pos c9] at h
      refine x_iconst F (v := 0) dX11_isDigit_16 (by decide) ?_
      obtain ⟨rfl, rfl⟩ := retS h
      exact x_zret F hr hl (by decide) dX11_isDigit_17
    · rw [if_neg c9] at h
      refine x_iconst F (v := 1) dX11_isDigit_12 (by decide) ?_
      refine x_goto F (tgt := 17) dX11_isDigit_13 (by decide) ?_
      obtain ⟨rfl, rfl⟩ := retS h
      exact x_zret F hr hl (by decide) dX11_isDigit_17
theorem dX11_isLetter_0 : decode cX11_isLetter 0 = .ok (.iload_n 0, 1) := by decide +kernel
theorem dX11_isLetter_1 : decode cX11_isLetter 1 = .ok (.bipush 97, 2) := by decide +kernel
theorem dX11_isLetter_3 : decode cX11_isLetter 3 = .ok (.if_icmp .lt 13, 3) := by decide +kernel
theorem dX11_isLetter_6 : decode cX11_isLetter 6 = .ok (.iload_n 0, 1) := by decide +kernel
theorem dX11_isLetter_7 : decode cX11_isLetter 7 = .ok (.bipush 122, 2) := by decide +kernel
theorem dX11_isLetter_9 : decode cX11_isLetter 9 = .ok (.if_icmp .gt 7, 3) := by decide +kernel
theorem dX11_isLetter_12 : decode cX11_isLetter 12 = .ok (.iconst 1, 1) := by decide +kernel
theorem dX11_isLetter_13 : decode cX11_isLetter 13 = .ok (.goto 4, 3) := by decide +kernel
theorem dX11_isLetter_16 : decode cX11_isLetter 16 = .ok (.iconst 0, 1) := by decide +kernel
theorem dX11_isLetter_17 : decode cX11_isLetter 17 = .ok (.ireturn, 1) := by decide +kernel
def fX11_isLetter (N : Nat) (v0 : Int32) (M : Mem) : Option (Int32 × Mem) := (if v0 < 97 then some (0, M) else (if 122 < v0 then some (0, M) else some (1, M)))
set_option maxHeartbeats 4000000 in
set_option maxRecDepth 100000 in
theorem k_X11_isLetter (l : Launch) (b : Nat) (D : va_G) (cy : Nat → ClassId) (N : Nat) (v0 : Int32) (M : Mem) (r : Int32) (Mf : Mem) (h : fX11_isLetter N v0 M = some (r, Mf)) : Ct l yX11_isLetter cX11_isLetter 1 (some .boolean) 1 0 0 b D cy [.int v0] M (some (.int r)) Mf := by
  refine Ct_of (own := RX11) (by decide) rfl (Nat.le_of_ble_eq_true rfl) ?_
  intro p e s m args below meth c F hr hl hmn
  unfold fX11_isLetter at h
  show X p l e ({ frames := 1, cells := 0, slots := 0, locals := 100 * 1 }) s m args below meth c (MQ below (Qm b D cy (some (.int r)) Mf) args s 0 0 (fun q => b ≤ q)) 1 b D cy 0 0 M 0 [(0, .int v0)] []
  refine x_iload_n F dX11_isLetter_0 rfl 0 rfl ?_
  refine x_bipush F (v := 97) dX11_isLetter_1 (by decide) ?_
  refine x_icmp_lt F (tgt := 16) dX11_isLetter_3 (by decide) (fun c3 => ?_) (fun c3 => ?_)
  · rw [if_pos c3] at h
    refine x_iconst F (v := 0) dX11_isLetter_16 (by decide) ?_
    obtain ⟨rfl, rfl⟩ := retS h
    exact x_zret F hr hl (by decide) dX11_isLetter_17
  · rw [if_neg c3] at h
    refine x_iload_n F dX11_isLetter_6 rfl 0 rfl ?_
    refine x_bipush F (v := 122) dX11_isLetter_7 (by decide) ?_
    refine x_icmp_gt F (tgt := 16) dX11_isLetter_9 (by decide) (fun c9 => ?_) (fun c9 => ?_)
    · rw [if_pos c9] at h
      refine x_iconst F (v := 0) dX11_isLetter_16 (by decide) ?_
      obtain ⟨rfl, rfl⟩ := retS h
      exact x_zret F hr hl (by decide) dX11_isLetter_17
    · rw [if_neg c9] at h
      refine x_iconst F (v := 1) dX11_isLetter_12 (by decide) ?_
      refine x_goto F (tgt := 17) dX11_isLetter_13 (by decide) ?_
      obtain ⟨rfl, rfl⟩ := retS h
      exact x_zret F hr hl (by decide) dX11_isLetter_17
theorem hd_X11_isLetter : (yX11_isLetter).cls = RX11 ∧ (yX11_isLetter).cls ≠ "java/lang/invoke/MethodHandle" ∧ (yX11_isLetter).cls ≠ "java/lang/invoke/VarHandle" ∧ (parseMethodDescriptor (yX11_isLetter).desc).map (fun d => d.parameters.length) = some 1 := by decide +kernel
theorem hd_X11_tapeAt : (yX11_tapeAt).cls = RX11 ∧ (yX11_tapeAt).cls ≠ "java/lang/invoke/MethodHandle" ∧ (yX11_tapeAt).cls ≠ "java/lang/invoke/VarHandle" ∧ (parseMethodDescriptor (yX11_tapeAt).desc).map (fun d => d.parameters.length) = some 1 := by decide +kernel
theorem hd_X11_isDigit : (yX11_isDigit).cls = RX11 ∧ (yX11_isDigit).cls ≠ "java/lang/invoke/MethodHandle" ∧ (yX11_isDigit).cls ≠ "java/lang/invoke/VarHandle" ∧ (parseMethodDescriptor (yX11_isDigit).desc).map (fun d => d.parameters.length) = some 1 := by decide +kernel
theorem dX11_go_0 : decode cX11_go 0 = .ok (.aload_n 0, 1) := by decide +kernel
theorem dX11_go_1 : decode cX11_go 1 = .ok (.getfield 21, 3) := by decide +kernel
theorem dX11_go_4 : decode cX11_go 4 = .ok (.aload_n 0, 1) := by decide +kernel
theorem dX11_go_5 : decode cX11_go 5 = .ok (.getfield 18, 3) := by decide +kernel
theorem dX11_go_8 : decode cX11_go 8 = .ok (.if_icmp .ge 44, 3) := by decide +kernel
theorem dX11_go_11 : decode cX11_go 11 = .ok (.aload_n 0, 1) := by decide +kernel
theorem dX11_go_12 : decode cX11_go 12 = .ok (.getfield 7, 3) := by decide +kernel
theorem dX11_go_15 : decode cX11_go 15 = .ok (.aload_n 0, 1) := by decide +kernel
theorem dX11_go_16 : decode cX11_go 16 = .ok (.getfield 21, 3) := by decide +kernel
theorem dX11_go_19 : decode cX11_go 19 = .ok (.iaload, 1) := by decide +kernel
theorem dX11_go_20 : decode cX11_go 20 = .ok (.bipush 32, 2) := by decide +kernel
theorem dX11_go_22 : decode cX11_go 22 = .ok (.if_icmp .eq 17, 3) := by decide +kernel
theorem dX11_go_25 : decode cX11_go 25 = .ok (.aload_n 0, 1) := by decide +kernel
theorem dX11_go_26 : decode cX11_go 26 = .ok (.getfield 7, 3) := by decide +kernel
theorem dX11_go_29 : decode cX11_go 29 = .ok (.aload_n 0, 1) := by decide +kernel
theorem dX11_go_30 : decode cX11_go 30 = .ok (.getfield 21, 3) := by decide +kernel
theorem dX11_go_33 : decode cX11_go 33 = .ok (.iaload, 1) := by decide +kernel
theorem dX11_go_34 : decode cX11_go 34 = .ok (.bipush 10, 2) := by decide +kernel
theorem dX11_go_36 : decode cX11_go 36 = .ok (.if_icmp .ne 16, 3) := by decide +kernel
theorem dX11_go_39 : decode cX11_go 39 = .ok (.aload_n 0, 1) := by decide +kernel
theorem dX11_go_40 : decode cX11_go 40 = .ok (.dup, 1) := by decide +kernel
theorem dX11_go_41 : decode cX11_go 41 = .ok (.getfield 21, 3) := by decide +kernel
theorem dX11_go_44 : decode cX11_go 44 = .ok (.iconst 1, 1) := by decide +kernel
theorem dX11_go_45 : decode cX11_go 45 = .ok (.iadd, 1) := by decide +kernel
theorem dX11_go_46 : decode cX11_go 46 = .ok (.putfield 21, 3) := by decide +kernel
theorem dX11_go_49 : decode cX11_go 49 = .ok (.goto (-49), 3) := by decide +kernel
theorem dX11_go_52 : decode cX11_go 52 = .ok (.aload_n 0, 1) := by decide +kernel
theorem dX11_go_53 : decode cX11_go 53 = .ok (.aload_n 0, 1) := by decide +kernel
theorem dX11_go_54 : decode cX11_go 54 = .ok (.getfield 21, 3) := by decide +kernel
theorem dX11_go_57 : decode cX11_go 57 = .ok (.putfield 24, 3) := by decide +kernel
theorem dX11_go_60 : decode cX11_go 60 = .ok (.aload_n 0, 1) := by decide +kernel
theorem dX11_go_61 : decode cX11_go 61 = .ok (.getfield 18, 3) := by decide +kernel
theorem dX11_go_64 : decode cX11_go 64 = .ok (.aload_n 0, 1) := by decide +kernel
theorem dX11_go_65 : decode cX11_go 65 = .ok (.getfield 27, 3) := by decide +kernel
theorem dX11_go_68 : decode cX11_go 68 = .ok (.if_icmp .le 28, 3) := by decide +kernel
theorem dX11_go_71 : decode cX11_go 71 = .ok (.aload_n 0, 1) := by decide +kernel
theorem dX11_go_72 : decode cX11_go 72 = .ok (.getfield 24, 3) := by decide +kernel
theorem dX11_go_75 : decode cX11_go 75 = .ok (.aload_n 0, 1) := by decide +kernel
theorem dX11_go_76 : decode cX11_go 76 = .ok (.getfield 27, 3) := by decide +kernel
theorem dX11_go_79 : decode cX11_go 79 = .ok (.if_icmp .lt 17, 3) := by decide +kernel
theorem dX11_go_82 : decode cX11_go 82 = .ok (.aload_n 0, 1) := by decide +kernel
theorem dX11_go_83 : decode cX11_go 83 = .ok (.aload_n 0, 1) := by decide +kernel
theorem dX11_go_84 : decode cX11_go 84 = .ok (.getfield 27, 3) := by decide +kernel
theorem dX11_go_87 : decode cX11_go 87 = .ok (.putfield 24, 3) := by decide +kernel
theorem dX11_go_90 : decode cX11_go 90 = .ok (.aload_n 0, 1) := by decide +kernel
theorem dX11_go_91 : decode cX11_go 91 = .ok (.iconst 1, 1) := by decide +kernel
theorem dX11_go_92 : decode cX11_go 92 = .ok (.putfield 30, 3) := by decide +kernel
theorem dX11_go_95 : decode cX11_go 95 = .ok (.return_, 1) := by decide +kernel
theorem dX11_go_96 : decode cX11_go 96 = .ok (.aload_n 0, 1) := by decide +kernel
theorem dX11_go_97 : decode cX11_go 97 = .ok (.getfield 21, 3) := by decide +kernel
theorem dX11_go_100 : decode cX11_go 100 = .ok (.aload_n 0, 1) := by decide +kernel
theorem dX11_go_101 : decode cX11_go 101 = .ok (.getfield 18, 3) := by decide +kernel
theorem dX11_go_104 : decode cX11_go 104 = .ok (.if_icmp .lt 9, 3) := by decide +kernel
theorem dX11_go_107 : decode cX11_go 107 = .ok (.aload_n 0, 1) := by decide +kernel
theorem dX11_go_108 : decode cX11_go 108 = .ok (.iconst 0, 1) := by decide +kernel
theorem dX11_go_109 : decode cX11_go 109 = .ok (.putfield 30, 3) := by decide +kernel
theorem dX11_go_112 : decode cX11_go 112 = .ok (.return_, 1) := by decide +kernel
theorem dX11_go_113 : decode cX11_go 113 = .ok (.aload_n 0, 1) := by decide +kernel
theorem dX11_go_114 : decode cX11_go 114 = .ok (.getfield 7, 3) := by decide +kernel
theorem dX11_go_117 : decode cX11_go 117 = .ok (.aload_n 0, 1) := by decide +kernel
theorem dX11_go_118 : decode cX11_go 118 = .ok (.getfield 21, 3) := by decide +kernel
theorem dX11_go_121 : decode cX11_go 121 = .ok (.iaload, 1) := by decide +kernel
theorem dX11_go_122 : decode cX11_go 122 = .ok (.istore_n 1, 1) := by decide +kernel
theorem dX11_go_123 : decode cX11_go 123 = .ok (.iload_n 1, 1) := by decide +kernel
theorem dX11_go_124 : decode cX11_go 124 = .ok (.invokestatic 33, 3) := by decide +kernel
theorem dX11_go_127 : decode cX11_go 127 = .ok (.ifCond .ne 71, 3) := by decide +kernel
theorem dX11_go_130 : decode cX11_go 130 = .ok (.iload_n 1, 1) := by decide +kernel
theorem dX11_go_131 : decode cX11_go 131 = .ok (.invokestatic 37, 3) := by decide +kernel
theorem dX11_go_134 : decode cX11_go 134 = .ok (.ifCond .ne 64, 3) := by decide +kernel
theorem dX11_go_137 : decode cX11_go 137 = .ok (.aload_n 0, 1) := by decide +kernel
theorem dX11_go_138 : decode cX11_go 138 = .ok (.iload_n 1, 1) := by decide +kernel
theorem dX11_go_139 : decode cX11_go 139 = .ok (.bipush 59, 2) := by decide +kernel
theorem dX11_go_141 : decode cX11_go 141 = .ok (.if_icmp .eq 33, 3) := by decide +kernel
theorem dX11_go_144 : decode cX11_go 144 = .ok (.iload_n 1, 1) := by decide +kernel
theorem dX11_go_145 : decode cX11_go 145 = .ok (.bipush 60, 2) := by decide +kernel
theorem dX11_go_147 : decode cX11_go 147 = .ok (.if_icmp .eq 27, 3) := by decide +kernel
theorem dX11_go_150 : decode cX11_go 150 = .ok (.iload_n 1, 1) := by decide +kernel
theorem dX11_go_151 : decode cX11_go 151 = .ok (.bipush 61, 2) := by decide +kernel
theorem dX11_go_153 : decode cX11_go 153 = .ok (.if_icmp .eq 21, 3) := by decide +kernel
theorem dX11_go_156 : decode cX11_go 156 = .ok (.iload_n 1, 1) := by decide +kernel
theorem dX11_go_157 : decode cX11_go 157 = .ok (.bipush 62, 2) := by decide +kernel
theorem dX11_go_159 : decode cX11_go 159 = .ok (.if_icmp .eq 15, 3) := by decide +kernel
theorem dX11_go_162 : decode cX11_go 162 = .ok (.iload_n 1, 1) := by decide +kernel
theorem dX11_go_163 : decode cX11_go 163 = .ok (.bipush 40, 2) := by decide +kernel
theorem dX11_go_165 : decode cX11_go 165 = .ok (.if_icmp .eq 9, 3) := by decide +kernel
theorem dX11_go_168 : decode cX11_go 168 = .ok (.iload_n 1, 1) := by decide +kernel
theorem dX11_go_169 : decode cX11_go 169 = .ok (.bipush 41, 2) := by decide +kernel
theorem dX11_go_171 : decode cX11_go 171 = .ok (.if_icmp .ne 7, 3) := by decide +kernel
theorem dX11_go_174 : decode cX11_go 174 = .ok (.iconst 4, 1) := by decide +kernel
theorem dX11_go_175 : decode cX11_go 175 = .ok (.goto 4, 3) := by decide +kernel
theorem dX11_go_178 : decode cX11_go 178 = .ok (.iconst 1, 1) := by decide +kernel
theorem dX11_go_179 : decode cX11_go 179 = .ok (.putfield 30, 3) := by decide +kernel
theorem dX11_go_182 : decode cX11_go 182 = .ok (.aload_n 0, 1) := by decide +kernel
theorem dX11_go_183 : decode cX11_go 183 = .ok (.iload_n 1, 1) := by decide +kernel
theorem dX11_go_184 : decode cX11_go 184 = .ok (.putfield 40, 3) := by decide +kernel
theorem dX11_go_187 : decode cX11_go 187 = .ok (.aload_n 0, 1) := by decide +kernel
theorem dX11_go_188 : decode cX11_go 188 = .ok (.dup, 1) := by decide +kernel
theorem dX11_go_189 : decode cX11_go 189 = .ok (.getfield 21, 3) := by decide +kernel
theorem dX11_go_192 : decode cX11_go 192 = .ok (.iconst 1, 1) := by decide +kernel
theorem dX11_go_193 : decode cX11_go 193 = .ok (.iadd, 1) := by decide +kernel
theorem dX11_go_194 : decode cX11_go 194 = .ok (.putfield 21, 3) := by decide +kernel
theorem dX11_go_197 : decode cX11_go 197 = .ok (.return_, 1) := by decide +kernel
theorem dX11_go_198 : decode cX11_go 198 = .ok (.iload_n 1, 1) := by decide +kernel
theorem dX11_go_199 : decode cX11_go 199 = .ok (.invokestatic 33, 3) := by decide +kernel
theorem dX11_go_202 : decode cX11_go 202 = .ok (.istore_n 2, 1) := by decide +kernel
theorem dX11_go_203 : decode cX11_go 203 = .ok (.iconst 1, 1) := by decide +kernel
theorem dX11_go_204 : decode cX11_go 204 = .ok (.istore_n 3, 1) := by decide +kernel
theorem dX11_go_205 : decode cX11_go 205 = .ok (.aload_n 0, 1) := by decide +kernel
theorem dX11_go_206 : decode cX11_go 206 = .ok (.lconst 0, 1) := by decide +kernel
theorem dX11_go_207 : decode cX11_go 207 = .ok (.putfield 43, 3) := by decide +kernel
theorem dX11_go_210 : decode cX11_go 210 = .ok (.aload_n 0, 1) := by decide +kernel
theorem dX11_go_211 : decode cX11_go 211 = .ok (.iconst 0, 1) := by decide +kernel
theorem dX11_go_212 : decode cX11_go 212 = .ok (.putfield 47, 3) := by decide +kernel
theorem dX11_go_215 : decode cX11_go 215 = .ok (.aload_n 0, 1) := by decide +kernel
theorem dX11_go_216 : decode cX11_go 216 = .ok (.aload_n 0, 1) := by decide +kernel
theorem dX11_go_217 : decode cX11_go 217 = .ok (.getfield 21, 3) := by decide +kernel
theorem dX11_go_220 : decode cX11_go 220 = .ok (.invokevirtual 50, 3) := by decide +kernel
theorem dX11_go_223 : decode cX11_go 223 = .ok (.invokestatic 33, 3) := by decide +kernel
theorem dX11_go_226 : decode cX11_go 226 = .ok (.ifCond .ne 17, 3) := by decide +kernel
theorem dX11_go_229 : decode cX11_go 229 = .ok (.aload_n 0, 1) := by decide +kernel
theorem dX11_go_230 : decode cX11_go 230 = .ok (.aload_n 0, 1) := by decide +kernel
theorem dX11_go_231 : decode cX11_go 231 = .ok (.getfield 21, 3) := by decide +kernel
theorem dX11_go_234 : decode cX11_go 234 = .ok (.invokevirtual 50, 3) := by decide +kernel
theorem dX11_go_237 : decode cX11_go 237 = .ok (.invokestatic 37, 3) := by decide +kernel
theorem dX11_go_240 : decode cX11_go 240 = .ok (.ifCond .eq 110, 3) := by decide +kernel
theorem dX11_go_243 : decode cX11_go 243 = .ok (.aload_n 0, 1) := by decide +kernel
theorem dX11_go_244 : decode cX11_go 244 = .ok (.getfield 7, 3) := by decide +kernel
theorem dX11_go_247 : decode cX11_go 247 = .ok (.aload_n 0, 1) := by decide +kernel
theorem dX11_go_248 : decode cX11_go 248 = .ok (.getfield 21, 3) := by decide +kernel
theorem dX11_go_251 : decode cX11_go 251 = .ok (.iaload, 1) := by decide +kernel
theorem dX11_go_252 : decode cX11_go 252 = .ok (.istore 4, 2) := by decide +kernel
theorem dX11_go_254 : decode cX11_go 254 = .ok (.iload_n 3, 1) := by decide +kernel
theorem dX11_go_255 : decode cX11_go 255 = .ok (.ifCond .eq 16, 3) := by decide +kernel
theorem dX11_go_258 : decode cX11_go 258 = .ok (.iload 4, 2) := by decide +kernel
theorem dX11_go_260 : decode cX11_go 260 = .ok (.invokestatic 33, 3) := by decide +kernel
theorem dX11_go_263 : decode cX11_go 263 = .ok (.iload_n 2, 1) := by decide +kernel
theorem dX11_go_264 : decode cX11_go 264 = .ok (.if_icmp .ne 7, 3) := by decide +kernel
theorem dX11_go_267 : decode cX11_go 267 = .ok (.iconst 1, 1) := by decide +kernel
theorem dX11_go_268 : decode cX11_go 268 = .ok (.goto 4, 3) := by decide +kernel
theorem dX11_go_271 : decode cX11_go 271 = .ok (.iconst 0, 1) := by decide +kernel
theorem dX11_go_272 : decode cX11_go 272 = .ok (.istore_n 3, 1) := by decide +kernel
theorem dX11_go_273 : decode cX11_go 273 = .ok (.aload_n 0, 1) := by decide +kernel
theorem dX11_go_274 : decode cX11_go 274 = .ok (.getfield 21, 3) := by decide +kernel
theorem dX11_go_277 : decode cX11_go 277 = .ok (.aload_n 0, 1) := by decide +kernel
theorem dX11_go_278 : decode cX11_go 278 = .ok (.getfield 24, 3) := by decide +kernel
theorem dX11_go_281 : decode cX11_go 281 = .ok (.isub, 1) := by decide +kernel
theorem dX11_go_282 : decode cX11_go 282 = .ok (.bipush 7, 2) := by decide +kernel
theorem dX11_go_284 : decode cX11_go 284 = .ok (.if_icmp .ge 23, 3) := by decide +kernel
theorem dX11_go_287 : decode cX11_go 287 = .ok (.aload_n 0, 1) := by decide +kernel
theorem dX11_go_288 : decode cX11_go 288 = .ok (.ldc2_w 54, 3) := by decide +kernel
theorem dX11_go_291 : decode cX11_go 291 = .ok (.aload_n 0, 1) := by decide +kernel
theorem dX11_go_292 : decode cX11_go 292 = .ok (.getfield 43, 3) := by decide +kernel
theorem dX11_go_295 : decode cX11_go 295 = .ok (.lmul, 1) := by decide +kernel
theorem dX11_go_296 : decode cX11_go 296 = .ok (.iload 4, 2) := by decide +kernel
theorem dX11_go_298 : decode cX11_go 298 = .ok (.i2l, 1) := by decide +kernel
theorem dX11_go_299 : decode cX11_go 299 = .ok (.ladd, 1) := by decide +kernel
theorem dX11_go_300 : decode cX11_go 300 = .ok (.ldc2_w 56, 3) := by decide +kernel
theorem dX11_go_303 : decode cX11_go 303 = .ok (.lsub, 1) := by decide +kernel
theorem dX11_go_304 : decode cX11_go 304 = .ok (.putfield 43, 3) := by decide +kernel
theorem dX11_go_307 : decode cX11_go 307 = .ok (.aload_n 0, 1) := by decide +kernel
theorem dX11_go_308 : decode cX11_go 308 = .ok (.getfield 21, 3) := by decide +kernel
theorem dX11_go_311 : decode cX11_go 311 = .ok (.aload_n 0, 1) := by decide +kernel
theorem dX11_go_312 : decode cX11_go 312 = .ok (.getfield 24, 3) := by decide +kernel
theorem dX11_go_315 : decode cX11_go 315 = .ok (.isub, 1) := by decide +kernel
theorem dX11_go_316 : decode cX11_go 316 = .ok (.iconst 3, 1) := by decide +kernel
theorem dX11_go_317 : decode cX11_go 317 = .ok (.if_icmp .ge 20, 3) := by decide +kernel
theorem dX11_go_320 : decode cX11_go 320 = .ok (.aload_n 0, 1) := by decide +kernel
theorem dX11_go_321 : decode cX11_go 321 = .ok (.bipush 10, 2) := by decide +kernel
theorem dX11_go_323 : decode cX11_go 323 = .ok (.aload_n 0, 1) := by decide +kernel
theorem dX11_go_324 : decode cX11_go 324 = .ok (.getfield 47, 3) := by decide +kernel
theorem dX11_go_327 : decode cX11_go 327 = .ok (.imul, 1) := by decide +kernel
theorem dX11_go_328 : decode cX11_go 328 = .ok (.iload 4, 2) := by decide +kernel
theorem dX11_go_330 : decode cX11_go 330 = .ok (.iadd, 1) := by decide +kernel
theorem dX11_go_331 : decode cX11_go 331 = .ok (.bipush 48, 2) := by decide +kernel
theorem dX11_go_333 : decode cX11_go 333 = .ok (.isub, 1) := by decide +kernel
theorem dX11_go_334 : decode cX11_go 334 = .ok (.putfield 47, 3) := by decide +kernel
theorem dX11_go_337 : decode cX11_go 337 = .ok (.aload_n 0, 1) := by decide +kernel
theorem dX11_go_338 : decode cX11_go 338 = .ok (.dup, 1) := by decide +kernel
theorem dX11_go_339 : decode cX11_go 339 = .ok (.getfield 21, 3) := by decide +kernel
theorem dX11_go_342 : decode cX11_go 342 = .ok (.iconst 1, 1) := by decide +kernel
theorem dX11_go_343 : decode cX11_go 343 = .ok (.iadd, 1) := by decide +kernel
theorem dX11_go_344 : decode cX11_go 344 = .ok (.putfield 21, 3) := by decide +kernel
theorem dX11_go_347 : decode cX11_go 347 = .ok (.goto (-132), 3) := by decide +kernel
theorem dX11_go_350 : decode cX11_go 350 = .ok (.aload_n 0, 1) := by decide +kernel
theorem dX11_go_351 : decode cX11_go 351 = .ok (.iload_n 3, 1) := by decide +kernel
theorem dX11_go_352 : decode cX11_go 352 = .ok (.ifCond .eq 25, 3) := by decide +kernel
theorem dX11_go_355 : decode cX11_go 355 = .ok (.aload_n 0, 1) := by decide +kernel
theorem dX11_go_356 : decode cX11_go 356 = .ok (.getfield 21, 3) := by decide +kernel
theorem dX11_go_359 : decode cX11_go 359 = .ok (.aload_n 0, 1) := by decide +kernel
theorem dX11_go_360 : decode cX11_go 360 = .ok (.getfield 24, 3) := by decide +kernel
theorem dX11_go_363 : decode cX11_go 363 = .ok (.isub, 1) := by decide +kernel
theorem dX11_go_364 : decode cX11_go 364 = .ok (.iload_n 2, 1) := by decide +kernel
theorem dX11_go_365 : decode cX11_go 365 = .ok (.ifCond .eq 8, 3) := by decide +kernel
theorem dX11_go_368 : decode cX11_go 368 = .ok (.bipush 7, 2) := by decide +kernel
theorem dX11_go_370 : decode cX11_go 370 = .ok (.goto 4, 3) := by decide +kernel
theorem dX11_go_373 : decode cX11_go 373 = .ok (.iconst 3, 1) := by decide +kernel
theorem dX11_go_374 : decode cX11_go 374 = .ok (.if_icmp .le 7, 3) := by decide +kernel
theorem dX11_go_377 : decode cX11_go 377 = .ok (.iconst 1, 1) := by decide +kernel
theorem dX11_go_378 : decode cX11_go 378 = .ok (.goto 12, 3) := by decide +kernel
theorem dX11_go_381 : decode cX11_go 381 = .ok (.iload_n 2, 1) := by decide +kernel
theorem dX11_go_382 : decode cX11_go 382 = .ok (.ifCond .eq 7, 3) := by decide +kernel
theorem dX11_go_385 : decode cX11_go 385 = .ok (.iconst 2, 1) := by decide +kernel
theorem dX11_go_386 : decode cX11_go 386 = .ok (.goto 4, 3) := by decide +kernel
theorem dX11_go_389 : decode cX11_go 389 = .ok (.iconst 3, 1) := by decide +kernel
theorem dX11_go_390 : decode cX11_go 390 = .ok (.putfield 30, 3) := by decide +kernel
theorem dX11_go_393 : decode cX11_go 393 = .ok (.return_, 1) := by decide +kernel
def fX11_go_J374 (N : Nat) (v2 : Int32) (s0 : Int32) (s1 : Int32) (s2 : Nat) (M : Mem) : Option (Unit × Mem) := (if s1 ≤ s0 then (if v2 = 0 then ((pI M 11 s2 7 3).bind fun M390 => some ((), M390)) else ((pI M 11 s2 7 2).bind fun M390 => some ((), M390))) else ((pI M 11 s2 7 1).bind fun M390 => some ((), M390)))
def fX11_go_J337_215 (N : Nat) (rc : Int32 → Mem → Option (Int32 × Mem)) (v0 : Nat) (v2 : Int32) (v3 : Int32) (M : Mem) : Option (Int32 × Mem) := ((fI M 11 v0 5).bind fun x339 => ((pI M 11 v0 5 (x339 + 1)).bind fun M344 => rc v3 M344))
def fX11_go_J307_215 (N : Nat) (rc : Int32 → Mem → Option (Int32 × Mem)) (v0 : Nat) (v2 : Int32) (v3 : Int32) (v4 : Int32) (M : Mem) : Option (Int32 × Mem) := ((fI M 11 v0 5).bind fun x308 => ((fI M 11 v0 6).bind fun x312 => (if 3 ≤ (x308 - x312) then fX11_go_J337_215 N rc v0 v2 v3 M else ((fI M 11 v0 8).bind fun x324 => ((pI M 11 v0 8 (((10 * x324) + v4) - 48)).bind fun M334 => fX11_go_J337_215 N rc v0 v2 v3 M334)))))
def fX11_go_J272_215 (N : Nat) (rc : Int32 → Mem → Option (Int32 × Mem)) (v0 : Nat) (v2 : Int32) (v4 : Int32) (s0 : Int32) (M : Mem) : Option (Int32 × Mem) := ((fI M 11 v0 5).bind fun x274 => ((fI M 11 v0 6).bind fun x278 => (if 7 ≤ (x274 - x278) then fX11_go_J307_215 N rc v0 v2 s0 v4 M else ((fL M 11 v0 12).bind fun x292 => ((pL M 11 v0 12 (((((27)) * x292) + (Int32.toInt64 v4)) - ((96)))).bind fun M304 => fX11_go_J307_215 N rc v0 v2 s0 v4 M304)))))
def fX11_go_J271_215 (N : Nat) (rc : Int32 → Mem → Option (Int32 × Mem)) (v0 : Nat) (v2 : Int32) (v4 : Int32) (M : Mem) : Option (Int32 × Mem) := fX11_go_J272_215 N rc v0 v2 v4 0 M
def fX11_go_J243_215 (N : Nat) (rc : Int32 → Mem → Option (Int32 × Mem)) (v0 : Nat) (v2 : Int32) (v3 : Int32) (M : Mem) : Option (Int32 × Mem) := ((fR M 11 v0 1).bind fun x244 => ((fI M 11 v0 5).bind fun x248 => ((aI M x244 x248).bind fun x251 => (if v3 = 0 then fX11_go_J271_215 N rc v0 v2 x251 M else ((fX11_isLetter N x251 M).bind fun (x260, M260) => (if x260 = v2 then fX11_go_J272_215 N rc v0 v2 x251 1 M260 else fX11_go_J271_215 N rc v0 v2 x251 M260))))))
def fX11_go_L215 (N : Nat) (v0 : Nat) (v2 : Int32) : Nat → Int32 → Mem → Option (Int32 × Mem)
  | 0, _, _ => none
  | n + 1, v3, M => ((fI M 11 v0 5).bind fun x217 => (if mK M v0 = 12 then ((fX11_tapeAt N v0 x217 M).bind fun (x220, M220) => ((fX11_isLetter N x220 M220).bind fun (x223, M223) => (if x223 = 0 then ((fI M223 11 v0 5).bind fun x231 => (if mK M223 v0 = 12 then ((fX11_tapeAt N v0 x231 M223).bind fun (x234, M234) => ((fX11_isDigit N x234 M234).bind fun (x237, M237) => (if x237 = 0 then some (v3, M237) else fX11_go_J243_215 N (fX11_go_L215 N v0 v2 n) v0 v2 v3 M237))) else none)) else fX11_go_J243_215 N (fX11_go_L215 N v0 v2 n) v0 v2 v3 M223))) else none))
def fX11_go_J198 (N : Nat) (v0 : Nat) (v1 : Int32) (M : Mem) : Option (Unit × Mem) := ((fX11_isLetter N v1 M).bind fun (x199, M199) => ((pL M199 11 v0 12 0).bind fun M207 => ((pI M207 11 v0 8 0).bind fun M212 => ((fX11_go_L215 N v0 x199 N 1 M212).bind fun o215 => match o215 with | (w3_215, M215) => (if w3_215 = 0 then ((pI M215 11 v0 7 1).bind fun M390 => some ((), M390)) else ((fI M215 11 v0 5).bind fun x356 => ((fI M215 11 v0 6).bind fun x360 => (if x199 = 0 then fX11_go_J374 N x199 3 (x356 - x360) v0 M215 else fX11_go_J374 N x199 7 (x356 - x360) v0 M215))))))))
def fX11_go_J179 (N : Nat) (v0 : Nat) (v1 : Int32) (s0 : Int32) (s1 : Nat) (M : Mem) : Option (Unit × Mem) := ((pI M 11 s1 7 s0).bind fun M179 => ((pI M179 11 v0 9 v1).bind fun M184 => ((fI M184 11 v0 5).bind fun x189 => ((pI M184 11 v0 5 (x189 + 1)).bind fun M194 => some ((), M194)))))
def fX11_go_J174 (N : Nat) (v0 : Nat) (v1 : Int32) (s0 : Nat) (M : Mem) : Option (Unit × Mem) := fX11_go_J179 N v0 v1 4 s0 M
def fX11_go_J96 (N : Nat) (v0 : Nat) (M : Mem) : Option (Unit × Mem) := ((fI M 11 v0 5).bind fun x97 => ((fI M 11 v0 3).bind fun x101 => (if x97 < x101 then ((fR M 11 v0 1).bind fun x114 => ((fI M 11 v0 5).bind fun x118 => ((aI M x114 x118).bind fun x121 => ((fX11_isLetter N x121 M).bind fun (x124, M124) => (if x124 = 0 then ((fX11_isDigit N x121 M124).bind fun (x131, M131) => (if x131 = 0 then (if x121 = 59 then fX11_go_J174 N v0 x121 v0 M131 else (if x121 = 60 then fX11_go_J174 N v0 x121 v0 M131 else (if x121 = 61 then fX11_go_J174 N v0 x121 v0 M131 else (if x121 = 62 then fX11_go_J174 N v0 x121 v0 M131 else (if x121 = 40 then fX11_go_J174 N v0 x121 v0 M131 else (if x121 = 41 then fX11_go_J174 N v0 x121 v0 M131 else fX11_go_J179 N v0 x121 1 v0 M131)))))) else fX11_go_J198 N v0 x121 M131)) else fX11_go_J198 N v0 x121 M124))))) else ((pI M 11 v0 7 0).bind fun M109 => some ((), M109)))))
def fX11_go_J52 (N : Nat) (v0 : Nat) (M : Mem) : Option (Unit × Mem) := ((fI M 11 v0 5).bind fun x54 => ((pI M 11 v0 6 x54).bind fun M57 => ((fI M57 11 v0 3).bind fun x61 => ((fI M57 11 v0 4).bind fun x65 => (if x61 ≤ x65 then fX11_go_J96 N v0 M57 else ((fI M57 11 v0 6).bind fun x72 => ((fI M57 11 v0 4).bind fun x76 => (if x72 < x76 then fX11_go_J96 N v0 M57 else ((fI M57 11 v0 4).bind fun x84 => ((pI M57 11 v0 6 x84).bind fun M87 => ((pI M87 11 v0 7 1).bind fun M92 => some ((), M92))))))))))))
def fX11_go_J39_0 (N : Nat) (rc : Mem → Option (Mem)) (v0 : Nat) (M : Mem) : Option (Mem) := ((fI M 11 v0 5).bind fun x41 => ((pI M 11 v0 5 (x41 + 1)).bind fun M46 => rc M46))
def fX11_go_L0 (N : Nat) (v0 : Nat) : Nat → Mem → Option (Mem)
  | 0, _ => none
  | n + 1, M => ((fI M 11 v0 5).bind fun x1 => ((fI M 11 v0 3).bind fun x5 => (if x5 ≤ x1 then some M else ((fR M 11 v0 1).bind fun x12 => ((fI M 11 v0 5).bind fun x16 => ((aI M x12 x16).bind fun x19 => (if x19 = 32 then fX11_go_J39_0 N (fX11_go_L0 N v0 n) v0 M else ((fR M 11 v0 1).bind fun x26 => ((fI M 11 v0 5).bind fun x30 => ((aI M x26 x30).bind fun x33 => (if x33 = 10 then fX11_go_J39_0 N (fX11_go_L0 N v0 n) v0 M else some M)))))))))))
def fX11_go (N : Nat) (v0 : Nat) (M : Mem) : Option (Unit × Mem) := ((fX11_go_L0 N v0 N M).bind fun o0 => fX11_go_J52 N v0 o0)
set_option maxHeartbeats 4000000 in
set_option maxRecDepth 100000 in
theorem k_X11_go (l : Launch) (b : Nat) (D : va_G) (cy : Nat → ClassId) (N : Nat) (v0 : Nat) (M : Mem) (r : Unit) (Mf : Mem) (h : fX11_go N v0 M = some (r, Mf)) : Ct l yX11_go cX11_go 5 none 2 0 0 b D cy [.ref (b + v0)] M none Mf := by
  refine Ct_of (own := RX11) (by decide) rfl (Nat.le_of_ble_eq_true rfl) ?_
  intro p e s m args below meth c F hr hl hmn
  unfold fX11_go at h
  have J374 : ∀ (v2 : Int32) (s0 : Int32) (s1 : Int32) (s2 : Nat) (M : Mem), fX11_go_J374 N v2 s0 s1 s2 M = some (r, Mf) → X p l e ({ frames := 2, cells := 0, slots := 0, locals := 100 * 2 }) s m args below meth c (MQ below (Qm b D cy none Mf) args s 0 0 (fun q => b ≤ q)) 5 b D cy 0 0 M 374 [(2, .int v2)] [.int s0, .int s1, .ref (b + s2)] := by
    intro v2 s0 s1 s2 M h
    unfold fX11_go_J374 at h
    refine x_icmp_le F (tgt := 381) dX11_go_374 (by decide) (fun c374 => ?_) (fun c374 => ?_)
    · rw [if_pos c374] at h
      refine x_iload_n F dX11_go_381 rfl 0 rfl ?_
      refine x_if_eq F (tgt := 389) dX11_go_382 (by decide) (fun c382 => ?_) (fun c382 => ?_)
      · rw [if_pos c382] at h
        refine x_iconst F (v := 3) dX11_go_389 (by decide) ?_
        obtain ⟨M390, c390, h⟩ := bdS h
        refine x_putI F (ci := 11) (C := RX11) (T := TX11) (N := 45) rfl ⟨by decide, rfl⟩ inU11 tyX11_ok nmX11 7 (by decide) rfl rfl wl_869 c390 dX11_go_390 ?_
        obtain ⟨rfl, rfl⟩ := retS h
        exact x_vret F hr hl dX11_go_393
      · rw [if_neg c382] at h
        refine x_iconst F (v := 2) dX11_go_385 (by decide) ?_
        refine x_goto F (tgt := 390) dX11_go_386 (by decide) ?_
        obtain ⟨M390, c390, h⟩ := bdS h
        refine x_putI F (ci := 11) (C := RX11) (T := TX11) (N := 45) rfl ⟨by decide, rfl⟩ inU11 tyX11_ok nmX11 7 (by decide) rfl rfl wl_869 c390 dX11_go_390 ?_
        obtain ⟨rfl, rfl⟩ := retS h
        exact x_vret F hr hl dX11_go_393
    · rw [if_neg c374] at h
      refine x_iconst F (v := 1) dX11_go_377 (by decide) ?_
      refine x_goto F (tgt := 390) dX11_go_378 (by decide) ?_
      obtain ⟨M390, c390, h⟩ := bdS h
      refine x_putI F (ci := 11) (C := RX11) (T := TX11) (N := 45) rfl ⟨by decide, rfl⟩ inU11 tyX11_ok nmX11 7 (by decide) rfl rfl wl_869 c390 dX11_go_390 ?_
      obtain ⟨rfl, rfl⟩ := retS h
      exact x_vret F hr hl dX11_go_393
  have J198 : ∀ (v0 : Nat) (v1 : Int32) (M : Mem), fX11_go_J198 N v0 v1 M = some (r, Mf) → X p l e ({ frames := 2, cells := 0, slots := 0, locals := 100 * 2 }) s m args below meth c (MQ below (Qm b D cy none Mf) args s 0 0 (fun q => b ≤ q)) 5 b D cy 0 0 M 198 [(0, .ref (b + v0)), (1, .int v1)] [] := by
    intro v0 v1 M h
    unfold fX11_go_J198 at h
    refine x_iload_n F dX11_go_198 rfl 1 rfl ?_
    obtain ⟨⟨x199, M199⟩, c199, h⟩ := bdS h
    dsimp only at h
    refine x_callS F (As := [.int v1]) (rest := []) (res := (some (.int x199))) (k_X11_isLetter l b D cy N v1 M _ _ c199) wl_875 wl_876 wl_854 wl_864 (hd_X11_isLetter).2 ⟨Nat.le_of_ble_eq_true rfl, Nat.le_of_ble_eq_true rfl⟩ ⟨Nat.le_refl _, Nat.le_refl _⟩ (Nat.le_of_ble_eq_true rfl) rfl dX11_go_199 ?_
    refine x_istore_n F (lv' := [(2, .int x199), (0, .ref (b + v0)), (1, .int v1)]) dX11_go_202 rfl (by decide) rfl ?_
    refine x_iconst F (v := 1) dX11_go_203 (by decide) ?_
    refine x_istore_n F (lv' := [(3, .int 1), (2, .int x199), (0, .ref (b + v0)), (1, .int v1)]) dX11_go_204 rfl (by decide) rfl ?_
    refine x_aload_n F dX11_go_205 rfl 2 rfl ?_
    refine x_lconst F (v := 0) dX11_go_206 (by decide) ?_
    obtain ⟨M207, c207, h⟩ := bdS h
    refine x_putL F (ci := 11) (C := RX11) (T := TX11) (N := 45) rfl ⟨by decide, rfl⟩ inU11 tyX11_ok nmX11 12 (by decide) rfl rfl wl_871 c207 dX11_go_207 ?_
    refine x_aload_n F dX11_go_210 rfl 2 rfl ?_
    refine x_iconst F (v := 0) dX11_go_211 (by decide) ?_
    obtain ⟨M212, c212, h⟩ := bdS h
    refine x_putI F (ci := 11) (C := RX11) (T := TX11) (N := 45) rfl ⟨by decide, rfl⟩ inU11 tyX11_ok nmX11 8 (by decide) rfl rfl wl_872 c212 dX11_go_212 ?_
    have L215 : ∀ (v0 : Nat) (v2 : Int32) (n : Nat) (v3 : Int32) (M : Mem) (o : Int32 × Mem), fX11_go_L215 N v0 v2 n v3 M = some o → (∀ (w3 : Int32) (M' : Mem), o = (w3, M') → X p l e ({ frames := 2, cells := 0, slots := 0, locals := 100 * 2 }) s m args below meth c (MQ below (Qm b D cy none Mf) args s 0 0 (fun q => b ≤ q)) 5 b D cy 0 0 M' 350 [(0, .ref (b + v0)), (2, .int v2), (3, .int w3)] []) → X p l e ({ frames := 2, cells := 0, slots := 0, locals := 100 * 2 }) s m args below meth c (MQ below (Qm b D cy none Mf) args s 0 0 (fun q => b ≤ q)) 5 b D cy 0 0 M 215 [(0, .ref (b + v0)), (2, .int v2), (3, .int v3)] [] := by
      intro v0 v2 n
      induction n with
      | zero => intro v3 M o h; exact absurd h (by rw [fX11_go_L215]; exact fun z => by cases z)
      | succ n ih =>
        intro v3 M o h hE
        rw [fX11_go_L215] at h
        have J337 : ∀ (v3 : Int32) (M : Mem), fX11_go_J337_215 N (fX11_go_L215 N v0 v2 n) v0 v2 v3 M = some o → X p l e ({ frames := 2, cells := 0, slots := 0, locals := 100 * 2 }) s m args below meth c (MQ below (Qm b D cy none Mf) args s 0 0 (fun q => b ≤ q)) 5 b D cy 0 0 M 337 [(0, .ref (b + v0)), (2, .int v2), (3, .int v3)] [] := by
          intro v3 M h
          unfold fX11_go_J337_215 at h
          refine x_aload_n F dX11_go_337 rfl 0 rfl ?_
          refine x_dup F dX11_go_338 rfl ?_
          obtain ⟨x339, c339, h⟩ := bdS h
          refine x_getI F (ci := 11) (C := RX11) (T := TX11) (N := 45) rfl ⟨by decide, rfl⟩ inU11 5 (by decide) (fun _ _ _ => rfl) wl_866 c339 dX11_go_339 ?_
          refine x_iconst F (v := 1) dX11_go_342 (by decide) ?_
          refine x_iadd F dX11_go_343 ?_
          obtain ⟨M344, c344, h⟩ := bdS h
          refine x_putI F (ci := 11) (C := RX11) (T := TX11) (N := 45) rfl ⟨by decide, rfl⟩ inU11 tyX11_ok nmX11 5 (by decide) rfl rfl wl_866 c344 dX11_go_344 ?_
          refine x_goto F (tgt := 215) dX11_go_347 (by decide) ?_
          exact ih v3 M344 o h hE
        have J307 : ∀ (v3 : Int32) (v4 : Int32) (M : Mem), fX11_go_J307_215 N (fX11_go_L215 N v0 v2 n) v0 v2 v3 v4 M = some o → X p l e ({ frames := 2, cells := 0, slots := 0, locals := 100 * 2 }) s m args below meth c (MQ below (Qm b D cy none Mf) args s 0 0 (fun q => b ≤ q)) 5 b D cy 0 0 M 307 [(0, .ref (b + v0)), (2, .int v2), (3, .int v3), (4, .int v4)] [] := by
          intro v3 v4 M h
          unfold fX11_go_J307_215 at h
          refine x_aload_n F dX11_go_307 rfl 0 rfl ?_
          obtain ⟨x308, c308, h⟩ := bdS h
          refine x_getI F (ci := 11) (C := RX11) (T := TX11) (N := 45) rfl ⟨by decide, rfl⟩ inU11 5 (by decide) (fun _ _ _ => rfl) wl_866 c308 dX11_go_308 ?_
          refine x_aload_n F dX11_go_311 rfl 0 rfl ?_
          obtain ⟨x312, c312, h⟩ := bdS h
          refine x_getI F (ci := 11) (C := RX11) (T := TX11) (N := 45) rfl ⟨by decide, rfl⟩ inU11 6 (by decide) (fun _ _ _ => rfl) wl_867 c312 dX11_go_312 ?_
          refine x_isub F dX11_go_315 ?_
          refine x_iconst F (v := 3) dX11_go_316 (by decide) ?_
          refine x_icmp_ge F (tgt := 337) dX11_go_317 (by decide) (fun c317 => ?_) (fun c317 => ?_)
          · rw [if_pos c317] at h
            refine x_sub [0, 1, 2] rfl ?_
            exact J337 v3 M h
          · rw [if_neg c317] at h
            refine x_aload_n F dX11_go_320 rfl 0 rfl ?_
            refine x_bipush F (v := 10) dX11_go_321 (by decide) ?_
            refine x_aload_n F dX11_go_323 rfl 0 rfl ?_
            obtain ⟨x324, c324, h⟩ := bdS h
            refine x_getI F (ci := 11) (C := RX11) (T := TX11) (N := 45) rfl ⟨by decide, rfl⟩ inU11 8 (by decide) (fun _ _ _ => rfl) wl_872 c324 dX11_go_324 ?_
            refine x_imul F dX11_go_327 ?_
            refine x_iload F dX11_go_328 3 rfl ?_
            refine x_iadd F dX11_go_330 ?_
            refine x_bipush F (v := 48) dX11_go_331 (by decide) ?_
            refine x_isub F dX11_go_333 ?_
            obtain ⟨M334, c334, h⟩ := bdS h
            refine x_putI F (ci := 11) (C := RX11) (T := TX11) (N := 45) rfl ⟨by decide, rfl⟩ inU11 tyX11_ok nmX11 8 (by decide) rfl rfl wl_872 c334 dX11_go_334 ?_
            refine x_sub [0, 1, 2] rfl ?_
            exact J337 v3 M334 h
        have J272 : ∀ (v4 : Int32) (s0 : Int32) (M : Mem), fX11_go_J272_215 N (fX11_go_L215 N v0 v2 n) v0 v2 v4 s0 M = some o → X p l e ({ frames := 2, cells := 0, slots := 0, locals := 100 * 2 }) s m args below meth c (MQ below (Qm b D cy none Mf) args s 0 0 (fun q => b ≤ q)) 5 b D cy 0 0 M 272 [(0, .ref (b + v0)), (2, .int v2), (4, .int v4)] [.int s0] := by
          intro v4 s0 M h
          unfold fX11_go_J272_215 at h
          refine x_istore_n F (lv' := [(3, .int s0), (0, .ref (b + v0)), (2, .int v2), (4, .int v4)]) dX11_go_272 rfl (by decide) rfl ?_
          refine x_aload_n F dX11_go_273 rfl 1 rfl ?_
          obtain ⟨x274, c274, h⟩ := bdS h
          refine x_getI F (ci := 11) (C := RX11) (T := TX11) (N := 45) rfl ⟨by decide, rfl⟩ inU11 5 (by decide) (fun _ _ _ => rfl) wl_866 c274 dX11_go_274 ?_
          refine x_aload_n F dX11_go_277 rfl 1 rfl ?_
          obtain ⟨x278, c278, h⟩ := bdS h
          refine x_getI F (ci := 11) (C := RX11) (T := TX11) (N := 45) rfl ⟨by decide, rfl⟩ inU11 6 (by decide) (fun _ _ _ => rfl) wl_867 c278 dX11_go_278 ?_
          refine x_isub F dX11_go_281 ?_
          refine x_bipush F (v := 7) dX11_go_282 (by decide) ?_
          refine x_icmp_ge F (tgt := 307) dX11_go_284 (by decide) (fun c284 => ?_) (fun c284 => ?_)
          · rw [if_pos c284] at h
            refine x_sub [1, 2, 0, 3] rfl ?_
            exact J307 s0 v4 M h
          · rw [if_neg c284] at h
            refine x_aload_n F dX11_go_287 rfl 1 rfl ?_
            refine x_ldc2 F (v := (27)) dX11_go_288 wl_873 ?_
            refine x_aload_n F dX11_go_291 rfl 1 rfl ?_
            obtain ⟨x292, c292, h⟩ := bdS h
            refine x_getL F (ci := 11) (C := RX11) (T := TX11) (N := 45) rfl ⟨by decide, rfl⟩ inU11 12 (by decide) (fun _ _ _ => rfl) wl_871 c292 dX11_go_292 ?_
            refine x_lmul F dX11_go_295 ?_
            refine x_iload F dX11_go_296 3 rfl ?_
            refine x_i2l F dX11_go_298 ?_
            refine x_ladd F dX11_go_299 ?_
            refine x_ldc2 F (v := (96)) dX11_go_300 wl_874 ?_
            refine x_lsub F dX11_go_303 ?_
            obtain ⟨M304, c304, h⟩ := bdS h
            refine x_putL F (ci := 11) (C := RX11) (T := TX11) (N := 45) rfl ⟨by decide, rfl⟩ inU11 tyX11_ok nmX11 12 (by decide) rfl rfl wl_871 c304 dX11_go_304 ?_
            refine x_sub [1, 2, 0, 3] rfl ?_
            exact J307 s0 v4 M304 h
        have J271 : ∀ (v4 : Int32) (M : Mem), fX11_go_J271_215 N (fX11_go_L215 N v0 v2 n) v0 v2 v4 M = some o → X p l e ({ frames := 2, cells := 0, slots := 0, locals := 100 * 2 }) s m args below meth c (MQ below (Qm b D cy none Mf) args s 0 0 (fun q => b ≤ q)) 5 b D cy 0 0 M 271 [(0, .ref (b + v0)), (2, .int v2), (4, .int v4)] [] := by
          intro v4 M h
          unfold fX11_go_J271_215 at h
          refine x_iconst F (v := 0) dX11_go_271 (by decide) ?_
          exact J272 v4 0 M h
        have J243 : ∀ (v3 : Int32) (M : Mem), fX11_go_J243_215 N (fX11_go_L215 N v0 v2 n) v0 v2 v3 M = some o → X p l e ({ frames := 2, cells := 0, slots := 0, locals := 100 * 2 }) s m args below meth c (MQ below (Qm b D cy none Mf) args s 0 0 (fun q => b ≤ q)) 5 b D cy 0 0 M 243 [(0, .ref (b + v0)), (2, .int v2), (3, .int v3)] [] := by
          intro v3 M h
          unfold fX11_go_J243_215 at h
          refine x_aload_n F dX11_go_243 rfl 0 rfl ?_
          obtain ⟨x244, c244, h⟩ := bdS h
          refine x_getR F (ci := 11) (C := RX11) (T := TX11) (N := 45) rfl ⟨by decide, rfl⟩ inU11 1 (by decide) (fun _ _ _ => rfl) wl_848 c244 dX11_go_244 ?_
          refine x_aload_n F dX11_go_247 rfl 0 rfl ?_
          obtain ⟨x248, c248, h⟩ := bdS h
          refine x_getI F (ci := 11) (C := RX11) (T := TX11) (N := 45) rfl ⟨by decide, rfl⟩ inU11 5 (by decide) (fun _ _ _ => rfl) wl_866 c248 dX11_go_248 ?_
          obtain ⟨x251, c251, h⟩ := bdS h
          refine x_aI F c251 dX11_go_251 ?_
          refine x_istore F (lv' := [(4, .int x251), (0, .ref (b + v0)), (2, .int v2), (3, .int v3)]) dX11_go_252 (by decide) rfl ?_
          refine x_iload_n F dX11_go_254 rfl 3 rfl ?_
          refine x_if_eq F (tgt := 271) dX11_go_255 (by decide) (fun c255 => ?_) (fun c255 => ?_)
          · rw [if_pos c255] at h
            refine x_sub [1, 2, 0] rfl ?_
            exact J271 x251 M h
          · rw [if_neg c255] at h
            refine x_iload F dX11_go_258 0 rfl ?_
            obtain ⟨⟨x260, M260⟩, c260, h⟩ := bdS h
            dsimp only at h
            refine x_callS F (As := [.int x251]) (rest := []) (res := (some (.int x260))) (k_X11_isLetter l b D cy N x251 M _ _ c260) wl_875 wl_876 wl_854 wl_864 (hd_X11_isLetter).2 ⟨Nat.le_of_ble_eq_true rfl, Nat.le_of_ble_eq_true rfl⟩ ⟨Nat.le_refl _, Nat.le_refl _⟩ (Nat.le_of_ble_eq_true rfl) rfl dX11_go_260 ?_
            refine x_iload_n F dX11_go_263 rfl 2 rfl ?_
            refine x_icmp_ne F (tgt := 271) dX11_go_264 (by decide) (fun c264 => ?_) (fun c264 => ?_)
            · rw [if_neg c264] at h
              refine x_sub [1, 2, 0] rfl ?_
              exact J271 x251 M260 h
            · rw [if_pos c264] at h
              refine x_iconst F (v := 1) dX11_go_267 (by decide) ?_
              refine x_goto F (tgt := 272) dX11_go_268 (by decide) ?_
              refine x_sub [1, 2, 0] rfl ?_
              exact J272 x251 1 M260 h
        refine x_aload_n F dX11_go_215 rfl 0 rfl ?_
        refine x_aload_n F dX11_go_216 rfl 0 rfl ?_
        obtain ⟨x217, c217, h⟩ := bdS h
        refine x_getI F (ci := 11) (C := RX11) (T := TX11) (N := 45) rfl ⟨by decide, rfl⟩ inU11 5 (by decide) (fun _ _ _ => rfl) wl_866 c217 dX11_go_217 ?_
        obtain ⟨k220, h⟩ := gdS h
        obtain ⟨⟨x220, M220⟩, c220, h⟩ := bdS h
        dsimp only at h
        refine x_callV F (As := [.int x217]) (rest := []) (res := (some (.int x220))) (ci := 11) (q := (RX11, TX11, 45)) rfl (by decide) k220 (k_X11_tapeAt l b D cy N v0 x217 M _ _ c220) wl_879 wl_880 wl_881 wl_854 wl_861 hd_X11_tapeAt ⟨Nat.le_of_ble_eq_true rfl, Nat.le_of_ble_eq_true rfl⟩ ⟨Nat.le_refl _, Nat.le_refl _⟩ (Nat.le_of_ble_eq_true rfl) rfl dX11_go_220 ?_
        obtain ⟨⟨x223, M223⟩, c223, h⟩ := bdS h
        dsimp only at h
        refine x_callS F (As := [.int x220]) (rest := []) (res := (some (.int x223))) (k_X11_isLetter l b D cy N x220 M220 _ _ c223) wl_875 wl_876 wl_854 wl_864 (hd_X11_isLetter).2 ⟨Nat.le_of_ble_eq_true rfl, Nat.le_of_ble_eq_true rfl⟩ ⟨Nat.le_refl _, Nat.le_refl _⟩ (Nat.le_of_ble_eq_true rfl) rfl dX11_go_223 ?_
        refine x_if_ne F (tgt := 243) dX11_go_226 (by decide) (fun c226 => ?_) (fun c226 => ?_)
        · rw [if_neg c226] at h
          exact J243 v3 M223 h
        · rw [if_pos c226] at h
          refine x_aload_n F dX11_go_229 rfl 0 rfl ?_
          refine x_aload_n F dX11_go_230 rfl 0 rfl ?_
          obtain ⟨x231, c231, h⟩ := bdS h
          refine x_getI F (ci := 11) (C := RX11) (T := TX11) (N := 45) rfl ⟨by decide, rfl⟩ inU11 5 (by decide) (fun _ _ _ => rfl) wl_866 c231 dX11_go_231 ?_
          obtain ⟨k234, h⟩ := gdS h
          obtain ⟨⟨x234, M234⟩, c234, h⟩ := bdS h
          dsimp only at h
          refine x_callV F (As := [.int x231]) (rest := []) (res := (some (.int x234))) (ci := 11) (q := (RX11, TX11, 45)) rfl (by decide) k234 (k_X11_tapeAt l b D cy N v0 x231 M223 _ _ c234) wl_879 wl_880 wl_881 wl_854 wl_861 hd_X11_tapeAt ⟨Nat.le_of_ble_eq_true rfl, Nat.le_of_ble_eq_true rfl⟩ ⟨Nat.le_refl _, Nat.le_refl _⟩ (Nat.le_of_ble_eq_true rfl) rfl dX11_go_234 ?_
          obtain ⟨⟨x237, M237⟩, c237, h⟩ := bdS h
          dsimp only at h
          refine x_callS F (As := [.int x234]) (rest := []) (res := (some (.int x237))) (k_X11_isDigit l b D cy N x234 M234 _ _ c237) wl_877 wl_878 wl_854 wl_863 (hd_X11_isDigit).2 ⟨Nat.le_of_ble_eq_true rfl, Nat.le_of_ble_eq_true rfl⟩ ⟨Nat.le_refl _, Nat.le_refl _⟩ (Nat.le_of_ble_eq_true rfl) rfl dX11_go_237 ?_
          refine x_if_eq F (tgt := 350) dX11_go_240 (by decide) (fun c240 => ?_) (fun c240 => ?_)
          · rw [if_pos c240] at h
            obtain rfl := Option.some.inj h
            exact hE _ _ rfl
          · rw [if_neg c240] at h
            exact J243 v3 M237 h
    obtain ⟨o215, h215, h⟩ := bdS h
    refine x_sub [2, 1, 0] rfl ?_
    refine L215 v0 x199 N 1 M212 o215 h215 (fun w3_215 M215 e => ?_)
    · subst e
      dsimp only at h
      refine x_aload_n F dX11_go_350 rfl 0 rfl ?_
      refine x_iload_n F dX11_go_351 rfl 2 rfl ?_
      refine x_if_eq F (tgt := 377) dX11_go_352 (by decide) (fun c352 => ?_) (fun c352 => ?_)
      · rw [if_pos c352] at h
        refine x_iconst F (v := 1) dX11_go_377 (by decide) ?_
        refine x_goto F (tgt := 390) dX11_go_378 (by decide) ?_
        obtain ⟨M390, c390, h⟩ := bdS h
        refine x_putI F (ci := 11) (C := RX11) (T := TX11) (N := 45) rfl ⟨by decide, rfl⟩ inU11 tyX11_ok nmX11 7 (by decide) rfl rfl wl_869 c390 dX11_go_390 ?_
        obtain ⟨rfl, rfl⟩ := retS h
        exact x_vret F hr hl dX11_go_393
      · rw [if_neg c352] at h
        refine x_aload_n F dX11_go_355 rfl 0 rfl ?_
        obtain ⟨x356, c356, h⟩ := bdS h
        refine x_getI F (ci := 11) (C := RX11) (T := TX11) (N := 45) rfl ⟨by decide, rfl⟩ inU11 5 (by decide) (fun _ _ _ => rfl) wl_866 c356 dX11_go_356 ?_
        refine x_aload_n F dX11_go_359 rfl 0 rfl ?_
        obtain ⟨x360, c360, h⟩ := bdS h
        refine x_getI F (ci := 11) (C := RX11) (T := TX11) (N := 45) rfl ⟨by decide, rfl⟩ inU11 6 (by decide) (fun _ _ _ => rfl) wl_867 c360 dX11_go_360 ?_
        refine x_isub F dX11_go_363 ?_
        refine x_iload_n F dX11_go_364 rfl 1 rfl ?_
        refine x_if_eq F (tgt := 373) dX11_go_365 (by decide) (fun c365 => ?_) (fun c365 => ?_)
        · rw [if_pos c365] at h
          refine x_iconst F (v := 3) dX11_go_373 (by decide) ?_
          refine x_sub [1] rfl ?_
          exact J374 x199 3 (x356 - x360) v0 M215 h
        · rw [if_neg c365] at h
          refine x_bipush F (v := 7) dX11_go_368 (by decide) ?_
          refine x_goto F (tgt := 374) dX11_go_370 (by decide) ?_
          refine x_sub [1] rfl ?_
          exact J374 x199 7 (x356 - x360) v0 M215 h
  have J179 : ∀ (v0 : Nat) (v1 : Int32) (s0 : Int32) (s1 : Nat) (M : Mem), fX11_go_J179 N v0 v1 s0 s1 M = some (r, Mf) → X p l e ({ frames := 2, cells := 0, slots := 0, locals := 100 * 2 }) s m args below meth c (MQ below (Qm b D cy none Mf) args s 0 0 (fun q => b ≤ q)) 5 b D cy 0 0 M 179 [(0, .ref (b + v0)), (1, .int v1)] [.int s0, .ref (b + s1)] := by
    intro v0 v1 s0 s1 M h
    unfold fX11_go_J179 at h
    obtain ⟨M179, c179, h⟩ := bdS h
    refine x_putI F (ci := 11) (C := RX11) (T := TX11) (N := 45) rfl ⟨by decide, rfl⟩ inU11 tyX11_ok nmX11 7 (by decide) rfl rfl wl_869 c179 dX11_go_179 ?_
    refine x_aload_n F dX11_go_182 rfl 0 rfl ?_
    refine x_iload_n F dX11_go_183 rfl 1 rfl ?_
    obtain ⟨M184, c184, h⟩ := bdS h
    refine x_putI F (ci := 11) (C := RX11) (T := TX11) (N := 45) rfl ⟨by decide, rfl⟩ inU11 tyX11_ok nmX11 9 (by decide) rfl rfl wl_870 c184 dX11_go_184 ?_
    refine x_aload_n F dX11_go_187 rfl 0 rfl ?_
    refine x_dup F dX11_go_188 rfl ?_
    obtain ⟨x189, c189, h⟩ := bdS h
    refine x_getI F (ci := 11) (C := RX11) (T := TX11) (N := 45) rfl ⟨by decide, rfl⟩ inU11 5 (by decide) (fun _ _ _ => rfl) wl_866 c189 dX11_go_189 ?_
    refine x_iconst F (v := 1) dX11_go_192 (by decide) ?_
    refine x_iadd F dX11_go_193 ?_
    obtain ⟨M194, c194, h⟩ := bdS h
    refine x_putI F (ci := 11) (C := RX11) (T := TX11) (N := 45) rfl ⟨by decide, rfl⟩ inU11 tyX11_ok nmX11 5 (by decide) rfl rfl wl_866 c194 dX11_go_194 ?_
    obtain ⟨rfl, rfl⟩ := retS h
    exact x_vret F hr hl dX11_go_197
  have J174 : ∀ (v0 : Nat) (v1 : Int32) (s0 : Nat) (M : Mem), fX11_go_J174 N v0 v1 s0 M = some (r, Mf) → X p l e ({ frames := 2, cells := 0, slots := 0, locals := 100 * 2 }) s m args below meth c (MQ below (Qm b D cy none Mf) args s 0 0 (fun q => b ≤ q)) 5 b D cy 0 0 M 174 [(0, .ref (b + v0)), (1, .int v1)] [.ref (b + s0)] := by
    intro v0 v1 s0 M h
    unfold fX11_go_J174 at h
    refine x_iconst F (v := 4) dX11_go_174 (by decide) ?_
    refine x_goto F (tgt := 179) dX11_go_175 (by decide) ?_
    exact J179 v0 v1 4 s0 M h
  have J96 : ∀ (v0 : Nat) (M : Mem), fX11_go_J96 N v0 M = some (r, Mf) → X p l e ({ frames := 2, cells := 0, slots := 0, locals := 100 * 2 }) s m args below meth c (MQ below (Qm b D cy none Mf) args s 0 0 (fun q => b ≤ q)) 5 b D cy 0 0 M 96 [(0, .ref (b + v0))] [] := by
    intro v0 M h
    unfold fX11_go_J96 at h
    refine x_aload_n F dX11_go_96 rfl 0 rfl ?_
    obtain ⟨x97, c97, h⟩ := bdS h
    refine x_getI F (ci := 11) (C := RX11) (T := TX11) (N := 45) rfl ⟨by decide, rfl⟩ inU11 5 (by decide) (fun _ _ _ => rfl) wl_866 c97 dX11_go_97 ?_
    refine x_aload_n F dX11_go_100 rfl 0 rfl ?_
    obtain ⟨x101, c101, h⟩ := bdS h
    refine x_getI F (ci := 11) (C := RX11) (T := TX11) (N := 45) rfl ⟨by decide, rfl⟩ inU11 3 (by decide) (fun _ _ _ => rfl) wl_862 c101 dX11_go_101 ?_
    refine x_icmp_lt F (tgt := 113) dX11_go_104 (by decide) (fun c104 => ?_) (fun c104 => ?_)
    · rw [if_pos c104] at h
      refine x_aload_n F dX11_go_113 rfl 0 rfl ?_
      obtain ⟨x114, c114, h⟩ := bdS h
      refine x_getR F (ci := 11) (C := RX11) (T := TX11) (N := 45) rfl ⟨by decide, rfl⟩ inU11 1 (by decide) (fun _ _ _ => rfl) wl_848 c114 dX11_go_114 ?_
      refine x_aload_n F dX11_go_117 rfl 0 rfl ?_
      obtain ⟨x118, c118, h⟩ := bdS h
      refine x_getI F (ci := 11) (C := RX11) (T := TX11) (N := 45) rfl ⟨by decide, rfl⟩ inU11 5 (by decide) (fun _ _ _ => rfl) wl_866 c118 dX11_go_118 ?_
      obtain ⟨x121, c121, h⟩ := bdS h
      refine x_aI F c121 dX11_go_121 ?_
      refine x_istore_n F (lv' := [(1, .int x121), (0, .ref (b + v0))]) dX11_go_122 rfl (by decide) rfl ?_
      refine x_iload_n F dX11_go_123 rfl 0 rfl ?_
      obtain ⟨⟨x124, M124⟩, c124, h⟩ := bdS h
      dsimp only at h
      refine x_callS F (As := [.int x121]) (rest := []) (res := (some (.int x124))) (k_X11_isLetter l b D cy N x121 M _ _ c124) wl_875 wl_876 wl_854 wl_864 (hd_X11_isLetter).2 ⟨Nat.le_of_ble_eq_true rfl, Nat.le_of_ble_eq_true rfl⟩ ⟨Nat.le_refl _, Nat.le_refl _⟩ (Nat.le_of_ble_eq_true rfl) rfl dX11_go_124 ?_
      refine x_if_ne F (tgt := 198) dX11_go_127 (by decide) (fun c127 => ?_) (fun c127 => ?_)
      · rw [if_neg c127] at h
        refine x_sub [1, 0] rfl ?_
        exact J198 v0 x121 M124 h
      · rw [if_pos c127] at h
        refine x_iload_n F dX11_go_130 rfl 0 rfl ?_
        obtain ⟨⟨x131, M131⟩, c131, h⟩ := bdS h
        dsimp only at h
        refine x_callS F (As := [.int x121]) (rest := []) (res := (some (.int x131))) (k_X11_isDigit l b D cy N x121 M124 _ _ c131) wl_877 wl_878 wl_854 wl_863 (hd_X11_isDigit).2 ⟨Nat.le_of_ble_eq_true rfl, Nat.le_of_ble_eq_true rfl⟩ ⟨Nat.le_refl _, Nat.le_refl _⟩ (Nat.le_of_ble_eq_true rfl) rfl dX11_go_131 ?_
        refine x_if_ne F (tgt := 198) dX11_go_134 (by decide) (fun c134 => ?_) (fun c134 => ?_)
        · rw [if_neg c134] at h
          refine x_sub [1, 0] rfl ?_
          exact J198 v0 x121 M131 h
        · rw [if_pos c134] at h
          refine x_aload_n F dX11_go_137 rfl 1 rfl ?_
          refine x_iload_n F dX11_go_138 rfl 0 rfl ?_
          refine x_bipush F (v := 59) dX11_go_139 (by decide) ?_
          refine x_icmp_eq F (tgt := 174) dX11_go_141 (by decide) (fun c141 => ?_) (fun c141 => ?_)
          · rw [if_pos c141] at h
            refine x_sub [1, 0] rfl ?_
            exact J174 v0 x121 v0 M131 h
          · rw [if_neg c141] at h
            refine x_iload_n F dX11_go_144 rfl 0 rfl ?_
            refine x_bipush F (v := 60) dX11_go_145 (by decide) ?_
            refine x_icmp_eq F (tgt := 174) dX11_go_147 (by decide) (fun c147 => ?_) (fun c147 => ?_)
            · rw [if_pos c147] at h
              refine x_sub [1, 0] rfl ?_
              exact J174 v0 x121 v0 M131 h
            · rw [if_neg c147] at h
              refine x_iload_n F dX11_go_150 rfl 0 rfl ?_
              refine x_bipush F (v := 61) dX11_go_151 (by decide) ?_
              refine x_icmp_eq F (tgt := 174) dX11_go_153 (by decide) (fun c153 => ?_) (fun c153 => ?_)
              · rw [if_pos c153] at h
                refine x_sub [1, 0] rfl ?_
                exact J174 v0 x121 v0 M131 h
              · rw [if_neg c153] at h
                refine x_iload_n F dX11_go_156 rfl 0 rfl ?_
                refine x_bipush F (v := 62) dX11_go_157 (by decide) ?_
                refine x_icmp_eq F (tgt := 174) dX11_go_159 (by decide) (fun c159 => ?_) (fun c159 => ?_)
                · rw [if_pos c159] at h
                  refine x_sub [1, 0] rfl ?_
                  exact J174 v0 x121 v0 M131 h
                · rw [if_neg c159] at h
                  refine x_iload_n F dX11_go_162 rfl 0 rfl ?_
                  refine x_bipush F (v := 40) dX11_go_163 (by decide) ?_
                  refine x_icmp_eq F (tgt := 174) dX11_go_165 (by decide) (fun c165 => ?_) (fun c165 => ?_)
                  · rw [if_pos c165] at h
                    refine x_sub [1, 0] rfl ?_
                    exact J174 v0 x121 v0 M131 h
                  · rw [if_neg c165] at h
                    refine x_iload_n F dX11_go_168 rfl 0 rfl ?_
                    refine x_bipush F (v := 41) dX11_go_169 (by decide) ?_
                    refine x_icmp_ne F (tgt := 178) dX11_go_171 (by decide) (fun c171 => ?_) (fun c171 => ?_)
                    · rw [if_neg c171] at h
                      refine x_iconst F (v := 1) dX11_go_178 (by decide) ?_
                      refine x_sub [1, 0] rfl ?_
                      exact J179 v0 x121 1 v0 M131 h
                    · rw [if_pos c171] at h
                      refine x_sub [1, 0] rfl ?_
                      exact J174 v0 x121 v0 M131 h
    · rw [if_neg c104] at h
      refine x_aload_n F dX11_go_107 rfl 0 rfl ?_
      refine x_iconst F (v := 0) dX11_go_108 (by decide) ?_
      obtain ⟨M109, c109, h⟩ := bdS h
      refine x_putI F (ci := 11) (C := RX11) (T := TX11) (N := 45) rfl ⟨by decide, rfl⟩ inU11 tyX11_ok nmX11 7 (by decide) rfl rfl wl_869 c109 dX11_go_109 ?_
      obtain ⟨rfl, rfl⟩ := retS h
      exact x_vret F hr hl dX11_go_112
  have J52 : ∀ (v0 : Nat) (M : Mem), fX11_go_J52 N v0 M = some (r, Mf) → X p l e ({ frames := 2, cells := 0, slots := 0, locals := 100 * 2 }) s m args below meth c (MQ below (Qm b D cy none Mf) args s 0 0 (fun q => b ≤ q)) 5 b D cy 0 0 M 52 [(0, .ref (b + v0))] [] := by
    intro v0 M h
    unfold fX11_go_J52 at h
    refine x_aload_n F dX11_go_52 rfl 0 rfl ?_
    refine x_aload_n F dX11_go_53 rfl 0 rfl ?_
    obtain ⟨x54, c54, h⟩ := bdS h
    refine x_getI F (ci := 11) (C := RX11) (T := TX11) (N := 45) rfl ⟨by decide, rfl⟩ inU11 5 (by decide) (fun _ _ _ => rfl) wl_866 c54 dX11_go_54 ?_
    obtain ⟨M57, c57, h⟩ := bdS h
    refine x_putI F (ci := 11) (C := RX11) (T := TX11) (N := 45) rfl ⟨by decide, rfl⟩ inU11 tyX11_ok nmX11 6 (by decide) rfl rfl wl_867 c57 dX11_go_57 ?_
    refine x_aload_n F dX11_go_60 rfl 0 rfl ?_
    obtain ⟨x61, c61, h⟩ := bdS h
    refine x_getI F (ci := 11) (C := RX11) (T := TX11) (N := 45) rfl ⟨by decide, rfl⟩ inU11 3 (by decide) (fun _ _ _ => rfl) wl_862 c61 dX11_go_61 ?_
    refine x_aload_n F dX11_go_64 rfl 0 rfl ?_
    obtain ⟨x65, c65, h⟩ := bdS h
    refine x_getI F (ci := 11) (C := RX11) (T := TX11) (N := 45) rfl ⟨by decide, rfl⟩ inU11 4 (by decide) (fun _ _ _ => rfl) wl_868 c65 dX11_go_65 ?_
    refine x_icmp_le F (tgt := 96) dX11_go_68 (by decide) (fun c68 => ?_) (fun c68 => ?_)
    · rw [if_pos c68] at h
      exact J96 v0 M57 h
    · rw [if_neg c68] at h
      refine x_aload_n F dX11_go_71 rfl 0 rfl ?_
      obtain ⟨x72, c72, h⟩ := bdS h
      refine x_getI F (ci := 11) (C := RX11) (T := TX11) (N := 45) rfl ⟨by decide, rfl⟩ inU11 6 (by decide) (fun _ _ _ => rfl) wl_867 c72 dX11_go_72 ?_
      refine x_aload_n F dX11_go_75 rfl 0 rfl ?_
      obtain ⟨x76, c76, h⟩ := bdS h
      refine x_getI F (ci := 11) (C := RX11) (T := TX11) (N := 45) rfl ⟨by decide, rfl⟩ inU11 4 (by decide) (fun _ _ _ => rfl) wl_868 c76 dX11_go_76 ?_
      refine x_icmp_lt F (tgt := 96) dX11_go_79 (by decide) (fun c79 => ?_) (fun c79 => ?_)
      · rw [if_pos c79] at h
        exact J96 v0 M57 h
      · rw [if_neg c79] at h
        refine x_aload_n F dX11_go_82 rfl 0 rfl ?_
        refine x_aload_n F dX11_go_83 rfl 0 rfl ?_
        obtain ⟨x84, c84, h⟩ := bdS h
        refine x_getI F (ci := 11) (C := RX11) (T := TX11) (N := 45) rfl ⟨by decide, rfl⟩ inU11 4 (by decide) (fun _ _ _ => rfl) wl_868 c84 dX11_go_84 ?_
        obtain ⟨M87, c87, h⟩ := bdS h
        refine x_putI F (ci := 11) (C := RX11) (T := TX11) (N := 45) rfl ⟨by decide, rfl⟩ inU11 tyX11_ok nmX11 6 (by decide) rfl rfl wl_867 c87 dX11_go_87 ?_
        refine x_aload_n F dX11_go_90 rfl 0 rfl ?_
        refine x_iconst F (v := 1) dX11_go_91 (by decide) ?_
        obtain ⟨M92, c92, h⟩ := bdS h
        refine x_putI F (ci := 11) (C := RX11) (T := TX11) (N := 45) rfl ⟨by decide, rfl⟩ inU11 tyX11_ok nmX11 7 (by decide) rfl rfl wl_869 c92 dX11_go_92 ?_
        obtain ⟨rfl, rfl⟩ := retS h
        exact x_vret F hr hl dX11_go_95
  show X p l e ({ frames := 2, cells := 0, slots := 0, locals := 100 * 2 }) s m args below meth c (MQ below (Qm b D cy none Mf) args s 0 0 (fun q => b ≤ q)) 5 b D cy 0 0 M 0 [(0, .ref (b + v0))] []
  have L0 : ∀ (v0 : Nat) (n : Nat) (M : Mem) (o : Mem), fX11_go_L0 N v0 n M = some o → X p l e ({ frames := 2, cells := 0, slots := 0, locals := 100 * 2 }) s m args below meth c (MQ below (Qm b D cy none Mf) args s 0 0 (fun q => b ≤ q)) 5 b D cy 0 0 o 52 [(0, .ref (b + v0))] [] → X p l e ({ frames := 2, cells := 0, slots := 0, locals := 100 * 2 }) s m args below meth c (MQ below (Qm b D cy none Mf) args s 0 0 (fun q => b ≤ q)) 5 b D cy 0 0 M 0 [(0, .ref (b + v0))] [] := by
    intro v0 n
    induction n with
    | zero => intro M o h; exact absurd h (by rw [fX11_go_L0]; exact fun z => by cases z)
    | succ n ih =>
      intro M o h hE
      rw [fX11_go_L0] at h
      have J39 : ∀  (M : Mem), fX11_go_J39_0 N (fX11_go_L0 N v0 n) v0 M = some o → X p l e ({ frames := 2, cells := 0, slots := 0, locals := 100 * 2 }) s m args below meth c (MQ below (Qm b D cy none Mf) args s 0 0 (fun q => b ≤ q)) 5 b D cy 0 0 M 39 [(0, .ref (b + v0))] [] := by
        intro M h
        unfold fX11_go_J39_0 at h
        refine x_aload_n F dX11_go_39 rfl 0 rfl ?_
        refine x_dup F dX11_go_40 rfl ?_
        obtain ⟨x41, c41, h⟩ := bdS h
        refine x_getI F (ci := 11) (C := RX11) (T := TX11) (N := 45) rfl ⟨by decide, rfl⟩ inU11 5 (by decide) (fun _ _ _ => rfl) wl_866 c41 dX11_go_41 ?_
        refine x_iconst F (v := 1) dX11_go_44 (by decide) ?_
        refine x_iadd F dX11_go_45 ?_
        obtain ⟨M46, c46, h⟩ := bdS h
        refine x_putI F (ci := 11) (C := RX11) (T := TX11) (N := 45) rfl ⟨by decide, rfl⟩ inU11 tyX11_ok nmX11 5 (by decide) rfl rfl wl_866 c46 dX11_go_46 ?_
        refine x_goto F (tgt := 0) dX11_go_49 (by decide) ?_
        exact ih  M46 o h hE
      refine x_aload_n F dX11_go_0 rfl 0 rfl ?_
      obtain ⟨x1, c1, h⟩ := bdS h
      refine x_getI F (ci := 11) (C := RX11) (T := TX11) (N := 45) rfl ⟨by decide, rfl⟩ inU11 5 (by decide) (fun _ _ _ => rfl) wl_866 c1 dX11_go_1 ?_
      refine x_aload_n F dX11_go_4 rfl 0 rfl ?_
      obtain ⟨x5, c5, h⟩ := bdS h
      refine x_getI F (ci := 11) (C := RX11) (T := TX11) (N := 45) rfl ⟨by decide, rfl⟩ inU11 3 (by decide) (fun _ _ _ => rfl) wl_862 c5 dX11_go_5 ?_
      refine x_icmp_ge F (tgt := 52) dX11_go_8 (by decide) (fun c8 => ?_) (fun c8 => ?_)
      · rw [if_pos c8] at h
        obtain rfl := Option.some.inj h
        exact hE
      · rw [if_neg c8] at h
        refine x_aload_n F dX11_go_11 rfl 0 rfl ?_
        obtain ⟨x12, c12, h⟩ := bdS h
        refine x_getR F (ci := 11) (C := RX11) (T := TX11) (N := 45) rfl ⟨by decide, rfl⟩ inU11 1 (by decide) (fun _ _ _ => rfl) wl_848 c12 dX11_go_12 ?_
        refine x_aload_n F dX11_go_15 rfl 0 rfl ?_
        obtain ⟨x16, c16, h⟩ := bdS h
        refine x_getI F (ci := 11) (C := RX11) (T := TX11) (N := 45) rfl ⟨by decide, rfl⟩ inU11 5 (by decide) (fun _ _ _ => rfl) wl_866 c16 dX11_go_16 ?_
        obtain ⟨x19, c19, h⟩ := bdS h
        refine x_aI F c19 dX11_go_19 ?_
        refine x_bipush F (v := 32) dX11_go_20 (by decide) ?_
        refine x_icmp_eq F (tgt := 39) dX11_go_22 (by decide) (fun c22 => ?_) (fun c22 => ?_)
        · rw [if_pos c22] at h
          exact J39 M h
        · rw [if_neg c22] at h
          refine x_aload_n F dX11_go_25 rfl 0 rfl ?_
          obtain ⟨x26, c26, h⟩ := bdS h
          refine x_getR F (ci := 11) (C := RX11) (T := TX11) (N := 45) rfl ⟨by decide, rfl⟩ inU11 1 (by decide) (fun _ _ _ => rfl) wl_848 c26 dX11_go_26 ?_
          refine x_aload_n F dX11_go_29 rfl 0 rfl ?_
          obtain ⟨x30, c30, h⟩ := bdS h
          refine x_getI F (ci := 11) (C := RX11) (T := TX11) (N := 45) rfl ⟨by decide, rfl⟩ inU11 5 (by decide) (fun _ _ _ => rfl) wl_866 c30 dX11_go_30 ?_
          obtain ⟨x33, c33, h⟩ := bdS h
          refine x_aI F c33 dX11_go_33 ?_
          refine x_bipush F (v := 10) dX11_go_34 (by decide) ?_
          refine x_icmp_ne F (tgt := 52) dX11_go_36 (by decide) (fun c36 => ?_) (fun c36 => ?_)
          · rw [if_neg c36] at h
            obtain rfl := Option.some.inj h
            exact hE
          · rw [if_pos c36] at h
            exact J39 M h
  obtain ⟨o0, h0, h⟩ := bdS h
  refine L0 v0 N M o0 h0 ?_
  exact J52 v0 o0 h
theorem dX11_spelt_0 : decode cX11_spelt 0 = .ok (.ldc2_w 54, 3) := by decide +kernel
theorem dX11_spelt_3 : decode cX11_spelt 3 = .ok (.iload_n 0, 1) := by decide +kernel
theorem dX11_spelt_4 : decode cX11_spelt 4 = .ok (.i2l, 1) := by decide +kernel
theorem dX11_spelt_5 : decode cX11_spelt 5 = .ok (.ldc2_w 56, 3) := by decide +kernel
theorem dX11_spelt_8 : decode cX11_spelt 8 = .ok (.lsub, 1) := by decide +kernel
theorem dX11_spelt_9 : decode cX11_spelt 9 = .ok (.lmul, 1) := by decide +kernel
theorem dX11_spelt_10 : decode cX11_spelt 10 = .ok (.iload_n 1, 1) := by decide +kernel
theorem dX11_spelt_11 : decode cX11_spelt 11 = .ok (.i2l, 1) := by decide +kernel
theorem dX11_spelt_12 : decode cX11_spelt 12 = .ok (.ladd, 1) := by decide +kernel
theorem dX11_spelt_13 : decode cX11_spelt 13 = .ok (.ldc2_w 56, 3) := by decide +kernel
theorem dX11_spelt_16 : decode cX11_spelt 16 = .ok (.lsub, 1) := by decide +kernel
theorem dX11_spelt_17 : decode cX11_spelt 17 = .ok (.lstore 6, 2) := by decide +kernel
theorem dX11_spelt_19 : decode cX11_spelt 19 = .ok (.iload_n 2, 1) := by decide +kernel
theorem dX11_spelt_20 : decode cX11_spelt 20 = .ok (.ifCond .le 18, 3) := by decide +kernel
theorem dX11_spelt_23 : decode cX11_spelt 23 = .ok (.ldc2_w 54, 3) := by decide +kernel
theorem dX11_spelt_26 : decode cX11_spelt 26 = .ok (.lload 6, 2) := by decide +kernel
theorem dX11_spelt_28 : decode cX11_spelt 28 = .ok (.lmul, 1) := by decide +kernel
theorem dX11_spelt_29 : decode cX11_spelt 29 = .ok (.iload_n 2, 1) := by decide +kernel
theorem dX11_spelt_30 : decode cX11_spelt 30 = .ok (.i2l, 1) := by decide +kernel
theorem dX11_spelt_31 : decode cX11_spelt 31 = .ok (.ladd, 1) := by decide +kernel
theorem dX11_spelt_32 : decode cX11_spelt 32 = .ok (.ldc2_w 56, 3) := by decide +kernel
theorem dX11_spelt_35 : decode cX11_spelt 35 = .ok (.lsub, 1) := by decide +kernel
theorem dX11_spelt_36 : decode cX11_spelt 36 = .ok (.lstore 6, 2) := by decide +kernel
theorem dX11_spelt_38 : decode cX11_spelt 38 = .ok (.iload_n 3, 1) := by decide +kernel
theorem dX11_spelt_39 : decode cX11_spelt 39 = .ok (.ifCond .le 18, 3) := by decide +kernel
theorem dX11_spelt_42 : decode cX11_spelt 42 = .ok (.ldc2_w 54, 3) := by decide +kernel
theorem dX11_spelt_45 : decode cX11_spelt 45 = .ok (.lload 6, 2) := by decide +kernel
theorem dX11_spelt_47 : decode cX11_spelt 47 = .ok (.lmul, 1) := by decide +kernel
theorem dX11_spelt_48 : decode cX11_spelt 48 = .ok (.iload_n 3, 1) := by decide +kernel
theorem dX11_spelt_49 : decode cX11_spelt 49 = .ok (.i2l, 1) := by decide +kernel
theorem dX11_spelt_50 : decode cX11_spelt 50 = .ok (.ladd, 1) := by decide +kernel
theorem dX11_spelt_51 : decode cX11_spelt 51 = .ok (.ldc2_w 56, 3) := by decide +kernel
theorem dX11_spelt_54 : decode cX11_spelt 54 = .ok (.lsub, 1) := by decide +kernel
theorem dX11_spelt_55 : decode cX11_spelt 55 = .ok (.lstore 6, 2) := by decide +kernel
theorem dX11_spelt_57 : decode cX11_spelt 57 = .ok (.iload 4, 2) := by decide +kernel
theorem dX11_spelt_59 : decode cX11_spelt 59 = .ok (.ifCond .le 19, 3) := by decide +kernel
theorem dX11_spelt_62 : decode cX11_spelt 62 = .ok (.ldc2_w 54, 3) := by decide +kernel
theorem dX11_spelt_65 : decode cX11_spelt 65 = .ok (.lload 6, 2) := by decide +kernel
theorem dX11_spelt_67 : decode cX11_spelt 67 = .ok (.lmul, 1) := by decide +kernel
theorem dX11_spelt_68 : decode cX11_spelt 68 = .ok (.iload 4, 2) := by decide +kernel
theorem dX11_spelt_70 : decode cX11_spelt 70 = .ok (.i2l, 1) := by decide +kernel
theorem dX11_spelt_71 : decode cX11_spelt 71 = .ok (.ladd, 1) := by decide +kernel
theorem dX11_spelt_72 : decode cX11_spelt 72 = .ok (.ldc2_w 56, 3) := by decide +kernel
theorem dX11_spelt_75 : decode cX11_spelt 75 = .ok (.lsub, 1) := by decide +kernel
theorem dX11_spelt_76 : decode cX11_spelt 76 = .ok (.lstore 6, 2) := by decide +kernel
theorem dX11_spelt_78 : decode cX11_spelt 78 = .ok (.iload 5, 2) := by decide +kernel
theorem dX11_spelt_80 : decode cX11_spelt 80 = .ok (.ifCond .le 19, 3) := by decide +kernel
theorem dX11_spelt_83 : decode cX11_spelt 83 = .ok (.ldc2_w 54, 3) := by decide +kernel
theorem dX11_spelt_86 : decode cX11_spelt 86 = .ok (.lload 6, 2) := by decide +kernel
theorem dX11_spelt_88 : decode cX11_spelt 88 = .ok (.lmul, 1) := by decide +kernel
theorem dX11_spelt_89 : decode cX11_spelt 89 = .ok (.iload 5, 2) := by decide +kernel
theorem dX11_spelt_91 : decode cX11_spelt 91 = .ok (.i2l, 1) := by decide +kernel
theorem dX11_spelt_92 : decode cX11_spelt 92 = .ok (.ladd, 1) := by decide +kernel
theorem dX11_spelt_93 : decode cX11_spelt 93 = .ok (.ldc2_w 56, 3) := by decide +kernel
theorem dX11_spelt_96 : decode cX11_spelt 96 = .ok (.lsub, 1) := by decide +kernel
theorem dX11_spelt_97 : decode cX11_spelt 97 = .ok (.lstore 6, 2) := by decide +kernel
theorem dX11_spelt_99 : decode cX11_spelt 99 = .ok (.lload 6, 2) := by decide +kernel
theorem dX11_spelt_101 : decode cX11_spelt 101 = .ok (.lreturn, 1) := by decide +kernel
def fX11_spelt_J78 (N : Nat) (v5 : Int32) (v6 : Int64) (M : Mem) : Option (Int64 × Mem) := (if v5 ≤ 0 then some (v6, M) else some (((((27)) * v6) + (Int32.toInt64 v5)) - ((96)), M))
def fX11_spelt_J57 (N : Nat) (v4 : Int32) (v5 : Int32) (v6 : Int64) (M : Mem) : Option (Int64 × Mem) := (if v4 ≤ 0 then fX11_spelt_J78 N v5 v6 M else fX11_spelt_J78 N v5 (((((27)) * v6) + (Int32.toInt64 v4)) - ((96))) M)
def fX11_spelt_J38 (N : Nat) (v3 : Int32) (v4 : Int32) (v5 : Int32) (v6 : Int64) (M : Mem) : Option (Int64 × Mem) := (if v3 ≤ 0 then fX11_spelt_J57 N v4 v5 v6 M else fX11_spelt_J57 N v4 v5 (((((27)) * v6) + (Int32.toInt64 v3)) - ((96))) M)
def fX11_spelt (N : Nat) (v0 : Int32) (v1 : Int32) (v2 : Int32) (v3 : Int32) (v4 : Int32) (v5 : Int32) (M : Mem) : Option (Int64 × Mem) := (if v2 ≤ 0 then fX11_spelt_J38 N v3 v4 v5 (((((27)) * ((Int32.toInt64 v0) - ((96)))) + (Int32.toInt64 v1)) - ((96))) M else fX11_spelt_J38 N v3 v4 v5 (((((27)) * (((((27)) * ((Int32.toInt64 v0) - ((96)))) + (Int32.toInt64 v1)) - ((96)))) + (Int32.toInt64 v2)) - ((96))) M)
set_option maxHeartbeats 4000000 in
set_option maxRecDepth 100000 in
theorem k_X11_spelt (l : Launch) (b : Nat) (D : va_G) (cy : Nat → ClassId) (N : Nat) (v0 : Int32) (v1 : Int32) (v2 : Int32) (v3 : Int32) (v4 : Int32) (v5 : Int32) (M : Mem) (r : Int64) (Mf : Mem) (h : fX11_spelt N v0 v1 v2 v3 v4 v5 M = some (r, Mf)) : Ct l yX11_spelt cX11_spelt 8 (some .long) 1 0 0 b D cy [.int v0, .int v1, .int v2, .int v3, .int v4, .int v5] M (some (.long r)) Mf := by
  refine Ct_of (own := RX11) (by decide) rfl (Nat.le_of_ble_eq_true rfl) ?_
  intro p e s m args below meth c F hr hl hmn
  unfold fX11_spelt at h
  have J78 : ∀ (v5 : Int32) (v6 : Int64) (M : Mem), fX11_spelt_J78 N v5 v6 M = some (r, Mf) → X p l e ({ frames := 1, cells := 0, slots := 0, locals := 100 * 1 }) s m args below meth c (MQ below (Qm b D cy (some (.long r)) Mf) args s 0 0 (fun q => b ≤ q)) 8 b D cy 0 0 M 78 [(5, .int v5), (6, .long v6)] [] := by
    intro v5 v6 M h
    unfold fX11_spelt_J78 at h
    refine x_iload F dX11_spelt_78 0 rfl ?_
    refine x_if_le F (tgt := 99) dX11_spelt_80 (by decide) (fun c80 => ?_) (fun c80 => ?_)
    · rw [if_pos c80] at h
      refine x_lload F dX11_spelt_99 1 rfl ?_
      obtain ⟨rfl, rfl⟩ := retS h
      exact x_lret F hr hl dX11_spelt_101
    · rw [if_neg c80] at h
      refine x_ldc2 F (v := (27)) dX11_spelt_83 wl_873 ?_
      refine x_lload F dX11_spelt_86 1 rfl ?_
      refine x_lmul F dX11_spelt_88 ?_
      refine x_iload F dX11_spelt_89 0 rfl ?_
      refine x_i2l F dX11_spelt_91 ?_
      refine x_ladd F dX11_spelt_92 ?_
      refine x_ldc2 F (v := (96)) dX11_spelt_93 wl_874 ?_
      refine x_lsub F dX11_spelt_96 ?_
      refine x_lstore F (lv' := [(6, .long (((((27)) * v6) + (Int32.toInt64 v5)) - ((96)))), (5, .int v5)]) dX11_spelt_97 (by decide) rfl ?_
      refine x_lload F dX11_spelt_99 0 rfl ?_
      obtain ⟨rfl, rfl⟩ := retS h
      exact x_lret F hr hl dX11_spelt_101
  have J57 : ∀ (v4 : Int32) (v5 : Int32) (v6 : Int64) (M : Mem), fX11_spelt_J57 N v4 v5 v6 M = some (r, Mf) → X p l e ({ frames := 1, cells := 0, slots := 0, locals := 100 * 1 }) s m args below meth c (MQ below (Qm b D cy (some (.long r)) Mf) args s 0 0 (fun q => b ≤ q)) 8 b D cy 0 0 M 57 [(4, .int v4), (5, .int v5), (6, .long v6)] [] := by
    intro v4 v5 v6 M h
    unfold fX11_spelt_J57 at h
    refine x_iload F dX11_spelt_57 0 rfl ?_
    refine x_if_le F (tgt := 78) dX11_spelt_59 (by decide) (fun c59 => ?_) (fun c59 => ?_)
    · rw [if_pos c59] at h
      refine x_sub [1, 2] rfl ?_
      exact J78 v5 v6 M h
    · rw [if_neg c59] at h
      refine x_ldc2 F (v := (27)) dX11_spelt_62 wl_873 ?_
      refine x_lload F dX11_spelt_65 2 rfl ?_
      refine x_lmul F dX11_spelt_67 ?_
      refine x_iload F dX11_spelt_68 0 rfl ?_
      refine x_i2l F dX11_spelt_70 ?_
      refine x_ladd F dX11_spelt_71 ?_
      refine x_ldc2 F (v := (96)) dX11_spelt_72 wl_874 ?_
      refine x_lsub F dX11_spelt_75 ?_
      refine x_lstore F (lv' := [(6, .long (((((27)) * v6) + (Int32.toInt64 v4)) - ((96)))), (4, .int v4), (5, .int v5)]) dX11_spelt_76 (by decide) rfl ?_
      refine x_sub [2, 0] rfl ?_
      exact J78 v5 (((((27)) * v6) + (Int32.toInt64 v4)) - ((96))) M h
  have J38 : ∀ (v3 : Int32) (v4 : Int32) (v5 : Int32) (v6 : Int64) (M : Mem), fX11_spelt_J38 N v3 v4 v5 v6 M = some (r, Mf) → X p l e ({ frames := 1, cells := 0, slots := 0, locals := 100 * 1 }) s m args below meth c (MQ below (Qm b D cy (some (.long r)) Mf) args s 0 0 (fun q => b ≤ q)) 8 b D cy 0 0 M 38 [(3, .int v3), (4, .int v4), (5, .int v5), (6, .long v6)] [] := by
    intro v3 v4 v5 v6 M h
    unfold fX11_spelt_J38 at h
    refine x_iload_n F dX11_spelt_38 rfl 0 rfl ?_
    refine x_if_le F (tgt := 57) dX11_spelt_39 (by decide) (fun c39 => ?_) (fun c39 => ?_)
    · rw [if_pos c39] at h
      refine x_sub [1, 2, 3] rfl ?_
      exact J57 v4 v5 v6 M h
    · rw [if_neg c39] at h
      refine x_ldc2 F (v := (27)) dX11_spelt_42 wl_873 ?_
      refine x_lload F dX11_spelt_45 3 rfl ?_
      refine x_lmul F dX11_spelt_47 ?_
      refine x_iload_n F dX11_spelt_48 rfl 0 rfl ?_
      refine x_i2l F dX11_spelt_49 ?_
      refine x_ladd F dX11_spelt_50 ?_
      refine x_ldc2 F (v := (96)) dX11_spelt_51 wl_874 ?_
      refine x_lsub F dX11_spelt_54 ?_
      refine x_lstore F (lv' := [(6, .long (((((27)) * v6) + (Int32.toInt64 v3)) - ((96)))), (3, .int v3), (4, .int v4), (5, .int v5)]) dX11_spelt_55 (by decide) rfl ?_
      refine x_sub [2, 3, 0] rfl ?_
      exact J57 v4 v5 (((((27)) * v6) + (Int32.toInt64 v3)) - ((96))) M h
  show X p l e ({ frames := 1, cells := 0, slots := 0, locals := 100 * 1 }) s m args below meth c (MQ below (Qm b D cy (some (.long r)) Mf) args s 0 0 (fun q => b ≤ q)) 8 b D cy 0 0 M 0 [(0, .int v0), (1, .int v1), (2, .int v2), (3, .int v3), (4, .int v4), (5, .int v5)] []
  refine x_ldc2 F (v := (27)) dX11_spelt_0 wl_873 ?_
  refine x_iload_n F dX11_spelt_3 rfl 0 rfl ?_
  refine x_i2l F dX11_spelt_4 ?_
  refine x_ldc2 F (v := (96)) dX11_spelt_5 wl_874 ?_
  refine x_lsub F dX11_spelt_8 ?_
  refine x_lmul F dX11_spelt_9 ?_
  refine x_iload_n F dX11_spelt_10 rfl 1 rfl ?_
  refine x_i2l F dX11_spelt_11 ?_
  refine x_ladd F dX11_spelt_12 ?_
  refine x_ldc2 F (v := (96)) dX11_spelt_13 wl_874 ?_
  refine x_lsub F dX11_spelt_16 ?_
  refine x_lstore F (lv' := [(6, .long (((((27)) * ((Int32.toInt64 v0) - ((96)))) + (Int32.toInt64 v1)) - ((96)))), (0, .int v0), (1, .int v1), (2, .int v2), (3, .int v3), (4, .int v4), (5, .int v5)]) dX11_spelt_17 (by decide) rfl ?_
  refine x_iload_n F dX11_spelt_19 rfl 3 rfl ?_
  refine x_if_le F (tgt := 38) dX11_spelt_20 (by decide) (fun c20 => ?_) (fun c20 => ?_)
  · rw [if_pos c20] at h
    refine x_sub [4, 5, 6, 0] rfl ?_
    exact J38 v3 v4 v5 (((((27)) * ((Int32.toInt64 v0) - ((96)))) + (Int32.toInt64 v1)) - ((96))) M h
  · rw [if_neg c20] at h
    refine x_ldc2 F (v := (27)) dX11_spelt_23 wl_873 ?_
    refine x_lload F dX11_spelt_26 0 rfl ?_
    refine x_lmul F dX11_spelt_28 ?_
    refine x_iload_n F dX11_spelt_29 rfl 3 rfl ?_
    refine x_i2l F dX11_spelt_30 ?_
    refine x_ladd F dX11_spelt_31 ?_
    refine x_ldc2 F (v := (96)) dX11_spelt_32 wl_874 ?_
    refine x_lsub F dX11_spelt_35 ?_
    refine x_lstore F (lv' := [(6, .long (((((27)) * (((((27)) * ((Int32.toInt64 v0) - ((96)))) + (Int32.toInt64 v1)) - ((96)))) + (Int32.toInt64 v2)) - ((96)))), (0, .int v0), (1, .int v1), (2, .int v2), (3, .int v3), (4, .int v4), (5, .int v5)]) dX11_spelt_36 (by decide) rfl ?_
    refine x_sub [4, 5, 6, 0] rfl ?_
    exact J38 v3 v4 v5 (((((27)) * (((((27)) * ((Int32.toInt64 v0) - ((96)))) + (Int32.toInt64 v1)) - ((96)))) + (Int32.toInt64 v2)) - ((96))) M h
theorem hd_X11_spelt : (yX11_spelt).cls = RX11 ∧ (yX11_spelt).cls ≠ "java/lang/invoke/MethodHandle" ∧ (yX11_spelt).cls ≠ "java/lang/invoke/VarHandle" ∧ (parseMethodDescriptor (yX11_spelt).desc).map (fun d => d.parameters.length) = some 6 := by decide +kernel
theorem dX11_wordOf_0 : decode cX11_wordOf 0 = .ok (.iload_n 0, 1) := by decide +kernel
theorem dX11_wordOf_1 : decode cX11_wordOf 1 = .ok (.tableswitch 361 0 18 #[91, 105, 119, 135, 148, 163, 179, 194, 208, 220, 233, 246, 260, 274, 287, 302, 314, 330, 345], 91) := by decide +kernel
theorem dX11_wordOf_92 : decode cX11_wordOf 92 = .ok (.bipush 98, 2) := by decide +kernel
theorem dX11_wordOf_94 : decode cX11_wordOf 94 = .ok (.bipush 97, 2) := by decide +kernel
theorem dX11_wordOf_96 : decode cX11_wordOf 96 = .ok (.bipush 110, 2) := by decide +kernel
theorem dX11_wordOf_98 : decode cX11_wordOf 98 = .ok (.bipush 100, 2) := by decide +kernel
theorem dX11_wordOf_100 : decode cX11_wordOf 100 = .ok (.iconst 0, 1) := by decide +kernel
theorem dX11_wordOf_101 : decode cX11_wordOf 101 = .ok (.iconst 0, 1) := by decide +kernel
theorem dX11_wordOf_102 : decode cX11_wordOf 102 = .ok (.invokestatic 58, 3) := by decide +kernel
theorem dX11_wordOf_105 : decode cX11_wordOf 105 = .ok (.lreturn, 1) := by decide +kernel
theorem dX11_wordOf_106 : decode cX11_wordOf 106 = .ok (.bipush 116, 2) := by decide +kernel
theorem dX11_wordOf_108 : decode cX11_wordOf 108 = .ok (.bipush 105, 2) := by decide +kernel
theorem dX11_wordOf_110 : decode cX11_wordOf 110 = .ok (.bipush 100, 2) := by decide +kernel
theorem dX11_wordOf_112 : decode cX11_wordOf 112 = .ok (.bipush 101, 2) := by decide +kernel
theorem dX11_wordOf_114 : decode cX11_wordOf 114 = .ok (.iconst 0, 1) := by decide +kernel
theorem dX11_wordOf_115 : decode cX11_wordOf 115 = .ok (.iconst 0, 1) := by decide +kernel
theorem dX11_wordOf_116 : decode cX11_wordOf 116 = .ok (.invokestatic 58, 3) := by decide +kernel
theorem dX11_wordOf_119 : decode cX11_wordOf 119 = .ok (.lreturn, 1) := by decide +kernel
theorem dX11_wordOf_120 : decode cX11_wordOf 120 = .ok (.bipush 119, 2) := by decide +kernel
theorem dX11_wordOf_122 : decode cX11_wordOf 122 = .ok (.bipush 114, 2) := by decide +kernel
theorem dX11_wordOf_124 : decode cX11_wordOf 124 = .ok (.bipush 105, 2) := by decide +kernel
theorem dX11_wordOf_126 : decode cX11_wordOf 126 = .ok (.bipush 116, 2) := by decide +kernel
theorem dX11_wordOf_128 : decode cX11_wordOf 128 = .ok (.bipush 101, 2) := by decide +kernel
theorem dX11_wordOf_130 : decode cX11_wordOf 130 = .ok (.bipush 114, 2) := by decide +kernel
theorem dX11_wordOf_132 : decode cX11_wordOf 132 = .ok (.invokestatic 58, 3) := by decide +kernel
theorem dX11_wordOf_135 : decode cX11_wordOf 135 = .ok (.lreturn, 1) := by decide +kernel
theorem dX11_wordOf_136 : decode cX11_wordOf 136 = .ok (.bipush 108, 2) := by decide +kernel
theorem dX11_wordOf_138 : decode cX11_wordOf 138 = .ok (.bipush 97, 2) := by decide +kernel
theorem dX11_wordOf_140 : decode cX11_wordOf 140 = .ok (.bipush 119, 2) := by decide +kernel
theorem dX11_wordOf_142 : decode cX11_wordOf 142 = .ok (.iconst 0, 1) := by decide +kernel
theorem dX11_wordOf_143 : decode cX11_wordOf 143 = .ok (.iconst 0, 1) := by decide +kernel
theorem dX11_wordOf_144 : decode cX11_wordOf 144 = .ok (.iconst 0, 1) := by decide +kernel
theorem dX11_wordOf_145 : decode cX11_wordOf 145 = .ok (.invokestatic 58, 3) := by decide +kernel
theorem dX11_wordOf_148 : decode cX11_wordOf 148 = .ok (.lreturn, 1) := by decide +kernel
theorem dX11_wordOf_149 : decode cX11_wordOf 149 = .ok (.bipush 108, 2) := by decide +kernel
theorem dX11_wordOf_151 : decode cX11_wordOf 151 = .ok (.bipush 97, 2) := by decide +kernel
theorem dX11_wordOf_153 : decode cX11_wordOf 153 = .ok (.bipush 112, 2) := by decide +kernel
theorem dX11_wordOf_155 : decode cX11_wordOf 155 = .ok (.bipush 115, 2) := by decide +kernel
theorem dX11_wordOf_157 : decode cX11_wordOf 157 = .ok (.bipush 101, 2) := by decide +kernel
theorem dX11_wordOf_159 : decode cX11_wordOf 159 = .ok (.iconst 0, 1) := by decide +kernel
theorem dX11_wordOf_160 : decode cX11_wordOf 160 = .ok (.invokestatic 58, 3) := by decide +kernel
theorem dX11_wordOf_163 : decode cX11_wordOf 163 = .ok (.lreturn, 1) := by decide +kernel
theorem dX11_wordOf_164 : decode cX11_wordOf 164 = .ok (.bipush 119, 2) := by decide +kernel
theorem dX11_wordOf_166 : decode cX11_wordOf 166 = .ok (.bipush 114, 2) := by decide +kernel
theorem dX11_wordOf_168 : decode cX11_wordOf 168 = .ok (.bipush 105, 2) := by decide +kernel
theorem dX11_wordOf_170 : decode cX11_wordOf 170 = .ok (.bipush 116, 2) := by decide +kernel
theorem dX11_wordOf_172 : decode cX11_wordOf 172 = .ok (.bipush 101, 2) := by decide +kernel
theorem dX11_wordOf_174 : decode cX11_wordOf 174 = .ok (.bipush 115, 2) := by decide +kernel
theorem dX11_wordOf_176 : decode cX11_wordOf 176 = .ok (.invokestatic 58, 3) := by decide +kernel
theorem dX11_wordOf_179 : decode cX11_wordOf 179 = .ok (.lreturn, 1) := by decide +kernel
theorem dX11_wordOf_180 : decode cX11_wordOf 180 = .ok (.bipush 116, 2) := by decide +kernel
theorem dX11_wordOf_182 : decode cX11_wordOf 182 = .ok (.bipush 114, 2) := by decide +kernel
theorem dX11_wordOf_184 : decode cX11_wordOf 184 = .ok (.bipush 101, 2) := by decide +kernel
theorem dX11_wordOf_186 : decode cX11_wordOf 186 = .ok (.bipush 97, 2) := by decide +kernel
theorem dX11_wordOf_188 : decode cX11_wordOf 188 = .ok (.bipush 100, 2) := by decide +kernel
theorem dX11_wordOf_190 : decode cX11_wordOf 190 = .ok (.iconst 0, 1) := by decide +kernel
theorem dX11_wordOf_191 : decode cX11_wordOf 191 = .ok (.invokestatic 58, 3) := by decide +kernel
theorem dX11_wordOf_194 : decode cX11_wordOf 194 = .ok (.lreturn, 1) := by decide +kernel
theorem dX11_wordOf_195 : decode cX11_wordOf 195 = .ok (.bipush 104, 2) := by decide +kernel
theorem dX11_wordOf_197 : decode cX11_wordOf 197 = .ok (.bipush 111, 2) := by decide +kernel
theorem dX11_wordOf_199 : decode cX11_wordOf 199 = .ok (.bipush 117, 2) := by decide +kernel
theorem dX11_wordOf_201 : decode cX11_wordOf 201 = .ok (.bipush 114, 2) := by decide +kernel
theorem dX11_wordOf_203 : decode cX11_wordOf 203 = .ok (.iconst 0, 1) := by decide +kernel
theorem dX11_wordOf_204 : decode cX11_wordOf 204 = .ok (.iconst 0, 1) := by decide +kernel
theorem dX11_wordOf_205 : decode cX11_wordOf 205 = .ok (.invokestatic 58, 3) := by decide +kernel
theorem dX11_wordOf_208 : decode cX11_wordOf 208 = .ok (.lreturn, 1) := by decide +kernel
theorem dX11_wordOf_209 : decode cX11_wordOf 209 = .ok (.bipush 111, 2) := by decide +kernel
theorem dX11_wordOf_211 : decode cX11_wordOf 211 = .ok (.bipush 114, 2) := by decide +kernel
theorem dX11_wordOf_213 : decode cX11_wordOf 213 = .ok (.iconst 0, 1) := by decide +kernel
theorem dX11_wordOf_214 : decode cX11_wordOf 214 = .ok (.iconst 0, 1) := by decide +kernel
theorem dX11_wordOf_215 : decode cX11_wordOf 215 = .ok (.iconst 0, 1) := by decide +kernel
theorem dX11_wordOf_216 : decode cX11_wordOf 216 = .ok (.iconst 0, 1) := by decide +kernel
theorem dX11_wordOf_217 : decode cX11_wordOf 217 = .ok (.invokestatic 58, 3) := by decide +kernel
theorem dX11_wordOf_220 : decode cX11_wordOf 220 = .ok (.lreturn, 1) := by decide +kernel
theorem dX11_wordOf_221 : decode cX11_wordOf 221 = .ok (.bipush 97, 2) := by decide +kernel
theorem dX11_wordOf_223 : decode cX11_wordOf 223 = .ok (.bipush 110, 2) := by decide +kernel
theorem dX11_wordOf_225 : decode cX11_wordOf 225 = .ok (.bipush 100, 2) := by decide +kernel
theorem dX11_wordOf_227 : decode cX11_wordOf 227 = .ok (.iconst 0, 1) := by decide +kernel
theorem dX11_wordOf_228 : decode cX11_wordOf 228 = .ok (.iconst 0, 1) := by decide +kernel
theorem dX11_wordOf_229 : decode cX11_wordOf 229 = .ok (.iconst 0, 1) := by decide +kernel
theorem dX11_wordOf_230 : decode cX11_wordOf 230 = .ok (.invokestatic 58, 3) := by decide +kernel
theorem dX11_wordOf_233 : decode cX11_wordOf 233 = .ok (.lreturn, 1) := by decide +kernel
theorem dX11_wordOf_234 : decode cX11_wordOf 234 = .ok (.bipush 110, 2) := by decide +kernel
theorem dX11_wordOf_236 : decode cX11_wordOf 236 = .ok (.bipush 111, 2) := by decide +kernel
theorem dX11_wordOf_238 : decode cX11_wordOf 238 = .ok (.bipush 116, 2) := by decide +kernel
theorem dX11_wordOf_240 : decode cX11_wordOf 240 = .ok (.iconst 0, 1) := by decide +kernel
theorem dX11_wordOf_241 : decode cX11_wordOf 241 = .ok (.iconst 0, 1) := by decide +kernel
theorem dX11_wordOf_242 : decode cX11_wordOf 242 = .ok (.iconst 0, 1) := by decide +kernel
theorem dX11_wordOf_243 : decode cX11_wordOf 243 = .ok (.invokestatic 58, 3) := by decide +kernel
theorem dX11_wordOf_246 : decode cX11_wordOf 246 = .ok (.lreturn, 1) := by decide +kernel
theorem dX11_wordOf_247 : decode cX11_wordOf 247 = .ok (.bipush 98, 2) := by decide +kernel
theorem dX11_wordOf_249 : decode cX11_wordOf 249 = .ok (.bipush 97, 2) := by decide +kernel
theorem dX11_wordOf_251 : decode cX11_wordOf 251 = .ok (.bipush 114, 2) := by decide +kernel
theorem dX11_wordOf_253 : decode cX11_wordOf 253 = .ok (.bipush 101, 2) := by decide +kernel
theorem dX11_wordOf_255 : decode cX11_wordOf 255 = .ok (.iconst 0, 1) := by decide +kernel
theorem dX11_wordOf_256 : decode cX11_wordOf 256 = .ok (.iconst 0, 1) := by decide +kernel
theorem dX11_wordOf_257 : decode cX11_wordOf 257 = .ok (.invokestatic 58, 3) := by decide +kernel
theorem dX11_wordOf_260 : decode cX11_wordOf 260 = .ok (.lreturn, 1) := by decide +kernel
theorem dX11_wordOf_261 : decode cX11_wordOf 261 = .ok (.bipush 102, 2) := by decide +kernel
theorem dX11_wordOf_263 : decode cX11_wordOf 263 = .ok (.bipush 117, 2) := by decide +kernel
theorem dX11_wordOf_265 : decode cX11_wordOf 265 = .ok (.bipush 108, 2) := by decide +kernel
theorem dX11_wordOf_267 : decode cX11_wordOf 267 = .ok (.bipush 108, 2) := by decide +kernel
theorem dX11_wordOf_269 : decode cX11_wordOf 269 = .ok (.iconst 0, 1) := by decide +kernel
theorem dX11_wordOf_270 : decode cX11_wordOf 270 = .ok (.iconst 0, 1) := by decide +kernel
theorem dX11_wordOf_271 : decode cX11_wordOf 271 = .ok (.invokestatic 58, 3) := by decide +kernel
theorem dX11_wordOf_274 : decode cX11_wordOf 274 = .ok (.lreturn, 1) := by decide +kernel
theorem dX11_wordOf_275 : decode cX11_wordOf 275 = .ok (.bipush 119, 2) := by decide +kernel
theorem dX11_wordOf_277 : decode cX11_wordOf 277 = .ok (.bipush 101, 2) := by decide +kernel
theorem dX11_wordOf_279 : decode cX11_wordOf 279 = .ok (.bipush 116, 2) := by decide +kernel
theorem dX11_wordOf_281 : decode cX11_wordOf 281 = .ok (.iconst 0, 1) := by decide +kernel
theorem dX11_wordOf_282 : decode cX11_wordOf 282 = .ok (.iconst 0, 1) := by decide +kernel
theorem dX11_wordOf_283 : decode cX11_wordOf 283 = .ok (.iconst 0, 1) := by decide +kernel
theorem dX11_wordOf_284 : decode cX11_wordOf 284 = .ok (.invokestatic 58, 3) := by decide +kernel
theorem dX11_wordOf_287 : decode cX11_wordOf 287 = .ok (.lreturn, 1) := by decide +kernel
theorem dX11_wordOf_288 : decode cX11_wordOf 288 = .ok (.bipush 104, 2) := by decide +kernel
theorem dX11_wordOf_290 : decode cX11_wordOf 290 = .ok (.bipush 111, 2) := by decide +kernel
theorem dX11_wordOf_292 : decode cX11_wordOf 292 = .ok (.bipush 108, 2) := by decide +kernel
theorem dX11_wordOf_294 : decode cX11_wordOf 294 = .ok (.bipush 100, 2) := by decide +kernel
theorem dX11_wordOf_296 : decode cX11_wordOf 296 = .ok (.bipush 115, 2) := by decide +kernel
theorem dX11_wordOf_298 : decode cX11_wordOf 298 = .ok (.iconst 0, 1) := by decide +kernel
theorem dX11_wordOf_299 : decode cX11_wordOf 299 = .ok (.invokestatic 58, 3) := by decide +kernel
theorem dX11_wordOf_302 : decode cX11_wordOf 302 = .ok (.lreturn, 1) := by decide +kernel
theorem dX11_wordOf_303 : decode cX11_wordOf 303 = .ok (.bipush 98, 2) := by decide +kernel
theorem dX11_wordOf_305 : decode cX11_wordOf 305 = .ok (.bipush 121, 2) := by decide +kernel
theorem dX11_wordOf_307 : decode cX11_wordOf 307 = .ok (.iconst 0, 1) := by decide +kernel
theorem dX11_wordOf_308 : decode cX11_wordOf 308 = .ok (.iconst 0, 1) := by decide +kernel
theorem dX11_wordOf_309 : decode cX11_wordOf 309 = .ok (.iconst 0, 1) := by decide +kernel
theorem dX11_wordOf_310 : decode cX11_wordOf 310 = .ok (.iconst 0, 1) := by decide +kernel
theorem dX11_wordOf_311 : decode cX11_wordOf 311 = .ok (.invokestatic 58, 3) := by decide +kernel
theorem dX11_wordOf_314 : decode cX11_wordOf 314 = .ok (.lreturn, 1) := by decide +kernel
theorem dX11_wordOf_315 : decode cX11_wordOf 315 = .ok (.bipush 104, 2) := by decide +kernel
theorem dX11_wordOf_317 : decode cX11_wordOf 317 = .ok (.bipush 101, 2) := by decide +kernel
theorem dX11_wordOf_319 : decode cX11_wordOf 319 = .ok (.bipush 105, 2) := by decide +kernel
theorem dX11_wordOf_321 : decode cX11_wordOf 321 = .ok (.bipush 103, 2) := by decide +kernel
theorem dX11_wordOf_323 : decode cX11_wordOf 323 = .ok (.bipush 104, 2) := by decide +kernel
theorem dX11_wordOf_325 : decode cX11_wordOf 325 = .ok (.bipush 116, 2) := by decide +kernel
theorem dX11_wordOf_327 : decode cX11_wordOf 327 = .ok (.invokestatic 58, 3) := by decide +kernel
theorem dX11_wordOf_330 : decode cX11_wordOf 330 = .ok (.lreturn, 1) := by decide +kernel
theorem dX11_wordOf_331 : decode cX11_wordOf 331 = .ok (.bipush 115, 2) := by decide +kernel
theorem dX11_wordOf_333 : decode cX11_wordOf 333 = .ok (.bipush 105, 2) := by decide +kernel
theorem dX11_wordOf_335 : decode cX11_wordOf 335 = .ok (.bipush 103, 2) := by decide +kernel
theorem dX11_wordOf_337 : decode cX11_wordOf 337 = .ok (.bipush 110, 2) := by decide +kernel
theorem dX11_wordOf_339 : decode cX11_wordOf 339 = .ok (.bipush 115, 2) := by decide +kernel
theorem dX11_wordOf_341 : decode cX11_wordOf 341 = .ok (.iconst 0, 1) := by decide +kernel
theorem dX11_wordOf_342 : decode cX11_wordOf 342 = .ok (.invokestatic 58, 3) := by decide +kernel
theorem dX11_wordOf_345 : decode cX11_wordOf 345 = .ok (.lreturn, 1) := by decide +kernel
theorem dX11_wordOf_346 : decode cX11_wordOf 346 = .ok (.bipush 119, 2) := by decide +kernel
theorem dX11_wordOf_348 : decode cX11_wordOf 348 = .ok (.bipush 97, 2) := by decide +kernel
theorem dX11_wordOf_350 : decode cX11_wordOf 350 = .ok (.bipush 115, 2) := by decide +kernel
theorem dX11_wordOf_352 : decode cX11_wordOf 352 = .ok (.bipush 104, 2) := by decide +kernel
theorem dX11_wordOf_354 : decode cX11_wordOf 354 = .ok (.bipush 101, 2) := by decide +kernel
theorem dX11_wordOf_356 : decode cX11_wordOf 356 = .ok (.bipush 100, 2) := by decide +kernel
theorem dX11_wordOf_358 : decode cX11_wordOf 358 = .ok (.invokestatic 58, 3) := by decide +kernel
theorem dX11_wordOf_361 : decode cX11_wordOf 361 = .ok (.lreturn, 1) := by decide +kernel
theorem dX11_wordOf_362 : decode cX11_wordOf 362 = .ok (.bipush 110, 2) := by decide +kernel
theorem dX11_wordOf_364 : decode cX11_wordOf 364 = .ok (.bipush 117, 2) := by decide +kernel
theorem dX11_wordOf_366 : decode cX11_wordOf 366 = .ok (.bipush 109, 2) := by decide +kernel
theorem dX11_wordOf_368 : decode cX11_wordOf 368 = .ok (.bipush 98, 2) := by decide +kernel
theorem dX11_wordOf_370 : decode cX11_wordOf 370 = .ok (.bipush 101, 2) := by decide +kernel
theorem dX11_wordOf_372 : decode cX11_wordOf 372 = .ok (.bipush 114, 2) := by decide +kernel
theorem dX11_wordOf_374 : decode cX11_wordOf 374 = .ok (.invokestatic 58, 3) := by decide +kernel
theorem dX11_wordOf_377 : decode cX11_wordOf 377 = .ok (.lreturn, 1) := by decide +kernel
def fX11_wordOf (N : Nat) (v0 : Int32) (M : Mem) : Option (Int64 × Mem) := (if v0 = 0 then ((fX11_spelt N 98 97 110 100 0 0 M).bind fun (x102, M102) => some (x102, M102)) else (if v0 = 1 then ((fX11_spelt N 116 105 100 101 0 0 M).bind fun (x116, M116) => some (x116, M116)) else (if v0 = 2 then ((fX11_spelt N 119 114 105 116 101 114 M).bind fun (x132, M132) => some (x132, M132)) else (if v0 = 3 then ((fX11_spelt N 108 97 119 0 0 0 M).bind fun (x145, M145) => some (x145, M145)) else (if v0 = 4 then ((fX11_spelt N 108 97 112 115 101 0 M).bind fun (x160, M160) => some (x160, M160)) else (if v0 = 5 then ((fX11_spelt N 119 114 105 116 101 115 M).bind fun (x176, M176) => some (x176, M176)) else (if v0 = 6 then ((fX11_spelt N 116 114 101 97 100 0 M).bind fun (x191, M191) => some (x191, M191)) else (if v0 = 7 then ((fX11_spelt N 104 111 117 114 0 0 M).bind fun (x205, M205) => some (x205, M205)) else (if v0 = 8 then ((fX11_spelt N 111 114 0 0 0 0 M).bind fun (x217, M217) => some (x217, M217)) else (if v0 = 9 then ((fX11_spelt N 97 110 100 0 0 0 M).bind fun (x230, M230) => some (x230, M230)) else (if v0 = 10 then ((fX11_spelt N 110 111 116 0 0 0 M).bind fun (x243, M243) => some (x243, M243)) else (if v0 = 11 then ((fX11_spelt N 98 97 114 101 0 0 M).bind fun (x257, M257) => some (x257, M257)) else (if v0 = 12 then ((fX11_spelt N 102 117 108 108 0 0 M).bind fun (x271, M271) => some (x271, M271)) else (if v0 = 13 then ((fX11_spelt N 119 101 116 0 0 0 M).bind fun (x284, M284) => some (x284, M284)) else (if v0 = 14 then ((fX11_spelt N 104 111 108 100 115 0 M).bind fun (x299, M299) => some (x299, M299)) else (if v0 = 15 then ((fX11_spelt N 98 121 0 0 0 0 M).bind fun (x311, M311) => some (x311, M311)) else (if v0 = 16 then ((fX11_spelt N 104 101 105 103 104 116 M).bind fun (x327, M327) => some (x327, M327)) else (if v0 = 17 then ((fX11_spelt N 115 105 103 110 115 0 M).bind fun (x342, M342) => some (x342, M342)) else (if v0 = 18 then ((fX11_spelt N 119 97 115 104 101 100 M).bind fun (x358, M358) => some (x358, M358)) else ((fX11_spelt N 110 117 109 98 101 114 M).bind fun (x374, M374) => some (x374, M374)))))))))))))))))))))
set_option maxHeartbeats 4000000 in
set_option maxRecDepth 100000 in
theorem k_X11_wordOf (l : Launch) (b : Nat) (D : va_G) (cy : Nat → ClassId) (N : Nat) (v0 : Int32) (M : Mem) (r : Int64) (Mf : Mem) (h : fX11_wordOf N v0 M = some (r, Mf)) : Ct l yX11_wordOf cX11_wordOf 1 (some .long) 2 0 0 b D cy [.int v0] M (some (.long r)) Mf := by
  refine Ct_of (own := RX11) (by decide) rfl (Nat.le_of_ble_eq_true rfl) ?_
  intro p e s m args below meth c F hr hl hmn
  unfold fX11_wordOf at h
  show X p l e ({ frames := 2, cells := 0, slots := 0, locals := 100 * 2 }) s m args below meth c (MQ below (Qm b D cy (some (.long r)) Mf) args s 0 0 (fun q => b ≤ q)) 1 b D cy 0 0 M 0 [(0, .int v0)] []
  refine x_iload_n F dX11_wordOf_0 rfl 0 rfl ?_
  by_cases c1_0 : v0 = 0
  · rw [if_pos c1_0] at h
    refine x_tableIn F (off := 91) (tgt := 92) dX11_wordOf_1 (by rw [c1_0]; decide) (by rw [c1_0]; decide) (by rw [c1_0]; decide) (by decide) ?_
    refine x_bipush F (v := 98) dX11_wordOf_92 (by decide) ?_
    refine x_bipush F (v := 97) dX11_wordOf_94 (by decide) ?_
    refine x_bipush F (v := 110) dX11_wordOf_96 (by decide) ?_
    refine x_bipush F (v := 100) dX11_wordOf_98 (by decide) ?_
    refine x_iconst F (v := 0) dX11_wordOf_100 (by decide) ?_
    refine x_iconst F (v := 0) dX11_wordOf_101 (by decide) ?_
    obtain ⟨⟨x102, M102⟩, c102, h⟩ := bdS h
    dsimp only at h
    refine x_callS F (As := [.int 98, .int 97, .int 110, .int 100, .int 0, .int 0]) (rest := []) (res := (some (.long x102))) (k_X11_spelt l b D cy N 98 97 110 100 0 0 M _ _ c102) wl_884 wl_885 wl_854 wl_882 (hd_X11_spelt).2 ⟨Nat.le_of_ble_eq_true rfl, Nat.le_of_ble_eq_true rfl⟩ ⟨Nat.le_refl _, Nat.le_refl _⟩ (Nat.le_of_ble_eq_true rfl) rfl dX11_wordOf_102 ?_
    obtain ⟨rfl, rfl⟩ := retS h
    exact x_lret F hr hl dX11_wordOf_105
  rw [if_neg c1_0] at h
  by_cases c1_1 : v0 = 1
  · rw [if_pos c1_1] at h
    refine x_tableIn F (off := 105) (tgt := 106) dX11_wordOf_1 (by rw [c1_1]; decide) (by rw [c1_1]; decide) (by rw [c1_1]; decide) (by decide) ?_
    refine x_bipush F (v := 116) dX11_wordOf_106 (by decide) ?_
    refine x_bipush F (v := 105) dX11_wordOf_108 (by decide) ?_
    refine x_bipush F (v := 100) dX11_wordOf_110 (by decide) ?_
    refine x_bipush F (v := 101) dX11_wordOf_112 (by decide) ?_
    refine x_iconst F (v := 0) dX11_wordOf_114 (by decide) ?_
    refine x_iconst F (v := 0) dX11_wordOf_115 (by decide) ?_
    obtain ⟨⟨x116, M116⟩, c116, h⟩ := bdS h
    dsimp only at h
    refine x_callS F (As := [.int 116, .int 105, .int 100, .int 101, .int 0, .int 0]) (rest := []) (res := (some (.long x116))) (k_X11_spelt l b D cy N 116 105 100 101 0 0 M _ _ c116) wl_884 wl_885 wl_854 wl_882 (hd_X11_spelt).2 ⟨Nat.le_of_ble_eq_true rfl, Nat.le_of_ble_eq_true rfl⟩ ⟨Nat.le_refl _, Nat.le_refl _⟩ (Nat.le_of_ble_eq_true rfl) rfl dX11_wordOf_116 ?_
    obtain ⟨rfl, rfl⟩ := retS h
    exact x_lret F hr hl dX11_wordOf_119
  rw [if_neg c1_1] at h
  by_cases c1_2 : v0 = 2
  · rw [if_pos c1_2] at h
    refine x_tableIn F (off := 119) (tgt := 120) dX11_wordOf_1 (by rw [c1_2]; decide) (by rw [c1_2]; decide) (by rw [c1_2]; decide) (by decide) ?_
    refine x_bipush F (v := 119) dX11_wordOf_120 (by decide) ?_
    refine x_bipush F (v := 114) dX11_wordOf_122 (by decide) ?_
    refine x_bipush F (v := 105) dX11_wordOf_124 (by decide) ?_
    refine x_bipush F (v := 116) dX11_wordOf_126 (by decide) ?_
    refine x_bipush F (v := 101) dX11_wordOf_128 (by decide) ?_
    refine x_bipush F (v := 114) dX11_wordOf_130 (by decide) ?_
    obtain ⟨⟨x132, M132⟩, c132, h⟩ := bdS h
    dsimp only at h
    refine x_callS F (As := [.int 119, .int 114, .int 105, .int 116, .int 101, .int 114]) (rest := []) (res := (some (.long x132))) (k_X11_spelt l b D cy N 119 114 105 116 101 114 M _ _ c132) wl_884 wl_885 wl_854 wl_882 (hd_X11_spelt).2 ⟨Nat.le_of_ble_eq_true rfl, Nat.le_of_ble_eq_true rfl⟩ ⟨Nat.le_refl _, Nat.le_refl _⟩ (Nat.le_of_ble_eq_true rfl) rfl dX11_wordOf_132 ?_
    obtain ⟨rfl, rfl⟩ := retS h
    exact x_lret F hr hl dX11_wordOf_135
  rw [if_neg c1_2] at h
  by_cases c1_3 : v0 = 3
  · rw [if_pos c1_3] at h
    refine x_tableIn F (off := 135) (tgt := 136) dX11_wordOf_1 (by rw [c1_3]; decide) (by rw [c1_3]; decide) (by rw [c1_3]; decide) (by decide) ?_
    refine x_bipush F (v := 108) dX11_wordOf_136 (by decide) ?_
    refine x_bipush F (v := 97) dX11_wordOf_138 (by decide) ?_
    refine x_bipush F (v := 119) dX11_wordOf_140 (by decide) ?_
    refine x_iconst F (v := 0) dX11_wordOf_142 (by decide) ?_
    refine x_iconst F (v := 0) dX11_wordOf_143 (by decide) ?_
    refine x_iconst F (v := 0) dX11_wordOf_144 (by decide) ?_
    obtain ⟨⟨x145, M145⟩, c145, h⟩ := bdS h
    dsimp only at h
    refine x_callS F (As := [.int 108, .int 97, .int 119, .int 0, .int 0, .int 0]) (rest := []) (res := (some (.long x145))) (k_X11_spelt l b D cy N 108 97 119 0 0 0 M _ _ c145) wl_884 wl_885 wl_854 wl_882 (hd_X11_spelt).2 ⟨Nat.le_of_ble_eq_true rfl, Nat.le_of_ble_eq_true rfl⟩ ⟨Nat.le_refl _, Nat.le_refl _⟩ (Nat.le_of_ble_eq_true rfl) rfl dX11_wordOf_145 ?_
    obtain ⟨rfl, rfl⟩ := retS h
    exact x_lret F hr hl dX11_wordOf_148
  rw [if_neg c1_3] at h
  by_cases c1_4 : v0 = 4
  · rw [if_pos c1_4] at h
    refine x_tableIn F (off := 148) (tgt := 149) dX11_wordOf_1 (by rw [c1_4]; decide) (by rw [c1_4]; decide) (by rw [c1_4]; decide) (by decide) ?_
    refine x_bipush F (v := 108) dX11_wordOf_149 (by decide) ?_
    refine x_bipush F (v := 97) dX11_wordOf_151 (by decide) ?_
    refine x_bipush F (v := 112) dX11_wordOf_153 (by decide) ?_
    refine x_bipush F (v := 115) dX11_wordOf_155 (by decide) ?_
    refine x_bipush F (v := 101) dX11_wordOf_157 (by decide) ?_
    refine x_iconst F (v := 0) dX11_wordOf_159 (by decide) ?_
    obtain ⟨⟨x160, M160⟩, c160, h⟩ := bdS h
    dsimp only at h
    refine x_callS F (As := [.int 108, .int 97, .int 112, .int 115, .int 101, .int 0]) (rest := []) (res := (some (.long x160))) (k_X11_spelt l b D cy N 108 97 112 115 101 0 M _ _ c160) wl_884 wl_885 wl_854 wl_882 (hd_X11_spelt).2 ⟨Nat.le_of_ble_eq_true rfl, Nat.le_of_ble_eq_true rfl⟩ ⟨Nat.le_refl _, Nat.le_refl _⟩ (Nat.le_of_ble_eq_true rfl) rfl dX11_wordOf_160 ?_
    obtain ⟨rfl, rfl⟩ := retS h
    exact x_lret F hr hl dX11_wordOf_163
  rw [if_neg c1_4] at h
  by_cases c1_5 : v0 = 5
  · rw [if_pos c1_5] at h
    refine x_tableIn F (off := 163) (tgt := 164) dX11_wordOf_1 (by rw [c1_5]; decide) (by rw [c1_5]; decide) (by rw [c1_5]; decide) (by decide) ?_
    refine x_bipush F (v := 119) dX11_wordOf_164 (by decide) ?_
    refine x_bipush F (v := 114) dX11_wordOf_166 (by decide) ?_
    refine x_bipush F (v := 105) dX11_wordOf_168 (by decide) ?_
    refine x_bipush F (v := 116) dX11_wordOf_170 (by decide) ?_
    refine x_bipush F (v := 101) dX11_wordOf_172 (by decide) ?_
    refine x_bipush F (v := 115) dX11_wordOf_174 (by decide) ?_
    obtain ⟨⟨x176, M176⟩, c176, h⟩ := bdS h
    dsimp only at h
    refine x_callS F (As := [.int 119, .int 114, .int 105, .int 116, .int 101, .int 115]) (rest := []) (res := (some (.long x176))) (k_X11_spelt l b D cy N 119 114 105 116 101 115 M _ _ c176) wl_884 wl_885 wl_854 wl_882 (hd_X11_spelt).2 ⟨Nat.le_of_ble_eq_true rfl, Nat.le_of_ble_eq_true rfl⟩ ⟨Nat.le_refl _, Nat.le_refl _⟩ (Nat.le_of_ble_eq_true rfl) rfl dX11_wordOf_176 ?_
    obtain ⟨rfl, rfl⟩ := retS h
    exact x_lret F hr hl dX11_wordOf_179
  rw [if_neg c1_5] at h
  by_cases c1_6 : v0 = 6
  · rw [if_pos c1_6] at h
    refine x_tableIn F (off := 179) (tgt := 180) dX11_wordOf_1 (by rw [c1_6]; decide) (by rw [c1_6]; decide) (by rw [c1_6]; decide) (by decide) ?_
    refine x_bipush F (v := 116) dX11_wordOf_180 (by decide) ?_
    refine x_bipush F (v := 114) dX11_wordOf_182 (by decide) ?_
    refine x_bipush F (v := 101) dX11_wordOf_184 (by decide) ?_
    refine x_bipush F (v := 97) dX11_wordOf_186 (by decide) ?_
    refine x_bipush F (v := 100) dX11_wordOf_188 (by decide) ?_
    refine x_iconst F (v := 0) dX11_wordOf_190 (by decide) ?_
    obtain ⟨⟨x191, M191⟩, c191, h⟩ := bdS h
    dsimp only at h
    refine x_callS F (As := [.int 116, .int 114, .int 101, .int 97, .int 100, .int 0]) (rest := []) (res := (some (.long x191))) (k_X11_spelt l b D cy N 116 114 101 97 100 0 M _ _ c191) wl_884 wl_885 wl_854 wl_882 (hd_X11_spelt).2 ⟨Nat.le_of_ble_eq_true rfl, Nat.le_of_ble_eq_true rfl⟩ ⟨Nat.le_refl _, Nat.le_refl _⟩ (Nat.le_of_ble_eq_true rfl) rfl dX11_wordOf_191 ?_
    obtain ⟨rfl, rfl⟩ := retS h
    exact x_lret F hr hl dX11_wordOf_194
  rw [if_neg c1_6] at h
  by_cases c1_7 : v0 = 7
  · rw [if_pos c1_7] at h
    refine x_tableIn F (off := 194) (tgt := 195) dX11_wordOf_1 (by rw [c1_7]; decide) (by rw [c1_7]; decide) (by rw [c1_7]; decide) (by decide) ?_
    refine x_bipush F (v := 104) dX11_wordOf_195 (by decide) ?_
    refine x_bipush F (v := 111) dX11_wordOf_197 (by decide) ?_
    refine x_bipush F (v := 117) dX11_wordOf_199 (by decide) ?_
    refine x_bipush F (v := 114) dX11_wordOf_201 (by decide) ?_
    refine x_iconst F (v := 0) dX11_wordOf_203 (by decide) ?_
    refine x_iconst F (v := 0) dX11_wordOf_204 (by decide) ?_
    obtain ⟨⟨x205, M205⟩, c205, h⟩ := bdS h
    dsimp only at h
    refine x_callS F (As := [.int 104, .int 111, .int 117, .int 114, .int 0, .int 0]) (rest := []) (res := (some (.long x205))) (k_X11_spelt l b D cy N 104 111 117 114 0 0 M _ _ c205) wl_884 wl_885 wl_854 wl_882 (hd_X11_spelt).2 ⟨Nat.le_of_ble_eq_true rfl, Nat.le_of_ble_eq_true rfl⟩ ⟨Nat.le_refl _, Nat.le_refl _⟩ (Nat.le_of_ble_eq_true rfl) rfl dX11_wordOf_205 ?_
    obtain ⟨rfl, rfl⟩ := retS h
    exact x_lret F hr hl dX11_wordOf_208
  rw [if_neg c1_7] at h
  by_cases c1_8 : v0 = 8
  · rw [if_pos c1_8] at h
    refine x_tableIn F (off := 208) (tgt := 209) dX11_wordOf_1 (by rw [c1_8]; decide) (by rw [c1_8]; decide) (by rw [c1_8]; decide) (by decide) ?_
    refine x_bipush F (v := 111) dX11_wordOf_209 (by decide) ?_
    refine x_bipush F (v := 114) dX11_wordOf_211 (by decide) ?_
    refine x_iconst F (v := 0) dX11_wordOf_213 (by decide) ?_
    refine x_iconst F (v := 0) dX11_wordOf_214 (by decide) ?_
    refine x_iconst F (v := 0) dX11_wordOf_215 (by decide) ?_
    refine x_iconst F (v := 0) dX11_wordOf_216 (by decide) ?_
    obtain ⟨⟨x217, M217⟩, c217, h⟩ := bdS h
    dsimp only at h
    refine x_callS F (As := [.int 111, .int 114, .int 0, .int 0, .int 0, .int 0]) (rest := []) (res := (some (.long x217))) (k_X11_spelt l b D cy N 111 114 0 0 0 0 M _ _ c217) wl_884 wl_885 wl_854 wl_882 (hd_X11_spelt).2 ⟨Nat.le_of_ble_eq_true rfl, Nat.le_of_ble_eq_true rfl⟩ ⟨Nat.le_refl _, Nat.le_refl _⟩ (Nat.le_of_ble_eq_true rfl) rfl dX11_wordOf_217 ?_
    obtain ⟨rfl, rfl⟩ := retS h
    exact x_lret F hr hl dX11_wordOf_220
  rw [if_neg c1_8] at h
  by_cases c1_9 : v0 = 9
  · rw [if_pos c1_9] at h
    refine x_tableIn F (off := 220) (tgt := 221) dX11_wordOf_1 (by rw [c1_9]; decide) (by rw [c1_9]; decide) (by rw [c1_9]; decide) (by decide) ?_
    refine x_bipush F (v := 97) dX11_wordOf_221 (by decide) ?_
    refine x_bipush F (v := 110) dX11_wordOf_223 (by decide) ?_
    refine x_bipush F (v := 100) dX11_wordOf_225 (by decide) ?_
    refine x_iconst F (v := 0) dX11_wordOf_227 (by decide) ?_
    refine x_iconst F (v := 0) dX11_wordOf_228 (by decide) ?_
    refine x_iconst F (v := 0) dX11_wordOf_229 (by decide) ?_
    obtain ⟨⟨x230, M230⟩, c230, h⟩ := bdS h
    dsimp only at h
    refine x_callS F (As := [.int 97, .int 110, .int 100, .int 0, .int 0, .int 0]) (rest := []) (res := (some (.long x230))) (k_X11_spelt l b D cy N 97 110 100 0 0 0 M _ _ c230) wl_884 wl_885 wl_854 wl_882 (hd_X11_spelt).2 ⟨Nat.le_of_ble_eq_true rfl, Nat.le_of_ble_eq_true rfl⟩ ⟨Nat.le_refl _, Nat.le_refl _⟩ (Nat.le_of_ble_eq_true rfl) rfl dX11_wordOf_230 ?_
    obtain ⟨rfl, rfl⟩ := retS h
    exact x_lret F hr hl dX11_wordOf_233
  rw [if_neg c1_9] at h
  by_cases c1_10 : v0 = 10
  · rw [if_pos c1_10] at h
    refine x_tableIn F (off := 233) (tgt := 234) dX11_wordOf_1 (by rw [c1_10]; decide) (by rw [c1_10]; decide) (by rw [c1_10]; decide) (by decide) ?_
    refine x_bipush F (v := 110) dX11_wordOf_234 (by decide) ?_
    refine x_bipush F (v := 111) dX11_wordOf_236 (by decide) ?_
    refine x_bipush F (v := 116) dX11_wordOf_238 (by decide) ?_
    refine x_iconst F (v := 0) dX11_wordOf_240 (by decide) ?_
    refine x_iconst F (v := 0) dX11_wordOf_241 (by decide) ?_
    refine x_iconst F (v := 0) dX11_wordOf_242 (by decide) ?_
    obtain ⟨⟨x243, M243⟩, c243, h⟩ := bdS h
    dsimp only at h
    refine x_callS F (As := [.int 110, .int 111, .int 116, .int 0, .int 0, .int 0]) (rest := []) (res := (some (.long x243))) (k_X11_spelt l b D cy N 110 111 116 0 0 0 M _ _ c243) wl_884 wl_885 wl_854 wl_882 (hd_X11_spelt).2 ⟨Nat.le_of_ble_eq_true rfl, Nat.le_of_ble_eq_true rfl⟩ ⟨Nat.le_refl _, Nat.le_refl _⟩ (Nat.le_of_ble_eq_true rfl) rfl dX11_wordOf_243 ?_
    obtain ⟨rfl, rfl⟩ := retS h
    exact x_lret F hr hl dX11_wordOf_246
  rw [if_neg c1_10] at h
  by_cases c1_11 : v0 = 11
  · rw [if_pos c1_11] at h
    refine x_tableIn F (off := 246) (tgt := 247) dX11_wordOf_1 (by rw [c1_11]; decide) (by rw [c1_11]; decide) (by rw [c1_11]; decide) (by decide) ?_
    refine x_bipush F (v := 98) dX11_wordOf_247 (by decide) ?_
    refine x_bipush F (v := 97) dX11_wordOf_249 (by decide) ?_
    refine x_bipush F (v := 114) dX11_wordOf_251 (by decide) ?_
    refine x_bipush F (v := 101) dX11_wordOf_253 (by decide) ?_
    refine x_iconst F (v := 0) dX11_wordOf_255 (by decide) ?_
    refine x_iconst F (v := 0) dX11_wordOf_256 (by decide) ?_
    obtain ⟨⟨x257, M257⟩, c257, h⟩ := bdS h
    dsimp only at h
    refine x_callS F (As := [.int 98, .int 97, .int 114, .int 101, .int 0, .int 0]) (rest := []) (res := (some (.long x257))) (k_X11_spelt l b D cy N 98 97 114 101 0 0 M _ _ c257) wl_884 wl_885 wl_854 wl_882 (hd_X11_spelt).2 ⟨Nat.le_of_ble_eq_true rfl, Nat.le_of_ble_eq_true rfl⟩ ⟨Nat.le_refl _, Nat.le_refl _⟩ (Nat.le_of_ble_eq_true rfl) rfl dX11_wordOf_257 ?_
    obtain ⟨rfl, rfl⟩ := retS h
    exact x_lret F hr hl dX11_wordOf_260
  rw [if_neg c1_11] at h
  by_cases c1_12 : v0 = 12
  · rw [if_pos c1_12] at h
    refine x_tableIn F (off := 260) (tgt := 261) dX11_wordOf_1 (by rw [c1_12]; decide) (by rw [c1_12]; decide) (by rw [c1_12]; decide) (by decide) ?_
    refine x_bipush F (v := 102) dX11_wordOf_261 (by decide) ?_
    refine x_bipush F (v := 117) dX11_wordOf_263 (by decide) ?_
    refine x_bipush F (v := 108) dX11_wordOf_265 (by decide) ?_
    refine x_bipush F (v := 108) dX11_wordOf_267 (by decide) ?_
    refine x_iconst F (v := 0) dX11_wordOf_269 (by decide) ?_
    refine x_iconst F (v := 0) dX11_wordOf_270 (by decide) ?_
    obtain ⟨⟨x271, M271⟩, c271, h⟩ := bdS h
    dsimp only at h
    refine x_callS F (As := [.int 102, .int 117, .int 108, .int 108, .int 0, .int 0]) (rest := []) (res := (some (.long x271))) (k_X11_spelt l b D cy N 102 117 108 108 0 0 M _ _ c271) wl_884 wl_885 wl_854 wl_882 (hd_X11_spelt).2 ⟨Nat.le_of_ble_eq_true rfl, Nat.le_of_ble_eq_true rfl⟩ ⟨Nat.le_refl _, Nat.le_refl _⟩ (Nat.le_of_ble_eq_true rfl) rfl dX11_wordOf_271 ?_
    obtain ⟨rfl, rfl⟩ := retS h
    exact x_lret F hr hl dX11_wordOf_274
  rw [if_neg c1_12] at h
  by_cases c1_13 : v0 = 13
  · rw [if_pos c1_13] at h
    refine x_tableIn F (off := 274) (tgt := 275) dX11_wordOf_1 (by rw [c1_13]; decide) (by rw [c1_13]; decide) (by rw [c1_13]; decide) (by decide) ?_
    refine x_bipush F (v := 119) dX11_wordOf_275 (by decide) ?_
    refine x_bipush F (v := 101) dX11_wordOf_277 (by decide) ?_
    refine x_bipush F (v := 116) dX11_wordOf_279 (by decide) ?_
    refine x_iconst F (v := 0) dX11_wordOf_281 (by decide) ?_
    refine x_iconst F (v := 0) dX11_wordOf_282 (by decide) ?_
    refine x_iconst F (v := 0) dX11_wordOf_283 (by decide) ?_
    obtain ⟨⟨x284, M284⟩, c284, h⟩ := bdS h
    dsimp only at h
    refine x_callS F (As := [.int 119, .int 101, .int 116, .int 0, .int 0, .int 0]) (rest := []) (res := (some (.long x284))) (k_X11_spelt l b D cy N 119 101 116 0 0 0 M _ _ c284) wl_884 wl_885 wl_854 wl_882 (hd_X11_spelt).2 ⟨Nat.le_of_ble_eq_true rfl, Nat.le_of_ble_eq_true rfl⟩ ⟨Nat.le_refl _, Nat.le_refl _⟩ (Nat.le_of_ble_eq_true rfl) rfl dX11_wordOf_284 ?_
    obtain ⟨rfl, rfl⟩ := retS h
    exact x_lret F hr hl dX11_wordOf_287
  rw [if_neg c1_13] at h
  by_cases c1_14 : v0 = 14
  · rw [if_pos c1_14] at h
    refine x_tableIn F (off := 287) (tgt := 288) dX11_wordOf_1 (by rw [c1_14]; decide) (by rw [c1_14]; decide) (by rw [c1_14]; decide) (by decide) ?_
    refine x_bipush F (v := 104) dX11_wordOf_288 (by decide) ?_
    refine x_bipush F (v := 111) dX11_wordOf_290 (by decide) ?_
    refine x_bipush F (v := 108) dX11_wordOf_292 (by decide) ?_
    refine x_bipush F (v := 100) dX11_wordOf_294 (by decide) ?_
    refine x_bipush F (v := 115) dX11_wordOf_296 (by decide) ?_
    refine x_iconst F (v := 0) dX11_wordOf_298 (by decide) ?_
    obtain ⟨⟨x299, M299⟩, c299, h⟩ := bdS h
    dsimp only at h
    refine x_callS F (As := [.int 104, .int 111, .int 108, .int 100, .int 115, .int 0]) (rest := []) (res := (some (.long x299))) (k_X11_spelt l b D cy N 104 111 108 100 115 0 M _ _ c299) wl_884 wl_885 wl_854 wl_882 (hd_X11_spelt).2 ⟨Nat.le_of_ble_eq_true rfl, Nat.le_of_ble_eq_true rfl⟩ ⟨Nat.le_refl _, Nat.le_refl _⟩ (Nat.le_of_ble_eq_true rfl) rfl dX11_wordOf_299 ?_
    obtain ⟨rfl, rfl⟩ := retS h
    exact x_lret F hr hl dX11_wordOf_302
  rw [if_neg c1_14] at h
  by_cases c1_15 : v0 = 15
  · rw [if_pos c1_15] at h
    refine x_tableIn F (off := 302) (tgt := 303) dX11_wordOf_1 (by rw [c1_15]; decide) (by rw [c1_15]; decide) (by rw [c1_15]; decide) (by decide) ?_
    refine x_bipush F (v := 98) dX11_wordOf_303 (by decide) ?_
    refine x_bipush F (v := 121) dX11_wordOf_305 (by decide) ?_
    refine x_iconst F (v := 0) dX11_wordOf_307 (by decide) ?_
    refine x_iconst F (v := 0) dX11_wordOf_308 (by decide) ?_
    refine x_iconst F (v := 0) dX11_wordOf_309 (by decide) ?_
    refine x_iconst F (v := 0) dX11_wordOf_310 (by decide) ?_
    obtain ⟨⟨x311, M311⟩, c311, h⟩ := bdS h
    dsimp only at h
    refine x_callS F (As := [.int 98, .int 121, .int 0, .int 0, .int 0, .int 0]) (rest := []) (res := (some (.long x311))) (k_X11_spelt l b D cy N 98 121 0 0 0 0 M _ _ c311) wl_884 wl_885 wl_854 wl_882 (hd_X11_spelt).2 ⟨Nat.le_of_ble_eq_true rfl, Nat.le_of_ble_eq_true rfl⟩ ⟨Nat.le_refl _, Nat.le_refl _⟩ (Nat.le_of_ble_eq_true rfl) rfl dX11_wordOf_311 ?_
    obtain ⟨rfl, rfl⟩ := retS h
    exact x_lret F hr hl dX11_wordOf_314
  rw [if_neg c1_15] at h
  by_cases c1_16 : v0 = 16
  · rw [if_pos c1_16] at h
    refine x_tableIn F (off := 314) (tgt := 315) dX11_wordOf_1 (by rw [c1_16]; decide) (by rw [c1_16]; decide) (by rw [c1_16]; decide) (by decide) ?_
    refine x_bipush F (v := 104) dX11_wordOf_315 (by decide) ?_
    refine x_bipush F (v := 101) dX11_wordOf_317 (by decide) ?_
    refine x_bipush F (v := 105) dX11_wordOf_319 (by decide) ?_
    refine x_bipush F (v := 103) dX11_wordOf_321 (by decide) ?_
    refine x_bipush F (v := 104) dX11_wordOf_323 (by decide) ?_
    refine x_bipush F (v := 116) dX11_wordOf_325 (by decide) ?_
    obtain ⟨⟨x327, M327⟩, c327, h⟩ := bdS h
    dsimp only at h
    refine x_callS F (As := [.int 104, .int 101, .int 105, .int 103, .int 104, .int 116]) (rest := []) (res := (some (.long x327))) (k_X11_spelt l b D cy N 104 101 105 103 104 116 M _ _ c327) wl_884 wl_885 wl_854 wl_882 (hd_X11_spelt).2 ⟨Nat.le_of_ble_eq_true rfl, Nat.le_of_ble_eq_true rfl⟩ ⟨Nat.le_refl _, Nat.le_refl _⟩ (Nat.le_of_ble_eq_true rfl) rfl dX11_wordOf_327 ?_
    obtain ⟨rfl, rfl⟩ := retS h
    exact x_lret F hr hl dX11_wordOf_330
  rw [if_neg c1_16] at h
  by_cases c1_17 : v0 = 17
  · rw [if_pos c1_17] at h
    refine x_tableIn F (off := 330) (tgt := 331) dX11_wordOf_1 (by rw [c1_17]; decide) (by rw [c1_17]; decide) (by rw [c1_17]; decide) (by decide) ?_
    refine x_bipush F (v := 115) dX11_wordOf_331 (by decide) ?_
    refine x_bipush F (v := 105) dX11_wordOf_333 (by decide) ?_
    refine x_bipush F (v := 103) dX11_wordOf_335 (by decide) ?_
    refine x_bipush F (v := 110) dX11_wordOf_337 (by decide) ?_
    refine x_bipush F (v := 115) dX11_wordOf_339 (by decide) ?_
    refine x_iconst F (v := 0) dX11_wordOf_341 (by decide) ?_
    obtain ⟨⟨x342, M342⟩, c342, h⟩ := bdS h
    dsimp only at h
    refine x_callS F (As := [.int 115, .int 105, .int 103, .int 110, .int 115, .int 0]) (rest := []) (res := (some (.long x342))) (k_X11_spelt l b D cy N 115 105 103 110 115 0 M _ _ c342) wl_884 wl_885 wl_854 wl_882 (hd_X11_spelt).2 ⟨Nat.le_of_ble_eq_true rfl, Nat.le_of_ble_eq_true rfl⟩ ⟨Nat.le_refl _, Nat.le_refl _⟩ (Nat.le_of_ble_eq_true rfl) rfl dX11_wordOf_342 ?_
    obtain ⟨rfl, rfl⟩ := retS h
    exact x_lret F hr hl dX11_wordOf_345
  rw [if_neg c1_17] at h
  by_cases c1_18 : v0 = 18
  · rw [if_pos c1_18] at h
    refine x_tableIn F (off := 345) (tgt := 346) dX11_wordOf_1 (by rw [c1_18]; decide) (by rw [c1_18]; decide) (by rw [c1_18]; decide) (by decide) ?_
    refine x_bipush F (v := 119) dX11_wordOf_346 (by decide) ?_
    refine x_bipush F (v := 97) dX11_wordOf_348 (by decide) ?_
    refine x_bipush F (v := 115) dX11_wordOf_350 (by decide) ?_
    refine x_bipush F (v := 104) dX11_wordOf_352 (by decide) ?_
    refine x_bipush F (v := 101) dX11_wordOf_354 (by decide) ?_
    refine x_bipush F (v := 100) dX11_wordOf_356 (by decide) ?_
    obtain ⟨⟨x358, M358⟩, c358, h⟩ := bdS h
    dsimp only at h
    refine x_callS F (As := [.int 119, .int 97, .int 115, .int 104, .int 101, .int 100]) (rest := []) (res := (some (.long x358))) (k_X11_spelt l b D cy N 119 97 115 104 101 100 M _ _ c358) wl_884 wl_885 wl_854 wl_882 (hd_X11_spelt).2 ⟨Nat.le_of_ble_eq_true rfl, Nat.le_of_ble_eq_true rfl⟩ ⟨Nat.le_refl _, Nat.le_refl _⟩ (Nat.le_of_ble_eq_true rfl) rfl dX11_wordOf_358 ?_
    obtain ⟨rfl, rfl⟩ := retS h
    exact x_lret F hr hl dX11_wordOf_361
  rw [if_neg c1_18] at h
  refine x_tableOut F (tgt := 362) dX11_wordOf_1 (by have q0 := sw_ne (t := 0) c1_0 (by decide); have q1 := sw_ne (t := 1) c1_1 (by decide); have q2 := sw_ne (t := 2) c1_2 (by decide); have q3 := sw_ne (t := 3) c1_3 (by decide); have q4 := sw_ne (t := 4) c1_4 (by decide); have q5 := sw_ne (t := 5) c1_5 (by decide); have q6 := sw_ne (t := 6) c1_6 (by decide); have q7 := sw_ne (t := 7) c1_7 (by decide); have q8 := sw_ne (t := 8) c1_8 (by decide); have q9 := sw_ne (t := 9) c1_9 (by decide); have q10 := sw_ne (t := 10) c1_10 (by decide); have q11 := sw_ne (t := 11) c1_11 (by decide); have q12 := sw_ne (t := 12) c1_12 (by decide); have q13 := sw_ne (t := 13) c1_13 (by decide); have q14 := sw_ne (t := 14) c1_14 (by decide); have q15 := sw_ne (t := 15) c1_15 (by decide); have q16 := sw_ne (t := 16) c1_16 (by decide); have q17 := sw_ne (t := 17) c1_17 (by decide); have q18 := sw_ne (t := 18) c1_18 (by decide); omega) (by decide) ?_
  refine x_bipush F (v := 110) dX11_wordOf_362 (by decide) ?_
  refine x_bipush F (v := 117) dX11_wordOf_364 (by decide) ?_
  refine x_bipush F (v := 109) dX11_wordOf_366 (by decide) ?_
  refine x_bipush F (v := 98) dX11_wordOf_368 (by decide) ?_
  refine x_bipush F (v := 101) dX11_wordOf_370 (by decide) ?_
  refine x_bipush F (v := 114) dX11_wordOf_372 (by decide) ?_
  obtain ⟨⟨x374, M374⟩, c374, h⟩ := bdS h
  dsimp only at h
  refine x_callS F (As := [.int 110, .int 117, .int 109, .int 98, .int 101, .int 114]) (rest := []) (res := (some (.long x374))) (k_X11_spelt l b D cy N 110 117 109 98 101 114 M _ _ c374) wl_884 wl_885 wl_854 wl_882 (hd_X11_spelt).2 ⟨Nat.le_of_ble_eq_true rfl, Nat.le_of_ble_eq_true rfl⟩ ⟨Nat.le_refl _, Nat.le_refl _⟩ (Nat.le_of_ble_eq_true rfl) rfl dX11_wordOf_374 ?_
  obtain ⟨rfl, rfl⟩ := retS h
  exact x_lret F hr hl dX11_wordOf_377
theorem hd_X11_wordOf : (yX11_wordOf).cls = RX11 ∧ (yX11_wordOf).cls ≠ "java/lang/invoke/MethodHandle" ∧ (yX11_wordOf).cls ≠ "java/lang/invoke/VarHandle" ∧ (parseMethodDescriptor (yX11_wordOf).desc).map (fun d => d.parameters.length) = some 1 := by decide +kernel
theorem dX11_isWord_0 : decode cX11_isWord 0 = .ok (.aload_n 0, 1) := by decide +kernel
theorem dX11_isWord_1 : decode cX11_isWord 1 = .ok (.getfield 30, 3) := by decide +kernel
theorem dX11_isWord_4 : decode cX11_isWord 4 = .ok (.iconst 2, 1) := by decide +kernel
theorem dX11_isWord_5 : decode cX11_isWord 5 = .ok (.if_icmp .ne 19, 3) := by decide +kernel
theorem dX11_isWord_8 : decode cX11_isWord 8 = .ok (.aload_n 0, 1) := by decide +kernel
theorem dX11_isWord_9 : decode cX11_isWord 9 = .ok (.getfield 43, 3) := by decide +kernel
theorem dX11_isWord_12 : decode cX11_isWord 12 = .ok (.iload_n 1, 1) := by decide +kernel
theorem dX11_isWord_13 : decode cX11_isWord 13 = .ok (.invokestatic 62, 3) := by decide +kernel
theorem dX11_isWord_16 : decode cX11_isWord 16 = .ok (.lcmp, 1) := by decide +kernel
theorem dX11_isWord_17 : decode cX11_isWord 17 = .ok (.ifCond .ne 7, 3) := by decide +kernel
theorem dX11_isWord_20 : decode cX11_isWord 20 = .ok (.iconst 1, 1) := by decide +kernel
theorem dX11_isWord_21 : decode cX11_isWord 21 = .ok (.goto 4, 3) := by decide +kernel
theorem dX11_isWord_24 : decode cX11_isWord 24 = .ok (.iconst 0, 1) := by decide +kernel
theorem dX11_isWord_25 : decode cX11_isWord 25 = .ok (.ireturn, 1) := by decide +kernel
def fX11_isWord (N : Nat) (v0 : Nat) (v1 : Int32) (M : Mem) : Option (Int32 × Mem) := ((fI M 11 v0 7).bind fun x1 => (if x1 = 2 then ((fL M 11 v0 12).bind fun x9 => ((fX11_wordOf N v1 M).bind fun (x13, M13) => (if (lg_cmp x9 x13) = 0 then some (1, M13) else some (0, M13)))) else some (0, M)))
set_option maxHeartbeats 4000000 in
set_option maxRecDepth 100000 in
theorem k_X11_isWord (l : Launch) (b : Nat) (D : va_G) (cy : Nat → ClassId) (N : Nat) (v0 : Nat) (v1 : Int32) (M : Mem) (r : Int32) (Mf : Mem) (h : fX11_isWord N v0 v1 M = some (r, Mf)) : Ct l yX11_isWord cX11_isWord 2 (some .boolean) 3 0 0 b D cy [.ref (b + v0), .int v1] M (some (.int r)) Mf := by
  refine Ct_of (own := RX11) (by decide) rfl (Nat.le_of_ble_eq_true rfl) ?_
  intro p e s m args below meth c F hr hl hmn
  unfold fX11_isWord at h
  show X p l e ({ frames := 3, cells := 0, slots := 0, locals := 100 * 3 }) s m args below meth c (MQ below (Qm b D cy (some (.int r)) Mf) args s 0 0 (fun q => b ≤ q)) 2 b D cy 0 0 M 0 [(0, .ref (b + v0)), (1, .int v1)] []
  refine x_aload_n F dX11_isWord_0 rfl 0 rfl ?_
  obtain ⟨x1, c1, h⟩ := bdS h
  refine x_getI F (ci := 11) (C := RX11) (T := TX11) (N := 45) rfl ⟨by decide, rfl⟩ inU11 7 (by decide) (fun _ _ _ => rfl) wl_869 c1 dX11_isWord_1 ?_
  refine x_iconst F (v := 2) dX11_isWord_4 (by decide) ?_
  refine x_icmp_ne F (tgt := 24) dX11_isWord_5 (by decide) (fun c5 => ?_) (fun c5 => ?_)
  · rw [if_neg c5] at h
    refine x_iconst F (v := 0) dX11_isWord_24 (by decide) ?_
    obtain ⟨rfl, rfl⟩ := retS h
    exact x_zret F hr hl (by decide) dX11_isWord_25
  · rw [if_pos c5] at h
    refine x_aload_n F dX11_isWord_8 rfl 0 rfl ?_
    obtain ⟨x9, c9, h⟩ := bdS h
    refine x_getL F (ci := 11) (C := RX11) (T := TX11) (N := 45) rfl ⟨by decide, rfl⟩ inU11 12 (by decide) (fun _ _ _ => rfl) wl_871 c9 dX11_isWord_9 ?_
    refine x_iload_n F dX11_isWord_12 rfl 1 rfl ?_
    obtain ⟨⟨x13, M13⟩, c13, h⟩ := bdS h
    dsimp only at h
    refine x_callS F (As := [.int v1]) (rest := [.long x9]) (res := (some (.long x13))) (k_X11_wordOf l b D cy N v1 M _ _ c13) wl_887 wl_888 wl_854 wl_883 (hd_X11_wordOf).2 ⟨Nat.le_of_ble_eq_true rfl, Nat.le_of_ble_eq_true rfl⟩ ⟨Nat.le_refl _, Nat.le_refl _⟩ (Nat.le_of_ble_eq_true rfl) rfl dX11_isWord_13 ?_
    refine x_lcmp F dX11_isWord_16 ?_
    refine x_if_ne F (tgt := 24) dX11_isWord_17 (by decide) (fun c17 => ?_) (fun c17 => ?_)
    · rw [if_neg c17] at h
      refine x_iconst F (v := 0) dX11_isWord_24 (by decide) ?_
      obtain ⟨rfl, rfl⟩ := retS h
      exact x_zret F hr hl (by decide) dX11_isWord_25
    · rw [if_pos c17] at h
      refine x_iconst F (v := 1) dX11_isWord_20 (by decide) ?_
      refine x_goto F (tgt := 25) dX11_isWord_21 (by decide) ?_
      obtain ⟨rfl, rfl⟩ := retS h
      exact x_zret F hr hl (by decide) dX11_isWord_25
theorem dX11_isSign_0 : decode cX11_isSign 0 = .ok (.aload_n 0, 1) := by decide +kernel
theorem dX11_isSign_1 : decode cX11_isSign 1 = .ok (.getfield 30, 3) := by decide +kernel
theorem dX11_isSign_4 : decode cX11_isSign 4 = .ok (.iconst 4, 1) := by decide +kernel
theorem dX11_isSign_5 : decode cX11_isSign 5 = .ok (.if_icmp .ne 15, 3) := by decide +kernel
theorem dX11_isSign_8 : decode cX11_isSign 8 = .ok (.aload_n 0, 1) := by decide +kernel
theorem dX11_isSign_9 : decode cX11_isSign 9 = .ok (.getfield 40, 3) := by decide +kernel
theorem dX11_isSign_12 : decode cX11_isSign 12 = .ok (.iload_n 1, 1) := by decide +kernel
theorem dX11_isSign_13 : decode cX11_isSign 13 = .ok (.if_icmp .ne 7, 3) := by decide +kernel
theorem dX11_isSign_16 : decode cX11_isSign 16 = .ok (.iconst 1, 1) := by decide +kernel
theorem dX11_isSign_17 : decode cX11_isSign 17 = .ok (.goto 4, 3) := by decide +kernel
theorem dX11_isSign_20 : decode cX11_isSign 20 = .ok (.iconst 0, 1) := by decide +kernel
theorem dX11_isSign_21 : decode cX11_isSign 21 = .ok (.ireturn, 1) := by decide +kernel
def fX11_isSign (N : Nat) (v0 : Nat) (v1 : Int32) (M : Mem) : Option (Int32 × Mem) := ((fI M 11 v0 7).bind fun x1 => (if x1 = 4 then ((fI M 11 v0 9).bind fun x9 => (if x9 = v1 then some (1, M) else some (0, M))) else some (0, M)))
set_option maxHeartbeats 4000000 in
set_option maxRecDepth 100000 in
theorem k_X11_isSign (l : Launch) (b : Nat) (D : va_G) (cy : Nat → ClassId) (N : Nat) (v0 : Nat) (v1 : Int32) (M : Mem) (r : Int32) (Mf : Mem) (h : fX11_isSign N v0 v1 M = some (r, Mf)) : Ct l yX11_isSign cX11_isSign 2 (some .boolean) 1 0 0 b D cy [.ref (b + v0), .int v1] M (some (.int r)) Mf := by
  refine Ct_of (own := RX11) (by decide) rfl (Nat.le_of_ble_eq_true rfl) ?_
  intro p e s m args below meth c F hr hl hmn
  unfold fX11_isSign at h
  show X p l e ({ frames := 1, cells := 0, slots := 0, locals := 100 * 1 }) s m args below meth c (MQ below (Qm b D cy (some (.int r)) Mf) args s 0 0 (fun q => b ≤ q)) 2 b D cy 0 0 M 0 [(0, .ref (b + v0)), (1, .int v1)] []
  refine x_aload_n F dX11_isSign_0 rfl 0 rfl ?_
  obtain ⟨x1, c1, h⟩ := bdS h
  refine x_getI F (ci := 11) (C := RX11) (T := TX11) (N := 45) rfl ⟨by decide, rfl⟩ inU11 7 (by decide) (fun _ _ _ => rfl) wl_869 c1 dX11_isSign_1 ?_
  refine x_iconst F (v := 4) dX11_isSign_4 (by decide) ?_
  refine x_icmp_ne F (tgt := 20) dX11_isSign_5 (by decide) (fun c5 => ?_) (fun c5 => ?_)
  · rw [if_neg c5] at h
    refine x_iconst F (v := 0) dX11_isSign_20 (by decide) ?_
    obtain ⟨rfl, rfl⟩ := retS h
    exact x_zret F hr hl (by decide) dX11_isSign_21
  · rw [if_pos c5] at h
    refine x_aload_n F dX11_isSign_8 rfl 0 rfl ?_
    obtain ⟨x9, c9, h⟩ := bdS h
    refine x_getI F (ci := 11) (C := RX11) (T := TX11) (N := 45) rfl ⟨by decide, rfl⟩ inU11 9 (by decide) (fun _ _ _ => rfl) wl_870 c9 dX11_isSign_9 ?_
    refine x_iload_n F dX11_isSign_12 rfl 1 rfl ?_
    refine x_icmp_ne F (tgt := 20) dX11_isSign_13 (by decide) (fun c13 => ?_) (fun c13 => ?_)
    · rw [if_neg c13] at h
      refine x_iconst F (v := 0) dX11_isSign_20 (by decide) ?_
      obtain ⟨rfl, rfl⟩ := retS h
      exact x_zret F hr hl (by decide) dX11_isSign_21
    · rw [if_pos c13] at h
      refine x_iconst F (v := 1) dX11_isSign_16 (by decide) ?_
      refine x_goto F (tgt := 21) dX11_isSign_17 (by decide) ?_
      obtain ⟨rfl, rfl⟩ := retS h
      exact x_zret F hr hl (by decide) dX11_isSign_21
theorem dX11_isName_0 : decode cX11_isName 0 = .ok (.aload_n 0, 1) := by decide +kernel
theorem dX11_isName_1 : decode cX11_isName 1 = .ok (.getfield 30, 3) := by decide +kernel
theorem dX11_isName_4 : decode cX11_isName 4 = .ok (.iconst 2, 1) := by decide +kernel
theorem dX11_isName_5 : decode cX11_isName 5 = .ok (.if_icmp .eq 5, 3) := by decide +kernel
theorem dX11_isName_8 : decode cX11_isName 8 = .ok (.iconst 0, 1) := by decide +kernel
theorem dX11_isName_9 : decode cX11_isName 9 = .ok (.ireturn, 1) := by decide +kernel
theorem dX11_isName_10 : decode cX11_isName 10 = .ok (.iconst 0, 1) := by decide +kernel
theorem dX11_isName_11 : decode cX11_isName 11 = .ok (.istore_n 1, 1) := by decide +kernel
theorem dX11_isName_12 : decode cX11_isName 12 = .ok (.iload_n 1, 1) := by decide +kernel
theorem dX11_isName_13 : decode cX11_isName 13 = .ok (.bipush 19, 2) := by decide +kernel
theorem dX11_isName_15 : decode cX11_isName 15 = .ok (.if_icmp .gt 23, 3) := by decide +kernel
theorem dX11_isName_18 : decode cX11_isName 18 = .ok (.aload_n 0, 1) := by decide +kernel
theorem dX11_isName_19 : decode cX11_isName 19 = .ok (.getfield 43, 3) := by decide +kernel
theorem dX11_isName_22 : decode cX11_isName 22 = .ok (.iload_n 1, 1) := by decide +kernel
theorem dX11_isName_23 : decode cX11_isName 23 = .ok (.invokestatic 62, 3) := by decide +kernel
theorem dX11_isName_26 : decode cX11_isName 26 = .ok (.lcmp, 1) := by decide +kernel
theorem dX11_isName_27 : decode cX11_isName 27 = .ok (.ifCond .ne 5, 3) := by decide +kernel
theorem dX11_isName_30 : decode cX11_isName 30 = .ok (.iconst 0, 1) := by decide +kernel
theorem dX11_isName_31 : decode cX11_isName 31 = .ok (.ireturn, 1) := by decide +kernel
theorem dX11_isName_32 : decode cX11_isName 32 = .ok (.iinc 1 1, 3) := by decide +kernel
theorem dX11_isName_35 : decode cX11_isName 35 = .ok (.goto (-23), 3) := by decide +kernel
theorem dX11_isName_38 : decode cX11_isName 38 = .ok (.iconst 1, 1) := by decide +kernel
theorem dX11_isName_39 : decode cX11_isName 39 = .ok (.ireturn, 1) := by decide +kernel
def fX11_isName_L12 (N : Nat) (v0 : Nat) : Nat → Int32 → Mem → Option (Int32 × Mem)
  | 0, _, _ => none
  | n + 1, v1, M => (if 19 < v1 then some (1, M) else ((fL M 11 v0 12).bind fun x19 => ((fX11_wordOf N v1 M).bind fun (x23, M23) => (if (lg_cmp x19 x23) = 0 then some (0, M23) else fX11_isName_L12 N v0 n (v1 + 1) M23))))
def fX11_isName (N : Nat) (v0 : Nat) (M : Mem) : Option (Int32 × Mem) := ((fI M 11 v0 7).bind fun x1 => (if x1 = 2 then ((fX11_isName_L12 N v0 N 0 M).bind fun o12 => some o12) else some (0, M)))
set_option maxHeartbeats 4000000 in
set_option maxRecDepth 100000 in
theorem k_X11_isName (l : Launch) (b : Nat) (D : va_G) (cy : Nat → ClassId) (N : Nat) (v0 : Nat) (M : Mem) (r : Int32) (Mf : Mem) (h : fX11_isName N v0 M = some (r, Mf)) : Ct l yX11_isName cX11_isName 2 (some .boolean) 3 0 0 b D cy [.ref (b + v0)] M (some (.int r)) Mf := by
  refine Ct_of (own := RX11) (by decide) rfl (Nat.le_of_ble_eq_true rfl) ?_
  intro p e s m args below meth c F hr hl hmn
  unfold fX11_isName at h
  show X p l e ({ frames := 3, cells := 0, slots := 0, locals := 100 * 3 }) s m args below meth c (MQ below (Qm b D cy (some (.int r)) Mf) args s 0 0 (fun q => b ≤ q)) 2 b D cy 0 0 M 0 [(0, .ref (b + v0))] []
  refine x_aload_n F dX11_isName_0 rfl 0 rfl ?_
  obtain ⟨x1, c1, h⟩ := bdS h
  refine x_getI F (ci := 11) (C := RX11) (T := TX11) (N := 45) rfl ⟨by decide, rfl⟩ inU11 7 (by decide) (fun _ _ _ => rfl) wl_869 c1 dX11_isName_1 ?_
  refine x_iconst F (v := 2) dX11_isName_4 (by decide) ?_
  refine x_icmp_eq F (tgt := 10) dX11_isName_5 (by decide) (fun c5 => ?_) (fun c5 => ?_)
  · rw [if_pos c5] at h
    refine x_iconst F (v := 0) dX11_isName_10 (by decide) ?_
    refine x_istore_n F (lv' := [(1, .int 0), (0, .ref (b + v0))]) dX11_isName_11 rfl (by decide) rfl ?_
    have L12 : ∀ (v0 : Nat) (n : Nat) (v1 : Int32) (M : Mem) (o : Int32 × Mem), fX11_isName_L12 N v0 n v1 M = some o → (∀ (r' : Int32) (M' : Mem), o = (r', M') → r' = r ∧ M' = Mf) → X p l e ({ frames := 3, cells := 0, slots := 0, locals := 100 * 3 }) s m args below meth c (MQ below (Qm b D cy (some (.int r)) Mf) args s 0 0 (fun q => b ≤ q)) 2 b D cy 0 0 M 12 [(0, .ref (b + v0)), (1, .int v1)] [] := by
      intro v0 n
      induction n with
      | zero => intro v1 M o h; exact absurd h (by rw [fX11_isName_L12]; exact fun z => by cases z)
      | succ n ih =>
        intro v1 M o h hR
        rw [fX11_isName_L12] at h
        refine x_iload_n F dX11_isName_12 rfl 1 rfl ?_
        refine x_bipush F (v := 19) dX11_isName_13 (by decide) ?_
        refine x_icmp_gt F (tgt := 38) dX11_isName_15 (by decide) (fun c15 => ?_) (fun c15 => ?_)
        · rw [if_pos c15] at h
          refine x_iconst F (v := 1) dX11_isName_38 (by decide) ?_
          obtain rfl := Option.some.inj h
          obtain ⟨rfl, rfl⟩ := hR _ _ rfl
          exact x_zret F hr hl (by decide) dX11_isName_39
        · rw [if_neg c15] at h
          refine x_aload_n F dX11_isName_18 rfl 0 rfl ?_
          obtain ⟨x19, c19, h⟩ := bdS h
          refine x_getL F (ci := 11) (C := RX11) (T := TX11) (N := 45) rfl ⟨by decide, rfl⟩ inU11 12 (by decide) (fun _ _ _ => rfl) wl_871 c19 dX11_isName_19 ?_
          refine x_iload_n F dX11_isName_22 rfl 1 rfl ?_
          obtain ⟨⟨x23, M23⟩, c23, h⟩ := bdS h
          dsimp only at h
          refine x_callS F (As := [.int v1]) (rest := [.long x19]) (res := (some (.long x23))) (k_X11_wordOf l b D cy N v1 M _ _ c23) wl_887 wl_888 wl_854 wl_883 (hd_X11_wordOf).2 ⟨Nat.le_of_ble_eq_true rfl, Nat.le_of_ble_eq_true rfl⟩ ⟨Nat.le_refl _, Nat.le_refl _⟩ (Nat.le_of_ble_eq_true rfl) rfl dX11_isName_23 ?_
          refine x_lcmp F dX11_isName_26 ?_
          refine x_if_ne F (tgt := 32) dX11_isName_27 (by decide) (fun c27 => ?_) (fun c27 => ?_)
          · rw [if_neg c27] at h
            refine x_iinc F (v := v1 + 1) (lv' := [(1, .int (v1 + 1)), (0, .ref (b + v0))]) dX11_isName_32 1 rfl rfl (by decide) rfl ?_
            refine x_goto F (tgt := 12) dX11_isName_35 (by decide) ?_
            refine x_sub [1, 0] rfl ?_
            exact ih (v1 + 1) M23 o h hR
          · rw [if_pos c27] at h
            refine x_iconst F (v := 0) dX11_isName_30 (by decide) ?_
            obtain rfl := Option.some.inj h
            obtain ⟨rfl, rfl⟩ := hR _ _ rfl
            exact x_zret F hr hl (by decide) dX11_isName_31
    obtain ⟨o12, h12, h⟩ := bdS h
    refine x_sub [1, 0] rfl ?_
    refine L12 v0 N 0 M o12 h12 (fun r' M' e => ?_)
    · subst e
      try dsimp only at h
      obtain ⟨rfl, rfl⟩ := retS h; exact ⟨rfl, rfl⟩
  · rw [if_neg c5] at h
    refine x_iconst F (v := 0) dX11_isName_8 (by decide) ?_
    obtain ⟨rfl, rfl⟩ := retS h
    exact x_zret F hr hl (by decide) dX11_isName_9
theorem dX11_bad_0 : decode cX11_bad 0 = .ok (.aload_n 0, 1) := by decide +kernel
theorem dX11_bad_1 : decode cX11_bad 1 = .ok (.aload_n 0, 1) := by decide +kernel
theorem dX11_bad_2 : decode cX11_bad 2 = .ok (.getfield 30, 3) := by decide +kernel
theorem dX11_bad_5 : decode cX11_bad 5 = .ok (.iconst 1, 1) := by decide +kernel
theorem dX11_bad_6 : decode cX11_bad 6 = .ok (.if_icmp .ne 7, 3) := by decide +kernel
theorem dX11_bad_9 : decode cX11_bad 9 = .ok (.iconst 1, 1) := by decide +kernel
theorem dX11_bad_10 : decode cX11_bad 10 = .ok (.goto 4, 3) := by decide +kernel
theorem dX11_bad_13 : decode cX11_bad 13 = .ok (.iload_n 1, 1) := by decide +kernel
theorem dX11_bad_14 : decode cX11_bad 14 = .ok (.putfield 66, 3) := by decide +kernel
theorem dX11_bad_17 : decode cX11_bad 17 = .ok (.aload_n 0, 1) := by decide +kernel
theorem dX11_bad_18 : decode cX11_bad 18 = .ok (.aload_n 0, 1) := by decide +kernel
theorem dX11_bad_19 : decode cX11_bad 19 = .ok (.getfield 24, 3) := by decide +kernel
theorem dX11_bad_22 : decode cX11_bad 22 = .ok (.putfield 69, 3) := by decide +kernel
theorem dX11_bad_25 : decode cX11_bad 25 = .ok (.iconst 0, 1) := by decide +kernel
theorem dX11_bad_26 : decode cX11_bad 26 = .ok (.ireturn, 1) := by decide +kernel
def fX11_bad_J14 (N : Nat) (v0 : Nat) (s0 : Int32) (s1 : Nat) (M : Mem) : Option (Int32 × Mem) := ((pI M 11 s1 10 s0).bind fun M14 => ((fI M14 11 v0 6).bind fun x19 => ((pI M14 11 v0 11 x19).bind fun M22 => some (0, M22))))
def fX11_bad (N : Nat) (v0 : Nat) (v1 : Int32) (M : Mem) : Option (Int32 × Mem) := ((fI M 11 v0 7).bind fun x2 => (if x2 = 1 then fX11_bad_J14 N v0 1 v0 M else fX11_bad_J14 N v0 v1 v0 M))
set_option maxHeartbeats 4000000 in
set_option maxRecDepth 100000 in
theorem k_X11_bad (l : Launch) (b : Nat) (D : va_G) (cy : Nat → ClassId) (N : Nat) (v0 : Nat) (v1 : Int32) (M : Mem) (r : Int32) (Mf : Mem) (h : fX11_bad N v0 v1 M = some (r, Mf)) : Ct l yX11_bad cX11_bad 2 (some .boolean) 1 0 0 b D cy [.ref (b + v0), .int v1] M (some (.int r)) Mf := by
  refine Ct_of (own := RX11) (by decide) rfl (Nat.le_of_ble_eq_true rfl) ?_
  intro p e s m args below meth c F hr hl hmn
  unfold fX11_bad at h
  have J14 : ∀ (v0 : Nat) (s0 : Int32) (s1 : Nat) (M : Mem), fX11_bad_J14 N v0 s0 s1 M = some (r, Mf) → X p l e ({ frames := 1, cells := 0, slots := 0, locals := 100 * 1 }) s m args below meth c (MQ below (Qm b D cy (some (.int r)) Mf) args s 0 0 (fun q => b ≤ q)) 2 b D cy 0 0 M 14 [(0, .ref (b + v0))] [.int s0, .ref (b + s1)] := by
    intro v0 s0 s1 M h
    unfold fX11_bad_J14 at h
    obtain ⟨M14, c14, h⟩ := bdS h
    refine x_putI F (ci := 11) (C := RX11) (T := TX11) (N := 45) rfl ⟨by decide, rfl⟩ inU11 tyX11_ok nmX11 10 (by decide) rfl rfl wl_892 c14 dX11_bad_14 ?_
    refine x_aload_n F dX11_bad_17 rfl 0 rfl ?_
    refine x_aload_n F dX11_bad_18 rfl 0 rfl ?_
    obtain ⟨x19, c19, h⟩ := bdS h
    refine x_getI F (ci := 11) (C := RX11) (T := TX11) (N := 45) rfl ⟨by decide, rfl⟩ inU11 6 (by decide) (fun _ _ _ => rfl) wl_867 c19 dX11_bad_19 ?_
    obtain ⟨M22, c22, h⟩ := bdS h
    refine x_putI F (ci := 11) (C := RX11) (T := TX11) (N := 45) rfl ⟨by decide, rfl⟩ inU11 tyX11_ok nmX11 11 (by decide) rfl rfl wl_893 c22 dX11_bad_22 ?_
    refine x_iconst F (v := 0) dX11_bad_25 (by decide) ?_
    obtain ⟨rfl, rfl⟩ := retS h
    exact x_zret F hr hl (by decide) dX11_bad_26
  show X p l e ({ frames := 1, cells := 0, slots := 0, locals := 100 * 1 }) s m args below meth c (MQ below (Qm b D cy (some (.int r)) Mf) args s 0 0 (fun q => b ≤ q)) 2 b D cy 0 0 M 0 [(0, .ref (b + v0)), (1, .int v1)] []
  refine x_aload_n F dX11_bad_0 rfl 0 rfl ?_
  refine x_aload_n F dX11_bad_1 rfl 0 rfl ?_
  obtain ⟨x2, c2, h⟩ := bdS h
  refine x_getI F (ci := 11) (C := RX11) (T := TX11) (N := 45) rfl ⟨by decide, rfl⟩ inU11 7 (by decide) (fun _ _ _ => rfl) wl_869 c2 dX11_bad_2 ?_
  refine x_iconst F (v := 1) dX11_bad_5 (by decide) ?_
  refine x_icmp_ne F (tgt := 13) dX11_bad_6 (by decide) (fun c6 => ?_) (fun c6 => ?_)
  · rw [if_neg c6] at h
    refine x_iload_n F dX11_bad_13 rfl 1 rfl ?_
    refine x_sub [0] rfl ?_
    exact J14 v0 v1 v0 M h
  · rw [if_pos c6] at h
    refine x_iconst F (v := 1) dX11_bad_9 (by decide) ?_
    refine x_goto F (tgt := 14) dX11_bad_10 (by decide) ?_
    refine x_sub [0] rfl ?_
    exact J14 v0 1 v0 M h
theorem hd_X11_isIn : (yX11_isIn).cls = RX11 ∧ (yX11_isIn).cls ≠ "java/lang/invoke/MethodHandle" ∧ (yX11_isIn).cls ≠ "java/lang/invoke/VarHandle" ∧ (parseMethodDescriptor (yX11_isIn).desc).map (fun d => d.parameters.length) = some 3 := by decide +kernel
theorem hd_X11_go : (yX11_go).cls = RX11 ∧ (yX11_go).cls ≠ "java/lang/invoke/MethodHandle" ∧ (yX11_go).cls ≠ "java/lang/invoke/VarHandle" ∧ (parseMethodDescriptor (yX11_go).desc).map (fun d => d.parameters.length) = some 0 := by decide +kernel
theorem hd_X11_bad : (yX11_bad).cls = RX11 ∧ (yX11_bad).cls ≠ "java/lang/invoke/MethodHandle" ∧ (yX11_bad).cls ≠ "java/lang/invoke/VarHandle" ∧ (parseMethodDescriptor (yX11_bad).desc).map (fun d => d.parameters.length) = some 1 := by decide +kernel
theorem dX11_readNumber_0 : decode cX11_readNumber 0 = .ok (.aload_n 0, 1) := by decide +kernel
theorem dX11_readNumber_1 : decode cX11_readNumber 1 = .ok (.getfield 30, 3) := by decide +kernel
theorem dX11_readNumber_4 : decode cX11_readNumber 4 = .ok (.iconst 3, 1) := by decide +kernel
theorem dX11_readNumber_5 : decode cX11_readNumber 5 = .ok (.if_icmp .eq 9, 3) := by decide +kernel
theorem dX11_readNumber_8 : decode cX11_readNumber 8 = .ok (.aload_n 0, 1) := by decide +kernel
theorem dX11_readNumber_9 : decode cX11_readNumber 9 = .ok (.iconst 1, 1) := by decide +kernel
theorem dX11_readNumber_10 : decode cX11_readNumber 10 = .ok (.invokevirtual 72, 3) := by decide +kernel
theorem dX11_readNumber_13 : decode cX11_readNumber 13 = .ok (.ireturn, 1) := by decide +kernel
theorem dX11_readNumber_14 : decode cX11_readNumber 14 = .ok (.aload_n 0, 1) := by decide +kernel
theorem dX11_readNumber_15 : decode cX11_readNumber 15 = .ok (.getfield 47, 3) := by decide +kernel
theorem dX11_readNumber_18 : decode cX11_readNumber 18 = .ok (.iload_n 1, 1) := by decide +kernel
theorem dX11_readNumber_19 : decode cX11_readNumber 19 = .ok (.iload_n 2, 1) := by decide +kernel
theorem dX11_readNumber_20 : decode cX11_readNumber 20 = .ok (.invokestatic 75, 3) := by decide +kernel
theorem dX11_readNumber_23 : decode cX11_readNumber 23 = .ok (.ifCond .ne 9, 3) := by decide +kernel
theorem dX11_readNumber_26 : decode cX11_readNumber 26 = .ok (.aload_n 0, 1) := by decide +kernel
theorem dX11_readNumber_27 : decode cX11_readNumber 27 = .ok (.iconst 2, 1) := by decide +kernel
theorem dX11_readNumber_28 : decode cX11_readNumber 28 = .ok (.invokevirtual 72, 3) := by decide +kernel
theorem dX11_readNumber_31 : decode cX11_readNumber 31 = .ok (.ireturn, 1) := by decide +kernel
theorem dX11_readNumber_32 : decode cX11_readNumber 32 = .ok (.aload_n 0, 1) := by decide +kernel
theorem dX11_readNumber_33 : decode cX11_readNumber 33 = .ok (.aload_n 0, 1) := by decide +kernel
theorem dX11_readNumber_34 : decode cX11_readNumber 34 = .ok (.getfield 47, 3) := by decide +kernel
theorem dX11_readNumber_37 : decode cX11_readNumber 37 = .ok (.putfield 79, 3) := by decide +kernel
theorem dX11_readNumber_40 : decode cX11_readNumber 40 = .ok (.aload_n 0, 1) := by decide +kernel
theorem dX11_readNumber_41 : decode cX11_readNumber 41 = .ok (.invokevirtual 82, 3) := by decide +kernel
theorem dX11_readNumber_44 : decode cX11_readNumber 44 = .ok (.iconst 1, 1) := by decide +kernel
theorem dX11_readNumber_45 : decode cX11_readNumber 45 = .ok (.ireturn, 1) := by decide +kernel
def fX11_readNumber (N : Nat) (v0 : Nat) (v1 : Int32) (v2 : Int32) (M : Mem) : Option (Int32 × Mem) := ((fI M 11 v0 7).bind fun x1 => (if x1 = 3 then ((fI M 11 v0 8).bind fun x15 => ((fX11_isIn N x15 v1 v2 M).bind fun (x20, M20) => (if x20 = 0 then (if mK M20 v0 = 12 then ((fX11_bad N v0 2 M20).bind fun (x28, M28) => (if vp_nar .boolean x28 = x28 then some (x28, M28) else none)) else none) else ((fI M20 11 v0 8).bind fun x34 => ((pI M20 11 v0 13 x34).bind fun M37 => (if mK M37 v0 = 12 then ((fX11_go N v0 M37).bind fun (u41, M41) => some (1, M41)) else none)))))) else (if mK M v0 = 12 then ((fX11_bad N v0 1 M).bind fun (x10, M10) => (if vp_nar .boolean x10 = x10 then some (x10, M10) else none)) else none)))
set_option maxHeartbeats 4000000 in
set_option maxRecDepth 100000 in
theorem k_X11_readNumber (l : Launch) (b : Nat) (D : va_G) (cy : Nat → ClassId) (N : Nat) (v0 : Nat) (v1 : Int32) (v2 : Int32) (M : Mem) (r : Int32) (Mf : Mem) (h : fX11_readNumber N v0 v1 v2 M = some (r, Mf)) : Ct l yX11_readNumber cX11_readNumber 3 (some .boolean) 3 0 0 b D cy [.ref (b + v0), .int v1, .int v2] M (some (.int r)) Mf := by
  refine Ct_of (own := RX11) (by decide) rfl (Nat.le_of_ble_eq_true rfl) ?_
  intro p e s m args below meth c F hr hl hmn
  unfold fX11_readNumber at h
  show X p l e ({ frames := 3, cells := 0, slots := 0, locals := 100 * 3 }) s m args below meth c (MQ below (Qm b D cy (some (.int r)) Mf) args s 0 0 (fun q => b ≤ q)) 3 b D cy 0 0 M 0 [(0, .ref (b + v0)), (1, .int v1), (2, .int v2)] []
  refine x_aload_n F dX11_readNumber_0 rfl 0 rfl ?_
  obtain ⟨x1, c1, h⟩ := bdS h
  refine x_getI F (ci := 11) (C := RX11) (T := TX11) (N := 45) rfl ⟨by decide, rfl⟩ inU11 7 (by decide) (fun _ _ _ => rfl) wl_869 c1 dX11_readNumber_1 ?_
  refine x_iconst F (v := 3) dX11_readNumber_4 (by decide) ?_
  refine x_icmp_eq F (tgt := 14) dX11_readNumber_5 (by decide) (fun c5 => ?_) (fun c5 => ?_)
  · rw [if_pos c5] at h
    refine x_aload_n F dX11_readNumber_14 rfl 0 rfl ?_
    obtain ⟨x15, c15, h⟩ := bdS h
    refine x_getI F (ci := 11) (C := RX11) (T := TX11) (N := 45) rfl ⟨by decide, rfl⟩ inU11 8 (by decide) (fun _ _ _ => rfl) wl_872 c15 dX11_readNumber_15 ?_
    refine x_iload_n F dX11_readNumber_18 rfl 1 rfl ?_
    refine x_iload_n F dX11_readNumber_19 rfl 2 rfl ?_
    obtain ⟨⟨x20, M20⟩, c20, h⟩ := bdS h
    dsimp only at h
    refine x_callS F (As := [.int x15, .int v1, .int v2]) (rest := []) (res := (some (.int x20))) (k_X11_isIn l b D cy N x15 v1 v2 M _ _ c20) wl_898 wl_899 wl_854 wl_857 (hd_X11_isIn).2 ⟨Nat.le_of_ble_eq_true rfl, Nat.le_of_ble_eq_true rfl⟩ ⟨Nat.le_refl _, Nat.le_refl _⟩ (Nat.le_of_ble_eq_true rfl) rfl dX11_readNumber_20 ?_
    refine x_if_ne F (tgt := 32) dX11_readNumber_23 (by decide) (fun c23 => ?_) (fun c23 => ?_)
    · rw [if_neg c23] at h
      refine x_aload_n F dX11_readNumber_32 rfl 0 rfl ?_
      refine x_aload_n F dX11_readNumber_33 rfl 0 rfl ?_
      obtain ⟨x34, c34, h⟩ := bdS h
      refine x_getI F (ci := 11) (C := RX11) (T := TX11) (N := 45) rfl ⟨by decide, rfl⟩ inU11 8 (by decide) (fun _ _ _ => rfl) wl_872 c34 dX11_readNumber_34 ?_
      obtain ⟨M37, c37, h⟩ := bdS h
      refine x_putI F (ci := 11) (C := RX11) (T := TX11) (N := 45) rfl ⟨by decide, rfl⟩ inU11 tyX11_ok nmX11 13 (by decide) rfl rfl wl_894 c37 dX11_readNumber_37 ?_
      refine x_aload_n F dX11_readNumber_40 rfl 0 rfl ?_
      obtain ⟨k41, h⟩ := gdS h
      obtain ⟨⟨u41, M41⟩, c41, h⟩ := bdS h
      dsimp only at h
      refine x_callV F (As := []) (rest := []) (res := none) (ci := 11) (q := (RX11, TX11, 45)) rfl (by decide) k41 (k_X11_go l b D cy N v0 M37 _ _ c41) wl_900 wl_901 wl_902 wl_854 wl_865 hd_X11_go ⟨Nat.le_of_ble_eq_true rfl, Nat.le_of_ble_eq_true rfl⟩ ⟨Nat.le_refl _, Nat.le_refl _⟩ (Nat.le_of_ble_eq_true rfl) rfl dX11_readNumber_41 ?_
      refine x_iconst F (v := 1) dX11_readNumber_44 (by decide) ?_
      obtain ⟨rfl, rfl⟩ := retS h
      exact x_zret F hr hl (by decide) dX11_readNumber_45
    · rw [if_pos c23] at h
      refine x_aload_n F dX11_readNumber_26 rfl 0 rfl ?_
      refine x_iconst F (v := 2) dX11_readNumber_27 (by decide) ?_
      obtain ⟨k28, h⟩ := gdS h
      obtain ⟨⟨x28, M28⟩, c28, h⟩ := bdS h
      dsimp only at h
      refine x_callV F (As := [.int 2]) (rest := []) (res := (some (.int x28))) (ci := 11) (q := (RX11, TX11, 45)) rfl (by decide) k28 (k_X11_bad l b D cy N v0 2 M20 _ _ c28) wl_895 wl_896 wl_897 wl_854 wl_891 hd_X11_bad ⟨Nat.le_of_ble_eq_true rfl, Nat.le_of_ble_eq_true rfl⟩ ⟨Nat.le_refl _, Nat.le_refl _⟩ (Nat.le_of_ble_eq_true rfl) rfl dX11_readNumber_28 ?_
      obtain ⟨c31, h⟩ := gdS h
      obtain ⟨rfl, rfl⟩ := retS h
      exact x_zret F hr hl c31 dX11_readNumber_31
  · rw [if_neg c5] at h
    refine x_aload_n F dX11_readNumber_8 rfl 0 rfl ?_
    refine x_iconst F (v := 1) dX11_readNumber_9 (by decide) ?_
    obtain ⟨k10, h⟩ := gdS h
    obtain ⟨⟨x10, M10⟩, c10, h⟩ := bdS h
    dsimp only at h
    refine x_callV F (As := [.int 1]) (rest := []) (res := (some (.int x10))) (ci := 11) (q := (RX11, TX11, 45)) rfl (by decide) k10 (k_X11_bad l b D cy N v0 1 M _ _ c10) wl_895 wl_896 wl_897 wl_854 wl_891 hd_X11_bad ⟨Nat.le_of_ble_eq_true rfl, Nat.le_of_ble_eq_true rfl⟩ ⟨Nat.le_refl _, Nat.le_refl _⟩ (Nat.le_of_ble_eq_true rfl) rfl dX11_readNumber_10 ?_
    obtain ⟨c13, h⟩ := gdS h
    obtain ⟨rfl, rfl⟩ := retS h
    exact x_zret F hr hl c13 dX11_readNumber_13
theorem hd_X11_isSign : (yX11_isSign).cls = RX11 ∧ (yX11_isSign).cls ≠ "java/lang/invoke/MethodHandle" ∧ (yX11_isSign).cls ≠ "java/lang/invoke/VarHandle" ∧ (parseMethodDescriptor (yX11_isSign).desc).map (fun d => d.parameters.length) = some 1 := by decide +kernel
theorem dX11_readEnd_0 : decode cX11_readEnd 0 = .ok (.aload_n 0, 1) := by decide +kernel
theorem dX11_readEnd_1 : decode cX11_readEnd 1 = .ok (.bipush 59, 2) := by decide +kernel
theorem dX11_readEnd_3 : decode cX11_readEnd 3 = .ok (.invokevirtual 86, 3) := by decide +kernel
theorem dX11_readEnd_6 : decode cX11_readEnd 6 = .ok (.ifCond .ne 9, 3) := by decide +kernel
theorem dX11_readEnd_9 : decode cX11_readEnd 9 = .ok (.aload_n 0, 1) := by decide +kernel
theorem dX11_readEnd_10 : decode cX11_readEnd 10 = .ok (.iconst 1, 1) := by decide +kernel
theorem dX11_readEnd_11 : decode cX11_readEnd 11 = .ok (.invokevirtual 72, 3) := by decide +kernel
theorem dX11_readEnd_14 : decode cX11_readEnd 14 = .ok (.ireturn, 1) := by decide +kernel
theorem dX11_readEnd_15 : decode cX11_readEnd 15 = .ok (.aload_n 0, 1) := by decide +kernel
theorem dX11_readEnd_16 : decode cX11_readEnd 16 = .ok (.invokevirtual 82, 3) := by decide +kernel
theorem dX11_readEnd_19 : decode cX11_readEnd 19 = .ok (.iconst 1, 1) := by decide +kernel
theorem dX11_readEnd_20 : decode cX11_readEnd 20 = .ok (.ireturn, 1) := by decide +kernel
def fX11_readEnd (N : Nat) (v0 : Nat) (M : Mem) : Option (Int32 × Mem) := (if mK M v0 = 12 then ((fX11_isSign N v0 59 M).bind fun (x3, M3) => (if x3 = 0 then (if mK M3 v0 = 12 then ((fX11_bad N v0 1 M3).bind fun (x11, M11) => (if vp_nar .boolean x11 = x11 then some (x11, M11) else none)) else none) else (if mK M3 v0 = 12 then ((fX11_go N v0 M3).bind fun (u16, M16) => some (1, M16)) else none))) else none)
set_option maxHeartbeats 4000000 in
set_option maxRecDepth 100000 in
theorem k_X11_readEnd (l : Launch) (b : Nat) (D : va_G) (cy : Nat → ClassId) (N : Nat) (v0 : Nat) (M : Mem) (r : Int32) (Mf : Mem) (h : fX11_readEnd N v0 M = some (r, Mf)) : Ct l yX11_readEnd cX11_readEnd 1 (some .boolean) 3 0 0 b D cy [.ref (b + v0)] M (some (.int r)) Mf := by
  refine Ct_of (own := RX11) (by decide) rfl (Nat.le_of_ble_eq_true rfl) ?_
  intro p e s m args below meth c F hr hl hmn
  unfold fX11_readEnd at h
  show X p l e ({ frames := 3, cells := 0, slots := 0, locals := 100 * 3 }) s m args below meth c (MQ below (Qm b D cy (some (.int r)) Mf) args s 0 0 (fun q => b ≤ q)) 1 b D cy 0 0 M 0 [(0, .ref (b + v0))] []
  refine x_aload_n F dX11_readEnd_0 rfl 0 rfl ?_
  refine x_bipush F (v := 59) dX11_readEnd_1 (by decide) ?_
  obtain ⟨k3, h⟩ := gdS h
  obtain ⟨⟨x3, M3⟩, c3, h⟩ := bdS h
  dsimp only at h
  refine x_callV F (As := [.int 59]) (rest := []) (res := (some (.int x3))) (ci := 11) (q := (RX11, TX11, 45)) rfl (by decide) k3 (k_X11_isSign l b D cy N v0 59 M _ _ c3) wl_904 wl_905 wl_906 wl_854 wl_889 hd_X11_isSign ⟨Nat.le_of_ble_eq_true rfl, Nat.le_of_ble_eq_true rfl⟩ ⟨Nat.le_refl _, Nat.le_refl _⟩ (Nat.le_of_ble_eq_true rfl) rfl dX11_readEnd_3 ?_
  refine x_if_ne F (tgt := 15) dX11_readEnd_6 (by decide) (fun c6 => ?_) (fun c6 => ?_)
  · rw [if_neg c6] at h
    refine x_aload_n F dX11_readEnd_15 rfl 0 rfl ?_
    obtain ⟨k16, h⟩ := gdS h
    obtain ⟨⟨u16, M16⟩, c16, h⟩ := bdS h
    dsimp only at h
    refine x_callV F (As := []) (rest := []) (res := none) (ci := 11) (q := (RX11, TX11, 45)) rfl (by decide) k16 (k_X11_go l b D cy N v0 M3 _ _ c16) wl_900 wl_901 wl_902 wl_854 wl_865 hd_X11_go ⟨Nat.le_of_ble_eq_true rfl, Nat.le_of_ble_eq_true rfl⟩ ⟨Nat.le_refl _, Nat.le_refl _⟩ (Nat.le_of_ble_eq_true rfl) rfl dX11_readEnd_16 ?_
    refine x_iconst F (v := 1) dX11_readEnd_19 (by decide) ?_
    obtain ⟨rfl, rfl⟩ := retS h
    exact x_zret F hr hl (by decide) dX11_readEnd_20
  · rw [if_pos c6] at h
    refine x_aload_n F dX11_readEnd_9 rfl 0 rfl ?_
    refine x_iconst F (v := 1) dX11_readEnd_10 (by decide) ?_
    obtain ⟨k11, h⟩ := gdS h
    obtain ⟨⟨x11, M11⟩, c11, h⟩ := bdS h
    dsimp only at h
    refine x_callV F (As := [.int 1]) (rest := []) (res := (some (.int x11))) (ci := 11) (q := (RX11, TX11, 45)) rfl (by decide) k11 (k_X11_bad l b D cy N v0 1 M3 _ _ c11) wl_895 wl_896 wl_897 wl_854 wl_891 hd_X11_bad ⟨Nat.le_of_ble_eq_true rfl, Nat.le_of_ble_eq_true rfl⟩ ⟨Nat.le_refl _, Nat.le_refl _⟩ (Nat.le_of_ble_eq_true rfl) rfl dX11_readEnd_11 ?_
    obtain ⟨c14, h⟩ := gdS h
    obtain ⟨rfl, rfl⟩ := retS h
    exact x_zret F hr hl c14 dX11_readEnd_14
theorem hd_X11_take : (yX11_take).cls = RX11 ∧ (yX11_take).cls ≠ "java/lang/invoke/MethodHandle" ∧ (yX11_take).cls ≠ "java/lang/invoke/VarHandle" ∧ (parseMethodDescriptor (yX11_take).desc).map (fun d => d.parameters.length) = some 0 := by decide +kernel
theorem dX11_begin_0 : decode cX11_begin 0 = .ok (.aload_n 0, 1) := by decide +kernel
theorem dX11_begin_1 : decode cX11_begin 1 = .ok (.iconst 0, 1) := by decide +kernel
theorem dX11_begin_2 : decode cX11_begin 2 = .ok (.putfield 1, 3) := by decide +kernel
theorem dX11_begin_5 : decode cX11_begin 5 = .ok (.aload_n 0, 1) := by decide +kernel
theorem dX11_begin_6 : decode cX11_begin 6 = .ok (.aload_n 0, 1) := by decide +kernel
theorem dX11_begin_7 : decode cX11_begin 7 = .ok (.invokevirtual 89, 3) := by decide +kernel
theorem dX11_begin_10 : decode cX11_begin 10 = .ok (.putfield 18, 3) := by decide +kernel
theorem dX11_begin_13 : decode cX11_begin 13 = .ok (.aload_n 0, 1) := by decide +kernel
theorem dX11_begin_14 : decode cX11_begin 14 = .ok (.iload_n 1, 1) := by decide +kernel
theorem dX11_begin_15 : decode cX11_begin 15 = .ok (.putfield 27, 3) := by decide +kernel
theorem dX11_begin_18 : decode cX11_begin 18 = .ok (.aload_n 0, 1) := by decide +kernel
theorem dX11_begin_19 : decode cX11_begin 19 = .ok (.iconst 0, 1) := by decide +kernel
theorem dX11_begin_20 : decode cX11_begin 20 = .ok (.putfield 66, 3) := by decide +kernel
theorem dX11_begin_23 : decode cX11_begin 23 = .ok (.aload_n 0, 1) := by decide +kernel
theorem dX11_begin_24 : decode cX11_begin 24 = .ok (.iconst 0, 1) := by decide +kernel
theorem dX11_begin_25 : decode cX11_begin 25 = .ok (.putfield 21, 3) := by decide +kernel
theorem dX11_begin_28 : decode cX11_begin 28 = .ok (.aload_n 0, 1) := by decide +kernel
theorem dX11_begin_29 : decode cX11_begin 29 = .ok (.invokevirtual 82, 3) := by decide +kernel
theorem dX11_begin_32 : decode cX11_begin 32 = .ok (.return_, 1) := by decide +kernel
def fX11_begin (N : Nat) (v0 : Nat) (v1 : Int32) (M : Mem) : Option (Unit × Mem) := ((pI M 11 v0 0 0).bind fun M2 => (if mK M2 v0 = 12 then ((fX11_take N v0 M2).bind fun (x7, M7) => ((pI M7 11 v0 3 x7).bind fun M10 => ((pI M10 11 v0 4 v1).bind fun M15 => ((pI M15 11 v0 10 0).bind fun M20 => ((pI M20 11 v0 5 0).bind fun M25 => (if mK M25 v0 = 12 then ((fX11_go N v0 M25).bind fun (u29, M29) => some ((), M29)) else none)))))) else none))
set_option maxHeartbeats 4000000 in
set_option maxRecDepth 100000 in
theorem k_X11_begin (l : Launch) (b : Nat) (D : va_G) (cy : Nat → ClassId) (N : Nat) (v0 : Nat) (v1 : Int32) (M : Mem) (r : Unit) (Mf : Mem) (h : fX11_begin N v0 v1 M = some (r, Mf)) : Ct l yX11_begin cX11_begin 2 none 3 0 0 b D cy [.ref (b + v0), .int v1] M none Mf := by
  refine Ct_of (own := RX11) (by decide) rfl (Nat.le_of_ble_eq_true rfl) ?_
  intro p e s m args below meth c F hr hl hmn
  unfold fX11_begin at h
  show X p l e ({ frames := 3, cells := 0, slots := 0, locals := 100 * 3 }) s m args below meth c (MQ below (Qm b D cy none Mf) args s 0 0 (fun q => b ≤ q)) 2 b D cy 0 0 M 0 [(0, .ref (b + v0)), (1, .int v1)] []
  refine x_aload_n F dX11_begin_0 rfl 0 rfl ?_
  refine x_iconst F (v := 0) dX11_begin_1 (by decide) ?_
  obtain ⟨M2, c2, h⟩ := bdS h
  refine x_putI F (ci := 11) (C := RX11) (T := TX11) (N := 45) rfl ⟨by decide, rfl⟩ inU11 tyX11_ok nmX11 0 (by decide) rfl rfl wl_845 c2 dX11_begin_2 ?_
  refine x_aload_n F dX11_begin_5 rfl 0 rfl ?_
  refine x_aload_n F dX11_begin_6 rfl 0 rfl ?_
  obtain ⟨k7, h⟩ := gdS h
  obtain ⟨⟨x7, M7⟩, c7, h⟩ := bdS h
  dsimp only at h
  refine x_callV F (As := []) (rest := [.ref (b + v0)]) (res := (some (.int x7))) (ci := 11) (q := (RX11, TX11, 45)) rfl (by decide) k7 (k_X11_take l b D cy N v0 M2 _ _ c7) wl_908 wl_909 wl_910 wl_854 wl_856 hd_X11_take ⟨Nat.le_of_ble_eq_true rfl, Nat.le_of_ble_eq_true rfl⟩ ⟨Nat.le_refl _, Nat.le_refl _⟩ (Nat.le_of_ble_eq_true rfl) rfl dX11_begin_7 ?_
  obtain ⟨M10, c10, h⟩ := bdS h
  refine x_putI F (ci := 11) (C := RX11) (T := TX11) (N := 45) rfl ⟨by decide, rfl⟩ inU11 tyX11_ok nmX11 3 (by decide) rfl rfl wl_862 c10 dX11_begin_10 ?_
  refine x_aload_n F dX11_begin_13 rfl 0 rfl ?_
  refine x_iload_n F dX11_begin_14 rfl 1 rfl ?_
  obtain ⟨M15, c15, h⟩ := bdS h
  refine x_putI F (ci := 11) (C := RX11) (T := TX11) (N := 45) rfl ⟨by decide, rfl⟩ inU11 tyX11_ok nmX11 4 (by decide) rfl rfl wl_868 c15 dX11_begin_15 ?_
  refine x_aload_n F dX11_begin_18 rfl 0 rfl ?_
  refine x_iconst F (v := 0) dX11_begin_19 (by decide) ?_
  obtain ⟨M20, c20, h⟩ := bdS h
  refine x_putI F (ci := 11) (C := RX11) (T := TX11) (N := 45) rfl ⟨by decide, rfl⟩ inU11 tyX11_ok nmX11 10 (by decide) rfl rfl wl_892 c20 dX11_begin_20 ?_
  refine x_aload_n F dX11_begin_23 rfl 0 rfl ?_
  refine x_iconst F (v := 0) dX11_begin_24 (by decide) ?_
  obtain ⟨M25, c25, h⟩ := bdS h
  refine x_putI F (ci := 11) (C := RX11) (T := TX11) (N := 45) rfl ⟨by decide, rfl⟩ inU11 tyX11_ok nmX11 5 (by decide) rfl rfl wl_866 c25 dX11_begin_25 ?_
  refine x_aload_n F dX11_begin_28 rfl 0 rfl ?_
  obtain ⟨k29, h⟩ := gdS h
  obtain ⟨⟨u29, M29⟩, c29, h⟩ := bdS h
  dsimp only at h
  refine x_callV F (As := []) (rest := []) (res := none) (ci := 11) (q := (RX11, TX11, 45)) rfl (by decide) k29 (k_X11_go l b D cy N v0 M25 _ _ c29) wl_900 wl_901 wl_902 wl_854 wl_865 hd_X11_go ⟨Nat.le_of_ble_eq_true rfl, Nat.le_of_ble_eq_true rfl⟩ ⟨Nat.le_refl _, Nat.le_refl _⟩ (Nat.le_of_ble_eq_true rfl) rfl dX11_begin_29 ?_
  obtain ⟨rfl, rfl⟩ := retS h
  exact x_vret F hr hl dX11_begin_32
theorem dX11_startSo_0 : decode cX11_startSo 0 = .ok (.bipush 35, 2) := by decide +kernel
theorem dX11_startSo_2 : decode cX11_startSo 2 = .ok (.istore_n 1, 1) := by decide +kernel
theorem dX11_startSo_3 : decode cX11_startSo 3 = .ok (.iload_n 1, 1) := by decide +kernel
theorem dX11_startSo_4 : decode cX11_startSo 4 = .ok (.sipush 441, 3) := by decide +kernel
theorem dX11_startSo_7 : decode cX11_startSo 7 = .ok (.if_icmp .ge 16, 3) := by decide +kernel
theorem dX11_startSo_10 : decode cX11_startSo 10 = .ok (.aload_n 0, 1) := by decide +kernel
theorem dX11_startSo_11 : decode cX11_startSo 11 = .ok (.getfield 98, 3) := by decide +kernel
theorem dX11_startSo_14 : decode cX11_startSo 14 = .ok (.iload_n 1, 1) := by decide +kernel
theorem dX11_startSo_15 : decode cX11_startSo 15 = .ok (.iconst 0, 1) := by decide +kernel
theorem dX11_startSo_16 : decode cX11_startSo 16 = .ok (.iastore, 1) := by decide +kernel
theorem dX11_startSo_17 : decode cX11_startSo 17 = .ok (.iinc 1 1, 3) := by decide +kernel
theorem dX11_startSo_20 : decode cX11_startSo 20 = .ok (.goto (-17), 3) := by decide +kernel
theorem dX11_startSo_23 : decode cX11_startSo 23 = .ok (.bipush 55, 2) := by decide +kernel
theorem dX11_startSo_25 : decode cX11_startSo 25 = .ok (.istore_n 1, 1) := by decide +kernel
theorem dX11_startSo_26 : decode cX11_startSo 26 = .ok (.iload_n 1, 1) := by decide +kernel
theorem dX11_startSo_27 : decode cX11_startSo 27 = .ok (.sipush 199, 3) := by decide +kernel
theorem dX11_startSo_30 : decode cX11_startSo 30 = .ok (.if_icmp .ge 16, 3) := by decide +kernel
theorem dX11_startSo_33 : decode cX11_startSo 33 = .ok (.aload_n 0, 1) := by decide +kernel
theorem dX11_startSo_34 : decode cX11_startSo 34 = .ok (.getfield 98, 3) := by decide +kernel
theorem dX11_startSo_37 : decode cX11_startSo 37 = .ok (.iload_n 1, 1) := by decide +kernel
theorem dX11_startSo_38 : decode cX11_startSo 38 = .ok (.iconst (-1), 1) := by decide +kernel
theorem dX11_startSo_39 : decode cX11_startSo 39 = .ok (.iastore, 1) := by decide +kernel
theorem dX11_startSo_40 : decode cX11_startSo 40 = .ok (.iinc 1 1, 3) := by decide +kernel
theorem dX11_startSo_43 : decode cX11_startSo 43 = .ok (.goto (-17), 3) := by decide +kernel
theorem dX11_startSo_46 : decode cX11_startSo 46 = .ok (.return_, 1) := by decide +kernel
def fX11_startSo_L3 (N : Nat) (v0 : Nat) : Nat → Int32 → Mem → Option (Mem)
  | 0, _, _ => none
  | n + 1, v1, M => (if 441 ≤ v1 then some M else ((fR M 11 v0 14).bind fun x11 => ((tI M x11 v1 0).bind fun M16 => fX11_startSo_L3 N v0 n (v1 + 1) M16)))
def fX11_startSo_L26 (N : Nat) (v0 : Nat) : Nat → Int32 → Mem → Option (Mem)
  | 0, _, _ => none
  | n + 1, v1, M => (if 199 ≤ v1 then some M else ((fR M 11 v0 14).bind fun x34 => ((tI M x34 v1 ((-1))).bind fun M39 => fX11_startSo_L26 N v0 n (v1 + 1) M39)))
def fX11_startSo (N : Nat) (v0 : Nat) (M : Mem) : Option (Unit × Mem) := ((fX11_startSo_L3 N v0 N 35 M).bind fun o3 => ((fX11_startSo_L26 N v0 N 55 o3).bind fun o26 => some ((), o26)))
set_option maxHeartbeats 4000000 in
set_option maxRecDepth 100000 in
theorem k_X11_startSo (l : Launch) (b : Nat) (D : va_G) (cy : Nat → ClassId) (N : Nat) (v0 : Nat) (M : Mem) (r : Unit) (Mf : Mem) (h : fX11_startSo N v0 M = some (r, Mf)) : Ct l yX11_startSo cX11_startSo 2 none 1 0 0 b D cy [.ref (b + v0)] M none Mf := by
  refine Ct_of (own := RX11) (by decide) rfl (Nat.le_of_ble_eq_true rfl) ?_
  intro p e s m args below meth c F hr hl hmn
  unfold fX11_startSo at h
  show X p l e ({ frames := 1, cells := 0, slots := 0, locals := 100 * 1 }) s m args below meth c (MQ below (Qm b D cy none Mf) args s 0 0 (fun q => b ≤ q)) 2 b D cy 0 0 M 0 [(0, .ref (b + v0))] []
  refine x_bipush F (v := 35) dX11_startSo_0 (by decide) ?_
  refine x_istore_n F (lv' := [(1, .int 35), (0, .ref (b + v0))]) dX11_startSo_2 rfl (by decide) rfl ?_
  have L3 : ∀ (v0 : Nat) (n : Nat) (v1 : Int32) (M : Mem) (o : Mem), fX11_startSo_L3 N v0 n v1 M = some o → X p l e ({ frames := 1, cells := 0, slots := 0, locals := 100 * 1 }) s m args below meth c (MQ below (Qm b D cy none Mf) args s 0 0 (fun q => b ≤ q)) 2 b D cy 0 0 o 23 [(0, .ref (b + v0))] [] → X p l e ({ frames := 1, cells := 0, slots := 0, locals := 100 * 1 }) s m args below meth c (MQ below (Qm b D cy none Mf) args s 0 0 (fun q => b ≤ q)) 2 b D cy 0 0 M 3 [(0, .ref (b + v0)), (1, .int v1)] [] := by
    intro v0 n
    induction n with
    | zero => intro v1 M o h; exact absurd h (by rw [fX11_startSo_L3]; exact fun z => by cases z)
    | succ n ih =>
      intro v1 M o h hE
      rw [fX11_startSo_L3] at h
      refine x_iload_n F dX11_startSo_3 rfl 1 rfl ?_
      refine x_sipush F (v := 441) dX11_startSo_4 (by decide) ?_
      refine x_icmp_ge F (tgt := 23) dX11_startSo_7 (by decide) (fun c7 => ?_) (fun c7 => ?_)
      · rw [if_pos c7] at h
        obtain rfl := Option.some.inj h
        refine x_sub [0] rfl ?_
        exact hE
      · rw [if_neg c7] at h
        refine x_aload_n F dX11_startSo_10 rfl 0 rfl ?_
        obtain ⟨x11, c11, h⟩ := bdS h
        refine x_getR F (ci := 11) (C := RX11) (T := TX11) (N := 45) rfl ⟨by decide, rfl⟩ inU11 14 (by decide) (fun _ _ _ => rfl) wl_913 c11 dX11_startSo_11 ?_
        refine x_iload_n F dX11_startSo_14 rfl 1 rfl ?_
        refine x_iconst F (v := 0) dX11_startSo_15 (by decide) ?_
        obtain ⟨M16, c16, h⟩ := bdS h
        refine x_tI F c16 dX11_startSo_16 ?_
        refine x_iinc F (v := v1 + 1) (lv' := [(1, .int (v1 + 1)), (0, .ref (b + v0))]) dX11_startSo_17 1 rfl rfl (by decide) rfl ?_
        refine x_goto F (tgt := 3) dX11_startSo_20 (by decide) ?_
        refine x_sub [1, 0] rfl ?_
        exact ih (v1 + 1) M16 o h hE
  obtain ⟨o3, h3, h⟩ := bdS h
  refine x_sub [1, 0] rfl ?_
  refine L3 v0 N 35 M o3 h3 ?_
  refine x_bipush F (v := 55) dX11_startSo_23 (by decide) ?_
  refine x_istore_n F (lv' := [(1, .int 55), (0, .ref (b + v0))]) dX11_startSo_25 rfl (by decide) rfl ?_
  have L26 : ∀ (v0 : Nat) (n : Nat) (v1 : Int32) (M : Mem) (o : Mem), fX11_startSo_L26 N v0 n v1 M = some o → X p l e ({ frames := 1, cells := 0, slots := 0, locals := 100 * 1 }) s m args below meth c (MQ below (Qm b D cy none Mf) args s 0 0 (fun q => b ≤ q)) 2 b D cy 0 0 o 46 [] [] → X p l e ({ frames := 1, cells := 0, slots := 0, locals := 100 * 1 }) s m args below meth c (MQ below (Qm b D cy none Mf) args s 0 0 (fun q => b ≤ q)) 2 b D cy 0 0 M 26 [(0, .ref (b + v0)), (1, .int v1)] [] := by
    intro v0 n
    induction n with
    | zero => intro v1 M o h; exact absurd h (by rw [fX11_startSo_L26]; exact fun z => by cases z)
    | succ n ih =>
      intro v1 M o h hE
      rw [fX11_startSo_L26] at h
      refine x_iload_n F dX11_startSo_26 rfl 1 rfl ?_
      refine x_sipush F (v := 199) dX11_startSo_27 (by decide) ?_
      refine x_icmp_ge F (tgt := 46) dX11_startSo_30 (by decide) (fun c30 => ?_) (fun c30 => ?_)
      · rw [if_pos c30] at h
        obtain rfl := Option.some.inj h
        refine x_sub [] rfl ?_
        exact hE
      · rw [if_neg c30] at h
        refine x_aload_n F dX11_startSo_33 rfl 0 rfl ?_
        obtain ⟨x34, c34, h⟩ := bdS h
        refine x_getR F (ci := 11) (C := RX11) (T := TX11) (N := 45) rfl ⟨by decide, rfl⟩ inU11 14 (by decide) (fun _ _ _ => rfl) wl_913 c34 dX11_startSo_34 ?_
        refine x_iload_n F dX11_startSo_37 rfl 1 rfl ?_
        refine x_iconst F (v := (-1)) dX11_startSo_38 (by decide) ?_
        obtain ⟨M39, c39, h⟩ := bdS h
        refine x_tI F c39 dX11_startSo_39 ?_
        refine x_iinc F (v := v1 + 1) (lv' := [(1, .int (v1 + 1)), (0, .ref (b + v0))]) dX11_startSo_40 1 rfl rfl (by decide) rfl ?_
        refine x_goto F (tgt := 26) dX11_startSo_43 (by decide) ?_
        refine x_sub [1, 0] rfl ?_
        exact ih (v1 + 1) M39 o h hE
  obtain ⟨o26, h26, h⟩ := bdS h
  refine x_sub [1, 0] rfl ?_
  refine L26 v0 N 55 o3 o26 h26 ?_
  obtain ⟨rfl, rfl⟩ := retS h
  exact x_vret F hr hl dX11_startSo_46
theorem dX11_findIn_0 : decode cX11_findIn 0 = .ok (.iconst 0, 1) := by decide +kernel
theorem dX11_findIn_1 : decode cX11_findIn 1 = .ok (.istore 5, 2) := by decide +kernel
theorem dX11_findIn_3 : decode cX11_findIn 3 = .ok (.iload 5, 2) := by decide +kernel
theorem dX11_findIn_5 : decode cX11_findIn 5 = .ok (.iload_n 2, 1) := by decide +kernel
theorem dX11_findIn_6 : decode cX11_findIn 6 = .ok (.if_icmp .ge 23, 3) := by decide +kernel
theorem dX11_findIn_9 : decode cX11_findIn 9 = .ok (.aload_n 0, 1) := by decide +kernel
theorem dX11_findIn_10 : decode cX11_findIn 10 = .ok (.iload_n 1, 1) := by decide +kernel
theorem dX11_findIn_11 : decode cX11_findIn 11 = .ok (.iload 5, 2) := by decide +kernel
theorem dX11_findIn_13 : decode cX11_findIn 13 = .ok (.iadd, 1) := by decide +kernel
theorem dX11_findIn_14 : decode cX11_findIn 14 = .ok (.laload, 1) := by decide +kernel
theorem dX11_findIn_15 : decode cX11_findIn 15 = .ok (.lload_n 3, 1) := by decide +kernel
theorem dX11_findIn_16 : decode cX11_findIn 16 = .ok (.lcmp, 1) := by decide +kernel
theorem dX11_findIn_17 : decode cX11_findIn 17 = .ok (.ifCond .ne 6, 3) := by decide +kernel
theorem dX11_findIn_20 : decode cX11_findIn 20 = .ok (.iload 5, 2) := by decide +kernel
theorem dX11_findIn_22 : decode cX11_findIn 22 = .ok (.ireturn, 1) := by decide +kernel
theorem dX11_findIn_23 : decode cX11_findIn 23 = .ok (.iinc 5 1, 3) := by decide +kernel
theorem dX11_findIn_26 : decode cX11_findIn 26 = .ok (.goto (-23), 3) := by decide +kernel
theorem dX11_findIn_29 : decode cX11_findIn 29 = .ok (.iconst (-1), 1) := by decide +kernel
theorem dX11_findIn_30 : decode cX11_findIn 30 = .ok (.ireturn, 1) := by decide +kernel
def fX11_findIn_L3 (N : Nat) (v0 : Nat) (v1 : Int32) (v2 : Int32) (v3 : Int64) : Nat → Int32 → Mem → Option (Int32 × Mem)
  | 0, _, _ => none
  | n + 1, v5, M => (if v2 ≤ v5 then some ((-1), M) else ((aL M v0 (v1 + v5)).bind fun x14 => (if (lg_cmp x14 v3) = 0 then some (v5, M) else fX11_findIn_L3 N v0 v1 v2 v3 n (v5 + 1) M)))
def fX11_findIn (N : Nat) (v0 : Nat) (v1 : Int32) (v2 : Int32) (v3 : Int64) (M : Mem) : Option (Int32 × Mem) := ((fX11_findIn_L3 N v0 v1 v2 v3 N 0 M).bind fun o3 => some o3)
set_option maxHeartbeats 4000000 in
set_option maxRecDepth 100000 in
theorem k_X11_findIn (l : Launch) (b : Nat) (D : va_G) (cy : Nat → ClassId) (N : Nat) (v0 : Nat) (v1 : Int32) (v2 : Int32) (v3 : Int64) (M : Mem) (r : Int32) (Mf : Mem) (h : fX11_findIn N v0 v1 v2 v3 M = some (r, Mf)) : Ct l yX11_findIn cX11_findIn 6 (some .int) 1 0 0 b D cy [.ref (b + v0), .int v1, .int v2, .long v3] M (some (.int r)) Mf := by
  refine Ct_of (own := RX11) (by decide) rfl (Nat.le_of_ble_eq_true rfl) ?_
  intro p e s m args below meth c F hr hl hmn
  unfold fX11_findIn at h
  show X p l e ({ frames := 1, cells := 0, slots := 0, locals := 100 * 1 }) s m args below meth c (MQ below (Qm b D cy (some (.int r)) Mf) args s 0 0 (fun q => b ≤ q)) 6 b D cy 0 0 M 0 [(0, .ref (b + v0)), (1, .int v1), (2, .int v2), (3, .long v3)] []
  refine x_iconst F (v := 0) dX11_findIn_0 (by decide) ?_
  refine x_istore F (lv' := [(5, .int 0), (0, .ref (b + v0)), (1, .int v1), (2, .int v2), (3, .long v3)]) dX11_findIn_1 (by decide) rfl ?_
  have L3 : ∀ (v0 : Nat) (v1 : Int32) (v2 : Int32) (v3 : Int64) (n : Nat) (v5 : Int32) (M : Mem) (o : Int32 × Mem), fX11_findIn_L3 N v0 v1 v2 v3 n v5 M = some o → (∀ (r' : Int32) (M' : Mem), o = (r', M') → r' = r ∧ M' = Mf) → X p l e ({ frames := 1, cells := 0, slots := 0, locals := 100 * 1 }) s m args below meth c (MQ below (Qm b D cy (some (.int r)) Mf) args s 0 0 (fun q => b ≤ q)) 6 b D cy 0 0 M 3 [(0, .ref (b + v0)), (1, .int v1), (2, .int v2), (3, .long v3), (5, .int v5)] [] := by
    intro v0 v1 v2 v3 n
    induction n with
    | zero => intro v5 M o h; exact absurd h (by rw [fX11_findIn_L3]; exact fun z => by cases z)
    | succ n ih =>
      intro v5 M o h hR
      rw [fX11_findIn_L3] at h
      refine x_iload F dX11_findIn_3 4 rfl ?_
      refine x_iload_n F dX11_findIn_5 rfl 2 rfl ?_
      refine x_icmp_ge F (tgt := 29) dX11_findIn_6 (by decide) (fun c6 => ?_) (fun c6 => ?_)
      · rw [if_pos c6] at h
        refine x_iconst F (v := (-1)) dX11_findIn_29 (by decide) ?_
        obtain rfl := Option.some.inj h
        obtain ⟨rfl, rfl⟩ := hR _ _ rfl
        exact x_iret F hr hl dX11_findIn_30
      · rw [if_neg c6] at h
        refine x_aload_n F dX11_findIn_9 rfl 0 rfl ?_
        refine x_iload_n F dX11_findIn_10 rfl 1 rfl ?_
        refine x_iload F dX11_findIn_11 4 rfl ?_
        refine x_iadd F dX11_findIn_13 ?_
        obtain ⟨x14, c14, h⟩ := bdS h
        refine x_aL F c14 dX11_findIn_14 ?_
        refine x_lload_n F dX11_findIn_15 rfl 3 rfl ?_
        refine x_lcmp F dX11_findIn_16 ?_
        refine x_if_ne F (tgt := 23) dX11_findIn_17 (by decide) (fun c17 => ?_) (fun c17 => ?_)
        · rw [if_neg c17] at h
          refine x_iinc F (v := v5 + 1) (lv' := [(5, .int (v5 + 1)), (0, .ref (b + v0)), (1, .int v1), (2, .int v2), (3, .long v3)]) dX11_findIn_23 4 rfl rfl (by decide) rfl ?_
          refine x_goto F (tgt := 3) dX11_findIn_26 (by decide) ?_
          refine x_sub [1, 2, 3, 4, 0] rfl ?_
          exact ih (v5 + 1) M o h hR
        · rw [if_pos c17] at h
          refine x_iload F dX11_findIn_20 4 rfl ?_
          obtain rfl := Option.some.inj h
          obtain ⟨rfl, rfl⟩ := hR _ _ rfl
          exact x_iret F hr hl dX11_findIn_22
  obtain ⟨o3, h3, h⟩ := bdS h
  refine x_sub [1, 2, 3, 4, 0] rfl ?_
  refine L3 v0 v1 v2 v3 N 0 M o3 h3 (fun r' M' e => ?_)
  · subst e
    try dsimp only at h
    obtain ⟨rfl, rfl⟩ := retS h; exact ⟨rfl, rfl⟩
theorem hd_X11_findIn : (yX11_findIn).cls = RX11 ∧ (yX11_findIn).cls ≠ "java/lang/invoke/MethodHandle" ∧ (yX11_findIn).cls ≠ "java/lang/invoke/VarHandle" ∧ (parseMethodDescriptor (yX11_findIn).desc).map (fun d => d.parameters.length) = some 4 := by decide +kernel
theorem dX11_isTaken_0 : decode cX11_isTaken 0 = .ok (.aload_n 0, 1) := by decide +kernel
theorem dX11_isTaken_1 : decode cX11_isTaken 1 = .ok (.getfield 117, 3) := by decide +kernel
theorem dX11_isTaken_4 : decode cX11_isTaken 4 = .ok (.iconst 0, 1) := by decide +kernel
theorem dX11_isTaken_5 : decode cX11_isTaken 5 = .ok (.aload_n 0, 1) := by decide +kernel
theorem dX11_isTaken_6 : decode cX11_isTaken 6 = .ok (.getfield 101, 3) := by decide +kernel
theorem dX11_isTaken_9 : decode cX11_isTaken 9 = .ok (.iconst 0, 1) := by decide +kernel
theorem dX11_isTaken_10 : decode cX11_isTaken 10 = .ok (.iaload, 1) := by decide +kernel
theorem dX11_isTaken_11 : decode cX11_isTaken 11 = .ok (.aload_n 0, 1) := by decide +kernel
theorem dX11_isTaken_12 : decode cX11_isTaken 12 = .ok (.getfield 43, 3) := by decide +kernel
theorem dX11_isTaken_15 : decode cX11_isTaken 15 = .ok (.invokestatic 157, 3) := by decide +kernel
theorem dX11_isTaken_18 : decode cX11_isTaken 18 = .ok (.iconst (-1), 1) := by decide +kernel
theorem dX11_isTaken_19 : decode cX11_isTaken 19 = .ok (.if_icmp .ne 49, 3) := by decide +kernel
theorem dX11_isTaken_22 : decode cX11_isTaken 22 = .ok (.aload_n 0, 1) := by decide +kernel
theorem dX11_isTaken_23 : decode cX11_isTaken 23 = .ok (.getfield 117, 3) := by decide +kernel
theorem dX11_isTaken_26 : decode cX11_isTaken 26 = .ok (.bipush 6, 2) := by decide +kernel
theorem dX11_isTaken_28 : decode cX11_isTaken 28 = .ok (.aload_n 0, 1) := by decide +kernel
theorem dX11_isTaken_29 : decode cX11_isTaken 29 = .ok (.getfield 101, 3) := by decide +kernel
theorem dX11_isTaken_32 : decode cX11_isTaken 32 = .ok (.iconst 1, 1) := by decide +kernel
theorem dX11_isTaken_33 : decode cX11_isTaken 33 = .ok (.iaload, 1) := by decide +kernel
theorem dX11_isTaken_34 : decode cX11_isTaken 34 = .ok (.aload_n 0, 1) := by decide +kernel
theorem dX11_isTaken_35 : decode cX11_isTaken 35 = .ok (.getfield 43, 3) := by decide +kernel
theorem dX11_isTaken_38 : decode cX11_isTaken 38 = .ok (.invokestatic 157, 3) := by decide +kernel
theorem dX11_isTaken_41 : decode cX11_isTaken 41 = .ok (.iconst (-1), 1) := by decide +kernel
theorem dX11_isTaken_42 : decode cX11_isTaken 42 = .ok (.if_icmp .ne 26, 3) := by decide +kernel
theorem dX11_isTaken_45 : decode cX11_isTaken 45 = .ok (.aload_n 0, 1) := by decide +kernel
theorem dX11_isTaken_46 : decode cX11_isTaken 46 = .ok (.getfield 117, 3) := by decide +kernel
theorem dX11_isTaken_49 : decode cX11_isTaken 49 = .ok (.bipush 10, 2) := by decide +kernel
theorem dX11_isTaken_51 : decode cX11_isTaken 51 = .ok (.aload_n 0, 1) := by decide +kernel
theorem dX11_isTaken_52 : decode cX11_isTaken 52 = .ok (.getfield 101, 3) := by decide +kernel
theorem dX11_isTaken_55 : decode cX11_isTaken 55 = .ok (.iconst 2, 1) := by decide +kernel
theorem dX11_isTaken_56 : decode cX11_isTaken 56 = .ok (.iaload, 1) := by decide +kernel
theorem dX11_isTaken_57 : decode cX11_isTaken 57 = .ok (.aload_n 0, 1) := by decide +kernel
theorem dX11_isTaken_58 : decode cX11_isTaken 58 = .ok (.getfield 43, 3) := by decide +kernel
theorem dX11_isTaken_61 : decode cX11_isTaken 61 = .ok (.invokestatic 157, 3) := by decide +kernel
theorem dX11_isTaken_64 : decode cX11_isTaken 64 = .ok (.iconst (-1), 1) := by decide +kernel
theorem dX11_isTaken_65 : decode cX11_isTaken 65 = .ok (.if_icmp .eq 7, 3) := by decide +kernel
theorem dX11_isTaken_68 : decode cX11_isTaken 68 = .ok (.iconst 1, 1) := by decide +kernel
theorem dX11_isTaken_69 : decode cX11_isTaken 69 = .ok (.goto 4, 3) := by decide +kernel
theorem dX11_isTaken_72 : decode cX11_isTaken 72 = .ok (.iconst 0, 1) := by decide +kernel
theorem dX11_isTaken_73 : decode cX11_isTaken 73 = .ok (.ireturn, 1) := by decide +kernel
def fX11_isTaken (N : Nat) (v0 : Nat) (M : Mem) : Option (Int32 × Mem) := ((fR M 11 v0 20).bind fun x1 => ((fR M 11 v0 15).bind fun x6 => ((aI M x6 0).bind fun x10 => ((fL M 11 v0 12).bind fun x12 => ((fX11_findIn N x1 0 x10 x12 M).bind fun (x15, M15) => (if x15 = ((-1)) then ((fR M15 11 v0 20).bind fun x23 => ((fR M15 11 v0 15).bind fun x29 => ((aI M15 x29 1).bind fun x33 => ((fL M15 11 v0 12).bind fun x35 => ((fX11_findIn N x23 6 x33 x35 M15).bind fun (x38, M38) => (if x38 = ((-1)) then ((fR M38 11 v0 20).bind fun x46 => ((fR M38 11 v0 15).bind fun x52 => ((aI M38 x52 2).bind fun x56 => ((fL M38 11 v0 12).bind fun x58 => ((fX11_findIn N x46 10 x56 x58 M38).bind fun (x61, M61) => (if x61 = ((-1)) then some (0, M61) else some (1, M61))))))) else some (1, M38))))))) else some (1, M15)))))))
set_option maxHeartbeats 4000000 in
set_option maxRecDepth 100000 in
theorem k_X11_isTaken (l : Launch) (b : Nat) (D : va_G) (cy : Nat → ClassId) (N : Nat) (v0 : Nat) (M : Mem) (r : Int32) (Mf : Mem) (h : fX11_isTaken N v0 M = some (r, Mf)) : Ct l yX11_isTaken cX11_isTaken 1 (some .boolean) 2 0 0 b D cy [.ref (b + v0)] M (some (.int r)) Mf := by
  refine Ct_of (own := RX11) (by decide) rfl (Nat.le_of_ble_eq_true rfl) ?_
  intro p e s m args below meth c F hr hl hmn
  unfold fX11_isTaken at h
  show X p l e ({ frames := 2, cells := 0, slots := 0, locals := 100 * 2 }) s m args below meth c (MQ below (Qm b D cy (some (.int r)) Mf) args s 0 0 (fun q => b ≤ q)) 1 b D cy 0 0 M 0 [(0, .ref (b + v0))] []
  refine x_aload_n F dX11_isTaken_0 rfl 0 rfl ?_
  obtain ⟨x1, c1, h⟩ := bdS h
  refine x_getR F (ci := 11) (C := RX11) (T := TX11) (N := 45) rfl ⟨by decide, rfl⟩ inU11 20 (by decide) (fun _ _ _ => rfl) wl_920 c1 dX11_isTaken_1 ?_
  refine x_iconst F (v := 0) dX11_isTaken_4 (by decide) ?_
  refine x_aload_n F dX11_isTaken_5 rfl 0 rfl ?_
  obtain ⟨x6, c6, h⟩ := bdS h
  refine x_getR F (ci := 11) (C := RX11) (T := TX11) (N := 45) rfl ⟨by decide, rfl⟩ inU11 15 (by decide) (fun _ _ _ => rfl) wl_915 c6 dX11_isTaken_6 ?_
  refine x_iconst F (v := 0) dX11_isTaken_9 (by decide) ?_
  obtain ⟨x10, c10, h⟩ := bdS h
  refine x_aI F c10 dX11_isTaken_10 ?_
  refine x_aload_n F dX11_isTaken_11 rfl 0 rfl ?_
  obtain ⟨x12, c12, h⟩ := bdS h
  refine x_getL F (ci := 11) (C := RX11) (T := TX11) (N := 45) rfl ⟨by decide, rfl⟩ inU11 12 (by decide) (fun _ _ _ => rfl) wl_871 c12 dX11_isTaken_12 ?_
  obtain ⟨⟨x15, M15⟩, c15, h⟩ := bdS h
  dsimp only at h
  refine x_callS F (As := [.ref (b + x1), .int 0, .int x10, .long x12]) (rest := []) (res := (some (.int x15))) (k_X11_findIn l b D cy N x1 0 x10 x12 M _ _ c15) wl_938 wl_939 wl_854 wl_936 (hd_X11_findIn).2 ⟨Nat.le_of_ble_eq_true rfl, Nat.le_of_ble_eq_true rfl⟩ ⟨Nat.le_refl _, Nat.le_refl _⟩ (Nat.le_of_ble_eq_true rfl) rfl dX11_isTaken_15 ?_
  refine x_iconst F (v := (-1)) dX11_isTaken_18 (by decide) ?_
  refine x_icmp_ne F (tgt := 68) dX11_isTaken_19 (by decide) (fun c19 => ?_) (fun c19 => ?_)
  · rw [if_neg c19] at h
    refine x_iconst F (v := 1) dX11_isTaken_68 (by decide) ?_
    refine x_goto F (tgt := 73) dX11_isTaken_69 (by decide) ?_
    obtain ⟨rfl, rfl⟩ := retS h
    exact x_zret F hr hl (by decide) dX11_isTaken_73
  · rw [if_pos c19] at h
    refine x_aload_n F dX11_isTaken_22 rfl 0 rfl ?_
    obtain ⟨x23, c23, h⟩ := bdS h
    refine x_getR F (ci := 11) (C := RX11) (T := TX11) (N := 45) rfl ⟨by decide, rfl⟩ inU11 20 (by decide) (fun _ _ _ => rfl) wl_920 c23 dX11_isTaken_23 ?_
    refine x_bipush F (v := 6) dX11_isTaken_26 (by decide) ?_
    refine x_aload_n F dX11_isTaken_28 rfl 0 rfl ?_
    obtain ⟨x29, c29, h⟩ := bdS h
    refine x_getR F (ci := 11) (C := RX11) (T := TX11) (N := 45) rfl ⟨by decide, rfl⟩ inU11 15 (by decide) (fun _ _ _ => rfl) wl_915 c29 dX11_isTaken_29 ?_
    refine x_iconst F (v := 1) dX11_isTaken_32 (by decide) ?_
    obtain ⟨x33, c33, h⟩ := bdS h
    refine x_aI F c33 dX11_isTaken_33 ?_
    refine x_aload_n F dX11_isTaken_34 rfl 0 rfl ?_
    obtain ⟨x35, c35, h⟩ := bdS h
    refine x_getL F (ci := 11) (C := RX11) (T := TX11) (N := 45) rfl ⟨by decide, rfl⟩ inU11 12 (by decide) (fun _ _ _ => rfl) wl_871 c35 dX11_isTaken_35 ?_
    obtain ⟨⟨x38, M38⟩, c38, h⟩ := bdS h
    dsimp only at h
    refine x_callS F (As := [.ref (b + x23), .int 6, .int x33, .long x35]) (rest := []) (res := (some (.int x38))) (k_X11_findIn l b D cy N x23 6 x33 x35 M15 _ _ c38) wl_938 wl_939 wl_854 wl_936 (hd_X11_findIn).2 ⟨Nat.le_of_ble_eq_true rfl, Nat.le_of_ble_eq_true rfl⟩ ⟨Nat.le_refl _, Nat.le_refl _⟩ (Nat.le_of_ble_eq_true rfl) rfl dX11_isTaken_38 ?_
    refine x_iconst F (v := (-1)) dX11_isTaken_41 (by decide) ?_
    refine x_icmp_ne F (tgt := 68) dX11_isTaken_42 (by decide) (fun c42 => ?_) (fun c42 => ?_)
    · rw [if_neg c42] at h
      refine x_iconst F (v := 1) dX11_isTaken_68 (by decide) ?_
      refine x_goto F (tgt := 73) dX11_isTaken_69 (by decide) ?_
      obtain ⟨rfl, rfl⟩ := retS h
      exact x_zret F hr hl (by decide) dX11_isTaken_73
    · rw [if_pos c42] at h
      refine x_aload_n F dX11_isTaken_45 rfl 0 rfl ?_
      obtain ⟨x46, c46, h⟩ := bdS h
      refine x_getR F (ci := 11) (C := RX11) (T := TX11) (N := 45) rfl ⟨by decide, rfl⟩ inU11 20 (by decide) (fun _ _ _ => rfl) wl_920 c46 dX11_isTaken_46 ?_
      refine x_bipush F (v := 10) dX11_isTaken_49 (by decide) ?_
      refine x_aload_n F dX11_isTaken_51 rfl 0 rfl ?_
      obtain ⟨x52, c52, h⟩ := bdS h
      refine x_getR F (ci := 11) (C := RX11) (T := TX11) (N := 45) rfl ⟨by decide, rfl⟩ inU11 15 (by decide) (fun _ _ _ => rfl) wl_915 c52 dX11_isTaken_52 ?_
      refine x_iconst F (v := 2) dX11_isTaken_55 (by decide) ?_
      obtain ⟨x56, c56, h⟩ := bdS h
      refine x_aI F c56 dX11_isTaken_56 ?_
      refine x_aload_n F dX11_isTaken_57 rfl 0 rfl ?_
      obtain ⟨x58, c58, h⟩ := bdS h
      refine x_getL F (ci := 11) (C := RX11) (T := TX11) (N := 45) rfl ⟨by decide, rfl⟩ inU11 12 (by decide) (fun _ _ _ => rfl) wl_871 c58 dX11_isTaken_58 ?_
      obtain ⟨⟨x61, M61⟩, c61, h⟩ := bdS h
      dsimp only at h
      refine x_callS F (As := [.ref (b + x46), .int 10, .int x56, .long x58]) (rest := []) (res := (some (.int x61))) (k_X11_findIn l b D cy N x46 10 x56 x58 M38 _ _ c61) wl_938 wl_939 wl_854 wl_936 (hd_X11_findIn).2 ⟨Nat.le_of_ble_eq_true rfl, Nat.le_of_ble_eq_true rfl⟩ ⟨Nat.le_refl _, Nat.le_refl _⟩ (Nat.le_of_ble_eq_true rfl) rfl dX11_isTaken_61 ?_
      refine x_iconst F (v := (-1)) dX11_isTaken_64 (by decide) ?_
      refine x_icmp_eq F (tgt := 72) dX11_isTaken_65 (by decide) (fun c65 => ?_) (fun c65 => ?_)
      · rw [if_pos c65] at h
        refine x_iconst F (v := 0) dX11_isTaken_72 (by decide) ?_
        obtain ⟨rfl, rfl⟩ := retS h
        exact x_zret F hr hl (by decide) dX11_isTaken_73
      · rw [if_neg c65] at h
        refine x_iconst F (v := 1) dX11_isTaken_68 (by decide) ?_
        refine x_goto F (tgt := 73) dX11_isTaken_69 (by decide) ?_
        obtain ⟨rfl, rfl⟩ := retS h
        exact x_zret F hr hl (by decide) dX11_isTaken_73
theorem hd_X11_isName : (yX11_isName).cls = RX11 ∧ (yX11_isName).cls ≠ "java/lang/invoke/MethodHandle" ∧ (yX11_isName).cls ≠ "java/lang/invoke/VarHandle" ∧ (parseMethodDescriptor (yX11_isName).desc).map (fun d => d.parameters.length) = some 0 := by decide +kernel
theorem hd_X11_isTaken : (yX11_isTaken).cls = RX11 ∧ (yX11_isTaken).cls ≠ "java/lang/invoke/MethodHandle" ∧ (yX11_isTaken).cls ≠ "java/lang/invoke/VarHandle" ∧ (parseMethodDescriptor (yX11_isTaken).desc).map (fun d => d.parameters.length) = some 0 := by decide +kernel
theorem dX11_readNew_0 : decode cX11_readNew 0 = .ok (.aload_n 0, 1) := by decide +kernel
theorem dX11_readNew_1 : decode cX11_readNew 1 = .ok (.invokevirtual 161, 3) := by decide +kernel
theorem dX11_readNew_4 : decode cX11_readNew 4 = .ok (.ifCond .ne 9, 3) := by decide +kernel
theorem dX11_readNew_7 : decode cX11_readNew 7 = .ok (.aload_n 0, 1) := by decide +kernel
theorem dX11_readNew_8 : decode cX11_readNew 8 = .ok (.iconst 1, 1) := by decide +kernel
theorem dX11_readNew_9 : decode cX11_readNew 9 = .ok (.invokevirtual 72, 3) := by decide +kernel
theorem dX11_readNew_12 : decode cX11_readNew 12 = .ok (.ireturn, 1) := by decide +kernel
theorem dX11_readNew_13 : decode cX11_readNew 13 = .ok (.aload_n 0, 1) := by decide +kernel
theorem dX11_readNew_14 : decode cX11_readNew 14 = .ok (.invokevirtual 165, 3) := by decide +kernel
theorem dX11_readNew_17 : decode cX11_readNew 17 = .ok (.ifCond .eq 9, 3) := by decide +kernel
theorem dX11_readNew_20 : decode cX11_readNew 20 = .ok (.aload_n 0, 1) := by decide +kernel
theorem dX11_readNew_21 : decode cX11_readNew 21 = .ok (.iconst 3, 1) := by decide +kernel
theorem dX11_readNew_22 : decode cX11_readNew 22 = .ok (.invokevirtual 72, 3) := by decide +kernel
theorem dX11_readNew_25 : decode cX11_readNew 25 = .ok (.ireturn, 1) := by decide +kernel
theorem dX11_readNew_26 : decode cX11_readNew 26 = .ok (.aload_n 0, 1) := by decide +kernel
theorem dX11_readNew_27 : decode cX11_readNew 27 = .ok (.getfield 117, 3) := by decide +kernel
theorem dX11_readNew_30 : decode cX11_readNew 30 = .ok (.iload_n 1, 1) := by decide +kernel
theorem dX11_readNew_31 : decode cX11_readNew 31 = .ok (.aload_n 0, 1) := by decide +kernel
theorem dX11_readNew_32 : decode cX11_readNew 32 = .ok (.getfield 43, 3) := by decide +kernel
theorem dX11_readNew_35 : decode cX11_readNew 35 = .ok (.lastore, 1) := by decide +kernel
theorem dX11_readNew_36 : decode cX11_readNew 36 = .ok (.aload_n 0, 1) := by decide +kernel
theorem dX11_readNew_37 : decode cX11_readNew 37 = .ok (.invokevirtual 82, 3) := by decide +kernel
theorem dX11_readNew_40 : decode cX11_readNew 40 = .ok (.iconst 1, 1) := by decide +kernel
theorem dX11_readNew_41 : decode cX11_readNew 41 = .ok (.ireturn, 1) := by decide +kernel
def fX11_readNew (N : Nat) (v0 : Nat) (v1 : Int32) (M : Mem) : Option (Int32 × Mem) := (if mK M v0 = 12 then ((fX11_isName N v0 M).bind fun (x1, M1) => (if x1 = 0 then (if mK M1 v0 = 12 then ((fX11_bad N v0 1 M1).bind fun (x9, M9) => (if vp_nar .boolean x9 = x9 then some (x9, M9) else none)) else none) else (if mK M1 v0 = 12 then ((fX11_isTaken N v0 M1).bind fun (x14, M14) => (if x14 = 0 then ((fR M14 11 v0 20).bind fun x27 => ((fL M14 11 v0 12).bind fun x32 => ((tL M14 x27 v1 x32).bind fun M35 => (if mK M35 v0 = 12 then ((fX11_go N v0 M35).bind fun (u37, M37) => some (1, M37)) else none)))) else (if mK M14 v0 = 12 then ((fX11_bad N v0 3 M14).bind fun (x22, M22) => (if vp_nar .boolean x22 = x22 then some (x22, M22) else none)) else none))) else none))) else none)
set_option maxHeartbeats 4000000 in
set_option maxRecDepth 100000 in
theorem k_X11_readNew (l : Launch) (b : Nat) (D : va_G) (cy : Nat → ClassId) (N : Nat) (v0 : Nat) (v1 : Int32) (M : Mem) (r : Int32) (Mf : Mem) (h : fX11_readNew N v0 v1 M = some (r, Mf)) : Ct l yX11_readNew cX11_readNew 2 (some .boolean) 4 0 0 b D cy [.ref (b + v0), .int v1] M (some (.int r)) Mf := by
  refine Ct_of (own := RX11) (by decide) rfl (Nat.le_of_ble_eq_true rfl) ?_
  intro p e s m args below meth c F hr hl hmn
  unfold fX11_readNew at h
  show X p l e ({ frames := 4, cells := 0, slots := 0, locals := 100 * 4 }) s m args below meth c (MQ below (Qm b D cy (some (.int r)) Mf) args s 0 0 (fun q => b ≤ q)) 2 b D cy 0 0 M 0 [(0, .ref (b + v0)), (1, .int v1)] []
  refine x_aload_n F dX11_readNew_0 rfl 0 rfl ?_
  obtain ⟨k1, h⟩ := gdS h
  obtain ⟨⟨x1, M1⟩, c1, h⟩ := bdS h
  dsimp only at h
  refine x_callV F (As := []) (rest := []) (res := (some (.int x1))) (ci := 11) (q := (RX11, TX11, 45)) rfl (by decide) k1 (k_X11_isName l b D cy N v0 M _ _ c1) wl_940 wl_941 wl_942 wl_854 wl_890 hd_X11_isName ⟨Nat.le_of_ble_eq_true rfl, Nat.le_of_ble_eq_true rfl⟩ ⟨Nat.le_refl _, Nat.le_refl _⟩ (Nat.le_of_ble_eq_true rfl) rfl dX11_readNew_1 ?_
  refine x_if_ne F (tgt := 13) dX11_readNew_4 (by decide) (fun c4 => ?_) (fun c4 => ?_)
  · rw [if_neg c4] at h
    refine x_aload_n F dX11_readNew_13 rfl 0 rfl ?_
    obtain ⟨k14, h⟩ := gdS h
    obtain ⟨⟨x14, M14⟩, c14, h⟩ := bdS h
    dsimp only at h
    refine x_callV F (As := []) (rest := []) (res := (some (.int x14))) (ci := 11) (q := (RX11, TX11, 45)) rfl (by decide) k14 (k_X11_isTaken l b D cy N v0 M1 _ _ c14) wl_943 wl_944 wl_945 wl_854 wl_937 hd_X11_isTaken ⟨Nat.le_of_ble_eq_true rfl, Nat.le_of_ble_eq_true rfl⟩ ⟨Nat.le_refl _, Nat.le_refl _⟩ (Nat.le_of_ble_eq_true rfl) rfl dX11_readNew_14 ?_
    refine x_if_eq F (tgt := 26) dX11_readNew_17 (by decide) (fun c17 => ?_) (fun c17 => ?_)
    · rw [if_pos c17] at h
      refine x_aload_n F dX11_readNew_26 rfl 0 rfl ?_
      obtain ⟨x27, c27, h⟩ := bdS h
      refine x_getR F (ci := 11) (C := RX11) (T := TX11) (N := 45) rfl ⟨by decide, rfl⟩ inU11 20 (by decide) (fun _ _ _ => rfl) wl_920 c27 dX11_readNew_27 ?_
      refine x_iload_n F dX11_readNew_30 rfl 1 rfl ?_
      refine x_aload_n F dX11_readNew_31 rfl 0 rfl ?_
      obtain ⟨x32, c32, h⟩ := bdS h
      refine x_getL F (ci := 11) (C := RX11) (T := TX11) (N := 45) rfl ⟨by decide, rfl⟩ inU11 12 (by decide) (fun _ _ _ => rfl) wl_871 c32 dX11_readNew_32 ?_
      obtain ⟨M35, c35, h⟩ := bdS h
      refine x_tL F c35 dX11_readNew_35 ?_
      refine x_aload_n F dX11_readNew_36 rfl 0 rfl ?_
      obtain ⟨k37, h⟩ := gdS h
      obtain ⟨⟨u37, M37⟩, c37, h⟩ := bdS h
      dsimp only at h
      refine x_callV F (As := []) (rest := []) (res := none) (ci := 11) (q := (RX11, TX11, 45)) rfl (by decide) k37 (k_X11_go l b D cy N v0 M35 _ _ c37) wl_900 wl_901 wl_902 wl_854 wl_865 hd_X11_go ⟨Nat.le_of_ble_eq_true rfl, Nat.le_of_ble_eq_true rfl⟩ ⟨Nat.le_refl _, Nat.le_refl _⟩ (Nat.le_of_ble_eq_true rfl) rfl dX11_readNew_37 ?_
      refine x_iconst F (v := 1) dX11_readNew_40 (by decide) ?_
      obtain ⟨rfl, rfl⟩ := retS h
      exact x_zret F hr hl (by decide) dX11_readNew_41
    · rw [if_neg c17] at h
      refine x_aload_n F dX11_readNew_20 rfl 0 rfl ?_
      refine x_iconst F (v := 3) dX11_readNew_21 (by decide) ?_
      obtain ⟨k22, h⟩ := gdS h
      obtain ⟨⟨x22, M22⟩, c22, h⟩ := bdS h
      dsimp only at h
      refine x_callV F (As := [.int 3]) (rest := []) (res := (some (.int x22))) (ci := 11) (q := (RX11, TX11, 45)) rfl (by decide) k22 (k_X11_bad l b D cy N v0 3 M14 _ _ c22) wl_895 wl_896 wl_897 wl_854 wl_891 hd_X11_bad ⟨Nat.le_of_ble_eq_true rfl, Nat.le_of_ble_eq_true rfl⟩ ⟨Nat.le_refl _, Nat.le_refl _⟩ (Nat.le_of_ble_eq_true rfl) rfl dX11_readNew_22 ?_
      obtain ⟨c25, h⟩ := gdS h
      obtain ⟨rfl, rfl⟩ := retS h
      exact x_zret F hr hl c25 dX11_readNew_25
  · rw [if_pos c4] at h
    refine x_aload_n F dX11_readNew_7 rfl 0 rfl ?_
    refine x_iconst F (v := 1) dX11_readNew_8 (by decide) ?_
    obtain ⟨k9, h⟩ := gdS h
    obtain ⟨⟨x9, M9⟩, c9, h⟩ := bdS h
    dsimp only at h
    refine x_callV F (As := [.int 1]) (rest := []) (res := (some (.int x9))) (ci := 11) (q := (RX11, TX11, 45)) rfl (by decide) k9 (k_X11_bad l b D cy N v0 1 M1 _ _ c9) wl_895 wl_896 wl_897 wl_854 wl_891 hd_X11_bad ⟨Nat.le_of_ble_eq_true rfl, Nat.le_of_ble_eq_true rfl⟩ ⟨Nat.le_refl _, Nat.le_refl _⟩ (Nat.le_of_ble_eq_true rfl) rfl dX11_readNew_9 ?_
    obtain ⟨c12, h⟩ := gdS h
    obtain ⟨rfl, rfl⟩ := retS h
    exact x_zret F hr hl c12 dX11_readNew_12
theorem dX11_readFirst_0 : decode cX11_readFirst 0 = .ok (.aload_n 0, 1) := by decide +kernel
theorem dX11_readFirst_1 : decode cX11_readFirst 1 = .ok (.getfield 101, 3) := by decide +kernel
theorem dX11_readFirst_4 : decode cX11_readFirst 4 = .ok (.iload_n 1, 1) := by decide +kernel
theorem dX11_readFirst_5 : decode cX11_readFirst 5 = .ok (.iaload, 1) := by decide +kernel
theorem dX11_readFirst_6 : decode cX11_readFirst 6 = .ok (.iload_n 2, 1) := by decide +kernel
theorem dX11_readFirst_7 : decode cX11_readFirst 7 = .ok (.if_icmp .ne 9, 3) := by decide +kernel
theorem dX11_readFirst_10 : decode cX11_readFirst 10 = .ok (.aload_n 0, 1) := by decide +kernel
theorem dX11_readFirst_11 : decode cX11_readFirst 11 = .ok (.iconst 4, 1) := by decide +kernel
theorem dX11_readFirst_12 : decode cX11_readFirst 12 = .ok (.invokevirtual 72, 3) := by decide +kernel
theorem dX11_readFirst_15 : decode cX11_readFirst 15 = .ok (.ireturn, 1) := by decide +kernel
theorem dX11_readFirst_16 : decode cX11_readFirst 16 = .ok (.aload_n 0, 1) := by decide +kernel
theorem dX11_readFirst_17 : decode cX11_readFirst 17 = .ok (.invokevirtual 82, 3) := by decide +kernel
theorem dX11_readFirst_20 : decode cX11_readFirst 20 = .ok (.iconst 1, 1) := by decide +kernel
theorem dX11_readFirst_21 : decode cX11_readFirst 21 = .ok (.ireturn, 1) := by decide +kernel
def fX11_readFirst (N : Nat) (v0 : Nat) (v1 : Int32) (v2 : Int32) (M : Mem) : Option (Int32 × Mem) := ((fR M 11 v0 15).bind fun x1 => ((aI M x1 v1).bind fun x5 => (if x5 = v2 then (if mK M v0 = 12 then ((fX11_bad N v0 4 M).bind fun (x12, M12) => (if vp_nar .boolean x12 = x12 then some (x12, M12) else none)) else none) else (if mK M v0 = 12 then ((fX11_go N v0 M).bind fun (u17, M17) => some (1, M17)) else none))))
set_option maxHeartbeats 4000000 in
set_option maxRecDepth 100000 in
theorem k_X11_readFirst (l : Launch) (b : Nat) (D : va_G) (cy : Nat → ClassId) (N : Nat) (v0 : Nat) (v1 : Int32) (v2 : Int32) (M : Mem) (r : Int32) (Mf : Mem) (h : fX11_readFirst N v0 v1 v2 M = some (r, Mf)) : Ct l yX11_readFirst cX11_readFirst 3 (some .boolean) 3 0 0 b D cy [.ref (b + v0), .int v1, .int v2] M (some (.int r)) Mf := by
  refine Ct_of (own := RX11) (by decide) rfl (Nat.le_of_ble_eq_true rfl) ?_
  intro p e s m args below meth c F hr hl hmn
  unfold fX11_readFirst at h
  show X p l e ({ frames := 3, cells := 0, slots := 0, locals := 100 * 3 }) s m args below meth c (MQ below (Qm b D cy (some (.int r)) Mf) args s 0 0 (fun q => b ≤ q)) 3 b D cy 0 0 M 0 [(0, .ref (b + v0)), (1, .int v1), (2, .int v2)] []
  refine x_aload_n F dX11_readFirst_0 rfl 0 rfl ?_
  obtain ⟨x1, c1, h⟩ := bdS h
  refine x_getR F (ci := 11) (C := RX11) (T := TX11) (N := 45) rfl ⟨by decide, rfl⟩ inU11 15 (by decide) (fun _ _ _ => rfl) wl_915 c1 dX11_readFirst_1 ?_
  refine x_iload_n F dX11_readFirst_4 rfl 1 rfl ?_
  obtain ⟨x5, c5, h⟩ := bdS h
  refine x_aI F c5 dX11_readFirst_5 ?_
  refine x_iload_n F dX11_readFirst_6 rfl 2 rfl ?_
  refine x_icmp_ne F (tgt := 16) dX11_readFirst_7 (by decide) (fun c7 => ?_) (fun c7 => ?_)
  · rw [if_neg c7] at h
    refine x_aload_n F dX11_readFirst_16 rfl 0 rfl ?_
    obtain ⟨k17, h⟩ := gdS h
    obtain ⟨⟨u17, M17⟩, c17, h⟩ := bdS h
    dsimp only at h
    refine x_callV F (As := []) (rest := []) (res := none) (ci := 11) (q := (RX11, TX11, 45)) rfl (by decide) k17 (k_X11_go l b D cy N v0 M _ _ c17) wl_900 wl_901 wl_902 wl_854 wl_865 hd_X11_go ⟨Nat.le_of_ble_eq_true rfl, Nat.le_of_ble_eq_true rfl⟩ ⟨Nat.le_refl _, Nat.le_refl _⟩ (Nat.le_of_ble_eq_true rfl) rfl dX11_readFirst_17 ?_
    refine x_iconst F (v := 1) dX11_readFirst_20 (by decide) ?_
    obtain ⟨rfl, rfl⟩ := retS h
    exact x_zret F hr hl (by decide) dX11_readFirst_21
  · rw [if_pos c7] at h
    refine x_aload_n F dX11_readFirst_10 rfl 0 rfl ?_
    refine x_iconst F (v := 4) dX11_readFirst_11 (by decide) ?_
    obtain ⟨k12, h⟩ := gdS h
    obtain ⟨⟨x12, M12⟩, c12, h⟩ := bdS h
    dsimp only at h
    refine x_callV F (As := [.int 4]) (rest := []) (res := (some (.int x12))) (ci := 11) (q := (RX11, TX11, 45)) rfl (by decide) k12 (k_X11_bad l b D cy N v0 4 M _ _ c12) wl_895 wl_896 wl_897 wl_854 wl_891 hd_X11_bad ⟨Nat.le_of_ble_eq_true rfl, Nat.le_of_ble_eq_true rfl⟩ ⟨Nat.le_refl _, Nat.le_refl _⟩ (Nat.le_of_ble_eq_true rfl) rfl dX11_readFirst_12 ?_
    obtain ⟨c15, h⟩ := gdS h
    obtain ⟨rfl, rfl⟩ := retS h
    exact x_zret F hr hl c15 dX11_readFirst_15
theorem dX11_put_0 : decode cX11_put 0 = .ok (.iload_n 2, 1) := by decide +kernel
theorem dX11_put_1 : decode cX11_put 1 = .ok (.ifCond .eq 13, 3) := by decide +kernel
theorem dX11_put_4 : decode cX11_put 4 = .ok (.aload_n 0, 1) := by decide +kernel
theorem dX11_put_5 : decode cX11_put 5 = .ok (.getfield 101, 3) := by decide +kernel
theorem dX11_put_8 : decode cX11_put 8 = .ok (.iload_n 1, 1) := by decide +kernel
theorem dX11_put_9 : decode cX11_put 9 = .ok (.aload_n 0, 1) := by decide +kernel
theorem dX11_put_10 : decode cX11_put 10 = .ok (.getfield 79, 3) := by decide +kernel
theorem dX11_put_13 : decode cX11_put 13 = .ok (.iastore, 1) := by decide +kernel
theorem dX11_put_14 : decode cX11_put 14 = .ok (.iload_n 2, 1) := by decide +kernel
theorem dX11_put_15 : decode cX11_put 15 = .ok (.ireturn, 1) := by decide +kernel
def fX11_put (N : Nat) (v0 : Nat) (v1 : Int32) (v2 : Int32) (M : Mem) : Option (Int32 × Mem) := (if v2 = 0 then (if vp_nar .boolean v2 = v2 then some (v2, M) else none) else ((fR M 11 v0 15).bind fun x5 => ((fI M 11 v0 13).bind fun x10 => ((tI M x5 v1 x10).bind fun M13 => (if vp_nar .boolean v2 = v2 then some (v2, M13) else none)))))
set_option maxHeartbeats 4000000 in
set_option maxRecDepth 100000 in
theorem k_X11_put (l : Launch) (b : Nat) (D : va_G) (cy : Nat → ClassId) (N : Nat) (v0 : Nat) (v1 : Int32) (v2 : Int32) (M : Mem) (r : Int32) (Mf : Mem) (h : fX11_put N v0 v1 v2 M = some (r, Mf)) : Ct l yX11_put cX11_put 3 (some .boolean) 1 0 0 b D cy [.ref (b + v0), .int v1, .int v2] M (some (.int r)) Mf := by
  refine Ct_of (own := RX11) (by decide) rfl (Nat.le_of_ble_eq_true rfl) ?_
  intro p e s m args below meth c F hr hl hmn
  unfold fX11_put at h
  show X p l e ({ frames := 1, cells := 0, slots := 0, locals := 100 * 1 }) s m args below meth c (MQ below (Qm b D cy (some (.int r)) Mf) args s 0 0 (fun q => b ≤ q)) 3 b D cy 0 0 M 0 [(0, .ref (b + v0)), (1, .int v1), (2, .int v2)] []
  refine x_iload_n F dX11_put_0 rfl 2 rfl ?_
  refine x_if_eq F (tgt := 14) dX11_put_1 (by decide) (fun c1 => ?_) (fun c1 => ?_)
  · rw [if_pos c1] at h
    refine x_iload_n F dX11_put_14 rfl 2 rfl ?_
    obtain ⟨c15, h⟩ := gdS h
    obtain ⟨rfl, rfl⟩ := retS h
    exact x_zret F hr hl c15 dX11_put_15
  · rw [if_neg c1] at h
    refine x_aload_n F dX11_put_4 rfl 0 rfl ?_
    obtain ⟨x5, c5, h⟩ := bdS h
    refine x_getR F (ci := 11) (C := RX11) (T := TX11) (N := 45) rfl ⟨by decide, rfl⟩ inU11 15 (by decide) (fun _ _ _ => rfl) wl_915 c5 dX11_put_5 ?_
    refine x_iload_n F dX11_put_8 rfl 1 rfl ?_
    refine x_aload_n F dX11_put_9 rfl 0 rfl ?_
    obtain ⟨x10, c10, h⟩ := bdS h
    refine x_getI F (ci := 11) (C := RX11) (T := TX11) (N := 45) rfl ⟨by decide, rfl⟩ inU11 13 (by decide) (fun _ _ _ => rfl) wl_894 c10 dX11_put_10 ?_
    obtain ⟨M13, c13, h⟩ := bdS h
    refine x_tI F c13 dX11_put_13 ?_
    refine x_iload_n F dX11_put_14 rfl 2 rfl ?_
    obtain ⟨c15, h⟩ := gdS h
    obtain ⟨rfl, rfl⟩ := retS h
    exact x_zret F hr hl c15 dX11_put_15
