theorem dX0_init_0 : decode cX0_init 0 = .ok (.aload_n 0, 1) := by decide +kernel
theorem dX0_init_1 : decode cX0_init 1 = .ok (.invokespecial 3, 3) := by decide +kernel
theorem dX0_init_4 : decode cX0_init 4 = .ok (.aload_n 0, 1) := by decide +kernel
theorem dX0_init_5 : decode cX0_init 5 = .ok (.bipush 72, 2) := by decide +kernel
theorem dX0_init_7 : decode cX0_init 7 = .ok (.newarray .int, 2) := by decide +kernel
theorem dX0_init_9 : decode cX0_init 9 = .ok (.putfield 11, 3) := by decide +kernel
theorem dX0_init_12 : decode cX0_init 12 = .ok (.aload_n 0, 1) := by decide +kernel
theorem dX0_init_13 : decode cX0_init 13 = .ok (.bipush 72, 2) := by decide +kernel
theorem dX0_init_15 : decode cX0_init 15 = .ok (.newarray .int, 2) := by decide +kernel
theorem dX0_init_17 : decode cX0_init 17 = .ok (.putfield 15, 3) := by decide +kernel
theorem dX0_init_20 : decode cX0_init 20 = .ok (.aload_n 0, 1) := by decide +kernel
theorem dX0_init_21 : decode cX0_init 21 = .ok (.bipush 6, 2) := by decide +kernel
theorem dX0_init_23 : decode cX0_init 23 = .ok (.newarray .int, 2) := by decide +kernel
theorem dX0_init_25 : decode cX0_init 25 = .ok (.putfield 18, 3) := by decide +kernel
theorem dX0_init_28 : decode cX0_init 28 = .ok (.aload_n 0, 1) := by decide +kernel
theorem dX0_init_29 : decode cX0_init 29 = .ok (.bipush 6, 2) := by decide +kernel
theorem dX0_init_31 : decode cX0_init 31 = .ok (.newarray .int, 2) := by decide +kernel
theorem dX0_init_33 : decode cX0_init 33 = .ok (.putfield 21, 3) := by decide +kernel
theorem dX0_init_36 : decode cX0_init 36 = .ok (.aload_n 0, 1) := by decide +kernel
theorem dX0_init_37 : decode cX0_init 37 = .ok (.bipush 6, 2) := by decide +kernel
theorem dX0_init_39 : decode cX0_init 39 = .ok (.newarray .int, 2) := by decide +kernel
theorem dX0_init_41 : decode cX0_init 41 = .ok (.putfield 24, 3) := by decide +kernel
theorem dX0_init_44 : decode cX0_init 44 = .ok (.aload_n 0, 1) := by decide +kernel
theorem dX0_init_45 : decode cX0_init 45 = .ok (.iconst 4, 1) := by decide +kernel
theorem dX0_init_46 : decode cX0_init 46 = .ok (.newarray .int, 2) := by decide +kernel
theorem dX0_init_48 : decode cX0_init 48 = .ok (.putfield 27, 3) := by decide +kernel
theorem dX0_init_51 : decode cX0_init 51 = .ok (.aload_n 0, 1) := by decide +kernel
theorem dX0_init_52 : decode cX0_init 52 = .ok (.bipush 12, 2) := by decide +kernel
theorem dX0_init_54 : decode cX0_init 54 = .ok (.newarray .int, 2) := by decide +kernel
theorem dX0_init_56 : decode cX0_init 56 = .ok (.putfield 30, 3) := by decide +kernel
theorem dX0_init_59 : decode cX0_init 59 = .ok (.aload_n 0, 1) := by decide +kernel
theorem dX0_init_60 : decode cX0_init 60 = .ok (.iconst 0, 1) := by decide +kernel
theorem dX0_init_61 : decode cX0_init 61 = .ok (.putfield 33, 3) := by decide +kernel
theorem dX0_init_64 : decode cX0_init 64 = .ok (.aload_n 0, 1) := by decide +kernel
theorem dX0_init_65 : decode cX0_init 65 = .ok (.iconst 0, 1) := by decide +kernel
theorem dX0_init_66 : decode cX0_init 66 = .ok (.putfield 37, 3) := by decide +kernel
theorem dX0_init_69 : decode cX0_init 69 = .ok (.aload_n 0, 1) := by decide +kernel
theorem dX0_init_70 : decode cX0_init 70 = .ok (.iconst 0, 1) := by decide +kernel
theorem dX0_init_71 : decode cX0_init 71 = .ok (.putfield 40, 3) := by decide +kernel
theorem dX0_init_74 : decode cX0_init 74 = .ok (.aload_n 0, 1) := by decide +kernel
theorem dX0_init_75 : decode cX0_init 75 = .ok (.iconst 0, 1) := by decide +kernel
theorem dX0_init_76 : decode cX0_init 76 = .ok (.putfield 43, 3) := by decide +kernel
theorem dX0_init_79 : decode cX0_init 79 = .ok (.aload_n 0, 1) := by decide +kernel
theorem dX0_init_80 : decode cX0_init 80 = .ok (.aload_n 1, 1) := by decide +kernel
theorem dX0_init_81 : decode cX0_init 81 = .ok (.putfield 46, 3) := by decide +kernel
theorem dX0_init_84 : decode cX0_init 84 = .ok (.aload_n 0, 1) := by decide +kernel
theorem dX0_init_85 : decode cX0_init 85 = .ok (.getfield 11, 3) := by decide +kernel
theorem dX0_init_88 : decode cX0_init 88 = .ok (.iconst (-1), 1) := by decide +kernel
theorem dX0_init_89 : decode cX0_init 89 = .ok (.invokestatic 50, 3) := by decide +kernel
theorem dX0_init_92 : decode cX0_init 92 = .ok (.aload_n 0, 1) := by decide +kernel
theorem dX0_init_93 : decode cX0_init 93 = .ok (.getfield 15, 3) := by decide +kernel
theorem dX0_init_96 : decode cX0_init 96 = .ok (.iconst (-1), 1) := by decide +kernel
theorem dX0_init_97 : decode cX0_init 97 = .ok (.invokestatic 50, 3) := by decide +kernel
theorem dX0_init_100 : decode cX0_init 100 = .ok (.return_, 1) := by decide +kernel
def fX0_init (N : Nat) (v0 : Nat) (v1 : Nat) (M : Mem) : Option (Unit × Mem) := ((nV M 20 72).bind fun (x7_1, M7_1) => ((pR M7_1 0 v0 1 x7_1).bind fun M9_2 => ((nV M9_2 20 72).bind fun (x15_3, M15_3) => ((pR M15_3 0 v0 2 x15_3).bind fun M17_4 => ((nV M17_4 20 6).bind fun (x23_5, M23_5) => ((pR M23_5 0 v0 3 x23_5).bind fun M25_6 => ((nV M25_6 20 6).bind fun (x31_7, M31_7) => ((pR M31_7 0 v0 4 x31_7).bind fun M33_8 => ((nV M33_8 20 6).bind fun (x39_9, M39_9) => ((pR M39_9 0 v0 5 x39_9).bind fun M41_10 => ((nV M41_10 20 4).bind fun (x46_11, M46_11) => ((pR M46_11 0 v0 6 x46_11).bind fun M48_12 => ((nV M48_12 20 12).bind fun (x54_13, M54_13) => ((pR M54_13 0 v0 7 x54_13).bind fun M56_14 => ((pI M56_14 0 v0 8 0).bind fun M61_15 => ((pI M61_15 0 v0 9 0).bind fun M66_16 => ((pI M66_16 0 v0 10 0).bind fun M71_17 => ((pI M71_17 0 v0 11 0).bind fun M76_18 => ((pR M76_18 0 v0 0 v1).bind fun M81_19 => ((fR M81_19 0 v0 1).bind fun x85_20 => ((fJ7_fill_53178 N x85_20 ((-1)) M81_19).bind fun (u89, M89) => ((fR M89 0 v0 2).bind fun x93_21 => ((fJ7_fill_53178 N x93_21 ((-1)) M89).bind fun (u97, M97) => some ((), M97))))))))))))))))))))))))
set_option maxHeartbeats 4000000 in
set_option maxRecDepth 100000 in
theorem k_X0_init (l : Launch) (b : Nat) (D : va_G) (cy : Nat → ClassId) (N : Nat) (v0 : Nat) (v1 : Nat) (M : Mem) (r : Unit) (Mf : Mem) (h : fX0_init N v0 v1 M = some (r, Mf)) : Ct l yX0_init cX0_init 2 none 2 7 178 b D cy [.ref (b + v0), .ref (b + v1)] M none Mf := by
  refine Ct_of (own := RX0) (by decide) rfl (Nat.le_of_ble_eq_true rfl) ?_
  intro p e s m args below meth c F hr hl hmn
  unfold fX0_init at h
  show X p l e ({ frames := 2, cells := 7, slots := 178, locals := 100 * 2 }) s m args below meth c (MQ below (Qm b D cy none Mf) args s 7 178 (fun q => b ≤ q)) 2 b D cy 0 0 M 0 [(0, .ref (b + v0)), (1, .ref (b + v1))] []
  refine x_aload_n F dX0_init_0 rfl 0 rfl ?_
  refine x_objInit F wl_2 wl_3 wl_4 (Nat.le_of_ble_eq_true rfl) (Nat.le_of_ble_eq_true rfl) dX0_init_1 ?_
  refine x_aload_n F dX0_init_4 rfl 0 rfl ?_
  refine x_bipush F (v := 72) dX0_init_5 (by decide) ?_
  obtain ⟨⟨x7_1, M7_1⟩, c7, h⟩ := bdS h
  dsimp only at h
  refine x_nVI F (N0 := 72) (by decide) wl_5 c7 ⟨Nat.le_of_ble_eq_true rfl, Nat.le_of_ble_eq_true rfl⟩ dX0_init_7 ?_
  obtain ⟨M9_2, c9, h⟩ := bdS h
  refine x_putRF F (ci := 0) (C := RX0) (T := TX0) (N := 12) rfl ⟨by decide, rfl⟩ inU0 tyX0_ok nmX0 1 (by decide) ⟨rfl, rfl⟩ (fun _ _ _ => rfl) rfl hmn rfl wl_6 c9 dX0_init_9 ?_
  refine x_aload_n F dX0_init_12 rfl 0 rfl ?_
  refine x_bipush F (v := 72) dX0_init_13 (by decide) ?_
  obtain ⟨⟨x15_3, M15_3⟩, c15, h⟩ := bdS h
  dsimp only at h
  refine x_nVI F (N0 := 72) (by decide) wl_5 c15 ⟨Nat.le_of_ble_eq_true rfl, Nat.le_of_ble_eq_true rfl⟩ dX0_init_15 ?_
  obtain ⟨M17_4, c17, h⟩ := bdS h
  refine x_putRF F (ci := 0) (C := RX0) (T := TX0) (N := 12) rfl ⟨by decide, rfl⟩ inU0 tyX0_ok nmX0 2 (by decide) ⟨rfl, rfl⟩ (fun _ _ _ => rfl) rfl hmn rfl wl_7 c17 dX0_init_17 ?_
  refine x_aload_n F dX0_init_20 rfl 0 rfl ?_
  refine x_bipush F (v := 6) dX0_init_21 (by decide) ?_
  obtain ⟨⟨x23_5, M23_5⟩, c23, h⟩ := bdS h
  dsimp only at h
  refine x_nVI F (N0 := 6) (by decide) wl_5 c23 ⟨Nat.le_of_ble_eq_true rfl, Nat.le_of_ble_eq_true rfl⟩ dX0_init_23 ?_
  obtain ⟨M25_6, c25, h⟩ := bdS h
  refine x_putRF F (ci := 0) (C := RX0) (T := TX0) (N := 12) rfl ⟨by decide, rfl⟩ inU0 tyX0_ok nmX0 3 (by decide) ⟨rfl, rfl⟩ (fun _ _ _ => rfl) rfl hmn rfl wl_8 c25 dX0_init_25 ?_
  refine x_aload_n F dX0_init_28 rfl 0 rfl ?_
  refine x_bipush F (v := 6) dX0_init_29 (by decide) ?_
  obtain ⟨⟨x31_7, M31_7⟩, c31, h⟩ := bdS h
  dsimp only at h
  refine x_nVI F (N0 := 6) (by decide) wl_5 c31 ⟨Nat.le_of_ble_eq_true rfl, Nat.le_of_ble_eq_true rfl⟩ dX0_init_31 ?_
  obtain ⟨M33_8, c33, h⟩ := bdS h
  refine x_putRF F (ci := 0) (C := RX0) (T := TX0) (N := 12) rfl ⟨by decide, rfl⟩ inU0 tyX0_ok nmX0 4 (by decide) ⟨rfl, rfl⟩ (fun _ _ _ => rfl) rfl hmn rfl wl_9 c33 dX0_init_33 ?_
  refine x_aload_n F dX0_init_36 rfl 0 rfl ?_
  refine x_bipush F (v := 6) dX0_init_37 (by decide) ?_
  obtain ⟨⟨x39_9, M39_9⟩, c39, h⟩ := bdS h
  dsimp only at h
  refine x_nVI F (N0 := 6) (by decide) wl_5 c39 ⟨Nat.le_of_ble_eq_true rfl, Nat.le_of_ble_eq_true rfl⟩ dX0_init_39 ?_
  obtain ⟨M41_10, c41, h⟩ := bdS h
  refine x_putRF F (ci := 0) (C := RX0) (T := TX0) (N := 12) rfl ⟨by decide, rfl⟩ inU0 tyX0_ok nmX0 5 (by decide) ⟨rfl, rfl⟩ (fun _ _ _ => rfl) rfl hmn rfl wl_10 c41 dX0_init_41 ?_
  refine x_aload_n F dX0_init_44 rfl 0 rfl ?_
  refine x_iconst F (v := 4) dX0_init_45 (by decide) ?_
  obtain ⟨⟨x46_11, M46_11⟩, c46, h⟩ := bdS h
  dsimp only at h
  refine x_nVI F (N0 := 4) (by decide) wl_5 c46 ⟨Nat.le_of_ble_eq_true rfl, Nat.le_of_ble_eq_true rfl⟩ dX0_init_46 ?_
  obtain ⟨M48_12, c48, h⟩ := bdS h
  refine x_putRF F (ci := 0) (C := RX0) (T := TX0) (N := 12) rfl ⟨by decide, rfl⟩ inU0 tyX0_ok nmX0 6 (by decide) ⟨rfl, rfl⟩ (fun _ _ _ => rfl) rfl hmn rfl wl_11 c48 dX0_init_48 ?_
  refine x_aload_n F dX0_init_51 rfl 0 rfl ?_
  refine x_bipush F (v := 12) dX0_init_52 (by decide) ?_
  obtain ⟨⟨x54_13, M54_13⟩, c54, h⟩ := bdS h
  dsimp only at h
  refine x_nVI F (N0 := 12) (by decide) wl_5 c54 ⟨Nat.le_of_ble_eq_true rfl, Nat.le_of_ble_eq_true rfl⟩ dX0_init_54 ?_
  obtain ⟨M56_14, c56, h⟩ := bdS h
  refine x_putRF F (ci := 0) (C := RX0) (T := TX0) (N := 12) rfl ⟨by decide, rfl⟩ inU0 tyX0_ok nmX0 7 (by decide) ⟨rfl, rfl⟩ (fun _ _ _ => rfl) rfl hmn rfl wl_12 c56 dX0_init_56 ?_
  refine x_aload_n F dX0_init_59 rfl 0 rfl ?_
  refine x_iconst F (v := 0) dX0_init_60 (by decide) ?_
  obtain ⟨M61_15, c61, h⟩ := bdS h
  refine x_putI F (ci := 0) (C := RX0) (T := TX0) (N := 12) rfl ⟨by decide, rfl⟩ inU0 tyX0_ok nmX0 8 (by decide) rfl rfl wl_13 c61 dX0_init_61 ?_
  refine x_aload_n F dX0_init_64 rfl 0 rfl ?_
  refine x_iconst F (v := 0) dX0_init_65 (by decide) ?_
  obtain ⟨M66_16, c66, h⟩ := bdS h
  refine x_putI F (ci := 0) (C := RX0) (T := TX0) (N := 12) rfl ⟨by decide, rfl⟩ inU0 tyX0_ok nmX0 9 (by decide) rfl rfl wl_14 c66 dX0_init_66 ?_
  refine x_aload_n F dX0_init_69 rfl 0 rfl ?_
  refine x_iconst F (v := 0) dX0_init_70 (by decide) ?_
  obtain ⟨M71_17, c71, h⟩ := bdS h
  refine x_putI F (ci := 0) (C := RX0) (T := TX0) (N := 12) rfl ⟨by decide, rfl⟩ inU0 tyX0_ok nmX0 10 (by decide) rfl rfl wl_15 c71 dX0_init_71 ?_
  refine x_aload_n F dX0_init_74 rfl 0 rfl ?_
  refine x_iconst F (v := 0) dX0_init_75 (by decide) ?_
  obtain ⟨M76_18, c76, h⟩ := bdS h
  refine x_putI F (ci := 0) (C := RX0) (T := TX0) (N := 12) rfl ⟨by decide, rfl⟩ inU0 tyX0_ok nmX0 11 (by decide) rfl rfl wl_16 c76 dX0_init_76 ?_
  refine x_aload_n F dX0_init_79 rfl 0 rfl ?_
  refine x_aload_n F dX0_init_80 rfl 1 rfl ?_
  obtain ⟨M81_19, c81, h⟩ := bdS h
  refine x_putRF F (ci := 0) (C := RX0) (T := TX0) (N := 12) rfl ⟨by decide, rfl⟩ inU0 tyX0_ok nmX0 0 (by decide) ⟨rfl, rfl⟩ (fun _ _ _ => rfl) rfl hmn rfl wl_17 c81 dX0_init_81 ?_
  refine x_aload_n F dX0_init_84 rfl 0 rfl ?_
  obtain ⟨x85_20, c85, h⟩ := bdS h
  refine x_getR F (ci := 0) (C := RX0) (T := TX0) (N := 12) rfl ⟨by decide, rfl⟩ inU0 1 (by decide) (fun _ _ _ => rfl) wl_6 c85 dX0_init_85 ?_
  refine x_iconst F (v := (-1)) dX0_init_88 (by decide) ?_
  obtain ⟨⟨u89, M89⟩, c89, h⟩ := bdS h
  dsimp only at h
  refine x_callS F (As := [.ref (b + x85_20), .int ((-1))]) (rest := []) (res := none) (k_J7_fill_53178 l b D cy N x85_20 ((-1)) M81_19 _ _ c89) wl_18 wl_19 wl_20 wl_0 (hd_J7_fill_53178).2 ⟨Nat.le_of_ble_eq_true rfl, Nat.le_of_ble_eq_true rfl⟩ ⟨Nat.le_refl _, Nat.le_refl _⟩ (Nat.le_of_ble_eq_true rfl) rfl dX0_init_89 ?_
  refine x_aload_n F dX0_init_92 rfl 0 rfl ?_
  obtain ⟨x93_21, c93, h⟩ := bdS h
  refine x_getR F (ci := 0) (C := RX0) (T := TX0) (N := 12) rfl ⟨by decide, rfl⟩ inU0 2 (by decide) (fun _ _ _ => rfl) wl_7 c93 dX0_init_93 ?_
  refine x_iconst F (v := (-1)) dX0_init_96 (by decide) ?_
  obtain ⟨⟨u97, M97⟩, c97, h⟩ := bdS h
  dsimp only at h
  refine x_callS F (As := [.ref (b + x93_21), .int ((-1))]) (rest := []) (res := none) (k_J7_fill_53178 l b D cy N x93_21 ((-1)) M89 _ _ c97) wl_18 wl_19 wl_20 wl_0 (hd_J7_fill_53178).2 ⟨Nat.le_of_ble_eq_true rfl, Nat.le_of_ble_eq_true rfl⟩ ⟨Nat.le_refl _, Nat.le_refl _⟩ (Nat.le_of_ble_eq_true rfl) rfl dX0_init_97 ?_
  obtain ⟨rfl, rfl⟩ := retS h
  exact x_vret F hr hl dX0_init_100
theorem dX1_init_0 : decode cX1_init 0 = .ok (.aload_n 0, 1) := by decide +kernel
theorem dX1_init_1 : decode cX1_init 1 = .ok (.invokespecial 3, 3) := by decide +kernel
theorem dX1_init_4 : decode cX1_init 4 = .ok (.aload_n 0, 1) := by decide +kernel
theorem dX1_init_5 : decode cX1_init 5 = .ok (.bipush 40, 2) := by decide +kernel
theorem dX1_init_7 : decode cX1_init 7 = .ok (.newarray .int, 2) := by decide +kernel
theorem dX1_init_9 : decode cX1_init 9 = .ok (.putfield 11, 3) := by decide +kernel
theorem dX1_init_12 : decode cX1_init 12 = .ok (.aload_n 0, 1) := by decide +kernel
theorem dX1_init_13 : decode cX1_init 13 = .ok (.bipush 40, 2) := by decide +kernel
theorem dX1_init_15 : decode cX1_init 15 = .ok (.newarray .int, 2) := by decide +kernel
theorem dX1_init_17 : decode cX1_init 17 = .ok (.putfield 15, 3) := by decide +kernel
theorem dX1_init_20 : decode cX1_init 20 = .ok (.aload_n 0, 1) := by decide +kernel
theorem dX1_init_21 : decode cX1_init 21 = .ok (.bipush 40, 2) := by decide +kernel
theorem dX1_init_23 : decode cX1_init 23 = .ok (.newarray .int, 2) := by decide +kernel
theorem dX1_init_25 : decode cX1_init 25 = .ok (.putfield 18, 3) := by decide +kernel
theorem dX1_init_28 : decode cX1_init 28 = .ok (.aload_n 0, 1) := by decide +kernel
theorem dX1_init_29 : decode cX1_init 29 = .ok (.bipush 40, 2) := by decide +kernel
theorem dX1_init_31 : decode cX1_init 31 = .ok (.newarray .int, 2) := by decide +kernel
theorem dX1_init_33 : decode cX1_init 33 = .ok (.putfield 21, 3) := by decide +kernel
theorem dX1_init_36 : decode cX1_init 36 = .ok (.aload_n 0, 1) := by decide +kernel
theorem dX1_init_37 : decode cX1_init 37 = .ok (.bipush 40, 2) := by decide +kernel
theorem dX1_init_39 : decode cX1_init 39 = .ok (.newarray .int, 2) := by decide +kernel
theorem dX1_init_41 : decode cX1_init 41 = .ok (.putfield 24, 3) := by decide +kernel
theorem dX1_init_44 : decode cX1_init 44 = .ok (.aload_n 0, 1) := by decide +kernel
theorem dX1_init_45 : decode cX1_init 45 = .ok (.iconst 0, 1) := by decide +kernel
theorem dX1_init_46 : decode cX1_init 46 = .ok (.putfield 27, 3) := by decide +kernel
theorem dX1_init_49 : decode cX1_init 49 = .ok (.aload_n 0, 1) := by decide +kernel
theorem dX1_init_50 : decode cX1_init 50 = .ok (.iconst (-1), 1) := by decide +kernel
theorem dX1_init_51 : decode cX1_init 51 = .ok (.putfield 31, 3) := by decide +kernel
theorem dX1_init_54 : decode cX1_init 54 = .ok (.aload_n 0, 1) := by decide +kernel
theorem dX1_init_55 : decode cX1_init 55 = .ok (.iconst (-1), 1) := by decide +kernel
theorem dX1_init_56 : decode cX1_init 56 = .ok (.putfield 34, 3) := by decide +kernel
theorem dX1_init_59 : decode cX1_init 59 = .ok (.aload_n 0, 1) := by decide +kernel
theorem dX1_init_60 : decode cX1_init 60 = .ok (.iconst (-1), 1) := by decide +kernel
theorem dX1_init_61 : decode cX1_init 61 = .ok (.putfield 37, 3) := by decide +kernel
theorem dX1_init_64 : decode cX1_init 64 = .ok (.aload_n 0, 1) := by decide +kernel
theorem dX1_init_65 : decode cX1_init 65 = .ok (.iconst (-1), 1) := by decide +kernel
theorem dX1_init_66 : decode cX1_init 66 = .ok (.putfield 40, 3) := by decide +kernel
theorem dX1_init_69 : decode cX1_init 69 = .ok (.aload_n 0, 1) := by decide +kernel
theorem dX1_init_70 : decode cX1_init 70 = .ok (.aload_n 1, 1) := by decide +kernel
theorem dX1_init_71 : decode cX1_init 71 = .ok (.putfield 43, 3) := by decide +kernel
theorem dX1_init_74 : decode cX1_init 74 = .ok (.return_, 1) := by decide +kernel
def fX1_init (N : Nat) (v0 : Nat) (v1 : Nat) (M : Mem) : Option (Unit × Mem) := ((nV M 20 40).bind fun (x7_1, M7_1) => ((pR M7_1 1 v0 1 x7_1).bind fun M9_2 => ((nV M9_2 20 40).bind fun (x15_3, M15_3) => ((pR M15_3 1 v0 2 x15_3).bind fun M17_4 => ((nV M17_4 20 40).bind fun (x23_5, M23_5) => ((pR M23_5 1 v0 3 x23_5).bind fun M25_6 => ((nV M25_6 20 40).bind fun (x31_7, M31_7) => ((pR M31_7 1 v0 4 x31_7).bind fun M33_8 => ((nV M33_8 20 40).bind fun (x39_9, M39_9) => ((pR M39_9 1 v0 5 x39_9).bind fun M41_10 => ((pI M41_10 1 v0 6 0).bind fun M46_11 => ((pI M46_11 1 v0 7 ((-1))).bind fun M51_12 => ((pI M51_12 1 v0 8 ((-1))).bind fun M56_13 => ((pI M56_13 1 v0 9 ((-1))).bind fun M61_14 => ((pI M61_14 1 v0 10 ((-1))).bind fun M66_15 => ((pR M66_15 1 v0 0 v1).bind fun M71_16 => some ((), M71_16)))))))))))))))))
set_option maxHeartbeats 4000000 in
set_option maxRecDepth 100000 in
theorem k_X1_init (l : Launch) (b : Nat) (D : va_G) (cy : Nat → ClassId) (N : Nat) (v0 : Nat) (v1 : Nat) (M : Mem) (r : Unit) (Mf : Mem) (h : fX1_init N v0 v1 M = some (r, Mf)) : Ct l yX1_init cX1_init 2 none 1 5 200 b D cy [.ref (b + v0), .ref (b + v1)] M none Mf := by
  refine Ct_of (own := RX1) (by decide) rfl (Nat.le_of_ble_eq_true rfl) ?_
  intro p e s m args below meth c F hr hl hmn
  unfold fX1_init at h
  show X p l e ({ frames := 1, cells := 5, slots := 200, locals := 100 * 1 }) s m args below meth c (MQ below (Qm b D cy none Mf) args s 5 200 (fun q => b ≤ q)) 2 b D cy 0 0 M 0 [(0, .ref (b + v0)), (1, .ref (b + v1))] []
  refine x_aload_n F dX1_init_0 rfl 0 rfl ?_
  refine x_objInit F wl_134 wl_3 wl_4 (Nat.le_of_ble_eq_true rfl) (Nat.le_of_ble_eq_true rfl) dX1_init_1 ?_
  refine x_aload_n F dX1_init_4 rfl 0 rfl ?_
  refine x_bipush F (v := 40) dX1_init_5 (by decide) ?_
  obtain ⟨⟨x7_1, M7_1⟩, c7, h⟩ := bdS h
  dsimp only at h
  refine x_nVI F (N0 := 40) (by decide) wl_5 c7 ⟨Nat.le_of_ble_eq_true rfl, Nat.le_of_ble_eq_true rfl⟩ dX1_init_7 ?_
  obtain ⟨M9_2, c9, h⟩ := bdS h
  refine x_putRF F (ci := 1) (C := RX1) (T := TX1) (N := 11) rfl ⟨by decide, rfl⟩ inU1 tyX1_ok nmX1 1 (by decide) ⟨rfl, rfl⟩ (fun _ _ _ => rfl) rfl hmn rfl wl_135 c9 dX1_init_9 ?_
  refine x_aload_n F dX1_init_12 rfl 0 rfl ?_
  refine x_bipush F (v := 40) dX1_init_13 (by decide) ?_
  obtain ⟨⟨x15_3, M15_3⟩, c15, h⟩ := bdS h
  dsimp only at h
  refine x_nVI F (N0 := 40) (by decide) wl_5 c15 ⟨Nat.le_of_ble_eq_true rfl, Nat.le_of_ble_eq_true rfl⟩ dX1_init_15 ?_
  obtain ⟨M17_4, c17, h⟩ := bdS h
  refine x_putRF F (ci := 1) (C := RX1) (T := TX1) (N := 11) rfl ⟨by decide, rfl⟩ inU1 tyX1_ok nmX1 2 (by decide) ⟨rfl, rfl⟩ (fun _ _ _ => rfl) rfl hmn rfl wl_136 c17 dX1_init_17 ?_
  refine x_aload_n F dX1_init_20 rfl 0 rfl ?_
  refine x_bipush F (v := 40) dX1_init_21 (by decide) ?_
  obtain ⟨⟨x23_5, M23_5⟩, c23, h⟩ := bdS h
  dsimp only at h
  refine x_nVI F (N0 := 40) (by decide) wl_5 c23 ⟨Nat.le_of_ble_eq_true rfl, Nat.le_of_ble_eq_true rfl⟩ dX1_init_23 ?_
  obtain ⟨M25_6, c25, h⟩ := bdS h
  refine x_putRF F (ci := 1) (C := RX1) (T := TX1) (N := 11) rfl ⟨by decide, rfl⟩ inU1 tyX1_ok nmX1 3 (by decide) ⟨rfl, rfl⟩ (fun _ _ _ => rfl) rfl hmn rfl wl_137 c25 dX1_init_25 ?_
  refine x_aload_n F dX1_init_28 rfl 0 rfl ?_
  refine x_bipush F (v := 40) dX1_init_29 (by decide) ?_
  obtain ⟨⟨x31_7, M31_7⟩, c31, h⟩ := bdS h
  dsimp only at h
  refine x_nVI F (N0 := 40) (by decide) wl_5 c31 ⟨Nat.le_of_ble_eq_true rfl, Nat.le_of_ble_eq_true rfl⟩ dX1_init_31 ?_
  obtain ⟨M33_8, c33, h⟩ := bdS h
  refine x_putRF F (ci := 1) (C := RX1) (T := TX1) (N := 11) rfl ⟨by decide, rfl⟩ inU1 tyX1_ok nmX1 4 (by decide) ⟨rfl, rfl⟩ (fun _ _ _ => rfl) rfl hmn rfl wl_138 c33 dX1_init_33 ?_
  refine x_aload_n F dX1_init_36 rfl 0 rfl ?_
  refine x_bipush F (v := 40) dX1_init_37 (by decide) ?_
  obtain ⟨⟨x39_9, M39_9⟩, c39, h⟩ := bdS h
  dsimp only at h
  refine x_nVI F (N0 := 40) (by decide) wl_5 c39 ⟨Nat.le_of_ble_eq_true rfl, Nat.le_of_ble_eq_true rfl⟩ dX1_init_39 ?_
  obtain ⟨M41_10, c41, h⟩ := bdS h
  refine x_putRF F (ci := 1) (C := RX1) (T := TX1) (N := 11) rfl ⟨by decide, rfl⟩ inU1 tyX1_ok nmX1 5 (by decide) ⟨rfl, rfl⟩ (fun _ _ _ => rfl) rfl hmn rfl wl_139 c41 dX1_init_41 ?_
  refine x_aload_n F dX1_init_44 rfl 0 rfl ?_
  refine x_iconst F (v := 0) dX1_init_45 (by decide) ?_
  obtain ⟨M46_11, c46, h⟩ := bdS h
  refine x_putI F (ci := 1) (C := RX1) (T := TX1) (N := 11) rfl ⟨by decide, rfl⟩ inU1 tyX1_ok nmX1 6 (by decide) rfl rfl wl_140 c46 dX1_init_46 ?_
  refine x_aload_n F dX1_init_49 rfl 0 rfl ?_
  refine x_iconst F (v := (-1)) dX1_init_50 (by decide) ?_
  obtain ⟨M51_12, c51, h⟩ := bdS h
  refine x_putI F (ci := 1) (C := RX1) (T := TX1) (N := 11) rfl ⟨by decide, rfl⟩ inU1 tyX1_ok nmX1 7 (by decide) rfl rfl wl_141 c51 dX1_init_51 ?_
  refine x_aload_n F dX1_init_54 rfl 0 rfl ?_
  refine x_iconst F (v := (-1)) dX1_init_55 (by decide) ?_
  obtain ⟨M56_13, c56, h⟩ := bdS h
  refine x_putI F (ci := 1) (C := RX1) (T := TX1) (N := 11) rfl ⟨by decide, rfl⟩ inU1 tyX1_ok nmX1 8 (by decide) rfl rfl wl_142 c56 dX1_init_56 ?_
  refine x_aload_n F dX1_init_59 rfl 0 rfl ?_
  refine x_iconst F (v := (-1)) dX1_init_60 (by decide) ?_
  obtain ⟨M61_14, c61, h⟩ := bdS h
  refine x_putI F (ci := 1) (C := RX1) (T := TX1) (N := 11) rfl ⟨by decide, rfl⟩ inU1 tyX1_ok nmX1 9 (by decide) rfl rfl wl_143 c61 dX1_init_61 ?_
  refine x_aload_n F dX1_init_64 rfl 0 rfl ?_
  refine x_iconst F (v := (-1)) dX1_init_65 (by decide) ?_
  obtain ⟨M66_15, c66, h⟩ := bdS h
  refine x_putI F (ci := 1) (C := RX1) (T := TX1) (N := 11) rfl ⟨by decide, rfl⟩ inU1 tyX1_ok nmX1 10 (by decide) rfl rfl wl_144 c66 dX1_init_66 ?_
  refine x_aload_n F dX1_init_69 rfl 0 rfl ?_
  refine x_aload_n F dX1_init_70 rfl 1 rfl ?_
  obtain ⟨M71_16, c71, h⟩ := bdS h
  refine x_putRF F (ci := 1) (C := RX1) (T := TX1) (N := 11) rfl ⟨by decide, rfl⟩ inU1 tyX1_ok nmX1 0 (by decide) ⟨rfl, rfl⟩ (fun _ _ _ => rfl) rfl hmn rfl wl_145 c71 dX1_init_71 ?_
  obtain ⟨rfl, rfl⟩ := retS h
  exact x_vret F hr hl dX1_init_74
theorem dX2_init_0 : decode cX2_init 0 = .ok (.aload_n 0, 1) := by decide +kernel
theorem dX2_init_1 : decode cX2_init 1 = .ok (.invokespecial 3, 3) := by decide +kernel
theorem dX2_init_4 : decode cX2_init 4 = .ok (.aload_n 0, 1) := by decide +kernel
theorem dX2_init_5 : decode cX2_init 5 = .ok (.iconst 0, 1) := by decide +kernel
theorem dX2_init_6 : decode cX2_init 6 = .ok (.putfield 9, 3) := by decide +kernel
theorem dX2_init_9 : decode cX2_init 9 = .ok (.aload_n 0, 1) := by decide +kernel
theorem dX2_init_10 : decode cX2_init 10 = .ok (.aload_n 1, 1) := by decide +kernel
theorem dX2_init_11 : decode cX2_init 11 = .ok (.putfield 15, 3) := by decide +kernel
theorem dX2_init_14 : decode cX2_init 14 = .ok (.return_, 1) := by decide +kernel
def fX2_init (N : Nat) (v0 : Nat) (v1 : Nat) (M : Mem) : Option (Unit × Mem) := ((pI M 2 v0 1 0).bind fun M6_1 => ((pR M6_1 2 v0 0 v1).bind fun M11_2 => some ((), M11_2)))
set_option maxHeartbeats 4000000 in
set_option maxRecDepth 100000 in
theorem k_X2_init (l : Launch) (b : Nat) (D : va_G) (cy : Nat → ClassId) (N : Nat) (v0 : Nat) (v1 : Nat) (M : Mem) (r : Unit) (Mf : Mem) (h : fX2_init N v0 v1 M = some (r, Mf)) : Ct l yX2_init cX2_init 2 none 1 0 0 b D cy [.ref (b + v0), .ref (b + v1)] M none Mf := by
  refine Ct_of (own := RX2) (by decide) rfl (Nat.le_of_ble_eq_true rfl) ?_
  intro p e s m args below meth c F hr hl hmn
  unfold fX2_init at h
  show X p l e ({ frames := 1, cells := 0, slots := 0, locals := 100 * 1 }) s m args below meth c (MQ below (Qm b D cy none Mf) args s 0 0 (fun q => b ≤ q)) 2 b D cy 0 0 M 0 [(0, .ref (b + v0)), (1, .ref (b + v1))] []
  refine x_aload_n F dX2_init_0 rfl 0 rfl ?_
  refine x_objInit F wl_279 wl_3 wl_4 (Nat.le_of_ble_eq_true rfl) (Nat.le_of_ble_eq_true rfl) dX2_init_1 ?_
  refine x_aload_n F dX2_init_4 rfl 0 rfl ?_
  refine x_iconst F (v := 0) dX2_init_5 (by decide) ?_
  obtain ⟨M6_1, c6, h⟩ := bdS h
  refine x_putI F (ci := 2) (C := RX2) (T := TX2) (N := 2) rfl ⟨by decide, rfl⟩ inU2 tyX2_ok nmX2 1 (by decide) rfl rfl wl_280 c6 dX2_init_6 ?_
  refine x_aload_n F dX2_init_9 rfl 0 rfl ?_
  refine x_aload_n F dX2_init_10 rfl 1 rfl ?_
  obtain ⟨M11_2, c11, h⟩ := bdS h
  refine x_putRF F (ci := 2) (C := RX2) (T := TX2) (N := 2) rfl ⟨by decide, rfl⟩ inU2 tyX2_ok nmX2 0 (by decide) ⟨rfl, rfl⟩ (fun _ _ _ => rfl) rfl hmn rfl wl_281 c11 dX2_init_11 ?_
  obtain ⟨rfl, rfl⟩ := retS h
  exact x_vret F hr hl dX2_init_14
theorem dX3_init_0 : decode cX3_init 0 = .ok (.aload_n 0, 1) := by decide +kernel
theorem dX3_init_1 : decode cX3_init 1 = .ok (.invokespecial 5, 3) := by decide +kernel
theorem dX3_init_4 : decode cX3_init 4 = .ok (.aload_n 0, 1) := by decide +kernel
theorem dX3_init_5 : decode cX3_init 5 = .ok (.sipush 300, 3) := by decide +kernel
theorem dX3_init_8 : decode cX3_init 8 = .ok (.newarray .int, 2) := by decide +kernel
theorem dX3_init_10 : decode cX3_init 10 = .ok (.putfield 11, 3) := by decide +kernel
theorem dX3_init_13 : decode cX3_init 13 = .ok (.aload_n 0, 1) := by decide +kernel
theorem dX3_init_14 : decode cX3_init 14 = .ok (.sipush 300, 3) := by decide +kernel
theorem dX3_init_17 : decode cX3_init 17 = .ok (.newarray .int, 2) := by decide +kernel
theorem dX3_init_19 : decode cX3_init 19 = .ok (.putfield 15, 3) := by decide +kernel
theorem dX3_init_22 : decode cX3_init 22 = .ok (.aload_n 0, 1) := by decide +kernel
theorem dX3_init_23 : decode cX3_init 23 = .ok (.aload_n 1, 1) := by decide +kernel
theorem dX3_init_24 : decode cX3_init 24 = .ok (.putfield 18, 3) := by decide +kernel
theorem dX3_init_27 : decode cX3_init 27 = .ok (.return_, 1) := by decide +kernel
def fX3_init (N : Nat) (v0 : Nat) (v1 : Nat) (M : Mem) : Option (Unit × Mem) := ((nV M 20 300).bind fun (x8_1, M8_1) => ((pR M8_1 3 v0 1 x8_1).bind fun M10_2 => ((nV M10_2 20 300).bind fun (x17_3, M17_3) => ((pR M17_3 3 v0 2 x17_3).bind fun M19_4 => ((pR M19_4 3 v0 0 v1).bind fun M24_5 => some ((), M24_5))))))
set_option maxHeartbeats 4000000 in
set_option maxRecDepth 100000 in
theorem k_X3_init (l : Launch) (b : Nat) (D : va_G) (cy : Nat → ClassId) (N : Nat) (v0 : Nat) (v1 : Nat) (M : Mem) (r : Unit) (Mf : Mem) (h : fX3_init N v0 v1 M = some (r, Mf)) : Ct l yX3_init cX3_init 2 none 1 2 600 b D cy [.ref (b + v0), .ref (b + v1)] M none Mf := by
  refine Ct_of (own := RX3) (by decide) rfl (Nat.le_of_ble_eq_true rfl) ?_
  intro p e s m args below meth c F hr hl hmn
  unfold fX3_init at h
  show X p l e ({ frames := 1, cells := 2, slots := 600, locals := 100 * 1 }) s m args below meth c (MQ below (Qm b D cy none Mf) args s 2 600 (fun q => b ≤ q)) 2 b D cy 0 0 M 0 [(0, .ref (b + v0)), (1, .ref (b + v1))] []
  refine x_aload_n F dX3_init_0 rfl 0 rfl ?_
  refine x_objInit F wl_310 wl_3 wl_4 (Nat.le_of_ble_eq_true rfl) (Nat.le_of_ble_eq_true rfl) dX3_init_1 ?_
  refine x_aload_n F dX3_init_4 rfl 0 rfl ?_
  refine x_sipush F (v := 300) dX3_init_5 (by decide) ?_
  obtain ⟨⟨x8_1, M8_1⟩, c8, h⟩ := bdS h
  dsimp only at h
  refine x_nVI F (N0 := 300) (by decide) wl_5 c8 ⟨Nat.le_of_ble_eq_true rfl, Nat.le_of_ble_eq_true rfl⟩ dX3_init_8 ?_
  obtain ⟨M10_2, c10, h⟩ := bdS h
  refine x_putR F (ci := 3) (C := RX3) (T := TX3) (N := 3) rfl ⟨by decide, rfl⟩ inU3 tyX3_ok nmX3 1 (by decide) ⟨rfl, rfl⟩ (fun _ _ _ => rfl) rfl wl_311 c10 dX3_init_10 ?_
  refine x_aload_n F dX3_init_13 rfl 0 rfl ?_
  refine x_sipush F (v := 300) dX3_init_14 (by decide) ?_
  obtain ⟨⟨x17_3, M17_3⟩, c17, h⟩ := bdS h
  dsimp only at h
  refine x_nVI F (N0 := 300) (by decide) wl_5 c17 ⟨Nat.le_of_ble_eq_true rfl, Nat.le_of_ble_eq_true rfl⟩ dX3_init_17 ?_
  obtain ⟨M19_4, c19, h⟩ := bdS h
  refine x_putR F (ci := 3) (C := RX3) (T := TX3) (N := 3) rfl ⟨by decide, rfl⟩ inU3 tyX3_ok nmX3 2 (by decide) ⟨rfl, rfl⟩ (fun _ _ _ => rfl) rfl wl_312 c19 dX3_init_19 ?_
  refine x_aload_n F dX3_init_22 rfl 0 rfl ?_
  refine x_aload_n F dX3_init_23 rfl 1 rfl ?_
  obtain ⟨M24_5, c24, h⟩ := bdS h
  refine x_putRF F (ci := 3) (C := RX3) (T := TX3) (N := 3) rfl ⟨by decide, rfl⟩ inU3 tyX3_ok nmX3 0 (by decide) ⟨rfl, rfl⟩ (fun _ _ _ => rfl) rfl hmn rfl wl_313 c24 dX3_init_24 ?_
  obtain ⟨rfl, rfl⟩ := retS h
  exact x_vret F hr hl dX3_init_27
theorem dX4_init_0 : decode cX4_init 0 = .ok (.aload_n 0, 1) := by decide +kernel
theorem dX4_init_1 : decode cX4_init 1 = .ok (.invokespecial 3, 3) := by decide +kernel
theorem dX4_init_4 : decode cX4_init 4 = .ok (.aload_n 0, 1) := by decide +kernel
theorem dX4_init_5 : decode cX4_init 5 = .ok (.iconst (-1), 1) := by decide +kernel
theorem dX4_init_6 : decode cX4_init 6 = .ok (.putfield 9, 3) := by decide +kernel
theorem dX4_init_9 : decode cX4_init 9 = .ok (.aload_n 0, 1) := by decide +kernel
theorem dX4_init_10 : decode cX4_init 10 = .ok (.iconst (-1), 1) := by decide +kernel
theorem dX4_init_11 : decode cX4_init 11 = .ok (.putfield 15, 3) := by decide +kernel
theorem dX4_init_14 : decode cX4_init 14 = .ok (.aload_n 0, 1) := by decide +kernel
theorem dX4_init_15 : decode cX4_init 15 = .ok (.iconst (-1), 1) := by decide +kernel
theorem dX4_init_16 : decode cX4_init 16 = .ok (.putfield 18, 3) := by decide +kernel
theorem dX4_init_19 : decode cX4_init 19 = .ok (.aload_n 0, 1) := by decide +kernel
theorem dX4_init_20 : decode cX4_init 20 = .ok (.aload_n 1, 1) := by decide +kernel
theorem dX4_init_21 : decode cX4_init 21 = .ok (.putfield 21, 3) := by decide +kernel
theorem dX4_init_24 : decode cX4_init 24 = .ok (.return_, 1) := by decide +kernel
def fX4_init (N : Nat) (v0 : Nat) (v1 : Nat) (M : Mem) : Option (Unit × Mem) := ((pI M 4 v0 1 ((-1))).bind fun M6_1 => ((pI M6_1 4 v0 2 ((-1))).bind fun M11_2 => ((pI M11_2 4 v0 3 ((-1))).bind fun M16_3 => ((pR M16_3 4 v0 0 v1).bind fun M21_4 => some ((), M21_4)))))
set_option maxHeartbeats 4000000 in
set_option maxRecDepth 100000 in
theorem k_X4_init (l : Launch) (b : Nat) (D : va_G) (cy : Nat → ClassId) (N : Nat) (v0 : Nat) (v1 : Nat) (M : Mem) (r : Unit) (Mf : Mem) (h : fX4_init N v0 v1 M = some (r, Mf)) : Ct l yX4_init cX4_init 2 none 1 0 0 b D cy [.ref (b + v0), .ref (b + v1)] M none Mf := by
  refine Ct_of (own := RX4) (by decide) rfl (Nat.le_of_ble_eq_true rfl) ?_
  intro p e s m args below meth c F hr hl hmn
  unfold fX4_init at h
  show X p l e ({ frames := 1, cells := 0, slots := 0, locals := 100 * 1 }) s m args below meth c (MQ below (Qm b D cy none Mf) args s 0 0 (fun q => b ≤ q)) 2 b D cy 0 0 M 0 [(0, .ref (b + v0)), (1, .ref (b + v1))] []
  refine x_aload_n F dX4_init_0 rfl 0 rfl ?_
  refine x_objInit F wl_350 wl_3 wl_4 (Nat.le_of_ble_eq_true rfl) (Nat.le_of_ble_eq_true rfl) dX4_init_1 ?_
  refine x_aload_n F dX4_init_4 rfl 0 rfl ?_
  refine x_iconst F (v := (-1)) dX4_init_5 (by decide) ?_
  obtain ⟨M6_1, c6, h⟩ := bdS h
  refine x_putI F (ci := 4) (C := RX4) (T := TX4) (N := 4) rfl ⟨by decide, rfl⟩ inU4 tyX4_ok nmX4 1 (by decide) rfl rfl wl_351 c6 dX4_init_6 ?_
  refine x_aload_n F dX4_init_9 rfl 0 rfl ?_
  refine x_iconst F (v := (-1)) dX4_init_10 (by decide) ?_
  obtain ⟨M11_2, c11, h⟩ := bdS h
  refine x_putI F (ci := 4) (C := RX4) (T := TX4) (N := 4) rfl ⟨by decide, rfl⟩ inU4 tyX4_ok nmX4 2 (by decide) rfl rfl wl_352 c11 dX4_init_11 ?_
  refine x_aload_n F dX4_init_14 rfl 0 rfl ?_
  refine x_iconst F (v := (-1)) dX4_init_15 (by decide) ?_
  obtain ⟨M16_3, c16, h⟩ := bdS h
  refine x_putI F (ci := 4) (C := RX4) (T := TX4) (N := 4) rfl ⟨by decide, rfl⟩ inU4 tyX4_ok nmX4 3 (by decide) rfl rfl wl_353 c16 dX4_init_16 ?_
  refine x_aload_n F dX4_init_19 rfl 0 rfl ?_
  refine x_aload_n F dX4_init_20 rfl 1 rfl ?_
  obtain ⟨M21_4, c21, h⟩ := bdS h
  refine x_putRF F (ci := 4) (C := RX4) (T := TX4) (N := 4) rfl ⟨by decide, rfl⟩ inU4 tyX4_ok nmX4 0 (by decide) ⟨rfl, rfl⟩ (fun _ _ _ => rfl) rfl hmn rfl wl_354 c21 dX4_init_21 ?_
  obtain ⟨rfl, rfl⟩ := retS h
  exact x_vret F hr hl dX4_init_24
theorem hd_X0_init : (yX0_init).cls = RX0 ∧ (yX0_init).cls ≠ "java/lang/invoke/MethodHandle" ∧ (yX0_init).cls ≠ "java/lang/invoke/VarHandle" ∧ (parseMethodDescriptor (yX0_init).desc).map (fun d => d.parameters.length) = some 1 := by decide +kernel
theorem dX5_init_0 : decode cX5_init 0 = .ok (.aload_n 0, 1) := by decide +kernel
theorem dX5_init_1 : decode cX5_init 1 = .ok (.invokespecial 1, 3) := by decide +kernel
theorem dX5_init_4 : decode cX5_init 4 = .ok (.aload_n 0, 1) := by decide +kernel
theorem dX5_init_5 : decode cX5_init 5 = .ok (.bipush 8, 2) := by decide +kernel
theorem dX5_init_7 : decode cX5_init 7 = .ok (.anewarray 9, 3) := by decide +kernel
theorem dX5_init_10 : decode cX5_init 10 = .ok (.putfield 11, 3) := by decide +kernel
theorem dX5_init_13 : decode cX5_init 13 = .ok (.aload_n 0, 1) := by decide +kernel
theorem dX5_init_14 : decode cX5_init 14 = .ok (.iconst 0, 1) := by decide +kernel
theorem dX5_init_15 : decode cX5_init 15 = .ok (.putfield 15, 3) := by decide +kernel
theorem dX5_init_18 : decode cX5_init 18 = .ok (.aload_n 0, 1) := by decide +kernel
theorem dX5_init_19 : decode cX5_init 19 = .ok (.iconst 0, 1) := by decide +kernel
theorem dX5_init_20 : decode cX5_init 20 = .ok (.putfield 19, 3) := by decide +kernel
theorem dX5_init_23 : decode cX5_init 23 = .ok (.iconst 0, 1) := by decide +kernel
theorem dX5_init_24 : decode cX5_init 24 = .ok (.istore_n 2, 1) := by decide +kernel
theorem dX5_init_25 : decode cX5_init 25 = .ok (.iload_n 2, 1) := by decide +kernel
theorem dX5_init_26 : decode cX5_init 26 = .ok (.bipush 8, 2) := by decide +kernel
theorem dX5_init_28 : decode cX5_init 28 = .ok (.if_icmp .ge 23, 3) := by decide +kernel
theorem dX5_init_31 : decode cX5_init 31 = .ok (.aload_n 0, 1) := by decide +kernel
theorem dX5_init_32 : decode cX5_init 32 = .ok (.getfield 11, 3) := by decide +kernel
theorem dX5_init_35 : decode cX5_init 35 = .ok (.iload_n 2, 1) := by decide +kernel
theorem dX5_init_36 : decode cX5_init 36 = .ok (.new 9, 3) := by decide +kernel
theorem dX5_init_39 : decode cX5_init 39 = .ok (.dup, 1) := by decide +kernel
theorem dX5_init_40 : decode cX5_init 40 = .ok (.aload_n 1, 1) := by decide +kernel
theorem dX5_init_41 : decode cX5_init 41 = .ok (.invokespecial 22, 3) := by decide +kernel
theorem dX5_init_44 : decode cX5_init 44 = .ok (.aastore, 1) := by decide +kernel
theorem dX5_init_45 : decode cX5_init 45 = .ok (.iinc 2 1, 3) := by decide +kernel
theorem dX5_init_48 : decode cX5_init 48 = .ok (.goto (-23), 3) := by decide +kernel
theorem dX5_init_51 : decode cX5_init 51 = .ok (.return_, 1) := by decide +kernel
def fX5_init (N : Nat) (v0 : Nat) (v1 : Nat) (M : Mem) : Option (Unit × Mem) := ((nV M 23 8).bind fun (x7_1, M7_1) => ((pR M7_1 5 v0 0 x7_1).bind fun M10_2 => ((pI M10_2 5 v0 1 0).bind fun M15_3 => ((pI M15_3 5 v0 2 0).bind fun M20_4 => ((fR M20_4 5 v0 0).bind fun x32_5 => ((nO M20_4 0).bind fun (x36_6, M36_6) => ((fX0_init N x36_6 v1 M36_6).bind fun (u41, M41_7) => ((tR M41_7 23 0 x32_5 0 x36_6).bind fun M44_8 => ((fR M44_8 5 v0 0).bind fun x32_9 => ((nO M44_8 0).bind fun (x36_10, M36_10) => ((fX0_init N x36_10 v1 M36_10).bind fun (u41, M41_11) => ((tR M41_11 23 0 x32_9 1 x36_10).bind fun M44_12 => ((fR M44_12 5 v0 0).bind fun x32_13 => ((nO M44_12 0).bind fun (x36_14, M36_14) => ((fX0_init N x36_14 v1 M36_14).bind fun (u41, M41_15) => ((tR M41_15 23 0 x32_13 2 x36_14).bind fun M44_16 => ((fR M44_16 5 v0 0).bind fun x32_17 => ((nO M44_16 0).bind fun (x36_18, M36_18) => ((fX0_init N x36_18 v1 M36_18).bind fun (u41, M41_19) => ((tR M41_19 23 0 x32_17 3 x36_18).bind fun M44_20 => ((fR M44_20 5 v0 0).bind fun x32_21 => ((nO M44_20 0).bind fun (x36_22, M36_22) => ((fX0_init N x36_22 v1 M36_22).bind fun (u41, M41_23) => ((tR M41_23 23 0 x32_21 4 x36_22).bind fun M44_24 => ((fR M44_24 5 v0 0).bind fun x32_25 => ((nO M44_24 0).bind fun (x36_26, M36_26) => ((fX0_init N x36_26 v1 M36_26).bind fun (u41, M41_27) => ((tR M41_27 23 0 x32_25 5 x36_26).bind fun M44_28 => ((fR M44_28 5 v0 0).bind fun x32_29 => ((nO M44_28 0).bind fun (x36_30, M36_30) => ((fX0_init N x36_30 v1 M36_30).bind fun (u41, M41_31) => ((tR M41_31 23 0 x32_29 6 x36_30).bind fun M44_32 => ((fR M44_32 5 v0 0).bind fun x32_33 => ((nO M44_32 0).bind fun (x36_34, M36_34) => ((fX0_init N x36_34 v1 M36_34).bind fun (u41, M41_35) => ((tR M41_35 23 0 x32_33 7 x36_34).bind fun M44_36 => some ((), M44_36)))))))))))))))))))))))))))))))))))))
set_option maxHeartbeats 4000000 in
set_option maxRecDepth 100000 in
theorem k_X5_init (l : Launch) (b : Nat) (D : va_G) (cy : Nat → ClassId) (N : Nat) (v0 : Nat) (v1 : Nat) (M : Mem) (r : Unit) (Mf : Mem) (h : fX5_init N v0 v1 M = some (r, Mf)) : Ct l yX5_init cX5_init 3 none 3 65 1528 b D cy [.ref (b + v0), .ref (b + v1)] M none Mf := by
  refine Ct_of (own := RX5) (by decide) rfl (Nat.le_of_ble_eq_true rfl) ?_
  intro p e s m args below meth c F hr hl hmn
  unfold fX5_init at h
  show X p l e ({ frames := 3, cells := 65, slots := 1528, locals := 100 * 3 }) s m args below meth c (MQ below (Qm b D cy none Mf) args s 65 1528 (fun q => b ≤ q)) 3 b D cy 0 0 M 0 [(0, .ref (b + v0)), (1, .ref (b + v1))] []
  refine x_aload_n F dX5_init_0 rfl 0 rfl ?_
  refine x_objInit F wl_370 wl_3 wl_4 (Nat.le_of_ble_eq_true rfl) (Nat.le_of_ble_eq_true rfl) dX5_init_1 ?_
  refine x_aload_n F dX5_init_4 rfl 0 rfl ?_
  refine x_bipush F (v := 8) dX5_init_5 (by decide) ?_
  obtain ⟨⟨x7_1, M7_1⟩, c7, h⟩ := bdS h
  dsimp only at h
  refine x_nR23 F (N0 := 8) (by decide) wl_371 c7 ⟨Nat.le_of_ble_eq_true rfl, Nat.le_of_ble_eq_true rfl⟩ dX5_init_7 ?_
  obtain ⟨M10_2, c10, h⟩ := bdS h
  refine x_putRF F (ci := 5) (C := RX5) (T := TX5) (N := 3) rfl ⟨by decide, rfl⟩ inU5 tyX5_ok nmX5 0 (by decide) ⟨rfl, rfl⟩ (fun _ _ _ => rfl) rfl hmn rfl wl_372 c10 dX5_init_10 ?_
  refine x_aload_n F dX5_init_13 rfl 0 rfl ?_
  refine x_iconst F (v := 0) dX5_init_14 (by decide) ?_
  obtain ⟨M15_3, c15, h⟩ := bdS h
  refine x_putI F (ci := 5) (C := RX5) (T := TX5) (N := 3) rfl ⟨by decide, rfl⟩ inU5 tyX5_ok nmX5 1 (by decide) rfl rfl wl_373 c15 dX5_init_15 ?_
  refine x_aload_n F dX5_init_18 rfl 0 rfl ?_
  refine x_iconst F (v := 0) dX5_init_19 (by decide) ?_
  obtain ⟨M20_4, c20, h⟩ := bdS h
  refine x_putI F (ci := 5) (C := RX5) (T := TX5) (N := 3) rfl ⟨by decide, rfl⟩ inU5 tyX5_ok nmX5 2 (by decide) rfl rfl wl_374 c20 dX5_init_20 ?_
  refine x_iconst F (v := 0) dX5_init_23 (by decide) ?_
  refine x_istore_n F (lv' := [(2, .int 0), (0, .ref (b + v0)), (1, .ref (b + v1))]) dX5_init_24 rfl (by decide) rfl ?_
  refine x_iload_n F dX5_init_25 rfl 0 rfl ?_
  refine x_bipush F (v := 8) dX5_init_26 (by decide) ?_
  refine x_icmp_ge F (tgt := 51) dX5_init_28 (by decide) (fun c9 => absurd c9 (by decide)) (fun _ => ?_)
  refine x_aload_n F dX5_init_31 rfl 1 rfl ?_
  obtain ⟨x32_5, c32, h⟩ := bdS h
  refine x_getR F (ci := 5) (C := RX5) (T := TX5) (N := 3) rfl ⟨by decide, rfl⟩ inU5 0 (by decide) (fun _ _ _ => rfl) wl_372 c32 dX5_init_32 ?_
  refine x_iload_n F dX5_init_35 rfl 0 rfl ?_
  obtain ⟨⟨x36_6, M36_6⟩, c36, h⟩ := bdS h
  dsimp only at h
  refine x_new F (ci := 0) (C := RX0) (T := TX0) (N := 12) rfl ⟨by decide, rfl⟩ inU0 tyX0_ok wl_371 wl_375 wl_52 c36 ⟨Nat.le_of_ble_eq_true rfl, Nat.le_of_ble_eq_true rfl⟩ dX5_init_36 ?_
  refine x_dup F dX5_init_39 rfl ?_
  refine x_aload_n F dX5_init_40 rfl 2 rfl ?_
  obtain ⟨⟨u41, M41_7⟩, c41, h⟩ := bdS h
  dsimp only at h
  refine x_callI F (As := [.ref (b + v1)]) (rest := [.ref (b + x36_6), .int 0, .ref (b + x32_5)]) (res := none) (a := x36_6) (k_X0_init l b D cy N x36_6 v1 M36_6 _ _ c41) wl_1 wl_52 wl_376 wl_377 rfl (hd_X0_init).2 ⟨Nat.le_of_ble_eq_true rfl, Nat.le_of_ble_eq_true rfl⟩ ⟨Nat.le_of_ble_eq_true rfl, Nat.le_of_ble_eq_true rfl⟩ (Nat.le_of_ble_eq_true rfl) rfl dX5_init_41 ?_
  obtain ⟨M44_8, c44, h⟩ := bdS h
  refine x_tR F (kd := 23) (cv := 0) (r := (RX0, TX0, 12)) 3 rfl rfl (by decide) (by decide) c44 dX5_init_44 ?_
  refine x_iinc F (v := 1) (lv' := [(2, .int 1), (0, .ref (b + v0)), (1, .ref (b + v1))]) dX5_init_45 0 rfl (by decide) (by decide) rfl ?_
  refine x_goto F (tgt := 25) dX5_init_48 (by decide) ?_
  refine x_iload_n F dX5_init_25 rfl 0 rfl ?_
  refine x_bipush F (v := 8) dX5_init_26 (by decide) ?_
  refine x_icmp_ge F (tgt := 51) dX5_init_28 (by decide) (fun c9 => absurd c9 (by decide)) (fun _ => ?_)
  refine x_aload_n F dX5_init_31 rfl 1 rfl ?_
  obtain ⟨x32_9, c32, h⟩ := bdS h
  refine x_getR F (ci := 5) (C := RX5) (T := TX5) (N := 3) rfl ⟨by decide, rfl⟩ inU5 0 (by decide) (fun _ _ _ => rfl) wl_372 c32 dX5_init_32 ?_
  refine x_iload_n F dX5_init_35 rfl 0 rfl ?_
  obtain ⟨⟨x36_10, M36_10⟩, c36, h⟩ := bdS h
  dsimp only at h
  refine x_new F (ci := 0) (C := RX0) (T := TX0) (N := 12) rfl ⟨by decide, rfl⟩ inU0 tyX0_ok wl_371 wl_375 wl_52 c36 ⟨Nat.le_of_ble_eq_true rfl, Nat.le_of_ble_eq_true rfl⟩ dX5_init_36 ?_
  refine x_dup F dX5_init_39 rfl ?_
  refine x_aload_n F dX5_init_40 rfl 2 rfl ?_
  obtain ⟨⟨u41, M41_11⟩, c41, h⟩ := bdS h
  dsimp only at h
  refine x_callI F (As := [.ref (b + v1)]) (rest := [.ref (b + x36_10), .int 1, .ref (b + x32_9)]) (res := none) (a := x36_10) (k_X0_init l b D cy N x36_10 v1 M36_10 _ _ c41) wl_1 wl_52 wl_376 wl_377 rfl (hd_X0_init).2 ⟨Nat.le_of_ble_eq_true rfl, Nat.le_of_ble_eq_true rfl⟩ ⟨Nat.le_of_ble_eq_true rfl, Nat.le_of_ble_eq_true rfl⟩ (Nat.le_of_ble_eq_true rfl) rfl dX5_init_41 ?_
  obtain ⟨M44_12, c44, h⟩ := bdS h
  refine x_tR F (kd := 23) (cv := 0) (r := (RX0, TX0, 12)) 3 rfl rfl (by decide) (by decide) c44 dX5_init_44 ?_
  refine x_iinc F (v := 2) (lv' := [(2, .int 2), (0, .ref (b + v0)), (1, .ref (b + v1))]) dX5_init_45 0 rfl (by decide) (by decide) rfl ?_
  refine x_goto F (tgt := 25) dX5_init_48 (by decide) ?_
  refine x_iload_n F dX5_init_25 rfl 0 rfl ?_
  refine x_bipush F (v := 8) dX5_init_26 (by decide) ?_
  refine x_icmp_ge F (tgt := 51) dX5_init_28 (by decide) (fun c9 => absurd c9 (by decide)) (fun _ => ?_)
  refine x_aload_n F dX5_init_31 rfl 1 rfl ?_
  obtain ⟨x32_13, c32, h⟩ := bdS h
  refine x_getR F (ci := 5) (C := RX5) (T := TX5) (N := 3) rfl ⟨by decide, rfl⟩ inU5 0 (by decide) (fun _ _ _ => rfl) wl_372 c32 dX5_init_32 ?_
  refine x_iload_n F dX5_init_35 rfl 0 rfl ?_
  obtain ⟨⟨x36_14, M36_14⟩, c36, h⟩ := bdS h
  dsimp only at h
  refine x_new F (ci := 0) (C := RX0) (T := TX0) (N := 12) rfl ⟨by decide, rfl⟩ inU0 tyX0_ok wl_371 wl_375 wl_52 c36 ⟨Nat.le_of_ble_eq_true rfl, Nat.le_of_ble_eq_true rfl⟩ dX5_init_36 ?_
  refine x_dup F dX5_init_39 rfl ?_
  refine x_aload_n F dX5_init_40 rfl 2 rfl ?_
  obtain ⟨⟨u41, M41_15⟩, c41, h⟩ := bdS h
  dsimp only at h
  refine x_callI F (As := [.ref (b + v1)]) (rest := [.ref (b + x36_14), .int 2, .ref (b + x32_13)]) (res := none) (a := x36_14) (k_X0_init l b D cy N x36_14 v1 M36_14 _ _ c41) wl_1 wl_52 wl_376 wl_377 rfl (hd_X0_init).2 ⟨Nat.le_of_ble_eq_true rfl, Nat.le_of_ble_eq_true rfl⟩ ⟨Nat.le_of_ble_eq_true rfl, Nat.le_of_ble_eq_true rfl⟩ (Nat.le_of_ble_eq_true rfl) rfl dX5_init_41 ?_
  obtain ⟨M44_16, c44, h⟩ := bdS h
  refine x_tR F (kd := 23) (cv := 0) (r := (RX0, TX0, 12)) 3 rfl rfl (by decide) (by decide) c44 dX5_init_44 ?_
  refine x_iinc F (v := 3) (lv' := [(2, .int 3), (0, .ref (b + v0)), (1, .ref (b + v1))]) dX5_init_45 0 rfl (by decide) (by decide) rfl ?_
  refine x_goto F (tgt := 25) dX5_init_48 (by decide) ?_
  refine x_iload_n F dX5_init_25 rfl 0 rfl ?_
  refine x_bipush F (v := 8) dX5_init_26 (by decide) ?_
  refine x_icmp_ge F (tgt := 51) dX5_init_28 (by decide) (fun c9 => absurd c9 (by decide)) (fun _ => ?_)
  refine x_aload_n F dX5_init_31 rfl 1 rfl ?_
  obtain ⟨x32_17, c32, h⟩ := bdS h
  refine x_getR F (ci := 5) (C := RX5) (T := TX5) (N := 3) rfl ⟨by decide, rfl⟩ inU5 0 (by decide) (fun _ _ _ => rfl) wl_372 c32 dX5_init_32 ?_
  refine x_iload_n F dX5_init_35 rfl 0 rfl ?_
  obtain ⟨⟨x36_18, M36_18⟩, c36, h⟩ := bdS h
  dsimp only at h
  refine x_new F (ci := 0) (C := RX0) (T := TX0) (N := 12) rfl ⟨by decide, rfl⟩ inU0 tyX0_ok wl_371 wl_375 wl_52 c36 ⟨Nat.le_of_ble_eq_true rfl, Nat.le_of_ble_eq_true rfl⟩ dX5_init_36 ?_
  refine x_dup F dX5_init_39 rfl ?_
  refine x_aload_n F dX5_init_40 rfl 2 rfl ?_
  obtain ⟨⟨u41, M41_19⟩, c41, h⟩ := bdS h
  dsimp only at h
  refine x_callI F (As := [.ref (b + v1)]) (rest := [.ref (b + x36_18), .int 3, .ref (b + x32_17)]) (res := none) (a := x36_18) (k_X0_init l b D cy N x36_18 v1 M36_18 _ _ c41) wl_1 wl_52 wl_376 wl_377 rfl (hd_X0_init).2 ⟨Nat.le_of_ble_eq_true rfl, Nat.le_of_ble_eq_true rfl⟩ ⟨Nat.le_of_ble_eq_true rfl, Nat.le_of_ble_eq_true rfl⟩ (Nat.le_of_ble_eq_true rfl) rfl dX5_init_41 ?_
  obtain ⟨M44_20, c44, h⟩ := bdS h
  refine x_tR F (kd := 23) (cv := 0) (r := (RX0, TX0, 12)) 3 rfl rfl (by decide) (by decide) c44 dX5_init_44 ?_
  refine x_iinc F (v := 4) (lv' := [(2, .int 4), (0, .ref (b + v0)), (1, .ref (b + v1))]) dX5_init_45 0 rfl (by decide) (by decide) rfl ?_
  refine x_goto F (tgt := 25) dX5_init_48 (by decide) ?_
  refine x_iload_n F dX5_init_25 rfl 0 rfl ?_
  refine x_bipush F (v := 8) dX5_init_26 (by decide) ?_
  refine x_icmp_ge F (tgt := 51) dX5_init_28 (by decide) (fun c9 => absurd c9 (by decide)) (fun _ => ?_)
  refine x_aload_n F dX5_init_31 rfl 1 rfl ?_
  obtain ⟨x32_21, c32, h⟩ := bdS h
  refine x_getR F (ci := 5) (C := RX5) (T := TX5) (N := 3) rfl ⟨by decide, rfl⟩ inU5 0 (by decide) (fun _ _ _ => rfl) wl_372 c32 dX5_init_32 ?_
  refine x_iload_n F dX5_init_35 rfl 0 rfl ?_
  obtain ⟨⟨x36_22, M36_22⟩, c36, h⟩ := bdS h
  dsimp only at h
  refine x_new F (ci := 0) (C := RX0) (T := TX0) (N := 12) rfl ⟨by decide, rfl⟩ inU0 tyX0_ok wl_371 wl_375 wl_52 c36 ⟨Nat.le_of_ble_eq_true rfl, Nat.le_of_ble_eq_true rfl⟩ dX5_init_36 ?_
  refine x_dup F dX5_init_39 rfl ?_
  refine x_aload_n F dX5_init_40 rfl 2 rfl ?_
  obtain ⟨⟨u41, M41_23⟩, c41, h⟩ := bdS h
  dsimp only at h
  refine x_callI F (As := [.ref (b + v1)]) (rest := [.ref (b + x36_22), .int 4, .ref (b + x32_21)]) (res := none) (a := x36_22) (k_X0_init l b D cy N x36_22 v1 M36_22 _ _ c41) wl_1 wl_52 wl_376 wl_377 rfl (hd_X0_init).2 ⟨Nat.le_of_ble_eq_true rfl, Nat.le_of_ble_eq_true rfl⟩ ⟨Nat.le_of_ble_eq_true rfl, Nat.le_of_ble_eq_true rfl⟩ (Nat.le_of_ble_eq_true rfl) rfl dX5_init_41 ?_
  obtain ⟨M44_24, c44, h⟩ := bdS h
  refine x_tR F (kd := 23) (cv := 0) (r := (RX0, TX0, 12)) 3 rfl rfl (by decide) (by decide) c44 dX5_init_44 ?_
  refine x_iinc F (v := 5) (lv' := [(2, .int 5), (0, .ref (b + v0)), (1, .ref (b + v1))]) dX5_init_45 0 rfl (by decide) (by decide) rfl ?_
  refine x_goto F (tgt := 25) dX5_init_48 (by decide) ?_
  refine x_iload_n F dX5_init_25 rfl 0 rfl ?_
  refine x_bipush F (v := 8) dX5_init_26 (by decide) ?_
  refine x_icmp_ge F (tgt := 51) dX5_init_28 (by decide) (fun c9 => absurd c9 (by decide)) (fun _ => ?_)
  refine x_aload_n F dX5_init_31 rfl 1 rfl ?_
  obtain ⟨x32_25, c32, h⟩ := bdS h
  refine x_getR F (ci := 5) (C := RX5) (T := TX5) (N := 3) rfl ⟨by decide, rfl⟩ inU5 0 (by decide) (fun _ _ _ => rfl) wl_372 c32 dX5_init_32 ?_
  refine x_iload_n F dX5_init_35 rfl 0 rfl ?_
  obtain ⟨⟨x36_26, M36_26⟩, c36, h⟩ := bdS h
  dsimp only at h
  refine x_new F (ci := 0) (C := RX0) (T := TX0) (N := 12) rfl ⟨by decide, rfl⟩ inU0 tyX0_ok wl_371 wl_375 wl_52 c36 ⟨Nat.le_of_ble_eq_true rfl, Nat.le_of_ble_eq_true rfl⟩ dX5_init_36 ?_
  refine x_dup F dX5_init_39 rfl ?_
  refine x_aload_n F dX5_init_40 rfl 2 rfl ?_
  obtain ⟨⟨u41, M41_27⟩, c41, h⟩ := bdS h
  dsimp only at h
  refine x_callI F (As := [.ref (b + v1)]) (rest := [.ref (b + x36_26), .int 5, .ref (b + x32_25)]) (res := none) (a := x36_26) (k_X0_init l b D cy N x36_26 v1 M36_26 _ _ c41) wl_1 wl_52 wl_376 wl_377 rfl (hd_X0_init).2 ⟨Nat.le_of_ble_eq_true rfl, Nat.le_of_ble_eq_true rfl⟩ ⟨Nat.le_of_ble_eq_true rfl, Nat.le_of_ble_eq_true rfl⟩ (Nat.le_of_ble_eq_true rfl) rfl dX5_init_41 ?_
  obtain ⟨M44_28, c44, h⟩ := bdS h
  refine x_tR F (kd := 23) (cv := 0) (r := (RX0, TX0, 12)) 3 rfl rfl (by decide) (by decide) c44 dX5_init_44 ?_
  refine x_iinc F (v := 6) (lv' := [(2, .int 6), (0, .ref (b + v0)), (1, .ref (b + v1))]) dX5_init_45 0 rfl (by decide) (by decide) rfl ?_
  refine x_goto F (tgt := 25) dX5_init_48 (by decide) ?_
  refine x_iload_n F dX5_init_25 rfl 0 rfl ?_
  refine x_bipush F (v := 8) dX5_init_26 (by decide) ?_
  refine x_icmp_ge F (tgt := 51) dX5_init_28 (by decide) (fun c9 => absurd c9 (by decide)) (fun _ => ?_)
  refine x_aload_n F dX5_init_31 rfl 1 rfl ?_
  obtain ⟨x32_29, c32, h⟩ := bdS h
  refine x_getR F (ci := 5) (C := RX5) (T := TX5) (N := 3) rfl ⟨by decide, rfl⟩ inU5 0 (by decide) (fun _ _ _ => rfl) wl_372 c32 dX5_init_32 ?_
  refine x_iload_n F dX5_init_35 rfl 0 rfl ?_
  obtain ⟨⟨x36_30, M36_30⟩, c36, h⟩ := bdS h
  dsimp only at h
  refine x_new F (ci := 0) (C := RX0) (T := TX0) (N := 12) rfl ⟨by decide, rfl⟩ inU0 tyX0_ok wl_371 wl_375 wl_52 c36 ⟨Nat.le_of_ble_eq_true rfl, Nat.le_of_ble_eq_true rfl⟩ dX5_init_36 ?_
  refine x_dup F dX5_init_39 rfl ?_
  refine x_aload_n F dX5_init_40 rfl 2 rfl ?_
  obtain ⟨⟨u41, M41_31⟩, c41, h⟩ := bdS h
  dsimp only at h
  refine x_callI F (As := [.ref (b + v1)]) (rest := [.ref (b + x36_30), .int 6, .ref (b + x32_29)]) (res := none) (a := x36_30) (k_X0_init l b D cy N x36_30 v1 M36_30 _ _ c41) wl_1 wl_52 wl_376 wl_377 rfl (hd_X0_init).2 ⟨Nat.le_of_ble_eq_true rfl, Nat.le_of_ble_eq_true rfl⟩ ⟨Nat.le_of_ble_eq_true rfl, Nat.le_of_ble_eq_true rfl⟩ (Nat.le_of_ble_eq_true rfl) rfl dX5_init_41 ?_
  obtain ⟨M44_32, c44, h⟩ := bdS h
  refine x_tR F (kd := 23) (cv := 0) (r := (RX0, TX0, 12)) 3 rfl rfl (by decide) (by decide) c44 dX5_init_44 ?_
  refine x_iinc F (v := 7) (lv' := [(2, .int 7), (0, .ref (b + v0)), (1, .ref (b + v1))]) dX5_init_45 0 rfl (by decide) (by decide) rfl ?_
  refine x_goto F (tgt := 25) dX5_init_48 (by decide) ?_
  refine x_iload_n F dX5_init_25 rfl 0 rfl ?_
  refine x_bipush F (v := 8) dX5_init_26 (by decide) ?_
  refine x_icmp_ge F (tgt := 51) dX5_init_28 (by decide) (fun c9 => absurd c9 (by decide)) (fun _ => ?_)
  refine x_aload_n F dX5_init_31 rfl 1 rfl ?_
  obtain ⟨x32_33, c32, h⟩ := bdS h
  refine x_getR F (ci := 5) (C := RX5) (T := TX5) (N := 3) rfl ⟨by decide, rfl⟩ inU5 0 (by decide) (fun _ _ _ => rfl) wl_372 c32 dX5_init_32 ?_
  refine x_iload_n F dX5_init_35 rfl 0 rfl ?_
  obtain ⟨⟨x36_34, M36_34⟩, c36, h⟩ := bdS h
  dsimp only at h
  refine x_new F (ci := 0) (C := RX0) (T := TX0) (N := 12) rfl ⟨by decide, rfl⟩ inU0 tyX0_ok wl_371 wl_375 wl_52 c36 ⟨Nat.le_of_ble_eq_true rfl, Nat.le_of_ble_eq_true rfl⟩ dX5_init_36 ?_
  refine x_dup F dX5_init_39 rfl ?_
  refine x_aload_n F dX5_init_40 rfl 2 rfl ?_
  obtain ⟨⟨u41, M41_35⟩, c41, h⟩ := bdS h
  dsimp only at h
  refine x_callI F (As := [.ref (b + v1)]) (rest := [.ref (b + x36_34), .int 7, .ref (b + x32_33)]) (res := none) (a := x36_34) (k_X0_init l b D cy N x36_34 v1 M36_34 _ _ c41) wl_1 wl_52 wl_376 wl_377 rfl (hd_X0_init).2 ⟨Nat.le_of_ble_eq_true rfl, Nat.le_of_ble_eq_true rfl⟩ ⟨Nat.le_of_ble_eq_true rfl, Nat.le_of_ble_eq_true rfl⟩ (Nat.le_of_ble_eq_true rfl) rfl dX5_init_41 ?_
  obtain ⟨M44_36, c44, h⟩ := bdS h
  refine x_tR F (kd := 23) (cv := 0) (r := (RX0, TX0, 12)) 3 rfl rfl (by decide) (by decide) c44 dX5_init_44 ?_
  refine x_iinc F (v := 8) (lv' := [(2, .int 8), (0, .ref (b + v0)), (1, .ref (b + v1))]) dX5_init_45 0 rfl (by decide) (by decide) rfl ?_
  refine x_goto F (tgt := 25) dX5_init_48 (by decide) ?_
  refine x_iload_n F dX5_init_25 rfl 0 rfl ?_
  refine x_bipush F (v := 8) dX5_init_26 (by decide) ?_
  refine x_icmp_ge F (tgt := 51) dX5_init_28 (by decide) (fun _ => ?_) (fun c9 => absurd c9 (by decide))
  obtain ⟨rfl, rfl⟩ := retS h
  exact x_vret F hr hl dX5_init_51
theorem dX6_init_0 : decode cX6_init 0 = .ok (.aload_n 0, 1) := by decide +kernel
theorem dX6_init_1 : decode cX6_init 1 = .ok (.invokespecial 3, 3) := by decide +kernel
theorem dX6_init_4 : decode cX6_init 4 = .ok (.aload_n 0, 1) := by decide +kernel
theorem dX6_init_5 : decode cX6_init 5 = .ok (.bipush 6, 2) := by decide +kernel
theorem dX6_init_7 : decode cX6_init 7 = .ok (.newarray .int, 2) := by decide +kernel
theorem dX6_init_9 : decode cX6_init 9 = .ok (.putfield 9, 3) := by decide +kernel
theorem dX6_init_12 : decode cX6_init 12 = .ok (.aload_n 0, 1) := by decide +kernel
theorem dX6_init_13 : decode cX6_init 13 = .ok (.bipush 6, 2) := by decide +kernel
theorem dX6_init_15 : decode cX6_init 15 = .ok (.newarray .int, 2) := by decide +kernel
theorem dX6_init_17 : decode cX6_init 17 = .ok (.putfield 15, 3) := by decide +kernel
theorem dX6_init_20 : decode cX6_init 20 = .ok (.aload_n 0, 1) := by decide +kernel
theorem dX6_init_21 : decode cX6_init 21 = .ok (.bipush 6, 2) := by decide +kernel
theorem dX6_init_23 : decode cX6_init 23 = .ok (.newarray .int, 2) := by decide +kernel
theorem dX6_init_25 : decode cX6_init 25 = .ok (.putfield 18, 3) := by decide +kernel
theorem dX6_init_28 : decode cX6_init 28 = .ok (.aload_n 0, 1) := by decide +kernel
theorem dX6_init_29 : decode cX6_init 29 = .ok (.iconst 0, 1) := by decide +kernel
theorem dX6_init_30 : decode cX6_init 30 = .ok (.putfield 21, 3) := by decide +kernel
theorem dX6_init_33 : decode cX6_init 33 = .ok (.aload_n 0, 1) := by decide +kernel
theorem dX6_init_34 : decode cX6_init 34 = .ok (.aload_n 1, 1) := by decide +kernel
theorem dX6_init_35 : decode cX6_init 35 = .ok (.putfield 25, 3) := by decide +kernel
theorem dX6_init_38 : decode cX6_init 38 = .ok (.aload_n 0, 1) := by decide +kernel
theorem dX6_init_39 : decode cX6_init 39 = .ok (.getfield 18, 3) := by decide +kernel
theorem dX6_init_42 : decode cX6_init 42 = .ok (.iconst (-1), 1) := by decide +kernel
theorem dX6_init_43 : decode cX6_init 43 = .ok (.invokestatic 29, 3) := by decide +kernel
theorem dX6_init_46 : decode cX6_init 46 = .ok (.return_, 1) := by decide +kernel
def fX6_init (N : Nat) (v0 : Nat) (v1 : Nat) (M : Mem) : Option (Unit × Mem) := ((nV M 20 6).bind fun (x7_1, M7_1) => ((pR M7_1 6 v0 1 x7_1).bind fun M9_2 => ((nV M9_2 20 6).bind fun (x15_3, M15_3) => ((pR M15_3 6 v0 2 x15_3).bind fun M17_4 => ((nV M17_4 20 6).bind fun (x23_5, M23_5) => ((pR M23_5 6 v0 3 x23_5).bind fun M25_6 => ((pI M25_6 6 v0 4 0).bind fun M30_7 => ((pR M30_7 6 v0 0 v1).bind fun M35_8 => ((fR M35_8 6 v0 3).bind fun x39_9 => ((fJ7_fill_53178 N x39_9 ((-1)) M35_8).bind fun (u43, M43) => some ((), M43)))))))))))
set_option maxHeartbeats 4000000 in
set_option maxRecDepth 100000 in
theorem k_X6_init (l : Launch) (b : Nat) (D : va_G) (cy : Nat → ClassId) (N : Nat) (v0 : Nat) (v1 : Nat) (M : Mem) (r : Unit) (Mf : Mem) (h : fX6_init N v0 v1 M = some (r, Mf)) : Ct l yX6_init cX6_init 2 none 2 3 18 b D cy [.ref (b + v0), .ref (b + v1)] M none Mf := by
  refine Ct_of (own := RX6) (by decide) rfl (Nat.le_of_ble_eq_true rfl) ?_
  intro p e s m args below meth c F hr hl hmn
  unfold fX6_init at h
  show X p l e ({ frames := 2, cells := 3, slots := 18, locals := 100 * 2 }) s m args below meth c (MQ below (Qm b D cy none Mf) args s 3 18 (fun q => b ≤ q)) 2 b D cy 0 0 M 0 [(0, .ref (b + v0)), (1, .ref (b + v1))] []
  refine x_aload_n F dX6_init_0 rfl 0 rfl ?_
  refine x_objInit F wl_386 wl_3 wl_4 (Nat.le_of_ble_eq_true rfl) (Nat.le_of_ble_eq_true rfl) dX6_init_1 ?_
  refine x_aload_n F dX6_init_4 rfl 0 rfl ?_
  refine x_bipush F (v := 6) dX6_init_5 (by decide) ?_
  obtain ⟨⟨x7_1, M7_1⟩, c7, h⟩ := bdS h
  dsimp only at h
  refine x_nVI F (N0 := 6) (by decide) wl_5 c7 ⟨Nat.le_of_ble_eq_true rfl, Nat.le_of_ble_eq_true rfl⟩ dX6_init_7 ?_
  obtain ⟨M9_2, c9, h⟩ := bdS h
  refine x_putRF F (ci := 6) (C := RX6) (T := TX6) (N := 5) rfl ⟨by decide, rfl⟩ inU6 tyX6_ok nmX6 1 (by decide) ⟨rfl, rfl⟩ (fun _ _ _ => rfl) rfl hmn rfl wl_387 c9 dX6_init_9 ?_
  refine x_aload_n F dX6_init_12 rfl 0 rfl ?_
  refine x_bipush F (v := 6) dX6_init_13 (by decide) ?_
  obtain ⟨⟨x15_3, M15_3⟩, c15, h⟩ := bdS h
  dsimp only at h
  refine x_nVI F (N0 := 6) (by decide) wl_5 c15 ⟨Nat.le_of_ble_eq_true rfl, Nat.le_of_ble_eq_true rfl⟩ dX6_init_15 ?_
  obtain ⟨M17_4, c17, h⟩ := bdS h
  refine x_putRF F (ci := 6) (C := RX6) (T := TX6) (N := 5) rfl ⟨by decide, rfl⟩ inU6 tyX6_ok nmX6 2 (by decide) ⟨rfl, rfl⟩ (fun _ _ _ => rfl) rfl hmn rfl wl_388 c17 dX6_init_17 ?_
  refine x_aload_n F dX6_init_20 rfl 0 rfl ?_
  refine x_bipush F (v := 6) dX6_init_21 (by decide) ?_
  obtain ⟨⟨x23_5, M23_5⟩, c23, h⟩ := bdS h
  dsimp only at h
  refine x_nVI F (N0 := 6) (by decide) wl_5 c23 ⟨Nat.le_of_ble_eq_true rfl, Nat.le_of_ble_eq_true rfl⟩ dX6_init_23 ?_
  obtain ⟨M25_6, c25, h⟩ := bdS h
  refine x_putRF F (ci := 6) (C := RX6) (T := TX6) (N := 5) rfl ⟨by decide, rfl⟩ inU6 tyX6_ok nmX6 3 (by decide) ⟨rfl, rfl⟩ (fun _ _ _ => rfl) rfl hmn rfl wl_389 c25 dX6_init_25 ?_
  refine x_aload_n F dX6_init_28 rfl 0 rfl ?_
  refine x_iconst F (v := 0) dX6_init_29 (by decide) ?_
  obtain ⟨M30_7, c30, h⟩ := bdS h
  refine x_putI F (ci := 6) (C := RX6) (T := TX6) (N := 5) rfl ⟨by decide, rfl⟩ inU6 tyX6_ok nmX6 4 (by decide) rfl rfl wl_390 c30 dX6_init_30 ?_
  refine x_aload_n F dX6_init_33 rfl 0 rfl ?_
  refine x_aload_n F dX6_init_34 rfl 1 rfl ?_
  obtain ⟨M35_8, c35, h⟩ := bdS h
  refine x_putRF F (ci := 6) (C := RX6) (T := TX6) (N := 5) rfl ⟨by decide, rfl⟩ inU6 tyX6_ok nmX6 0 (by decide) ⟨rfl, rfl⟩ (fun _ _ _ => rfl) rfl hmn rfl wl_391 c35 dX6_init_35 ?_
  refine x_aload_n F dX6_init_38 rfl 0 rfl ?_
  obtain ⟨x39_9, c39, h⟩ := bdS h
  refine x_getR F (ci := 6) (C := RX6) (T := TX6) (N := 5) rfl ⟨by decide, rfl⟩ inU6 3 (by decide) (fun _ _ _ => rfl) wl_389 c39 dX6_init_39 ?_
  refine x_iconst F (v := (-1)) dX6_init_42 (by decide) ?_
  obtain ⟨⟨u43, M43⟩, c43, h⟩ := bdS h
  dsimp only at h
  refine x_callS F (As := [.ref (b + x39_9), .int ((-1))]) (rest := []) (res := none) (k_J7_fill_53178 l b D cy N x39_9 ((-1)) M35_8 _ _ c43) wl_392 wl_19 wl_20 wl_0 (hd_J7_fill_53178).2 ⟨Nat.le_of_ble_eq_true rfl, Nat.le_of_ble_eq_true rfl⟩ ⟨Nat.le_refl _, Nat.le_refl _⟩ (Nat.le_of_ble_eq_true rfl) rfl dX6_init_43 ?_
  obtain ⟨rfl, rfl⟩ := retS h
  exact x_vret F hr hl dX6_init_46
theorem dX7_init_0 : decode cX7_init 0 = .ok (.aload_n 0, 1) := by decide +kernel
theorem dX7_init_1 : decode cX7_init 1 = .ok (.invokespecial 5, 3) := by decide +kernel
theorem dX7_init_4 : decode cX7_init 4 = .ok (.aload_n 0, 1) := by decide +kernel
theorem dX7_init_5 : decode cX7_init 5 = .ok (.bipush 40, 2) := by decide +kernel
theorem dX7_init_7 : decode cX7_init 7 = .ok (.newarray .int, 2) := by decide +kernel
theorem dX7_init_9 : decode cX7_init 9 = .ok (.putfield 11, 3) := by decide +kernel
theorem dX7_init_12 : decode cX7_init 12 = .ok (.aload_n 0, 1) := by decide +kernel
theorem dX7_init_13 : decode cX7_init 13 = .ok (.bipush 40, 2) := by decide +kernel
theorem dX7_init_15 : decode cX7_init 15 = .ok (.newarray .int, 2) := by decide +kernel
theorem dX7_init_17 : decode cX7_init 17 = .ok (.putfield 15, 3) := by decide +kernel
theorem dX7_init_20 : decode cX7_init 20 = .ok (.aload_n 0, 1) := by decide +kernel
theorem dX7_init_21 : decode cX7_init 21 = .ok (.bipush 40, 2) := by decide +kernel
theorem dX7_init_23 : decode cX7_init 23 = .ok (.newarray .int, 2) := by decide +kernel
theorem dX7_init_25 : decode cX7_init 25 = .ok (.putfield 18, 3) := by decide +kernel
theorem dX7_init_28 : decode cX7_init 28 = .ok (.aload_n 0, 1) := by decide +kernel
theorem dX7_init_29 : decode cX7_init 29 = .ok (.bipush 40, 2) := by decide +kernel
theorem dX7_init_31 : decode cX7_init 31 = .ok (.newarray .int, 2) := by decide +kernel
theorem dX7_init_33 : decode cX7_init 33 = .ok (.putfield 21, 3) := by decide +kernel
theorem dX7_init_36 : decode cX7_init 36 = .ok (.aload_n 0, 1) := by decide +kernel
theorem dX7_init_37 : decode cX7_init 37 = .ok (.iconst 0, 1) := by decide +kernel
theorem dX7_init_38 : decode cX7_init 38 = .ok (.putfield 24, 3) := by decide +kernel
theorem dX7_init_41 : decode cX7_init 41 = .ok (.aload_n 0, 1) := by decide +kernel
theorem dX7_init_42 : decode cX7_init 42 = .ok (.iconst 0, 1) := by decide +kernel
theorem dX7_init_43 : decode cX7_init 43 = .ok (.putfield 28, 3) := by decide +kernel
theorem dX7_init_46 : decode cX7_init 46 = .ok (.aload_n 0, 1) := by decide +kernel
theorem dX7_init_47 : decode cX7_init 47 = .ok (.aload_n 1, 1) := by decide +kernel
theorem dX7_init_48 : decode cX7_init 48 = .ok (.putfield 31, 3) := by decide +kernel
theorem dX7_init_51 : decode cX7_init 51 = .ok (.return_, 1) := by decide +kernel
def fX7_init (N : Nat) (v0 : Nat) (v1 : Nat) (M : Mem) : Option (Unit × Mem) := ((nV M 20 40).bind fun (x7_1, M7_1) => ((pR M7_1 7 v0 1 x7_1).bind fun M9_2 => ((nV M9_2 20 40).bind fun (x15_3, M15_3) => ((pR M15_3 7 v0 2 x15_3).bind fun M17_4 => ((nV M17_4 20 40).bind fun (x23_5, M23_5) => ((pR M23_5 7 v0 3 x23_5).bind fun M25_6 => ((nV M25_6 20 40).bind fun (x31_7, M31_7) => ((pR M31_7 7 v0 4 x31_7).bind fun M33_8 => ((pI M33_8 7 v0 5 0).bind fun M38_9 => ((pI M38_9 7 v0 6 0).bind fun M43_10 => ((pR M43_10 7 v0 0 v1).bind fun M48_11 => some ((), M48_11))))))))))))
set_option maxHeartbeats 4000000 in
set_option maxRecDepth 100000 in
theorem k_X7_init (l : Launch) (b : Nat) (D : va_G) (cy : Nat → ClassId) (N : Nat) (v0 : Nat) (v1 : Nat) (M : Mem) (r : Unit) (Mf : Mem) (h : fX7_init N v0 v1 M = some (r, Mf)) : Ct l yX7_init cX7_init 2 none 1 4 160 b D cy [.ref (b + v0), .ref (b + v1)] M none Mf := by
  refine Ct_of (own := RX7) (by decide) rfl (Nat.le_of_ble_eq_true rfl) ?_
  intro p e s m args below meth c F hr hl hmn
  unfold fX7_init at h
  show X p l e ({ frames := 1, cells := 4, slots := 160, locals := 100 * 1 }) s m args below meth c (MQ below (Qm b D cy none Mf) args s 4 160 (fun q => b ≤ q)) 2 b D cy 0 0 M 0 [(0, .ref (b + v0)), (1, .ref (b + v1))] []
  refine x_aload_n F dX7_init_0 rfl 0 rfl ?_
  refine x_objInit F wl_406 wl_3 wl_4 (Nat.le_of_ble_eq_true rfl) (Nat.le_of_ble_eq_true rfl) dX7_init_1 ?_
  refine x_aload_n F dX7_init_4 rfl 0 rfl ?_
  refine x_bipush F (v := 40) dX7_init_5 (by decide) ?_
  obtain ⟨⟨x7_1, M7_1⟩, c7, h⟩ := bdS h
  dsimp only at h
  refine x_nVI F (N0 := 40) (by decide) wl_5 c7 ⟨Nat.le_of_ble_eq_true rfl, Nat.le_of_ble_eq_true rfl⟩ dX7_init_7 ?_
  obtain ⟨M9_2, c9, h⟩ := bdS h
  refine x_putRF F (ci := 7) (C := RX7) (T := TX7) (N := 7) rfl ⟨by decide, rfl⟩ inU7 tyX7_ok nmX7 1 (by decide) ⟨rfl, rfl⟩ (fun _ _ _ => rfl) rfl hmn rfl wl_407 c9 dX7_init_9 ?_
  refine x_aload_n F dX7_init_12 rfl 0 rfl ?_
  refine x_bipush F (v := 40) dX7_init_13 (by decide) ?_
  obtain ⟨⟨x15_3, M15_3⟩, c15, h⟩ := bdS h
  dsimp only at h
  refine x_nVI F (N0 := 40) (by decide) wl_5 c15 ⟨Nat.le_of_ble_eq_true rfl, Nat.le_of_ble_eq_true rfl⟩ dX7_init_15 ?_
  obtain ⟨M17_4, c17, h⟩ := bdS h
  refine x_putRF F (ci := 7) (C := RX7) (T := TX7) (N := 7) rfl ⟨by decide, rfl⟩ inU7 tyX7_ok nmX7 2 (by decide) ⟨rfl, rfl⟩ (fun _ _ _ => rfl) rfl hmn rfl wl_408 c17 dX7_init_17 ?_
  refine x_aload_n F dX7_init_20 rfl 0 rfl ?_
  refine x_bipush F (v := 40) dX7_init_21 (by decide) ?_
  obtain ⟨⟨x23_5, M23_5⟩, c23, h⟩ := bdS h
  dsimp only at h
  refine x_nVI F (N0 := 40) (by decide) wl_5 c23 ⟨Nat.le_of_ble_eq_true rfl, Nat.le_of_ble_eq_true rfl⟩ dX7_init_23 ?_
  obtain ⟨M25_6, c25, h⟩ := bdS h
  refine x_putRF F (ci := 7) (C := RX7) (T := TX7) (N := 7) rfl ⟨by decide, rfl⟩ inU7 tyX7_ok nmX7 3 (by decide) ⟨rfl, rfl⟩ (fun _ _ _ => rfl) rfl hmn rfl wl_409 c25 dX7_init_25 ?_
  refine x_aload_n F dX7_init_28 rfl 0 rfl ?_
  refine x_bipush F (v := 40) dX7_init_29 (by decide) ?_
  obtain ⟨⟨x31_7, M31_7⟩, c31, h⟩ := bdS h
  dsimp only at h
  refine x_nVI F (N0 := 40) (by decide) wl_5 c31 ⟨Nat.le_of_ble_eq_true rfl, Nat.le_of_ble_eq_true rfl⟩ dX7_init_31 ?_
  obtain ⟨M33_8, c33, h⟩ := bdS h
  refine x_putRF F (ci := 7) (C := RX7) (T := TX7) (N := 7) rfl ⟨by decide, rfl⟩ inU7 tyX7_ok nmX7 4 (by decide) ⟨rfl, rfl⟩ (fun _ _ _ => rfl) rfl hmn rfl wl_410 c33 dX7_init_33 ?_
  refine x_aload_n F dX7_init_36 rfl 0 rfl ?_
  refine x_iconst F (v := 0) dX7_init_37 (by decide) ?_
  obtain ⟨M38_9, c38, h⟩ := bdS h
  refine x_putI F (ci := 7) (C := RX7) (T := TX7) (N := 7) rfl ⟨by decide, rfl⟩ inU7 tyX7_ok nmX7 5 (by decide) rfl rfl wl_411 c38 dX7_init_38 ?_
  refine x_aload_n F dX7_init_41 rfl 0 rfl ?_
  refine x_iconst F (v := 0) dX7_init_42 (by decide) ?_
  obtain ⟨M43_10, c43, h⟩ := bdS h
  refine x_putI F (ci := 7) (C := RX7) (T := TX7) (N := 7) rfl ⟨by decide, rfl⟩ inU7 tyX7_ok nmX7 6 (by decide) rfl rfl wl_412 c43 dX7_init_43 ?_
  refine x_aload_n F dX7_init_46 rfl 0 rfl ?_
  refine x_aload_n F dX7_init_47 rfl 1 rfl ?_
  obtain ⟨M48_11, c48, h⟩ := bdS h
  refine x_putRF F (ci := 7) (C := RX7) (T := TX7) (N := 7) rfl ⟨by decide, rfl⟩ inU7 tyX7_ok nmX7 0 (by decide) ⟨rfl, rfl⟩ (fun _ _ _ => rfl) rfl hmn rfl wl_413 c48 dX7_init_48 ?_
  obtain ⟨rfl, rfl⟩ := retS h
  exact x_vret F hr hl dX7_init_51
theorem dX8_init_0 : decode cX8_init 0 = .ok (.aload_n 0, 1) := by decide +kernel
theorem dX8_init_1 : decode cX8_init 1 = .ok (.invokespecial 3, 3) := by decide +kernel
theorem dX8_init_4 : decode cX8_init 4 = .ok (.aload_n 0, 1) := by decide +kernel
theorem dX8_init_5 : decode cX8_init 5 = .ok (.iconst 0, 1) := by decide +kernel
theorem dX8_init_6 : decode cX8_init 6 = .ok (.putfield 9, 3) := by decide +kernel
theorem dX8_init_9 : decode cX8_init 9 = .ok (.aload_n 0, 1) := by decide +kernel
theorem dX8_init_10 : decode cX8_init 10 = .ok (.bipush 6, 2) := by decide +kernel
theorem dX8_init_12 : decode cX8_init 12 = .ok (.newarray .long, 2) := by decide +kernel
theorem dX8_init_14 : decode cX8_init 14 = .ok (.putfield 15, 3) := by decide +kernel
theorem dX8_init_17 : decode cX8_init 17 = .ok (.aload_n 0, 1) := by decide +kernel
theorem dX8_init_18 : decode cX8_init 18 = .ok (.bipush 6, 2) := by decide +kernel
theorem dX8_init_20 : decode cX8_init 20 = .ok (.newarray .int, 2) := by decide +kernel
theorem dX8_init_22 : decode cX8_init 22 = .ok (.putfield 19, 3) := by decide +kernel
theorem dX8_init_25 : decode cX8_init 25 = .ok (.aload_n 0, 1) := by decide +kernel
theorem dX8_init_26 : decode cX8_init 26 = .ok (.bipush 6, 2) := by decide +kernel
theorem dX8_init_28 : decode cX8_init 28 = .ok (.newarray .int, 2) := by decide +kernel
theorem dX8_init_30 : decode cX8_init 30 = .ok (.putfield 23, 3) := by decide +kernel
theorem dX8_init_33 : decode cX8_init 33 = .ok (.aload_n 0, 1) := by decide +kernel
theorem dX8_init_34 : decode cX8_init 34 = .ok (.iconst 0, 1) := by decide +kernel
theorem dX8_init_35 : decode cX8_init 35 = .ok (.putfield 26, 3) := by decide +kernel
theorem dX8_init_38 : decode cX8_init 38 = .ok (.aload_n 0, 1) := by decide +kernel
theorem dX8_init_39 : decode cX8_init 39 = .ok (.bipush 8, 2) := by decide +kernel
theorem dX8_init_41 : decode cX8_init 41 = .ok (.newarray .int, 2) := by decide +kernel
theorem dX8_init_43 : decode cX8_init 43 = .ok (.putfield 29, 3) := by decide +kernel
theorem dX8_init_46 : decode cX8_init 46 = .ok (.aload_n 0, 1) := by decide +kernel
theorem dX8_init_47 : decode cX8_init 47 = .ok (.iconst 0, 1) := by decide +kernel
theorem dX8_init_48 : decode cX8_init 48 = .ok (.putfield 32, 3) := by decide +kernel
theorem dX8_init_51 : decode cX8_init 51 = .ok (.aload_n 0, 1) := by decide +kernel
theorem dX8_init_52 : decode cX8_init 52 = .ok (.iconst 4, 1) := by decide +kernel
theorem dX8_init_53 : decode cX8_init 53 = .ok (.newarray .long, 2) := by decide +kernel
theorem dX8_init_55 : decode cX8_init 55 = .ok (.putfield 35, 3) := by decide +kernel
theorem dX8_init_58 : decode cX8_init 58 = .ok (.aload_n 0, 1) := by decide +kernel
theorem dX8_init_59 : decode cX8_init 59 = .ok (.iconst 4, 1) := by decide +kernel
theorem dX8_init_60 : decode cX8_init 60 = .ok (.newarray .int, 2) := by decide +kernel
theorem dX8_init_62 : decode cX8_init 62 = .ok (.putfield 38, 3) := by decide +kernel
theorem dX8_init_65 : decode cX8_init 65 = .ok (.aload_n 0, 1) := by decide +kernel
theorem dX8_init_66 : decode cX8_init 66 = .ok (.iconst 0, 1) := by decide +kernel
theorem dX8_init_67 : decode cX8_init 67 = .ok (.putfield 41, 3) := by decide +kernel
theorem dX8_init_70 : decode cX8_init 70 = .ok (.aload_n 0, 1) := by decide +kernel
theorem dX8_init_71 : decode cX8_init 71 = .ok (.bipush 6, 2) := by decide +kernel
theorem dX8_init_73 : decode cX8_init 73 = .ok (.newarray .long, 2) := by decide +kernel
theorem dX8_init_75 : decode cX8_init 75 = .ok (.putfield 44, 3) := by decide +kernel
theorem dX8_init_78 : decode cX8_init 78 = .ok (.aload_n 0, 1) := by decide +kernel
theorem dX8_init_79 : decode cX8_init 79 = .ok (.bipush 6, 2) := by decide +kernel
theorem dX8_init_81 : decode cX8_init 81 = .ok (.newarray .int, 2) := by decide +kernel
theorem dX8_init_83 : decode cX8_init 83 = .ok (.putfield 47, 3) := by decide +kernel
theorem dX8_init_86 : decode cX8_init 86 = .ok (.aload_n 0, 1) := by decide +kernel
theorem dX8_init_87 : decode cX8_init 87 = .ok (.bipush 6, 2) := by decide +kernel
theorem dX8_init_89 : decode cX8_init 89 = .ok (.newarray .int, 2) := by decide +kernel
theorem dX8_init_91 : decode cX8_init 91 = .ok (.putfield 50, 3) := by decide +kernel
theorem dX8_init_94 : decode cX8_init 94 = .ok (.aload_n 0, 1) := by decide +kernel
theorem dX8_init_95 : decode cX8_init 95 = .ok (.bipush 18, 2) := by decide +kernel
theorem dX8_init_97 : decode cX8_init 97 = .ok (.newarray .int, 2) := by decide +kernel
theorem dX8_init_99 : decode cX8_init 99 = .ok (.putfield 53, 3) := by decide +kernel
theorem dX8_init_102 : decode cX8_init 102 = .ok (.aload_n 0, 1) := by decide +kernel
theorem dX8_init_103 : decode cX8_init 103 = .ok (.iconst 3, 1) := by decide +kernel
theorem dX8_init_104 : decode cX8_init 104 = .ok (.putfield 56, 3) := by decide +kernel
theorem dX8_init_107 : decode cX8_init 107 = .ok (.aload_n 0, 1) := by decide +kernel
theorem dX8_init_108 : decode cX8_init 108 = .ok (.iconst 0, 1) := by decide +kernel
theorem dX8_init_109 : decode cX8_init 109 = .ok (.putfield 59, 3) := by decide +kernel
theorem dX8_init_112 : decode cX8_init 112 = .ok (.aload_n 0, 1) := by decide +kernel
theorem dX8_init_113 : decode cX8_init 113 = .ok (.iconst 0, 1) := by decide +kernel
theorem dX8_init_114 : decode cX8_init 114 = .ok (.putfield 63, 3) := by decide +kernel
theorem dX8_init_117 : decode cX8_init 117 = .ok (.return_, 1) := by decide +kernel
def fX8_init (N : Nat) (v0 : Nat) (M : Mem) : Option (Unit × Mem) := ((pI M 8 v0 0 0).bind fun M6_1 => ((nV M6_1 21 6).bind fun (x12_2, M12_2) => ((pR M12_2 8 v0 1 x12_2).bind fun M14_3 => ((nV M14_3 20 6).bind fun (x20_4, M20_4) => ((pR M20_4 8 v0 2 x20_4).bind fun M22_5 => ((nV M22_5 20 6).bind fun (x28_6, M28_6) => ((pR M28_6 8 v0 3 x28_6).bind fun M30_7 => ((pI M30_7 8 v0 4 0).bind fun M35_8 => ((nV M35_8 20 8).bind fun (x41_9, M41_9) => ((pR M41_9 8 v0 5 x41_9).bind fun M43_10 => ((pI M43_10 8 v0 6 0).bind fun M48_11 => ((nV M48_11 21 4).bind fun (x53_12, M53_12) => ((pR M53_12 8 v0 7 x53_12).bind fun M55_13 => ((nV M55_13 20 4).bind fun (x60_14, M60_14) => ((pR M60_14 8 v0 8 x60_14).bind fun M62_15 => ((pI M62_15 8 v0 9 0).bind fun M67_16 => ((nV M67_16 21 6).bind fun (x73_17, M73_17) => ((pR M73_17 8 v0 10 x73_17).bind fun M75_18 => ((nV M75_18 20 6).bind fun (x81_19, M81_19) => ((pR M81_19 8 v0 11 x81_19).bind fun M83_20 => ((nV M83_20 20 6).bind fun (x89_21, M89_21) => ((pR M89_21 8 v0 12 x89_21).bind fun M91_22 => ((nV M91_22 20 18).bind fun (x97_23, M97_23) => ((pR M97_23 8 v0 13 x97_23).bind fun M99_24 => ((pI M99_24 8 v0 14 3).bind fun M104_25 => ((pZ M104_25 8 v0 15 0).bind fun M109_26 => ((pI M109_26 8 v0 16 0).bind fun M114_27 => some ((), M114_27))))))))))))))))))))))))))))
set_option maxHeartbeats 4000000 in
set_option maxRecDepth 100000 in
theorem k_X8_init (l : Launch) (b : Nat) (D : va_G) (cy : Nat → ClassId) (N : Nat) (v0 : Nat) (M : Mem) (r : Unit) (Mf : Mem) (h : fX8_init N v0 M = some (r, Mf)) : Ct l yX8_init cX8_init 1 none 1 10 70 b D cy [.ref (b + v0)] M none Mf := by
  refine Ct_of (own := RX8) (by decide) rfl (Nat.le_of_ble_eq_true rfl) ?_
  intro p e s m args below meth c F hr hl hmn
  unfold fX8_init at h
  show X p l e ({ frames := 1, cells := 10, slots := 70, locals := 100 * 1 }) s m args below meth c (MQ below (Qm b D cy none Mf) args s 10 70 (fun q => b ≤ q)) 1 b D cy 0 0 M 0 [(0, .ref (b + v0))] []
  refine x_aload_n F dX8_init_0 rfl 0 rfl ?_
  refine x_objInit F wl_484 wl_3 wl_4 (Nat.le_of_ble_eq_true rfl) (Nat.le_of_ble_eq_true rfl) dX8_init_1 ?_
  refine x_aload_n F dX8_init_4 rfl 0 rfl ?_
  refine x_iconst F (v := 0) dX8_init_5 (by decide) ?_
  obtain ⟨M6_1, c6, h⟩ := bdS h
  refine x_putI F (ci := 8) (C := RX8) (T := TX8) (N := 17) rfl ⟨by decide, rfl⟩ inU8 tyX8_ok nmX8 0 (by decide) rfl rfl wl_238 c6 dX8_init_6 ?_
  refine x_aload_n F dX8_init_9 rfl 0 rfl ?_
  refine x_bipush F (v := 6) dX8_init_10 (by decide) ?_
  obtain ⟨⟨x12_2, M12_2⟩, c12, h⟩ := bdS h
  dsimp only at h
  refine x_nVL F (N0 := 6) (by decide) wl_485 c12 ⟨Nat.le_of_ble_eq_true rfl, Nat.le_of_ble_eq_true rfl⟩ dX8_init_12 ?_
  obtain ⟨M14_3, c14, h⟩ := bdS h
  refine x_putRF F (ci := 8) (C := RX8) (T := TX8) (N := 17) rfl ⟨by decide, rfl⟩ inU8 tyX8_ok nmX8 1 (by decide) ⟨rfl, rfl⟩ (fun _ _ _ => rfl) rfl hmn rfl wl_486 c14 dX8_init_14 ?_
  refine x_aload_n F dX8_init_17 rfl 0 rfl ?_
  refine x_bipush F (v := 6) dX8_init_18 (by decide) ?_
  obtain ⟨⟨x20_4, M20_4⟩, c20, h⟩ := bdS h
  dsimp only at h
  refine x_nVI F (N0 := 6) (by decide) wl_5 c20 ⟨Nat.le_of_ble_eq_true rfl, Nat.le_of_ble_eq_true rfl⟩ dX8_init_20 ?_
  obtain ⟨M22_5, c22, h⟩ := bdS h
  refine x_putRF F (ci := 8) (C := RX8) (T := TX8) (N := 17) rfl ⟨by decide, rfl⟩ inU8 tyX8_ok nmX8 2 (by decide) ⟨rfl, rfl⟩ (fun _ _ _ => rfl) rfl hmn rfl wl_487 c22 dX8_init_22 ?_
  refine x_aload_n F dX8_init_25 rfl 0 rfl ?_
  refine x_bipush F (v := 6) dX8_init_26 (by decide) ?_
  obtain ⟨⟨x28_6, M28_6⟩, c28, h⟩ := bdS h
  dsimp only at h
  refine x_nVI F (N0 := 6) (by decide) wl_5 c28 ⟨Nat.le_of_ble_eq_true rfl, Nat.le_of_ble_eq_true rfl⟩ dX8_init_28 ?_
  obtain ⟨M30_7, c30, h⟩ := bdS h
  refine x_putRF F (ci := 8) (C := RX8) (T := TX8) (N := 17) rfl ⟨by decide, rfl⟩ inU8 tyX8_ok nmX8 3 (by decide) ⟨rfl, rfl⟩ (fun _ _ _ => rfl) rfl hmn rfl wl_240 c30 dX8_init_30 ?_
  refine x_aload_n F dX8_init_33 rfl 0 rfl ?_
  refine x_iconst F (v := 0) dX8_init_34 (by decide) ?_
  obtain ⟨M35_8, c35, h⟩ := bdS h
  refine x_putI F (ci := 8) (C := RX8) (T := TX8) (N := 17) rfl ⟨by decide, rfl⟩ inU8 tyX8_ok nmX8 4 (by decide) rfl rfl wl_37 c35 dX8_init_35 ?_
  refine x_aload_n F dX8_init_38 rfl 0 rfl ?_
  refine x_bipush F (v := 8) dX8_init_39 (by decide) ?_
  obtain ⟨⟨x41_9, M41_9⟩, c41, h⟩ := bdS h
  dsimp only at h
  refine x_nVI F (N0 := 8) (by decide) wl_5 c41 ⟨Nat.le_of_ble_eq_true rfl, Nat.le_of_ble_eq_true rfl⟩ dX8_init_41 ?_
  obtain ⟨M43_10, c43, h⟩ := bdS h
  refine x_putRF F (ci := 8) (C := RX8) (T := TX8) (N := 17) rfl ⟨by decide, rfl⟩ inU8 tyX8_ok nmX8 5 (by decide) ⟨rfl, rfl⟩ (fun _ _ _ => rfl) rfl hmn rfl wl_38 c43 dX8_init_43 ?_
  refine x_aload_n F dX8_init_46 rfl 0 rfl ?_
  refine x_iconst F (v := 0) dX8_init_47 (by decide) ?_
  obtain ⟨M48_11, c48, h⟩ := bdS h
  refine x_putI F (ci := 8) (C := RX8) (T := TX8) (N := 17) rfl ⟨by decide, rfl⟩ inU8 tyX8_ok nmX8 6 (by decide) rfl rfl wl_488 c48 dX8_init_48 ?_
  refine x_aload_n F dX8_init_51 rfl 0 rfl ?_
  refine x_iconst F (v := 4) dX8_init_52 (by decide) ?_
  obtain ⟨⟨x53_12, M53_12⟩, c53, h⟩ := bdS h
  dsimp only at h
  refine x_nVL F (N0 := 4) (by decide) wl_485 c53 ⟨Nat.le_of_ble_eq_true rfl, Nat.le_of_ble_eq_true rfl⟩ dX8_init_53 ?_
  obtain ⟨M55_13, c55, h⟩ := bdS h
  refine x_putRF F (ci := 8) (C := RX8) (T := TX8) (N := 17) rfl ⟨by decide, rfl⟩ inU8 tyX8_ok nmX8 7 (by decide) ⟨rfl, rfl⟩ (fun _ _ _ => rfl) rfl hmn rfl wl_489 c55 dX8_init_55 ?_
  refine x_aload_n F dX8_init_58 rfl 0 rfl ?_
  refine x_iconst F (v := 4) dX8_init_59 (by decide) ?_
  obtain ⟨⟨x60_14, M60_14⟩, c60, h⟩ := bdS h
  dsimp only at h
  refine x_nVI F (N0 := 4) (by decide) wl_5 c60 ⟨Nat.le_of_ble_eq_true rfl, Nat.le_of_ble_eq_true rfl⟩ dX8_init_60 ?_
  obtain ⟨M62_15, c62, h⟩ := bdS h
  refine x_putRF F (ci := 8) (C := RX8) (T := TX8) (N := 17) rfl ⟨by decide, rfl⟩ inU8 tyX8_ok nmX8 8 (by decide) ⟨rfl, rfl⟩ (fun _ _ _ => rfl) rfl hmn rfl wl_490 c62 dX8_init_62 ?_
  refine x_aload_n F dX8_init_65 rfl 0 rfl ?_
  refine x_iconst F (v := 0) dX8_init_66 (by decide) ?_
  obtain ⟨M67_16, c67, h⟩ := bdS h
  refine x_putI F (ci := 8) (C := RX8) (T := TX8) (N := 17) rfl ⟨by decide, rfl⟩ inU8 tyX8_ok nmX8 9 (by decide) rfl rfl wl_110 c67 dX8_init_67 ?_
  refine x_aload_n F dX8_init_70 rfl 0 rfl ?_
  refine x_bipush F (v := 6) dX8_init_71 (by decide) ?_
  obtain ⟨⟨x73_17, M73_17⟩, c73, h⟩ := bdS h
  dsimp only at h
  refine x_nVL F (N0 := 6) (by decide) wl_485 c73 ⟨Nat.le_of_ble_eq_true rfl, Nat.le_of_ble_eq_true rfl⟩ dX8_init_73 ?_
  obtain ⟨M75_18, c75, h⟩ := bdS h
  refine x_putRF F (ci := 8) (C := RX8) (T := TX8) (N := 17) rfl ⟨by decide, rfl⟩ inU8 tyX8_ok nmX8 10 (by decide) ⟨rfl, rfl⟩ (fun _ _ _ => rfl) rfl hmn rfl wl_491 c75 dX8_init_75 ?_
  refine x_aload_n F dX8_init_78 rfl 0 rfl ?_
  refine x_bipush F (v := 6) dX8_init_79 (by decide) ?_
  obtain ⟨⟨x81_19, M81_19⟩, c81, h⟩ := bdS h
  dsimp only at h
  refine x_nVI F (N0 := 6) (by decide) wl_5 c81 ⟨Nat.le_of_ble_eq_true rfl, Nat.le_of_ble_eq_true rfl⟩ dX8_init_81 ?_
  obtain ⟨M83_20, c83, h⟩ := bdS h
  refine x_putRF F (ci := 8) (C := RX8) (T := TX8) (N := 17) rfl ⟨by decide, rfl⟩ inU8 tyX8_ok nmX8 11 (by decide) ⟨rfl, rfl⟩ (fun _ _ _ => rfl) rfl hmn rfl wl_492 c83 dX8_init_83 ?_
  refine x_aload_n F dX8_init_86 rfl 0 rfl ?_
  refine x_bipush F (v := 6) dX8_init_87 (by decide) ?_
  obtain ⟨⟨x89_21, M89_21⟩, c89, h⟩ := bdS h
  dsimp only at h
  refine x_nVI F (N0 := 6) (by decide) wl_5 c89 ⟨Nat.le_of_ble_eq_true rfl, Nat.le_of_ble_eq_true rfl⟩ dX8_init_89 ?_
  obtain ⟨M91_22, c91, h⟩ := bdS h
  refine x_putRF F (ci := 8) (C := RX8) (T := TX8) (N := 17) rfl ⟨by decide, rfl⟩ inU8 tyX8_ok nmX8 12 (by decide) ⟨rfl, rfl⟩ (fun _ _ _ => rfl) rfl hmn rfl wl_101 c91 dX8_init_91 ?_
  refine x_aload_n F dX8_init_94 rfl 0 rfl ?_
  refine x_bipush F (v := 18) dX8_init_95 (by decide) ?_
  obtain ⟨⟨x97_23, M97_23⟩, c97, h⟩ := bdS h
  dsimp only at h
  refine x_nVI F (N0 := 18) (by decide) wl_5 c97 ⟨Nat.le_of_ble_eq_true rfl, Nat.le_of_ble_eq_true rfl⟩ dX8_init_97 ?_
  obtain ⟨M99_24, c99, h⟩ := bdS h
  refine x_putRF F (ci := 8) (C := RX8) (T := TX8) (N := 17) rfl ⟨by decide, rfl⟩ inU8 tyX8_ok nmX8 13 (by decide) ⟨rfl, rfl⟩ (fun _ _ _ => rfl) rfl hmn rfl wl_99 c99 dX8_init_99 ?_
  refine x_aload_n F dX8_init_102 rfl 0 rfl ?_
  refine x_iconst F (v := 3) dX8_init_103 (by decide) ?_
  obtain ⟨M104_25, c104, h⟩ := bdS h
  refine x_putI F (ci := 8) (C := RX8) (T := TX8) (N := 17) rfl ⟨by decide, rfl⟩ inU8 tyX8_ok nmX8 14 (by decide) rfl rfl wl_493 c104 dX8_init_104 ?_
  refine x_aload_n F dX8_init_107 rfl 0 rfl ?_
  refine x_iconst F (v := 0) dX8_init_108 (by decide) ?_
  obtain ⟨M109_26, c109, h⟩ := bdS h
  refine x_putZ F (ci := 8) (C := RX8) (T := TX8) (N := 17) rfl ⟨by decide, rfl⟩ inU8 tyX8_ok nmX8 15 (by decide) rfl rfl wl_494 c109 dX8_init_109 ?_
  refine x_aload_n F dX8_init_112 rfl 0 rfl ?_
  refine x_iconst F (v := 0) dX8_init_113 (by decide) ?_
  obtain ⟨M114_27, c114, h⟩ := bdS h
  refine x_putI F (ci := 8) (C := RX8) (T := TX8) (N := 17) rfl ⟨by decide, rfl⟩ inU8 tyX8_ok nmX8 16 (by decide) rfl rfl wl_495 c114 dX8_init_114 ?_
  obtain ⟨rfl, rfl⟩ := retS h
  exact x_vret F hr hl dX8_init_117
theorem dX9_init_0 : decode cX9_init 0 = .ok (.aload_n 0, 1) := by decide +kernel
theorem dX9_init_1 : decode cX9_init 1 = .ok (.invokespecial 3, 3) := by decide +kernel
theorem dX9_init_4 : decode cX9_init 4 = .ok (.aload_n 0, 1) := by decide +kernel
theorem dX9_init_5 : decode cX9_init 5 = .ok (.sipush 940, 3) := by decide +kernel
theorem dX9_init_8 : decode cX9_init 8 = .ok (.newarray .int, 2) := by decide +kernel
theorem dX9_init_10 : decode cX9_init 10 = .ok (.putfield 9, 3) := by decide +kernel
theorem dX9_init_13 : decode cX9_init 13 = .ok (.aload_n 0, 1) := by decide +kernel
theorem dX9_init_14 : decode cX9_init 14 = .ok (.bipush 20, 2) := by decide +kernel
theorem dX9_init_16 : decode cX9_init 16 = .ok (.newarray .long, 2) := by decide +kernel
theorem dX9_init_18 : decode cX9_init 18 = .ok (.putfield 15, 3) := by decide +kernel
theorem dX9_init_21 : decode cX9_init 21 = .ok (.aload_n 0, 1) := by decide +kernel
theorem dX9_init_22 : decode cX9_init 22 = .ok (.iconst 0, 1) := by decide +kernel
theorem dX9_init_23 : decode cX9_init 23 = .ok (.putfield 19, 3) := by decide +kernel
theorem dX9_init_26 : decode cX9_init 26 = .ok (.aload_n 0, 1) := by decide +kernel
theorem dX9_init_27 : decode cX9_init 27 = .ok (.iconst 0, 1) := by decide +kernel
theorem dX9_init_28 : decode cX9_init 28 = .ok (.putfield 23, 3) := by decide +kernel
theorem dX9_init_31 : decode cX9_init 31 = .ok (.aload_n 0, 1) := by decide +kernel
theorem dX9_init_32 : decode cX9_init 32 = .ok (.iconst 0, 1) := by decide +kernel
theorem dX9_init_33 : decode cX9_init 33 = .ok (.putfield 26, 3) := by decide +kernel
theorem dX9_init_36 : decode cX9_init 36 = .ok (.aload_n 0, 1) := by decide +kernel
theorem dX9_init_37 : decode cX9_init 37 = .ok (.iconst 0, 1) := by decide +kernel
theorem dX9_init_38 : decode cX9_init 38 = .ok (.putfield 29, 3) := by decide +kernel
theorem dX9_init_41 : decode cX9_init 41 = .ok (.aload_n 0, 1) := by decide +kernel
theorem dX9_init_42 : decode cX9_init 42 = .ok (.iconst 0, 1) := by decide +kernel
theorem dX9_init_43 : decode cX9_init 43 = .ok (.putfield 32, 3) := by decide +kernel
theorem dX9_init_46 : decode cX9_init 46 = .ok (.aload_n 0, 1) := by decide +kernel
theorem dX9_init_47 : decode cX9_init 47 = .ok (.iconst 0, 1) := by decide +kernel
theorem dX9_init_48 : decode cX9_init 48 = .ok (.putfield 35, 3) := by decide +kernel
theorem dX9_init_51 : decode cX9_init 51 = .ok (.aload_n 0, 1) := by decide +kernel
theorem dX9_init_52 : decode cX9_init 52 = .ok (.lconst 0, 1) := by decide +kernel
theorem dX9_init_53 : decode cX9_init 53 = .ok (.putfield 38, 3) := by decide +kernel
theorem dX9_init_56 : decode cX9_init 56 = .ok (.aload_n 0, 1) := by decide +kernel
theorem dX9_init_57 : decode cX9_init 57 = .ok (.iconst (-1), 1) := by decide +kernel
theorem dX9_init_58 : decode cX9_init 58 = .ok (.putfield 42, 3) := by decide +kernel
theorem dX9_init_61 : decode cX9_init 61 = .ok (.aload_n 0, 1) := by decide +kernel
theorem dX9_init_62 : decode cX9_init 62 = .ok (.iconst 0, 1) := by decide +kernel
theorem dX9_init_63 : decode cX9_init 63 = .ok (.putfield 45, 3) := by decide +kernel
theorem dX9_init_66 : decode cX9_init 66 = .ok (.aload_n 0, 1) := by decide +kernel
theorem dX9_init_67 : decode cX9_init 67 = .ok (.iconst 0, 1) := by decide +kernel
theorem dX9_init_68 : decode cX9_init 68 = .ok (.putfield 48, 3) := by decide +kernel
theorem dX9_init_71 : decode cX9_init 71 = .ok (.iconst 0, 1) := by decide +kernel
theorem dX9_init_72 : decode cX9_init 72 = .ok (.istore_n 1, 1) := by decide +kernel
theorem dX9_init_73 : decode cX9_init 73 = .ok (.iconst 0, 1) := by decide +kernel
theorem dX9_init_74 : decode cX9_init 74 = .ok (.istore_n 2, 1) := by decide +kernel
theorem dX9_init_75 : decode cX9_init 75 = .ok (.iload_n 2, 1) := by decide +kernel
theorem dX9_init_76 : decode cX9_init 76 = .ok (.ldc 51, 2) := by decide +kernel
theorem dX9_init_78 : decode cX9_init 78 = .ok (.invokevirtual 53, 3) := by decide +kernel
theorem dX9_init_81 : decode cX9_init 81 = .ok (.if_icmp .ge 58, 3) := by decide +kernel
theorem dX9_init_84 : decode cX9_init 84 = .ok (.ldc 51, 2) := by decide +kernel
theorem dX9_init_86 : decode cX9_init 86 = .ok (.iload_n 2, 1) := by decide +kernel
theorem dX9_init_87 : decode cX9_init 87 = .ok (.invokevirtual 58, 3) := by decide +kernel
theorem dX9_init_90 : decode cX9_init 90 = .ok (.istore_n 3, 1) := by decide +kernel
theorem dX9_init_91 : decode cX9_init 91 = .ok (.iload_n 3, 1) := by decide +kernel
theorem dX9_init_92 : decode cX9_init 92 = .ok (.bipush 32, 2) := by decide +kernel
theorem dX9_init_94 : decode cX9_init 94 = .ok (.if_icmp .ne 9, 3) := by decide +kernel
theorem dX9_init_97 : decode cX9_init 97 = .ok (.iinc 1 1, 3) := by decide +kernel
theorem dX9_init_100 : decode cX9_init 100 = .ok (.goto 33, 3) := by decide +kernel
theorem dX9_init_103 : decode cX9_init 103 = .ok (.iload_n 1, 1) := by decide +kernel
theorem dX9_init_104 : decode cX9_init 104 = .ok (.bipush 20, 2) := by decide +kernel
theorem dX9_init_106 : decode cX9_init 106 = .ok (.if_icmp .ge 27, 3) := by decide +kernel
theorem dX9_init_109 : decode cX9_init 109 = .ok (.aload_n 0, 1) := by decide +kernel
theorem dX9_init_110 : decode cX9_init 110 = .ok (.getfield 15, 3) := by decide +kernel
theorem dX9_init_113 : decode cX9_init 113 = .ok (.iload_n 1, 1) := by decide +kernel
theorem dX9_init_114 : decode cX9_init 114 = .ok (.aload_n 0, 1) := by decide +kernel
theorem dX9_init_115 : decode cX9_init 115 = .ok (.getfield 15, 3) := by decide +kernel
theorem dX9_init_118 : decode cX9_init 118 = .ok (.iload_n 1, 1) := by decide +kernel
theorem dX9_init_119 : decode cX9_init 119 = .ok (.laload, 1) := by decide +kernel
theorem dX9_init_120 : decode cX9_init 120 = .ok (.ldc2_w 62, 3) := by decide +kernel
theorem dX9_init_123 : decode cX9_init 123 = .ok (.lmul, 1) := by decide +kernel
theorem dX9_init_124 : decode cX9_init 124 = .ok (.iload_n 3, 1) := by decide +kernel
theorem dX9_init_125 : decode cX9_init 125 = .ok (.bipush 97, 2) := by decide +kernel
theorem dX9_init_127 : decode cX9_init 127 = .ok (.isub, 1) := by decide +kernel
theorem dX9_init_128 : decode cX9_init 128 = .ok (.iconst 1, 1) := by decide +kernel
theorem dX9_init_129 : decode cX9_init 129 = .ok (.iadd, 1) := by decide +kernel
theorem dX9_init_130 : decode cX9_init 130 = .ok (.i2l, 1) := by decide +kernel
theorem dX9_init_131 : decode cX9_init 131 = .ok (.ladd, 1) := by decide +kernel
theorem dX9_init_132 : decode cX9_init 132 = .ok (.lastore, 1) := by decide +kernel
theorem dX9_init_133 : decode cX9_init 133 = .ok (.iinc 2 1, 3) := by decide +kernel
theorem dX9_init_136 : decode cX9_init 136 = .ok (.goto (-61), 3) := by decide +kernel
theorem dX9_init_139 : decode cX9_init 139 = .ok (.return_, 1) := by decide +kernel
def fX9_init_L75 (N : Nat) (v0 : Nat) : Nat → Int32 → Int32 → Mem → Option (Mem)
  | 0, _, _, _ => none
  | n + 1, v1, v2, M => (if 105 ≤ v2 then some M else ((kwc v2).bind fun x87_15 => (if (kwB.getD (Int32.toNatClampNeg v2) 0) = 32 then fX9_init_L75 N v0 n (v1 + 1) (v2 + 1) M else (if 20 ≤ v1 then fX9_init_L75 N v0 n v1 (v2 + 1) M else ((fR M 9 v0 1).bind fun x110_16 => ((fR M 9 v0 1).bind fun x115_17 => ((aL M x115_17 v1).bind fun x119 => ((tL M x110_16 v1 ((x119 * ((32))) + (Int32.toInt64 (((kwB.getD (Int32.toNatClampNeg v2) 0) - 97) + 1)))).bind fun M132 => fX9_init_L75 N v0 n v1 (v2 + 1) M132))))))))
def fX9_init (N : Nat) (v0 : Nat) (M : Mem) : Option (Unit × Mem) := ((nV M 20 940).bind fun (x8_1, M8_1) => ((pR M8_1 9 v0 0 x8_1).bind fun M10_2 => ((nV M10_2 21 20).bind fun (x16_3, M16_3) => ((pR M16_3 9 v0 1 x16_3).bind fun M18_4 => ((pI M18_4 9 v0 2 0).bind fun M23_5 => ((pI M23_5 9 v0 3 0).bind fun M28_6 => ((pI M28_6 9 v0 4 0).bind fun M33_7 => ((pI M33_7 9 v0 5 0).bind fun M38_8 => ((pI M38_8 9 v0 6 0).bind fun M43_9 => ((pI M43_9 9 v0 7 0).bind fun M48_10 => ((pL M48_10 9 v0 8 0).bind fun M53_11 => ((pI M53_11 9 v0 9 ((-1))).bind fun M58_12 => ((pI M58_12 9 v0 10 0).bind fun M63_13 => ((pI M63_13 9 v0 11 0).bind fun M68_14 => ((fX9_init_L75 N v0 N 0 0 M68_14).bind fun o75 => some ((), o75))))))))))))))))
set_option maxHeartbeats 4000000 in
set_option maxRecDepth 100000 in
theorem k_X9_init (l : Launch) (b : Nat) (D : va_G) (cy : Nat → ClassId) (N : Nat) (v0 : Nat) (M : Mem) (r : Unit) (Mf : Mem) (h : fX9_init N v0 M = some (r, Mf)) : Ct l yX9_init cX9_init 4 none 5 2 960 b D cy [.ref (b + v0)] M none Mf := by
  refine Ct_of (own := RX9) (by decide) rfl (Nat.le_of_ble_eq_true rfl) ?_
  intro p e s m args below meth c F hr hl hmn
  unfold fX9_init at h
  show X p l e ({ frames := 5, cells := 2, slots := 960, locals := 100 * 5 }) s m args below meth c (MQ below (Qm b D cy none Mf) args s 2 960 (fun q => b ≤ q)) 4 b D cy 0 0 M 0 [(0, .ref (b + v0))] []
  refine x_aload_n F dX9_init_0 rfl 0 rfl ?_
  refine x_objInit F wl_604 wl_3 wl_4 (Nat.le_of_ble_eq_true rfl) (Nat.le_of_ble_eq_true rfl) dX9_init_1 ?_
  refine x_aload_n F dX9_init_4 rfl 0 rfl ?_
  refine x_sipush F (v := 940) dX9_init_5 (by decide) ?_
  obtain ⟨⟨x8_1, M8_1⟩, c8, h⟩ := bdS h
  dsimp only at h
  refine x_nVI F (N0 := 940) (by decide) wl_5 c8 ⟨Nat.le_of_ble_eq_true rfl, Nat.le_of_ble_eq_true rfl⟩ dX9_init_8 ?_
  obtain ⟨M10_2, c10, h⟩ := bdS h
  refine x_putRF F (ci := 9) (C := RX9) (T := TX9) (N := 12) rfl ⟨by decide, rfl⟩ inU9 tyX9_ok nmX9 0 (by decide) ⟨rfl, rfl⟩ (fun _ _ _ => rfl) rfl hmn rfl wl_149 c10 dX9_init_10 ?_
  refine x_aload_n F dX9_init_13 rfl 0 rfl ?_
  refine x_bipush F (v := 20) dX9_init_14 (by decide) ?_
  obtain ⟨⟨x16_3, M16_3⟩, c16, h⟩ := bdS h
  dsimp only at h
  refine x_nVL F (N0 := 20) (by decide) wl_485 c16 ⟨Nat.le_of_ble_eq_true rfl, Nat.le_of_ble_eq_true rfl⟩ dX9_init_16 ?_
  obtain ⟨M18_4, c18, h⟩ := bdS h
  refine x_putRF F (ci := 9) (C := RX9) (T := TX9) (N := 12) rfl ⟨by decide, rfl⟩ inU9 tyX9_ok nmX9 1 (by decide) ⟨rfl, rfl⟩ (fun _ _ _ => rfl) rfl hmn rfl wl_157 c18 dX9_init_18 ?_
  refine x_aload_n F dX9_init_21 rfl 0 rfl ?_
  refine x_iconst F (v := 0) dX9_init_22 (by decide) ?_
  obtain ⟨M23_5, c23, h⟩ := bdS h
  refine x_putI F (ci := 9) (C := RX9) (T := TX9) (N := 12) rfl ⟨by decide, rfl⟩ inU9 tyX9_ok nmX9 2 (by decide) rfl rfl wl_148 c23 dX9_init_23 ?_
  refine x_aload_n F dX9_init_26 rfl 0 rfl ?_
  refine x_iconst F (v := 0) dX9_init_27 (by decide) ?_
  obtain ⟨M28_6, c28, h⟩ := bdS h
  refine x_putI F (ci := 9) (C := RX9) (T := TX9) (N := 12) rfl ⟨by decide, rfl⟩ inU9 tyX9_ok nmX9 3 (by decide) rfl rfl wl_159 c28 dX9_init_28 ?_
  refine x_aload_n F dX9_init_31 rfl 0 rfl ?_
  refine x_iconst F (v := 0) dX9_init_32 (by decide) ?_
  obtain ⟨M33_7, c33, h⟩ := bdS h
  refine x_putI F (ci := 9) (C := RX9) (T := TX9) (N := 12) rfl ⟨by decide, rfl⟩ inU9 tyX9_ok nmX9 4 (by decide) rfl rfl wl_147 c33 dX9_init_33 ?_
  refine x_aload_n F dX9_init_36 rfl 0 rfl ?_
  refine x_iconst F (v := 0) dX9_init_37 (by decide) ?_
  obtain ⟨M38_8, c38, h⟩ := bdS h
  refine x_putI F (ci := 9) (C := RX9) (T := TX9) (N := 12) rfl ⟨by decide, rfl⟩ inU9 tyX9_ok nmX9 5 (by decide) rfl rfl wl_154 c38 dX9_init_38 ?_
  refine x_aload_n F dX9_init_41 rfl 0 rfl ?_
  refine x_iconst F (v := 0) dX9_init_42 (by decide) ?_
  obtain ⟨M43_9, c43, h⟩ := bdS h
  refine x_putI F (ci := 9) (C := RX9) (T := TX9) (N := 12) rfl ⟨by decide, rfl⟩ inU9 tyX9_ok nmX9 6 (by decide) rfl rfl wl_160 c43 dX9_init_43 ?_
  refine x_aload_n F dX9_init_46 rfl 0 rfl ?_
  refine x_iconst F (v := 0) dX9_init_47 (by decide) ?_
  obtain ⟨M48_10, c48, h⟩ := bdS h
  refine x_putI F (ci := 9) (C := RX9) (T := TX9) (N := 12) rfl ⟨by decide, rfl⟩ inU9 tyX9_ok nmX9 7 (by decide) rfl rfl wl_152 c48 dX9_init_48 ?_
  refine x_aload_n F dX9_init_51 rfl 0 rfl ?_
  refine x_lconst F (v := 0) dX9_init_52 (by decide) ?_
  obtain ⟨M53_11, c53, h⟩ := bdS h
  refine x_putL F (ci := 9) (C := RX9) (T := TX9) (N := 12) rfl ⟨by decide, rfl⟩ inU9 tyX9_ok nmX9 8 (by decide) rfl rfl wl_151 c53 dX9_init_53 ?_
  refine x_aload_n F dX9_init_56 rfl 0 rfl ?_
  refine x_iconst F (v := (-1)) dX9_init_57 (by decide) ?_
  obtain ⟨M58_12, c58, h⟩ := bdS h
  refine x_putI F (ci := 9) (C := RX9) (T := TX9) (N := 12) rfl ⟨by decide, rfl⟩ inU9 tyX9_ok nmX9 9 (by decide) rfl rfl wl_158 c58 dX9_init_58 ?_
  refine x_aload_n F dX9_init_61 rfl 0 rfl ?_
  refine x_iconst F (v := 0) dX9_init_62 (by decide) ?_
  obtain ⟨M63_13, c63, h⟩ := bdS h
  refine x_putI F (ci := 9) (C := RX9) (T := TX9) (N := 12) rfl ⟨by decide, rfl⟩ inU9 tyX9_ok nmX9 10 (by decide) rfl rfl wl_175 c63 dX9_init_63 ?_
  refine x_aload_n F dX9_init_66 rfl 0 rfl ?_
  refine x_iconst F (v := 0) dX9_init_67 (by decide) ?_
  obtain ⟨M68_14, c68, h⟩ := bdS h
  refine x_putI F (ci := 9) (C := RX9) (T := TX9) (N := 12) rfl ⟨by decide, rfl⟩ inU9 tyX9_ok nmX9 11 (by decide) rfl rfl wl_176 c68 dX9_init_68 ?_
  refine x_iconst F (v := 0) dX9_init_71 (by decide) ?_
  refine x_istore_n F (lv' := [(1, .int 0), (0, .ref (b + v0))]) dX9_init_72 rfl (by decide) rfl ?_
  refine x_iconst F (v := 0) dX9_init_73 (by decide) ?_
  refine x_istore_n F (lv' := [(2, .int 0), (1, .int 0), (0, .ref (b + v0))]) dX9_init_74 rfl (by decide) rfl ?_
  have L75 : ∀ (v0 : Nat) (n : Nat) (v1 : Int32) (v2 : Int32) (M : Mem) (o : Mem), fX9_init_L75 N v0 n v1 v2 M = some o → X p l e ({ frames := 5, cells := 2, slots := 960, locals := 100 * 5 }) s m args below meth c (MQ below (Qm b D cy none Mf) args s 2 960 (fun q => b ≤ q)) 4 b D cy 2 960 o 139 [] [] → X p l e ({ frames := 5, cells := 2, slots := 960, locals := 100 * 5 }) s m args below meth c (MQ below (Qm b D cy none Mf) args s 2 960 (fun q => b ≤ q)) 4 b D cy 2 960 M 75 [(0, .ref (b + v0)), (1, .int v1), (2, .int v2)] [] := by
    intro v0 n
    induction n with
    | zero => intro v1 v2 M o h; exact absurd h (by rw [fX9_init_L75]; exact fun z => by cases z)
    | succ n ih =>
      intro v1 v2 M o h hE
      rw [fX9_init_L75] at h
      refine x_iload_n F dX9_init_75 rfl 2 rfl ?_
      refine x_ldcK F dX9_init_76 rfl (fun adK adV hKE => ?_)
      refine x_callVK F hKE (As := []) (rest := [.int v2]) (res := some (.int 105)) (k_slen l b D cy adK adV M) wl_605 wl_606 wl_607 wl_569 wl_564 hd_J0_length_8abf5 ⟨Nat.le_of_ble_eq_true rfl, Nat.le_of_ble_eq_true rfl⟩ ⟨Nat.le_of_ble_eq_true rfl, Nat.le_of_ble_eq_true rfl⟩ (Nat.le_of_ble_eq_true rfl) rfl dX9_init_78 ?_
      refine x_icmp_ge F (tgt := 139) dX9_init_81 (by decide) (fun c81 => ?_) (fun c81 => ?_)
      · rw [if_pos c81] at h
        obtain rfl := Option.some.inj h
        refine x_sub [] rfl ?_
        exact hE
      · rw [if_neg c81] at h
        refine x_ldcK F dX9_init_84 rfl (fun adK adV hKE => ?_)
        refine x_iload_n F dX9_init_86 rfl 2 rfl ?_
        obtain ⟨x87_15, c87, h⟩ := bdS h
        obtain ⟨g87, c87⟩ := gdS c87
        obtain rfl := Option.some.inj c87
        refine x_callVK F hKE (As := [.int v2]) (rest := []) (res := some (.int (kwB.getD (Int32.toNatClampNeg v2) 0))) (k_sch l b D cy adK adV M v2 g87) wl_608 wl_609 wl_610 wl_569 wl_603 hd_J0_charAt_5068e ⟨Nat.le_of_ble_eq_true rfl, Nat.le_of_ble_eq_true rfl⟩ ⟨Nat.le_of_ble_eq_true rfl, Nat.le_of_ble_eq_true rfl⟩ (Nat.le_of_ble_eq_true rfl) rfl dX9_init_87 ?_
        refine x_istore_n F (lv' := [(3, .int (kwB.getD (Int32.toNatClampNeg v2) 0)), (0, .ref (b + v0)), (1, .int v1), (2, .int v2)]) dX9_init_90 rfl (by decide) rfl ?_
        refine x_iload_n F dX9_init_91 rfl 0 rfl ?_
        refine x_bipush F (v := 32) dX9_init_92 (by decide) ?_
        refine x_icmp_ne F (tgt := 103) dX9_init_94 (by decide) (fun c94 => ?_) (fun c94 => ?_)
        · rw [if_neg c94] at h
          refine x_iload_n F dX9_init_103 rfl 2 rfl ?_
          refine x_bipush F (v := 20) dX9_init_104 (by decide) ?_
          refine x_icmp_ge F (tgt := 133) dX9_init_106 (by decide) (fun c106 => ?_) (fun c106 => ?_)
          · rw [if_pos c106] at h
            refine x_iinc F (v := v2 + 1) (lv' := [(2, .int (v2 + 1)), (3, .int (kwB.getD (Int32.toNatClampNeg v2) 0)), (0, .ref (b + v0)), (1, .int v1)]) dX9_init_133 3 rfl rfl (by decide) rfl ?_
            refine x_goto F (tgt := 75) dX9_init_136 (by decide) ?_
            refine x_sub [2, 3, 0] rfl ?_
            exact ih v1 (v2 + 1) M o h hE
          · rw [if_neg c106] at h
            refine x_aload_n F dX9_init_109 rfl 1 rfl ?_
            obtain ⟨x110_16, c110, h⟩ := bdS h
            refine x_getR F (ci := 9) (C := RX9) (T := TX9) (N := 12) rfl ⟨by decide, rfl⟩ inU9 1 (by decide) (fun _ _ _ => rfl) wl_157 c110 dX9_init_110 ?_
            refine x_iload_n F dX9_init_113 rfl 2 rfl ?_
            refine x_aload_n F dX9_init_114 rfl 1 rfl ?_
            obtain ⟨x115_17, c115, h⟩ := bdS h
            refine x_getR F (ci := 9) (C := RX9) (T := TX9) (N := 12) rfl ⟨by decide, rfl⟩ inU9 1 (by decide) (fun _ _ _ => rfl) wl_157 c115 dX9_init_115 ?_
            refine x_iload_n F dX9_init_118 rfl 2 rfl ?_
            obtain ⟨x119, c119, h⟩ := bdS h
            refine x_aL F c119 dX9_init_119 ?_
            refine x_ldc2 F (v := (32)) dX9_init_120 wl_153 ?_
            refine x_lmul F dX9_init_123 ?_
            refine x_iload_n F dX9_init_124 rfl 0 rfl ?_
            refine x_bipush F (v := 97) dX9_init_125 (by decide) ?_
            refine x_isub F dX9_init_127 ?_
            refine x_iconst F (v := 1) dX9_init_128 (by decide) ?_
            refine x_iadd F dX9_init_129 ?_
            refine x_i2l F dX9_init_130 ?_
            refine x_ladd F dX9_init_131 ?_
            obtain ⟨M132, c132, h⟩ := bdS h
            refine x_tL F c132 dX9_init_132 ?_
            refine x_iinc F (v := v2 + 1) (lv' := [(2, .int (v2 + 1)), (3, .int (kwB.getD (Int32.toNatClampNeg v2) 0)), (0, .ref (b + v0)), (1, .int v1)]) dX9_init_133 3 rfl rfl (by decide) rfl ?_
            refine x_goto F (tgt := 75) dX9_init_136 (by decide) ?_
            refine x_sub [2, 3, 0] rfl ?_
            exact ih v1 (v2 + 1) M132 o h hE
        · rw [if_pos c94] at h
          refine x_iinc F (v := v1 + 1) (lv' := [(1, .int (v1 + 1)), (3, .int (kwB.getD (Int32.toNatClampNeg v2) 0)), (0, .ref (b + v0)), (2, .int v2)]) dX9_init_97 2 rfl rfl (by decide) rfl ?_
          refine x_goto F (tgt := 133) dX9_init_100 (by decide) ?_
          refine x_iinc F (v := v2 + 1) (lv' := [(2, .int (v2 + 1)), (1, .int (v1 + 1)), (3, .int (kwB.getD (Int32.toNatClampNeg v2) 0)), (0, .ref (b + v0))]) dX9_init_133 3 rfl rfl (by decide) rfl ?_
          refine x_goto F (tgt := 75) dX9_init_136 (by decide) ?_
          refine x_sub [3, 1, 0] rfl ?_
          exact ih (v1 + 1) (v2 + 1) M o h hE
  obtain ⟨o75, h75, h⟩ := bdS h
  refine x_sub [2, 1, 0] rfl ?_
  refine L75 v0 N 0 0 M68_14 o75 h75 ?_
  obtain ⟨rfl, rfl⟩ := retS h
  exact x_vret F hr hl dX9_init_139
theorem hd_X9_init : (yX9_init).cls = RX9 ∧ (yX9_init).cls ≠ "java/lang/invoke/MethodHandle" ∧ (yX9_init).cls ≠ "java/lang/invoke/VarHandle" ∧ (parseMethodDescriptor (yX9_init).desc).map (fun d => d.parameters.length) = some 0 := by decide +kernel
theorem hd_X8_init : (yX8_init).cls = RX8 ∧ (yX8_init).cls ≠ "java/lang/invoke/MethodHandle" ∧ (yX8_init).cls ≠ "java/lang/invoke/VarHandle" ∧ (parseMethodDescriptor (yX8_init).desc).map (fun d => d.parameters.length) = some 0 := by decide +kernel
theorem hd_X5_init : (yX5_init).cls = RX5 ∧ (yX5_init).cls ≠ "java/lang/invoke/MethodHandle" ∧ (yX5_init).cls ≠ "java/lang/invoke/VarHandle" ∧ (parseMethodDescriptor (yX5_init).desc).map (fun d => d.parameters.length) = some 1 := by decide +kernel
theorem hd_X1_init : (yX1_init).cls = RX1 ∧ (yX1_init).cls ≠ "java/lang/invoke/MethodHandle" ∧ (yX1_init).cls ≠ "java/lang/invoke/VarHandle" ∧ (parseMethodDescriptor (yX1_init).desc).map (fun d => d.parameters.length) = some 1 := by decide +kernel
theorem hd_X7_init : (yX7_init).cls = RX7 ∧ (yX7_init).cls ≠ "java/lang/invoke/MethodHandle" ∧ (yX7_init).cls ≠ "java/lang/invoke/VarHandle" ∧ (parseMethodDescriptor (yX7_init).desc).map (fun d => d.parameters.length) = some 1 := by decide +kernel
theorem hd_X3_init : (yX3_init).cls = RX3 ∧ (yX3_init).cls ≠ "java/lang/invoke/MethodHandle" ∧ (yX3_init).cls ≠ "java/lang/invoke/VarHandle" ∧ (parseMethodDescriptor (yX3_init).desc).map (fun d => d.parameters.length) = some 1 := by decide +kernel
theorem hd_X4_init : (yX4_init).cls = RX4 ∧ (yX4_init).cls ≠ "java/lang/invoke/MethodHandle" ∧ (yX4_init).cls ≠ "java/lang/invoke/VarHandle" ∧ (parseMethodDescriptor (yX4_init).desc).map (fun d => d.parameters.length) = some 1 := by decide +kernel
theorem hd_X6_init : (yX6_init).cls = RX6 ∧ (yX6_init).cls ≠ "java/lang/invoke/MethodHandle" ∧ (yX6_init).cls ≠ "java/lang/invoke/VarHandle" ∧ (parseMethodDescriptor (yX6_init).desc).map (fun d => d.parameters.length) = some 1 := by decide +kernel
theorem hd_X2_init : (yX2_init).cls = RX2 ∧ (yX2_init).cls ≠ "java/lang/invoke/MethodHandle" ∧ (yX2_init).cls ≠ "java/lang/invoke/VarHandle" ∧ (parseMethodDescriptor (yX2_init).desc).map (fun d => d.parameters.length) = some 1 := by decide +kernel
theorem dX10_init_0 : decode cX10_init 0 = .ok (.aload_n 0, 1) := by decide +kernel
theorem dX10_init_1 : decode cX10_init 1 = .ok (.invokespecial 3, 3) := by decide +kernel
theorem dX10_init_4 : decode cX10_init 4 = .ok (.aload_n 0, 1) := by decide +kernel
theorem dX10_init_5 : decode cX10_init 5 = .ok (.new 9, 3) := by decide +kernel
theorem dX10_init_8 : decode cX10_init 8 = .ok (.dup, 1) := by decide +kernel
theorem dX10_init_9 : decode cX10_init 9 = .ok (.invokespecial 11, 3) := by decide +kernel
theorem dX10_init_12 : decode cX10_init 12 = .ok (.putfield 12, 3) := by decide +kernel
theorem dX10_init_15 : decode cX10_init 15 = .ok (.aload_n 0, 1) := by decide +kernel
theorem dX10_init_16 : decode cX10_init 16 = .ok (.new 16, 3) := by decide +kernel
theorem dX10_init_19 : decode cX10_init 19 = .ok (.dup, 1) := by decide +kernel
theorem dX10_init_20 : decode cX10_init 20 = .ok (.invokespecial 18, 3) := by decide +kernel
theorem dX10_init_23 : decode cX10_init 23 = .ok (.putfield 19, 3) := by decide +kernel
theorem dX10_init_26 : decode cX10_init 26 = .ok (.aload_n 0, 1) := by decide +kernel
theorem dX10_init_27 : decode cX10_init 27 = .ok (.new 16, 3) := by decide +kernel
theorem dX10_init_30 : decode cX10_init 30 = .ok (.dup, 1) := by decide +kernel
theorem dX10_init_31 : decode cX10_init 31 = .ok (.invokespecial 18, 3) := by decide +kernel
theorem dX10_init_34 : decode cX10_init 34 = .ok (.putfield 23, 3) := by decide +kernel
theorem dX10_init_37 : decode cX10_init 37 = .ok (.aload_n 0, 1) := by decide +kernel
theorem dX10_init_38 : decode cX10_init 38 = .ok (.new 26, 3) := by decide +kernel
theorem dX10_init_41 : decode cX10_init 41 = .ok (.dup, 1) := by decide +kernel
theorem dX10_init_42 : decode cX10_init 42 = .ok (.aload_n 0, 1) := by decide +kernel
theorem dX10_init_43 : decode cX10_init 43 = .ok (.getfield 19, 3) := by decide +kernel
theorem dX10_init_46 : decode cX10_init 46 = .ok (.invokespecial 28, 3) := by decide +kernel
theorem dX10_init_49 : decode cX10_init 49 = .ok (.putfield 31, 3) := by decide +kernel
theorem dX10_init_52 : decode cX10_init 52 = .ok (.aload_n 0, 1) := by decide +kernel
theorem dX10_init_53 : decode cX10_init 53 = .ok (.new 26, 3) := by decide +kernel
theorem dX10_init_56 : decode cX10_init 56 = .ok (.dup, 1) := by decide +kernel
theorem dX10_init_57 : decode cX10_init 57 = .ok (.aload_n 0, 1) := by decide +kernel
theorem dX10_init_58 : decode cX10_init 58 = .ok (.getfield 19, 3) := by decide +kernel
theorem dX10_init_61 : decode cX10_init 61 = .ok (.invokespecial 28, 3) := by decide +kernel
theorem dX10_init_64 : decode cX10_init 64 = .ok (.putfield 35, 3) := by decide +kernel
theorem dX10_init_67 : decode cX10_init 67 = .ok (.aload_n 0, 1) := by decide +kernel
theorem dX10_init_68 : decode cX10_init 68 = .ok (.new 38, 3) := by decide +kernel
theorem dX10_init_71 : decode cX10_init 71 = .ok (.dup, 1) := by decide +kernel
theorem dX10_init_72 : decode cX10_init 72 = .ok (.aload_n 0, 1) := by decide +kernel
theorem dX10_init_73 : decode cX10_init 73 = .ok (.getfield 19, 3) := by decide +kernel
theorem dX10_init_76 : decode cX10_init 76 = .ok (.invokespecial 40, 3) := by decide +kernel
theorem dX10_init_79 : decode cX10_init 79 = .ok (.putfield 41, 3) := by decide +kernel
theorem dX10_init_82 : decode cX10_init 82 = .ok (.aload_n 0, 1) := by decide +kernel
theorem dX10_init_83 : decode cX10_init 83 = .ok (.new 45, 3) := by decide +kernel
theorem dX10_init_86 : decode cX10_init 86 = .ok (.dup, 1) := by decide +kernel
theorem dX10_init_87 : decode cX10_init 87 = .ok (.aload_n 0, 1) := by decide +kernel
theorem dX10_init_88 : decode cX10_init 88 = .ok (.getfield 19, 3) := by decide +kernel
theorem dX10_init_91 : decode cX10_init 91 = .ok (.invokespecial 47, 3) := by decide +kernel
theorem dX10_init_94 : decode cX10_init 94 = .ok (.putfield 48, 3) := by decide +kernel
theorem dX10_init_97 : decode cX10_init 97 = .ok (.aload_n 0, 1) := by decide +kernel
theorem dX10_init_98 : decode cX10_init 98 = .ok (.new 52, 3) := by decide +kernel
theorem dX10_init_101 : decode cX10_init 101 = .ok (.dup, 1) := by decide +kernel
theorem dX10_init_102 : decode cX10_init 102 = .ok (.aload_n 0, 1) := by decide +kernel
theorem dX10_init_103 : decode cX10_init 103 = .ok (.getfield 19, 3) := by decide +kernel
theorem dX10_init_106 : decode cX10_init 106 = .ok (.invokespecial 54, 3) := by decide +kernel
theorem dX10_init_109 : decode cX10_init 109 = .ok (.putfield 55, 3) := by decide +kernel
theorem dX10_init_112 : decode cX10_init 112 = .ok (.aload_n 0, 1) := by decide +kernel
theorem dX10_init_113 : decode cX10_init 113 = .ok (.new 52, 3) := by decide +kernel
theorem dX10_init_116 : decode cX10_init 116 = .ok (.dup, 1) := by decide +kernel
theorem dX10_init_117 : decode cX10_init 117 = .ok (.aload_n 0, 1) := by decide +kernel
theorem dX10_init_118 : decode cX10_init 118 = .ok (.getfield 19, 3) := by decide +kernel
theorem dX10_init_121 : decode cX10_init 121 = .ok (.invokespecial 54, 3) := by decide +kernel
theorem dX10_init_124 : decode cX10_init 124 = .ok (.putfield 59, 3) := by decide +kernel
theorem dX10_init_127 : decode cX10_init 127 = .ok (.aload_n 0, 1) := by decide +kernel
theorem dX10_init_128 : decode cX10_init 128 = .ok (.new 62, 3) := by decide +kernel
theorem dX10_init_131 : decode cX10_init 131 = .ok (.dup, 1) := by decide +kernel
theorem dX10_init_132 : decode cX10_init 132 = .ok (.aload_n 0, 1) := by decide +kernel
theorem dX10_init_133 : decode cX10_init 133 = .ok (.getfield 19, 3) := by decide +kernel
theorem dX10_init_136 : decode cX10_init 136 = .ok (.invokespecial 64, 3) := by decide +kernel
theorem dX10_init_139 : decode cX10_init 139 = .ok (.putfield 65, 3) := by decide +kernel
theorem dX10_init_142 : decode cX10_init 142 = .ok (.aload_n 0, 1) := by decide +kernel
theorem dX10_init_143 : decode cX10_init 143 = .ok (.new 69, 3) := by decide +kernel
theorem dX10_init_146 : decode cX10_init 146 = .ok (.dup, 1) := by decide +kernel
theorem dX10_init_147 : decode cX10_init 147 = .ok (.aload_n 0, 1) := by decide +kernel
theorem dX10_init_148 : decode cX10_init 148 = .ok (.getfield 19, 3) := by decide +kernel
theorem dX10_init_151 : decode cX10_init 151 = .ok (.invokespecial 71, 3) := by decide +kernel
theorem dX10_init_154 : decode cX10_init 154 = .ok (.putfield 72, 3) := by decide +kernel
theorem dX10_init_157 : decode cX10_init 157 = .ok (.aload_n 0, 1) := by decide +kernel
theorem dX10_init_158 : decode cX10_init 158 = .ok (.new 76, 3) := by decide +kernel
theorem dX10_init_161 : decode cX10_init 161 = .ok (.dup, 1) := by decide +kernel
theorem dX10_init_162 : decode cX10_init 162 = .ok (.aload_n 0, 1) := by decide +kernel
theorem dX10_init_163 : decode cX10_init 163 = .ok (.getfield 19, 3) := by decide +kernel
theorem dX10_init_166 : decode cX10_init 166 = .ok (.invokespecial 78, 3) := by decide +kernel
theorem dX10_init_169 : decode cX10_init 169 = .ok (.putfield 79, 3) := by decide +kernel
theorem dX10_init_172 : decode cX10_init 172 = .ok (.aload_n 0, 1) := by decide +kernel
theorem dX10_init_173 : decode cX10_init 173 = .ok (.new 83, 3) := by decide +kernel
theorem dX10_init_176 : decode cX10_init 176 = .ok (.dup, 1) := by decide +kernel
theorem dX10_init_177 : decode cX10_init 177 = .ok (.aload_n 0, 1) := by decide +kernel
theorem dX10_init_178 : decode cX10_init 178 = .ok (.getfield 19, 3) := by decide +kernel
theorem dX10_init_181 : decode cX10_init 181 = .ok (.invokespecial 85, 3) := by decide +kernel
theorem dX10_init_184 : decode cX10_init 184 = .ok (.putfield 86, 3) := by decide +kernel
theorem dX10_init_187 : decode cX10_init 187 = .ok (.aload_n 0, 1) := by decide +kernel
theorem dX10_init_188 : decode cX10_init 188 = .ok (.bipush 20, 2) := by decide +kernel
theorem dX10_init_190 : decode cX10_init 190 = .ok (.newarray .int, 2) := by decide +kernel
theorem dX10_init_192 : decode cX10_init 192 = .ok (.putfield 90, 3) := by decide +kernel
theorem dX10_init_195 : decode cX10_init 195 = .ok (.aload_n 0, 1) := by decide +kernel
theorem dX10_init_196 : decode cX10_init 196 = .ok (.iconst 0, 1) := by decide +kernel
theorem dX10_init_197 : decode cX10_init 197 = .ok (.putfield 94, 3) := by decide +kernel
theorem dX10_init_200 : decode cX10_init 200 = .ok (.aload_n 0, 1) := by decide +kernel
theorem dX10_init_201 : decode cX10_init 201 = .ok (.iconst 2, 1) := by decide +kernel
theorem dX10_init_202 : decode cX10_init 202 = .ok (.anewarray 16, 3) := by decide +kernel
theorem dX10_init_205 : decode cX10_init 205 = .ok (.putfield 98, 3) := by decide +kernel
theorem dX10_init_208 : decode cX10_init 208 = .ok (.aload_n 0, 1) := by decide +kernel
theorem dX10_init_209 : decode cX10_init 209 = .ok (.iconst 2, 1) := by decide +kernel
theorem dX10_init_210 : decode cX10_init 210 = .ok (.anewarray 26, 3) := by decide +kernel
theorem dX10_init_213 : decode cX10_init 213 = .ok (.putfield 102, 3) := by decide +kernel
theorem dX10_init_216 : decode cX10_init 216 = .ok (.aload_n 0, 1) := by decide +kernel
theorem dX10_init_217 : decode cX10_init 217 = .ok (.iconst 2, 1) := by decide +kernel
theorem dX10_init_218 : decode cX10_init 218 = .ok (.anewarray 52, 3) := by decide +kernel
theorem dX10_init_221 : decode cX10_init 221 = .ok (.putfield 106, 3) := by decide +kernel
theorem dX10_init_224 : decode cX10_init 224 = .ok (.aload_n 0, 1) := by decide +kernel
theorem dX10_init_225 : decode cX10_init 225 = .ok (.iconst 2, 1) := by decide +kernel
theorem dX10_init_226 : decode cX10_init 226 = .ok (.newarray .boolean, 2) := by decide +kernel
theorem dX10_init_228 : decode cX10_init 228 = .ok (.putfield 110, 3) := by decide +kernel
theorem dX10_init_231 : decode cX10_init 231 = .ok (.iconst 0, 1) := by decide +kernel
theorem dX10_init_232 : decode cX10_init 232 = .ok (.istore_n 1, 1) := by decide +kernel
theorem dX10_init_233 : decode cX10_init 233 = .ok (.iload_n 1, 1) := by decide +kernel
theorem dX10_init_234 : decode cX10_init 234 = .ok (.iconst 2, 1) := by decide +kernel
theorem dX10_init_235 : decode cX10_init 235 = .ok (.if_icmp .ge 56, 3) := by decide +kernel
theorem dX10_init_238 : decode cX10_init 238 = .ok (.aload_n 0, 1) := by decide +kernel
theorem dX10_init_239 : decode cX10_init 239 = .ok (.getfield 98, 3) := by decide +kernel
theorem dX10_init_242 : decode cX10_init 242 = .ok (.iload_n 1, 1) := by decide +kernel
theorem dX10_init_243 : decode cX10_init 243 = .ok (.new 16, 3) := by decide +kernel
theorem dX10_init_246 : decode cX10_init 246 = .ok (.dup, 1) := by decide +kernel
theorem dX10_init_247 : decode cX10_init 247 = .ok (.invokespecial 18, 3) := by decide +kernel
theorem dX10_init_250 : decode cX10_init 250 = .ok (.aastore, 1) := by decide +kernel
theorem dX10_init_251 : decode cX10_init 251 = .ok (.aload_n 0, 1) := by decide +kernel
theorem dX10_init_252 : decode cX10_init 252 = .ok (.getfield 102, 3) := by decide +kernel
theorem dX10_init_255 : decode cX10_init 255 = .ok (.iload_n 1, 1) := by decide +kernel
theorem dX10_init_256 : decode cX10_init 256 = .ok (.new 26, 3) := by decide +kernel
theorem dX10_init_259 : decode cX10_init 259 = .ok (.dup, 1) := by decide +kernel
theorem dX10_init_260 : decode cX10_init 260 = .ok (.aload_n 0, 1) := by decide +kernel
theorem dX10_init_261 : decode cX10_init 261 = .ok (.getfield 19, 3) := by decide +kernel
theorem dX10_init_264 : decode cX10_init 264 = .ok (.invokespecial 28, 3) := by decide +kernel
theorem dX10_init_267 : decode cX10_init 267 = .ok (.aastore, 1) := by decide +kernel
theorem dX10_init_268 : decode cX10_init 268 = .ok (.aload_n 0, 1) := by decide +kernel
theorem dX10_init_269 : decode cX10_init 269 = .ok (.getfield 106, 3) := by decide +kernel
theorem dX10_init_272 : decode cX10_init 272 = .ok (.iload_n 1, 1) := by decide +kernel
theorem dX10_init_273 : decode cX10_init 273 = .ok (.new 52, 3) := by decide +kernel
theorem dX10_init_276 : decode cX10_init 276 = .ok (.dup, 1) := by decide +kernel
theorem dX10_init_277 : decode cX10_init 277 = .ok (.aload_n 0, 1) := by decide +kernel
theorem dX10_init_278 : decode cX10_init 278 = .ok (.getfield 19, 3) := by decide +kernel
theorem dX10_init_281 : decode cX10_init 281 = .ok (.invokespecial 54, 3) := by decide +kernel
theorem dX10_init_284 : decode cX10_init 284 = .ok (.aastore, 1) := by decide +kernel
theorem dX10_init_285 : decode cX10_init 285 = .ok (.iinc 1 1, 3) := by decide +kernel
theorem dX10_init_288 : decode cX10_init 288 = .ok (.goto (-55), 3) := by decide +kernel
theorem dX10_init_291 : decode cX10_init 291 = .ok (.return_, 1) := by decide +kernel
def fX10_init (N : Nat) (v0 : Nat) (M : Mem) : Option (Unit × Mem) := ((nO M 9).bind fun (x5_1, M5_1) => ((fX9_init N x5_1 M5_1).bind fun (u9, M9_2) => ((pR M9_2 10 v0 0 x5_1).bind fun M12_3 => ((nO M12_3 8).bind fun (x16_4, M16_4) => ((fX8_init N x16_4 M16_4).bind fun (u20, M20_5) => ((pR M20_5 10 v0 1 x16_4).bind fun M23_6 => ((nO M23_6 8).bind fun (x27_7, M27_7) => ((fX8_init N x27_7 M27_7).bind fun (u31, M31_8) => ((pR M31_8 10 v0 2 x27_7).bind fun M34_9 => ((nO M34_9 0).bind fun (x38_10, M38_10) => ((fR M38_10 10 v0 1).bind fun x43_11 => ((fX0_init N x38_10 x43_11 M38_10).bind fun (u46, M46_12) => ((pR M46_12 10 v0 3 x38_10).bind fun M49_13 => ((nO M49_13 0).bind fun (x53_14, M53_14) => ((fR M53_14 10 v0 1).bind fun x58_15 => ((fX0_init N x53_14 x58_15 M53_14).bind fun (u61, M61_16) => ((pR M61_16 10 v0 4 x53_14).bind fun M64_17 => ((nO M64_17 5).bind fun (x68_18, M68_18) => ((fR M68_18 10 v0 1).bind fun x73_19 => ((fX5_init N x68_18 x73_19 M68_18).bind fun (u76, M76_20) => ((pR M76_20 10 v0 5 x68_18).bind fun M79_21 => ((nO M79_21 1).bind fun (x83_22, M83_22) => ((fR M83_22 10 v0 1).bind fun x88_23 => ((fX1_init N x83_22 x88_23 M83_22).bind fun (u91, M91_24) => ((pR M91_24 10 v0 6 x83_22).bind fun M94_25 => ((nO M94_25 7).bind fun (x98_26, M98_26) => ((fR M98_26 10 v0 1).bind fun x103_27 => ((fX7_init N x98_26 x103_27 M98_26).bind fun (u106, M106_28) => ((pR M106_28 10 v0 7 x98_26).bind fun M109_29 => ((nO M109_29 7).bind fun (x113_30, M113_30) => ((fR M113_30 10 v0 1).bind fun x118_31 => ((fX7_init N x113_30 x118_31 M113_30).bind fun (u121, M121_32) => ((pR M121_32 10 v0 8 x113_30).bind fun M124_33 => ((nO M124_33 3).bind fun (x128_34, M128_34) => ((fR M128_34 10 v0 1).bind fun x133_35 => ((fX3_init N x128_34 x133_35 M128_34).bind fun (u136, M136_36) => ((pR M136_36 10 v0 9 x128_34).bind fun M139_37 => ((nO M139_37 4).bind fun (x143_38, M143_38) => ((fR M143_38 10 v0 1).bind fun x148_39 => ((fX4_init N x143_38 x148_39 M143_38).bind fun (u151, M151_40) => ((pR M151_40 10 v0 10 x143_38).bind fun M154_41 => ((nO M154_41 6).bind fun (x158_42, M158_42) => ((fR M158_42 10 v0 1).bind fun x163_43 => ((fX6_init N x158_42 x163_43 M158_42).bind fun (u166, M166_44) => ((pR M166_44 10 v0 11 x158_42).bind fun M169_45 => ((nO M169_45 2).bind fun (x173_46, M173_46) => ((fR M173_46 10 v0 1).bind fun x178_47 => ((fX2_init N x173_46 x178_47 M173_46).bind fun (u181, M181_48) => ((pR M181_48 10 v0 12 x173_46).bind fun M184_49 => ((nV M184_49 20 20).bind fun (x190_50, M190_50) => ((pR M190_50 10 v0 13 x190_50).bind fun M192_51 => ((pI M192_51 10 v0 14 0).bind fun M197_52 => ((nV M197_52 25 2).bind fun (x202_53, M202_53) => ((pR M202_53 10 v0 15 x202_53).bind fun M205_54 => ((nV M205_54 23 2).bind fun (x210_55, M210_55) => ((pR M210_55 10 v0 16 x210_55).bind fun M213_56 => ((nV M213_56 24 2).bind fun (x218_57, M218_57) => ((pR M218_57 10 v0 17 x218_57).bind fun M221_58 => ((nV M221_58 22 2).bind fun (x226_59, M226_59) => ((pR M226_59 10 v0 18 x226_59).bind fun M228_60 => ((fR M228_60 10 v0 15).bind fun x239_61 => ((nO M228_60 8).bind fun (x243_62, M243_62) => ((fX8_init N x243_62 M243_62).bind fun (u247, M247_63) => ((tR M247_63 25 8 x239_61 0 x243_62).bind fun M250_64 => ((fR M250_64 10 v0 16).bind fun x252_65 => ((nO M250_64 0).bind fun (x256_66, M256_66) => ((fR M256_66 10 v0 1).bind fun x261_67 => ((fX0_init N x256_66 x261_67 M256_66).bind fun (u264, M264_68) => ((tR M264_68 23 0 x252_65 0 x256_66).bind fun M267_69 => ((fR M267_69 10 v0 17).bind fun x269_70 => ((nO M267_69 7).bind fun (x273_71, M273_71) => ((fR M273_71 10 v0 1).bind fun x278_72 => ((fX7_init N x273_71 x278_72 M273_71).bind fun (u281, M281_73) => ((tR M281_73 24 7 x269_70 0 x273_71).bind fun M284_74 => ((fR M284_74 10 v0 15).bind fun x239_75 => ((nO M284_74 8).bind fun (x243_76, M243_76) => ((fX8_init N x243_76 M243_76).bind fun (u247, M247_77) => ((tR M247_77 25 8 x239_75 1 x243_76).bind fun M250_78 => ((fR M250_78 10 v0 16).bind fun x252_79 => ((nO M250_78 0).bind fun (x256_80, M256_80) => ((fR M256_80 10 v0 1).bind fun x261_81 => ((fX0_init N x256_80 x261_81 M256_80).bind fun (u264, M264_82) => ((tR M264_82 23 0 x252_79 1 x256_80).bind fun M267_83 => ((fR M267_83 10 v0 17).bind fun x269_84 => ((nO M267_83 7).bind fun (x273_85, M273_85) => ((fR M273_85 10 v0 1).bind fun x278_86 => ((fX7_init N x273_85 x278_86 M273_85).bind fun (u281, M281_87) => ((tR M281_87 24 7 x269_84 1 x273_85).bind fun M284_88 => some ((), M284_88)))))))))))))))))))))))))))))))))))))))))))))))))))))))))))))))))))))))))))))))))))))))))
set_option maxHeartbeats 4000000 in
set_option maxRecDepth 100000 in
theorem k_X10_init (l : Launch) (b : Nat) (D : va_G) (cy : Nat → ClassId) (N : Nat) (v0 : Nat) (M : Mem) (r : Unit) (Mf : Mem) (h : fX10_init N v0 M = some (r, Mf)) : Ct l yX10_init cX10_init 2 none 6 185 5150 b D cy [.ref (b + v0)] M none Mf := by
  refine Ct_of (own := RX10) (by decide) rfl (Nat.le_of_ble_eq_true rfl) ?_
  intro p e s m args below meth c F hr hl hmn
  unfold fX10_init at h
  show X p l e ({ frames := 6, cells := 185, slots := 5150, locals := 100 * 6 }) s m args below meth c (MQ below (Qm b D cy none Mf) args s 185 5150 (fun q => b ≤ q)) 2 b D cy 0 0 M 0 [(0, .ref (b + v0))] []
  refine x_aload_n F dX10_init_0 rfl 0 rfl ?_
  refine x_objInit F wl_613 wl_3 wl_4 (Nat.le_of_ble_eq_true rfl) (Nat.le_of_ble_eq_true rfl) dX10_init_1 ?_
  refine x_aload_n F dX10_init_4 rfl 0 rfl ?_
  obtain ⟨⟨x5_1, M5_1⟩, c5, h⟩ := bdS h
  dsimp only at h
  refine x_new F (ci := 9) (C := RX9) (T := TX9) (N := 12) rfl ⟨by decide, rfl⟩ inU9 tyX9_ok wl_614 wl_615 wl_164 c5 ⟨Nat.le_of_ble_eq_true rfl, Nat.le_of_ble_eq_true rfl⟩ dX10_init_5 ?_
  refine x_dup F dX10_init_8 rfl ?_
  obtain ⟨⟨u9, M9_2⟩, c9, h⟩ := bdS h
  dsimp only at h
  refine x_callI F (As := []) (rest := [.ref (b + x5_1), .ref (b + v0)]) (res := none) (a := x5_1) (k_X9_init l b D cy N x5_1 M5_1 _ _ c9) wl_611 wl_164 wl_654 wl_655 rfl (hd_X9_init).2 ⟨Nat.le_of_ble_eq_true rfl, Nat.le_of_ble_eq_true rfl⟩ ⟨Nat.le_of_ble_eq_true rfl, Nat.le_of_ble_eq_true rfl⟩ (Nat.le_of_ble_eq_true rfl) rfl dX10_init_9 ?_
  obtain ⟨M12_3, c12, h⟩ := bdS h
  refine x_putRF F (ci := 10) (C := RX10) (T := TX10) (N := 19) rfl ⟨by decide, rfl⟩ inU10 tyX10_ok nmX10 0 (by decide) ⟨rfl, rfl⟩ (fun _ _ _ => rfl) rfl hmn rfl wl_616 c12 dX10_init_12 ?_
  refine x_aload_n F dX10_init_15 rfl 0 rfl ?_
  obtain ⟨⟨x16_4, M16_4⟩, c16, h⟩ := bdS h
  dsimp only at h
  refine x_new F (ci := 8) (C := RX8) (T := TX8) (N := 17) rfl ⟨by decide, rfl⟩ inU8 tyX8_ok wl_617 wl_618 wl_75 c16 ⟨Nat.le_of_ble_eq_true rfl, Nat.le_of_ble_eq_true rfl⟩ dX10_init_16 ?_
  refine x_dup F dX10_init_19 rfl ?_
  obtain ⟨⟨u20, M20_5⟩, c20, h⟩ := bdS h
  dsimp only at h
  refine x_callIN F (As := []) (rest := [.ref (b + x16_4), .ref (b + v0)]) (res := none) (a := x16_4) (host := RX10) (k_X8_init l b D cy N x16_4 M16_4 _ _ c20) wl_483 (by decide +kernel) wl_75 wl_656 rfl (hd_X8_init).2 ⟨Nat.le_of_ble_eq_true rfl, Nat.le_of_ble_eq_true rfl⟩ ⟨Nat.le_of_ble_eq_true rfl, Nat.le_of_ble_eq_true rfl⟩ (Nat.le_of_ble_eq_true rfl) rfl dX10_init_20 ?_
  obtain ⟨M23_6, c23, h⟩ := bdS h
  refine x_putRF F (ci := 10) (C := RX10) (T := TX10) (N := 19) rfl ⟨by decide, rfl⟩ inU10 tyX10_ok nmX10 1 (by decide) ⟨rfl, rfl⟩ (fun _ _ _ => rfl) rfl hmn rfl wl_619 c23 dX10_init_23 ?_
  refine x_aload_n F dX10_init_26 rfl 0 rfl ?_
  obtain ⟨⟨x27_7, M27_7⟩, c27, h⟩ := bdS h
  dsimp only at h
  refine x_new F (ci := 8) (C := RX8) (T := TX8) (N := 17) rfl ⟨by decide, rfl⟩ inU8 tyX8_ok wl_617 wl_618 wl_75 c27 ⟨Nat.le_of_ble_eq_true rfl, Nat.le_of_ble_eq_true rfl⟩ dX10_init_27 ?_
  refine x_dup F dX10_init_30 rfl ?_
  obtain ⟨⟨u31, M31_8⟩, c31, h⟩ := bdS h
  dsimp only at h
  refine x_callIN F (As := []) (rest := [.ref (b + x27_7), .ref (b + v0)]) (res := none) (a := x27_7) (host := RX10) (k_X8_init l b D cy N x27_7 M27_7 _ _ c31) wl_483 (by decide +kernel) wl_75 wl_656 rfl (hd_X8_init).2 ⟨Nat.le_of_ble_eq_true rfl, Nat.le_of_ble_eq_true rfl⟩ ⟨Nat.le_of_ble_eq_true rfl, Nat.le_of_ble_eq_true rfl⟩ (Nat.le_of_ble_eq_true rfl) rfl dX10_init_31 ?_
  obtain ⟨M34_9, c34, h⟩ := bdS h
  refine x_putRF F (ci := 10) (C := RX10) (T := TX10) (N := 19) rfl ⟨by decide, rfl⟩ inU10 tyX10_ok nmX10 2 (by decide) ⟨rfl, rfl⟩ (fun _ _ _ => rfl) rfl hmn rfl wl_620 c34 dX10_init_34 ?_
  refine x_aload_n F dX10_init_37 rfl 0 rfl ?_
  obtain ⟨⟨x38_10, M38_10⟩, c38, h⟩ := bdS h
  dsimp only at h
  refine x_new F (ci := 0) (C := RX0) (T := TX0) (N := 12) rfl ⟨by decide, rfl⟩ inU0 tyX0_ok wl_621 wl_375 wl_52 c38 ⟨Nat.le_of_ble_eq_true rfl, Nat.le_of_ble_eq_true rfl⟩ dX10_init_38 ?_
  refine x_dup F dX10_init_41 rfl ?_
  refine x_aload_n F dX10_init_42 rfl 0 rfl ?_
  obtain ⟨x43_11, c43, h⟩ := bdS h
  refine x_getR F (ci := 10) (C := RX10) (T := TX10) (N := 19) rfl ⟨by decide, rfl⟩ inU10 1 (by decide) (fun _ _ _ => rfl) wl_619 c43 dX10_init_43 ?_
  obtain ⟨⟨u46, M46_12⟩, c46, h⟩ := bdS h
  dsimp only at h
  refine x_callI F (As := [.ref (b + x43_11)]) (rest := [.ref (b + x38_10), .ref (b + v0)]) (res := none) (a := x38_10) (k_X0_init l b D cy N x38_10 x43_11 M38_10 _ _ c46) wl_1 wl_52 wl_657 wl_377 rfl (hd_X0_init).2 ⟨Nat.le_of_ble_eq_true rfl, Nat.le_of_ble_eq_true rfl⟩ ⟨Nat.le_of_ble_eq_true rfl, Nat.le_of_ble_eq_true rfl⟩ (Nat.le_of_ble_eq_true rfl) rfl dX10_init_46 ?_
  obtain ⟨M49_13, c49, h⟩ := bdS h
  refine x_putRF F (ci := 10) (C := RX10) (T := TX10) (N := 19) rfl ⟨by decide, rfl⟩ inU10 tyX10_ok nmX10 3 (by decide) ⟨rfl, rfl⟩ (fun _ _ _ => rfl) rfl hmn rfl wl_622 c49 dX10_init_49 ?_
  refine x_aload_n F dX10_init_52 rfl 0 rfl ?_
  obtain ⟨⟨x53_14, M53_14⟩, c53, h⟩ := bdS h
  dsimp only at h
  refine x_new F (ci := 0) (C := RX0) (T := TX0) (N := 12) rfl ⟨by decide, rfl⟩ inU0 tyX0_ok wl_621 wl_375 wl_52 c53 ⟨Nat.le_of_ble_eq_true rfl, Nat.le_of_ble_eq_true rfl⟩ dX10_init_53 ?_
  refine x_dup F dX10_init_56 rfl ?_
  refine x_aload_n F dX10_init_57 rfl 0 rfl ?_
  obtain ⟨x58_15, c58, h⟩ := bdS h
  refine x_getR F (ci := 10) (C := RX10) (T := TX10) (N := 19) rfl ⟨by decide, rfl⟩ inU10 1 (by decide) (fun _ _ _ => rfl) wl_619 c58 dX10_init_58 ?_
  obtain ⟨⟨u61, M61_16⟩, c61, h⟩ := bdS h
  dsimp only at h
  refine x_callI F (As := [.ref (b + x58_15)]) (rest := [.ref (b + x53_14), .ref (b + v0)]) (res := none) (a := x53_14) (k_X0_init l b D cy N x53_14 x58_15 M53_14 _ _ c61) wl_1 wl_52 wl_657 wl_377 rfl (hd_X0_init).2 ⟨Nat.le_of_ble_eq_true rfl, Nat.le_of_ble_eq_true rfl⟩ ⟨Nat.le_of_ble_eq_true rfl, Nat.le_of_ble_eq_true rfl⟩ (Nat.le_of_ble_eq_true rfl) rfl dX10_init_61 ?_
  obtain ⟨M64_17, c64, h⟩ := bdS h
  refine x_putRF F (ci := 10) (C := RX10) (T := TX10) (N := 19) rfl ⟨by decide, rfl⟩ inU10 tyX10_ok nmX10 4 (by decide) ⟨rfl, rfl⟩ (fun _ _ _ => rfl) rfl hmn rfl wl_623 c64 dX10_init_64 ?_
  refine x_aload_n F dX10_init_67 rfl 0 rfl ?_
  obtain ⟨⟨x68_18, M68_18⟩, c68, h⟩ := bdS h
  dsimp only at h
  refine x_new F (ci := 5) (C := RX5) (T := TX5) (N := 3) rfl ⟨by decide, rfl⟩ inU5 tyX5_ok wl_624 wl_625 wl_626 c68 ⟨Nat.le_of_ble_eq_true rfl, Nat.le_of_ble_eq_true rfl⟩ dX10_init_68 ?_
  refine x_dup F dX10_init_71 rfl ?_
  refine x_aload_n F dX10_init_72 rfl 0 rfl ?_
  obtain ⟨x73_19, c73, h⟩ := bdS h
  refine x_getR F (ci := 10) (C := RX10) (T := TX10) (N := 19) rfl ⟨by decide, rfl⟩ inU10 1 (by decide) (fun _ _ _ => rfl) wl_619 c73 dX10_init_73 ?_
  obtain ⟨⟨u76, M76_20⟩, c76, h⟩ := bdS h
  dsimp only at h
  refine x_callI F (As := [.ref (b + x73_19)]) (rest := [.ref (b + x68_18), .ref (b + v0)]) (res := none) (a := x68_18) (k_X5_init l b D cy N x68_18 x73_19 M68_18 _ _ c76) wl_378 wl_626 wl_658 wl_659 rfl (hd_X5_init).2 ⟨Nat.le_of_ble_eq_true rfl, Nat.le_of_ble_eq_true rfl⟩ ⟨Nat.le_of_ble_eq_true rfl, Nat.le_of_ble_eq_true rfl⟩ (Nat.le_of_ble_eq_true rfl) rfl dX10_init_76 ?_
  obtain ⟨M79_21, c79, h⟩ := bdS h
  refine x_putRF F (ci := 10) (C := RX10) (T := TX10) (N := 19) rfl ⟨by decide, rfl⟩ inU10 tyX10_ok nmX10 5 (by decide) ⟨rfl, rfl⟩ (fun _ _ _ => rfl) rfl hmn rfl wl_627 c79 dX10_init_79 ?_
  refine x_aload_n F dX10_init_82 rfl 0 rfl ?_
  obtain ⟨⟨x83_22, M83_22⟩, c83, h⟩ := bdS h
  dsimp only at h
  refine x_new F (ci := 1) (C := RX1) (T := TX1) (N := 11) rfl ⟨by decide, rfl⟩ inU1 tyX1_ok wl_628 wl_629 wl_219 c83 ⟨Nat.le_of_ble_eq_true rfl, Nat.le_of_ble_eq_true rfl⟩ dX10_init_83 ?_
  refine x_dup F dX10_init_86 rfl ?_
  refine x_aload_n F dX10_init_87 rfl 0 rfl ?_
  obtain ⟨x88_23, c88, h⟩ := bdS h
  refine x_getR F (ci := 10) (C := RX10) (T := TX10) (N := 19) rfl ⟨by decide, rfl⟩ inU10 1 (by decide) (fun _ _ _ => rfl) wl_619 c88 dX10_init_88 ?_
  obtain ⟨⟨u91, M91_24⟩, c91, h⟩ := bdS h
  dsimp only at h
  refine x_callI F (As := [.ref (b + x88_23)]) (rest := [.ref (b + x83_22), .ref (b + v0)]) (res := none) (a := x83_22) (k_X1_init l b D cy N x83_22 x88_23 M83_22 _ _ c91) wl_133 wl_219 wl_660 wl_661 rfl (hd_X1_init).2 ⟨Nat.le_of_ble_eq_true rfl, Nat.le_of_ble_eq_true rfl⟩ ⟨Nat.le_of_ble_eq_true rfl, Nat.le_of_ble_eq_true rfl⟩ (Nat.le_of_ble_eq_true rfl) rfl dX10_init_91 ?_
  obtain ⟨M94_25, c94, h⟩ := bdS h
  refine x_putRF F (ci := 10) (C := RX10) (T := TX10) (N := 19) rfl ⟨by decide, rfl⟩ inU10 tyX10_ok nmX10 6 (by decide) ⟨rfl, rfl⟩ (fun _ _ _ => rfl) rfl hmn rfl wl_630 c94 dX10_init_94 ?_
  refine x_aload_n F dX10_init_97 rfl 0 rfl ?_
  obtain ⟨⟨x98_26, M98_26⟩, c98, h⟩ := bdS h
  dsimp only at h
  refine x_new F (ci := 7) (C := RX7) (T := TX7) (N := 7) rfl ⟨by decide, rfl⟩ inU7 tyX7_ok wl_631 wl_632 wl_430 c98 ⟨Nat.le_of_ble_eq_true rfl, Nat.le_of_ble_eq_true rfl⟩ dX10_init_98 ?_
  refine x_dup F dX10_init_101 rfl ?_
  refine x_aload_n F dX10_init_102 rfl 0 rfl ?_
  obtain ⟨x103_27, c103, h⟩ := bdS h
  refine x_getR F (ci := 10) (C := RX10) (T := TX10) (N := 19) rfl ⟨by decide, rfl⟩ inU10 1 (by decide) (fun _ _ _ => rfl) wl_619 c103 dX10_init_103 ?_
  obtain ⟨⟨u106, M106_28⟩, c106, h⟩ := bdS h
  dsimp only at h
  refine x_callI F (As := [.ref (b + x103_27)]) (rest := [.ref (b + x98_26), .ref (b + v0)]) (res := none) (a := x98_26) (k_X7_init l b D cy N x98_26 x103_27 M98_26 _ _ c106) wl_405 wl_430 wl_662 wl_663 rfl (hd_X7_init).2 ⟨Nat.le_of_ble_eq_true rfl, Nat.le_of_ble_eq_true rfl⟩ ⟨Nat.le_of_ble_eq_true rfl, Nat.le_of_ble_eq_true rfl⟩ (Nat.le_of_ble_eq_true rfl) rfl dX10_init_106 ?_
  obtain ⟨M109_29, c109, h⟩ := bdS h
  refine x_putRF F (ci := 10) (C := RX10) (T := TX10) (N := 19) rfl ⟨by decide, rfl⟩ inU10 tyX10_ok nmX10 7 (by decide) ⟨rfl, rfl⟩ (fun _ _ _ => rfl) rfl hmn rfl wl_633 c109 dX10_init_109 ?_
  refine x_aload_n F dX10_init_112 rfl 0 rfl ?_
  obtain ⟨⟨x113_30, M113_30⟩, c113, h⟩ := bdS h
  dsimp only at h
  refine x_new F (ci := 7) (C := RX7) (T := TX7) (N := 7) rfl ⟨by decide, rfl⟩ inU7 tyX7_ok wl_631 wl_632 wl_430 c113 ⟨Nat.le_of_ble_eq_true rfl, Nat.le_of_ble_eq_true rfl⟩ dX10_init_113 ?_
  refine x_dup F dX10_init_116 rfl ?_
  refine x_aload_n F dX10_init_117 rfl 0 rfl ?_
  obtain ⟨x118_31, c118, h⟩ := bdS h
  refine x_getR F (ci := 10) (C := RX10) (T := TX10) (N := 19) rfl ⟨by decide, rfl⟩ inU10 1 (by decide) (fun _ _ _ => rfl) wl_619 c118 dX10_init_118 ?_
  obtain ⟨⟨u121, M121_32⟩, c121, h⟩ := bdS h
  dsimp only at h
  refine x_callI F (As := [.ref (b + x118_31)]) (rest := [.ref (b + x113_30), .ref (b + v0)]) (res := none) (a := x113_30) (k_X7_init l b D cy N x113_30 x118_31 M113_30 _ _ c121) wl_405 wl_430 wl_662 wl_663 rfl (hd_X7_init).2 ⟨Nat.le_of_ble_eq_true rfl, Nat.le_of_ble_eq_true rfl⟩ ⟨Nat.le_of_ble_eq_true rfl, Nat.le_of_ble_eq_true rfl⟩ (Nat.le_of_ble_eq_true rfl) rfl dX10_init_121 ?_
  obtain ⟨M124_33, c124, h⟩ := bdS h
  refine x_putRF F (ci := 10) (C := RX10) (T := TX10) (N := 19) rfl ⟨by decide, rfl⟩ inU10 tyX10_ok nmX10 8 (by decide) ⟨rfl, rfl⟩ (fun _ _ _ => rfl) rfl hmn rfl wl_634 c124 dX10_init_124 ?_
  refine x_aload_n F dX10_init_127 rfl 0 rfl ?_
  obtain ⟨⟨x128_34, M128_34⟩, c128, h⟩ := bdS h
  dsimp only at h
  refine x_new F (ci := 3) (C := RX3) (T := TX3) (N := 3) rfl ⟨by decide, rfl⟩ inU3 tyX3_ok wl_635 wl_636 wl_327 c128 ⟨Nat.le_of_ble_eq_true rfl, Nat.le_of_ble_eq_true rfl⟩ dX10_init_128 ?_
  refine x_dup F dX10_init_131 rfl ?_
  refine x_aload_n F dX10_init_132 rfl 0 rfl ?_
  obtain ⟨x133_35, c133, h⟩ := bdS h
  refine x_getR F (ci := 10) (C := RX10) (T := TX10) (N := 19) rfl ⟨by decide, rfl⟩ inU10 1 (by decide) (fun _ _ _ => rfl) wl_619 c133 dX10_init_133 ?_
  obtain ⟨⟨u136, M136_36⟩, c136, h⟩ := bdS h
  dsimp only at h
  refine x_callI F (As := [.ref (b + x133_35)]) (rest := [.ref (b + x128_34), .ref (b + v0)]) (res := none) (a := x128_34) (k_X3_init l b D cy N x128_34 x133_35 M128_34 _ _ c136) wl_309 wl_327 wl_664 wl_665 rfl (hd_X3_init).2 ⟨Nat.le_of_ble_eq_true rfl, Nat.le_of_ble_eq_true rfl⟩ ⟨Nat.le_of_ble_eq_true rfl, Nat.le_of_ble_eq_true rfl⟩ (Nat.le_of_ble_eq_true rfl) rfl dX10_init_136 ?_
  obtain ⟨M139_37, c139, h⟩ := bdS h
  refine x_putRF F (ci := 10) (C := RX10) (T := TX10) (N := 19) rfl ⟨by decide, rfl⟩ inU10 tyX10_ok nmX10 9 (by decide) ⟨rfl, rfl⟩ (fun _ _ _ => rfl) rfl hmn rfl wl_637 c139 dX10_init_139 ?_
  refine x_aload_n F dX10_init_142 rfl 0 rfl ?_
  obtain ⟨⟨x143_38, M143_38⟩, c143, h⟩ := bdS h
  dsimp only at h
  refine x_new F (ci := 4) (C := RX4) (T := TX4) (N := 4) rfl ⟨by decide, rfl⟩ inU4 tyX4_ok wl_638 wl_639 wl_365 c143 ⟨Nat.le_of_ble_eq_true rfl, Nat.le_of_ble_eq_true rfl⟩ dX10_init_143 ?_
  refine x_dup F dX10_init_146 rfl ?_
  refine x_aload_n F dX10_init_147 rfl 0 rfl ?_
  obtain ⟨x148_39, c148, h⟩ := bdS h
  refine x_getR F (ci := 10) (C := RX10) (T := TX10) (N := 19) rfl ⟨by decide, rfl⟩ inU10 1 (by decide) (fun _ _ _ => rfl) wl_619 c148 dX10_init_148 ?_
  obtain ⟨⟨u151, M151_40⟩, c151, h⟩ := bdS h
  dsimp only at h
  refine x_callI F (As := [.ref (b + x148_39)]) (rest := [.ref (b + x143_38), .ref (b + v0)]) (res := none) (a := x143_38) (k_X4_init l b D cy N x143_38 x148_39 M143_38 _ _ c151) wl_349 wl_365 wl_666 wl_667 rfl (hd_X4_init).2 ⟨Nat.le_of_ble_eq_true rfl, Nat.le_of_ble_eq_true rfl⟩ ⟨Nat.le_of_ble_eq_true rfl, Nat.le_of_ble_eq_true rfl⟩ (Nat.le_of_ble_eq_true rfl) rfl dX10_init_151 ?_
  obtain ⟨M154_41, c154, h⟩ := bdS h
  refine x_putRF F (ci := 10) (C := RX10) (T := TX10) (N := 19) rfl ⟨by decide, rfl⟩ inU10 tyX10_ok nmX10 10 (by decide) ⟨rfl, rfl⟩ (fun _ _ _ => rfl) rfl hmn rfl wl_640 c154 dX10_init_154 ?_
  refine x_aload_n F dX10_init_157 rfl 0 rfl ?_
  obtain ⟨⟨x158_42, M158_42⟩, c158, h⟩ := bdS h
  dsimp only at h
  refine x_new F (ci := 6) (C := RX6) (T := TX6) (N := 5) rfl ⟨by decide, rfl⟩ inU6 tyX6_ok wl_641 wl_642 wl_402 c158 ⟨Nat.le_of_ble_eq_true rfl, Nat.le_of_ble_eq_true rfl⟩ dX10_init_158 ?_
  refine x_dup F dX10_init_161 rfl ?_
  refine x_aload_n F dX10_init_162 rfl 0 rfl ?_
  obtain ⟨x163_43, c163, h⟩ := bdS h
  refine x_getR F (ci := 10) (C := RX10) (T := TX10) (N := 19) rfl ⟨by decide, rfl⟩ inU10 1 (by decide) (fun _ _ _ => rfl) wl_619 c163 dX10_init_163 ?_
  obtain ⟨⟨u166, M166_44⟩, c166, h⟩ := bdS h
  dsimp only at h
  refine x_callI F (As := [.ref (b + x163_43)]) (rest := [.ref (b + x158_42), .ref (b + v0)]) (res := none) (a := x158_42) (k_X6_init l b D cy N x158_42 x163_43 M158_42 _ _ c166) wl_385 wl_402 wl_668 wl_669 rfl (hd_X6_init).2 ⟨Nat.le_of_ble_eq_true rfl, Nat.le_of_ble_eq_true rfl⟩ ⟨Nat.le_of_ble_eq_true rfl, Nat.le_of_ble_eq_true rfl⟩ (Nat.le_of_ble_eq_true rfl) rfl dX10_init_166 ?_
  obtain ⟨M169_45, c169, h⟩ := bdS h
  refine x_putRF F (ci := 10) (C := RX10) (T := TX10) (N := 19) rfl ⟨by decide, rfl⟩ inU10 tyX10_ok nmX10 11 (by decide) ⟨rfl, rfl⟩ (fun _ _ _ => rfl) rfl hmn rfl wl_643 c169 dX10_init_169 ?_
  refine x_aload_n F dX10_init_172 rfl 0 rfl ?_
  obtain ⟨⟨x173_46, M173_46⟩, c173, h⟩ := bdS h
  dsimp only at h
  refine x_new F (ci := 2) (C := RX2) (T := TX2) (N := 2) rfl ⟨by decide, rfl⟩ inU2 tyX2_ok wl_644 wl_645 wl_291 c173 ⟨Nat.le_of_ble_eq_true rfl, Nat.le_of_ble_eq_true rfl⟩ dX10_init_173 ?_
  refine x_dup F dX10_init_176 rfl ?_
  refine x_aload_n F dX10_init_177 rfl 0 rfl ?_
  obtain ⟨x178_47, c178, h⟩ := bdS h
  refine x_getR F (ci := 10) (C := RX10) (T := TX10) (N := 19) rfl ⟨by decide, rfl⟩ inU10 1 (by decide) (fun _ _ _ => rfl) wl_619 c178 dX10_init_178 ?_
  obtain ⟨⟨u181, M181_48⟩, c181, h⟩ := bdS h
  dsimp only at h
  refine x_callI F (As := [.ref (b + x178_47)]) (rest := [.ref (b + x173_46), .ref (b + v0)]) (res := none) (a := x173_46) (k_X2_init l b D cy N x173_46 x178_47 M173_46 _ _ c181) wl_278 wl_291 wl_670 wl_671 rfl (hd_X2_init).2 ⟨Nat.le_of_ble_eq_true rfl, Nat.le_of_ble_eq_true rfl⟩ ⟨Nat.le_of_ble_eq_true rfl, Nat.le_of_ble_eq_true rfl⟩ (Nat.le_of_ble_eq_true rfl) rfl dX10_init_181 ?_
  obtain ⟨M184_49, c184, h⟩ := bdS h
  refine x_putRF F (ci := 10) (C := RX10) (T := TX10) (N := 19) rfl ⟨by decide, rfl⟩ inU10 tyX10_ok nmX10 12 (by decide) ⟨rfl, rfl⟩ (fun _ _ _ => rfl) rfl hmn rfl wl_646 c184 dX10_init_184 ?_
  refine x_aload_n F dX10_init_187 rfl 0 rfl ?_
  refine x_bipush F (v := 20) dX10_init_188 (by decide) ?_
  obtain ⟨⟨x190_50, M190_50⟩, c190, h⟩ := bdS h
  dsimp only at h
  refine x_nVI F (N0 := 20) (by decide) wl_5 c190 ⟨Nat.le_of_ble_eq_true rfl, Nat.le_of_ble_eq_true rfl⟩ dX10_init_190 ?_
  obtain ⟨M192_51, c192, h⟩ := bdS h
  refine x_putRF F (ci := 10) (C := RX10) (T := TX10) (N := 19) rfl ⟨by decide, rfl⟩ inU10 tyX10_ok nmX10 13 (by decide) ⟨rfl, rfl⟩ (fun _ _ _ => rfl) rfl hmn rfl wl_647 c192 dX10_init_192 ?_
  refine x_aload_n F dX10_init_195 rfl 0 rfl ?_
  refine x_iconst F (v := 0) dX10_init_196 (by decide) ?_
  obtain ⟨M197_52, c197, h⟩ := bdS h
  refine x_putI F (ci := 10) (C := RX10) (T := TX10) (N := 19) rfl ⟨by decide, rfl⟩ inU10 tyX10_ok nmX10 14 (by decide) rfl rfl wl_648 c197 dX10_init_197 ?_
  refine x_aload_n F dX10_init_200 rfl 0 rfl ?_
  refine x_iconst F (v := 2) dX10_init_201 (by decide) ?_
  obtain ⟨⟨x202_53, M202_53⟩, c202, h⟩ := bdS h
  dsimp only at h
  refine x_nR25 F (N0 := 2) (by decide) wl_617 c202 ⟨Nat.le_of_ble_eq_true rfl, Nat.le_of_ble_eq_true rfl⟩ dX10_init_202 ?_
  obtain ⟨M205_54, c205, h⟩ := bdS h
  refine x_putRF F (ci := 10) (C := RX10) (T := TX10) (N := 19) rfl ⟨by decide, rfl⟩ inU10 tyX10_ok nmX10 15 (by decide) ⟨rfl, rfl⟩ (fun _ _ _ => rfl) rfl hmn rfl wl_649 c205 dX10_init_205 ?_
  refine x_aload_n F dX10_init_208 rfl 0 rfl ?_
  refine x_iconst F (v := 2) dX10_init_209 (by decide) ?_
  obtain ⟨⟨x210_55, M210_55⟩, c210, h⟩ := bdS h
  dsimp only at h
  refine x_nR23 F (N0 := 2) (by decide) wl_621 c210 ⟨Nat.le_of_ble_eq_true rfl, Nat.le_of_ble_eq_true rfl⟩ dX10_init_210 ?_
  obtain ⟨M213_56, c213, h⟩ := bdS h
  refine x_putRF F (ci := 10) (C := RX10) (T := TX10) (N := 19) rfl ⟨by decide, rfl⟩ inU10 tyX10_ok nmX10 16 (by decide) ⟨rfl, rfl⟩ (fun _ _ _ => rfl) rfl hmn rfl wl_650 c213 dX10_init_213 ?_
  refine x_aload_n F dX10_init_216 rfl 0 rfl ?_
  refine x_iconst F (v := 2) dX10_init_217 (by decide) ?_
  obtain ⟨⟨x218_57, M218_57⟩, c218, h⟩ := bdS h
  dsimp only at h
  refine x_nR24 F (N0 := 2) (by decide) wl_631 c218 ⟨Nat.le_of_ble_eq_true rfl, Nat.le_of_ble_eq_true rfl⟩ dX10_init_218 ?_
  obtain ⟨M221_58, c221, h⟩ := bdS h
  refine x_putRF F (ci := 10) (C := RX10) (T := TX10) (N := 19) rfl ⟨by decide, rfl⟩ inU10 tyX10_ok nmX10 17 (by decide) ⟨rfl, rfl⟩ (fun _ _ _ => rfl) rfl hmn rfl wl_651 c221 dX10_init_221 ?_
  refine x_aload_n F dX10_init_224 rfl 0 rfl ?_
  refine x_iconst F (v := 2) dX10_init_225 (by decide) ?_
  obtain ⟨⟨x226_59, M226_59⟩, c226, h⟩ := bdS h
  dsimp only at h
  refine x_nVZ F (N0 := 2) (by decide) wl_652 c226 ⟨Nat.le_of_ble_eq_true rfl, Nat.le_of_ble_eq_true rfl⟩ dX10_init_226 ?_
  obtain ⟨M228_60, c228, h⟩ := bdS h
  refine x_putRF F (ci := 10) (C := RX10) (T := TX10) (N := 19) rfl ⟨by decide, rfl⟩ inU10 tyX10_ok nmX10 18 (by decide) ⟨rfl, rfl⟩ (fun _ _ _ => rfl) rfl hmn rfl wl_653 c228 dX10_init_228 ?_
  refine x_iconst F (v := 0) dX10_init_231 (by decide) ?_
  refine x_istore_n F (lv' := [(1, .int 0), (0, .ref (b + v0))]) dX10_init_232 rfl (by decide) rfl ?_
  refine x_iload_n F dX10_init_233 rfl 0 rfl ?_
  refine x_iconst F (v := 2) dX10_init_234 (by decide) ?_
  refine x_icmp_ge F (tgt := 291) dX10_init_235 (by decide) (fun c9 => absurd c9 (by decide)) (fun _ => ?_)
  refine x_aload_n F dX10_init_238 rfl 1 rfl ?_
  obtain ⟨x239_61, c239, h⟩ := bdS h
  refine x_getR F (ci := 10) (C := RX10) (T := TX10) (N := 19) rfl ⟨by decide, rfl⟩ inU10 15 (by decide) (fun _ _ _ => rfl) wl_649 c239 dX10_init_239 ?_
  refine x_iload_n F dX10_init_242 rfl 0 rfl ?_
  obtain ⟨⟨x243_62, M243_62⟩, c243, h⟩ := bdS h
  dsimp only at h
  refine x_new F (ci := 8) (C := RX8) (T := TX8) (N := 17) rfl ⟨by decide, rfl⟩ inU8 tyX8_ok wl_617 wl_618 wl_75 c243 ⟨Nat.le_of_ble_eq_true rfl, Nat.le_of_ble_eq_true rfl⟩ dX10_init_243 ?_
  refine x_dup F dX10_init_246 rfl ?_
  obtain ⟨⟨u247, M247_63⟩, c247, h⟩ := bdS h
  dsimp only at h
  refine x_callIN F (As := []) (rest := [.ref (b + x243_62), .int 0, .ref (b + x239_61)]) (res := none) (a := x243_62) (host := RX10) (k_X8_init l b D cy N x243_62 M243_62 _ _ c247) wl_483 (by decide +kernel) wl_75 wl_656 rfl (hd_X8_init).2 ⟨Nat.le_of_ble_eq_true rfl, Nat.le_of_ble_eq_true rfl⟩ ⟨Nat.le_of_ble_eq_true rfl, Nat.le_of_ble_eq_true rfl⟩ (Nat.le_of_ble_eq_true rfl) rfl dX10_init_247 ?_
  obtain ⟨M250_64, c250, h⟩ := bdS h
  refine x_tR F (kd := 25) (cv := 8) (r := (RX8, TX8, 17)) 5 rfl rfl (by decide) (by decide) c250 dX10_init_250 ?_
  refine x_aload_n F dX10_init_251 rfl 1 rfl ?_
  obtain ⟨x252_65, c252, h⟩ := bdS h
  refine x_getR F (ci := 10) (C := RX10) (T := TX10) (N := 19) rfl ⟨by decide, rfl⟩ inU10 16 (by decide) (fun _ _ _ => rfl) wl_650 c252 dX10_init_252 ?_
  refine x_iload_n F dX10_init_255 rfl 0 rfl ?_
  obtain ⟨⟨x256_66, M256_66⟩, c256, h⟩ := bdS h
  dsimp only at h
  refine x_new F (ci := 0) (C := RX0) (T := TX0) (N := 12) rfl ⟨by decide, rfl⟩ inU0 tyX0_ok wl_621 wl_375 wl_52 c256 ⟨Nat.le_of_ble_eq_true rfl, Nat.le_of_ble_eq_true rfl⟩ dX10_init_256 ?_
  refine x_dup F dX10_init_259 rfl ?_
  refine x_aload_n F dX10_init_260 rfl 1 rfl ?_
  obtain ⟨x261_67, c261, h⟩ := bdS h
  refine x_getR F (ci := 10) (C := RX10) (T := TX10) (N := 19) rfl ⟨by decide, rfl⟩ inU10 1 (by decide) (fun _ _ _ => rfl) wl_619 c261 dX10_init_261 ?_
  obtain ⟨⟨u264, M264_68⟩, c264, h⟩ := bdS h
  dsimp only at h
  refine x_callI F (As := [.ref (b + x261_67)]) (rest := [.ref (b + x256_66), .int 0, .ref (b + x252_65)]) (res := none) (a := x256_66) (k_X0_init l b D cy N x256_66 x261_67 M256_66 _ _ c264) wl_1 wl_52 wl_657 wl_377 rfl (hd_X0_init).2 ⟨Nat.le_of_ble_eq_true rfl, Nat.le_of_ble_eq_true rfl⟩ ⟨Nat.le_of_ble_eq_true rfl, Nat.le_of_ble_eq_true rfl⟩ (Nat.le_of_ble_eq_true rfl) rfl dX10_init_264 ?_
  obtain ⟨M267_69, c267, h⟩ := bdS h
  refine x_tR F (kd := 23) (cv := 0) (r := (RX0, TX0, 12)) 3 rfl rfl (by decide) (by decide) c267 dX10_init_267 ?_
  refine x_aload_n F dX10_init_268 rfl 1 rfl ?_
  obtain ⟨x269_70, c269, h⟩ := bdS h
  refine x_getR F (ci := 10) (C := RX10) (T := TX10) (N := 19) rfl ⟨by decide, rfl⟩ inU10 17 (by decide) (fun _ _ _ => rfl) wl_651 c269 dX10_init_269 ?_
  refine x_iload_n F dX10_init_272 rfl 0 rfl ?_
  obtain ⟨⟨x273_71, M273_71⟩, c273, h⟩ := bdS h
  dsimp only at h
  refine x_new F (ci := 7) (C := RX7) (T := TX7) (N := 7) rfl ⟨by decide, rfl⟩ inU7 tyX7_ok wl_631 wl_632 wl_430 c273 ⟨Nat.le_of_ble_eq_true rfl, Nat.le_of_ble_eq_true rfl⟩ dX10_init_273 ?_
  refine x_dup F dX10_init_276 rfl ?_
  refine x_aload_n F dX10_init_277 rfl 1 rfl ?_
  obtain ⟨x278_72, c278, h⟩ := bdS h
  refine x_getR F (ci := 10) (C := RX10) (T := TX10) (N := 19) rfl ⟨by decide, rfl⟩ inU10 1 (by decide) (fun _ _ _ => rfl) wl_619 c278 dX10_init_278 ?_
  obtain ⟨⟨u281, M281_73⟩, c281, h⟩ := bdS h
  dsimp only at h
  refine x_callI F (As := [.ref (b + x278_72)]) (rest := [.ref (b + x273_71), .int 0, .ref (b + x269_70)]) (res := none) (a := x273_71) (k_X7_init l b D cy N x273_71 x278_72 M273_71 _ _ c281) wl_405 wl_430 wl_662 wl_663 rfl (hd_X7_init).2 ⟨Nat.le_of_ble_eq_true rfl, Nat.le_of_ble_eq_true rfl⟩ ⟨Nat.le_of_ble_eq_true rfl, Nat.le_of_ble_eq_true rfl⟩ (Nat.le_of_ble_eq_true rfl) rfl dX10_init_281 ?_
  obtain ⟨M284_74, c284, h⟩ := bdS h
  refine x_tR F (kd := 24) (cv := 7) (r := (RX7, TX7, 7)) 4 rfl rfl (by decide) (by decide) c284 dX10_init_284 ?_
  refine x_iinc F (v := 1) (lv' := [(1, .int 1), (0, .ref (b + v0))]) dX10_init_285 0 rfl (by decide) (by decide) rfl ?_
  refine x_goto F (tgt := 233) dX10_init_288 (by decide) ?_
  refine x_iload_n F dX10_init_233 rfl 0 rfl ?_
  refine x_iconst F (v := 2) dX10_init_234 (by decide) ?_
  refine x_icmp_ge F (tgt := 291) dX10_init_235 (by decide) (fun c9 => absurd c9 (by decide)) (fun _ => ?_)
  refine x_aload_n F dX10_init_238 rfl 1 rfl ?_
  obtain ⟨x239_75, c239, h⟩ := bdS h
  refine x_getR F (ci := 10) (C := RX10) (T := TX10) (N := 19) rfl ⟨by decide, rfl⟩ inU10 15 (by decide) (fun _ _ _ => rfl) wl_649 c239 dX10_init_239 ?_
  refine x_iload_n F dX10_init_242 rfl 0 rfl ?_
  obtain ⟨⟨x243_76, M243_76⟩, c243, h⟩ := bdS h
  dsimp only at h
  refine x_new F (ci := 8) (C := RX8) (T := TX8) (N := 17) rfl ⟨by decide, rfl⟩ inU8 tyX8_ok wl_617 wl_618 wl_75 c243 ⟨Nat.le_of_ble_eq_true rfl, Nat.le_of_ble_eq_true rfl⟩ dX10_init_243 ?_
  refine x_dup F dX10_init_246 rfl ?_
  obtain ⟨⟨u247, M247_77⟩, c247, h⟩ := bdS h
  dsimp only at h
  refine x_callIN F (As := []) (rest := [.ref (b + x243_76), .int 1, .ref (b + x239_75)]) (res := none) (a := x243_76) (host := RX10) (k_X8_init l b D cy N x243_76 M243_76 _ _ c247) wl_483 (by decide +kernel) wl_75 wl_656 rfl (hd_X8_init).2 ⟨Nat.le_of_ble_eq_true rfl, Nat.le_of_ble_eq_true rfl⟩ ⟨Nat.le_of_ble_eq_true rfl, Nat.le_of_ble_eq_true rfl⟩ (Nat.le_of_ble_eq_true rfl) rfl dX10_init_247 ?_
  obtain ⟨M250_78, c250, h⟩ := bdS h
  refine x_tR F (kd := 25) (cv := 8) (r := (RX8, TX8, 17)) 5 rfl rfl (by decide) (by decide) c250 dX10_init_250 ?_
  refine x_aload_n F dX10_init_251 rfl 1 rfl ?_
  obtain ⟨x252_79, c252, h⟩ := bdS h
  refine x_getR F (ci := 10) (C := RX10) (T := TX10) (N := 19) rfl ⟨by decide, rfl⟩ inU10 16 (by decide) (fun _ _ _ => rfl) wl_650 c252 dX10_init_252 ?_
  refine x_iload_n F dX10_init_255 rfl 0 rfl ?_
  obtain ⟨⟨x256_80, M256_80⟩, c256, h⟩ := bdS h
  dsimp only at h
  refine x_new F (ci := 0) (C := RX0) (T := TX0) (N := 12) rfl ⟨by decide, rfl⟩ inU0 tyX0_ok wl_621 wl_375 wl_52 c256 ⟨Nat.le_of_ble_eq_true rfl, Nat.le_of_ble_eq_true rfl⟩ dX10_init_256 ?_
  refine x_dup F dX10_init_259 rfl ?_
  refine x_aload_n F dX10_init_260 rfl 1 rfl ?_
  obtain ⟨x261_81, c261, h⟩ := bdS h
  refine x_getR F (ci := 10) (C := RX10) (T := TX10) (N := 19) rfl ⟨by decide, rfl⟩ inU10 1 (by decide) (fun _ _ _ => rfl) wl_619 c261 dX10_init_261 ?_
  obtain ⟨⟨u264, M264_82⟩, c264, h⟩ := bdS h
  dsimp only at h
  refine x_callI F (As := [.ref (b + x261_81)]) (rest := [.ref (b + x256_80), .int 1, .ref (b + x252_79)]) (res := none) (a := x256_80) (k_X0_init l b D cy N x256_80 x261_81 M256_80 _ _ c264) wl_1 wl_52 wl_657 wl_377 rfl (hd_X0_init).2 ⟨Nat.le_of_ble_eq_true rfl, Nat.le_of_ble_eq_true rfl⟩ ⟨Nat.le_of_ble_eq_true rfl, Nat.le_of_ble_eq_true rfl⟩ (Nat.le_of_ble_eq_true rfl) rfl dX10_init_264 ?_
  obtain ⟨M267_83, c267, h⟩ := bdS h
  refine x_tR F (kd := 23) (cv := 0) (r := (RX0, TX0, 12)) 3 rfl rfl (by decide) (by decide) c267 dX10_init_267 ?_
  refine x_aload_n F dX10_init_268 rfl 1 rfl ?_
  obtain ⟨x269_84, c269, h⟩ := bdS h
  refine x_getR F (ci := 10) (C := RX10) (T := TX10) (N := 19) rfl ⟨by decide, rfl⟩ inU10 17 (by decide) (fun _ _ _ => rfl) wl_651 c269 dX10_init_269 ?_
  refine x_iload_n F dX10_init_272 rfl 0 rfl ?_
  obtain ⟨⟨x273_85, M273_85⟩, c273, h⟩ := bdS h
  dsimp only at h
  refine x_new F (ci := 7) (C := RX7) (T := TX7) (N := 7) rfl ⟨by decide, rfl⟩ inU7 tyX7_ok wl_631 wl_632 wl_430 c273 ⟨Nat.le_of_ble_eq_true rfl, Nat.le_of_ble_eq_true rfl⟩ dX10_init_273 ?_
  refine x_dup F dX10_init_276 rfl ?_
  refine x_aload_n F dX10_init_277 rfl 1 rfl ?_
  obtain ⟨x278_86, c278, h⟩ := bdS h
  refine x_getR F (ci := 10) (C := RX10) (T := TX10) (N := 19) rfl ⟨by decide, rfl⟩ inU10 1 (by decide) (fun _ _ _ => rfl) wl_619 c278 dX10_init_278 ?_
  obtain ⟨⟨u281, M281_87⟩, c281, h⟩ := bdS h
  dsimp only at h
  refine x_callI F (As := [.ref (b + x278_86)]) (rest := [.ref (b + x273_85), .int 1, .ref (b + x269_84)]) (res := none) (a := x273_85) (k_X7_init l b D cy N x273_85 x278_86 M273_85 _ _ c281) wl_405 wl_430 wl_662 wl_663 rfl (hd_X7_init).2 ⟨Nat.le_of_ble_eq_true rfl, Nat.le_of_ble_eq_true rfl⟩ ⟨Nat.le_of_ble_eq_true rfl, Nat.le_of_ble_eq_true rfl⟩ (Nat.le_of_ble_eq_true rfl) rfl dX10_init_281 ?_
  obtain ⟨M284_88, c284, h⟩ := bdS h
  refine x_tR F (kd := 24) (cv := 7) (r := (RX7, TX7, 7)) 4 rfl rfl (by decide) (by decide) c284 dX10_init_284 ?_
  refine x_iinc F (v := 2) (lv' := [(1, .int 2), (0, .ref (b + v0))]) dX10_init_285 0 rfl (by decide) (by decide) rfl ?_
  refine x_goto F (tgt := 233) dX10_init_288 (by decide) ?_
  refine x_iload_n F dX10_init_233 rfl 0 rfl ?_
  refine x_iconst F (v := 2) dX10_init_234 (by decide) ?_
  refine x_icmp_ge F (tgt := 291) dX10_init_235 (by decide) (fun _ => ?_) (fun c9 => absurd c9 (by decide))
  obtain ⟨rfl, rfl⟩ := retS h
  exact x_vret F hr hl dX10_init_291
theorem dX11_init_0 : decode cX11_init 0 = .ok (.aload_n 0, 1) := by decide +kernel
theorem dX11_init_1 : decode cX11_init 1 = .ok (.invokespecial 93, 3) := by decide +kernel
theorem dX11_init_4 : decode cX11_init 4 = .ok (.aload_n 0, 1) := by decide +kernel
theorem dX11_init_5 : decode cX11_init 5 = .ok (.sipush 940, 3) := by decide +kernel
theorem dX11_init_8 : decode cX11_init 8 = .ok (.newarray .int, 2) := by decide +kernel
theorem dX11_init_10 : decode cX11_init 10 = .ok (.putfield 7, 3) := by decide +kernel
theorem dX11_init_13 : decode cX11_init 13 = .ok (.aload_n 0, 1) := by decide +kernel
theorem dX11_init_14 : decode cX11_init 14 = .ok (.sipush 441, 3) := by decide +kernel
theorem dX11_init_17 : decode cX11_init 17 = .ok (.newarray .int, 2) := by decide +kernel
theorem dX11_init_19 : decode cX11_init 19 = .ok (.putfield 98, 3) := by decide +kernel
theorem dX11_init_22 : decode cX11_init 22 = .ok (.aload_n 0, 1) := by decide +kernel
theorem dX11_init_23 : decode cX11_init 23 = .ok (.bipush 35, 2) := by decide +kernel
theorem dX11_init_25 : decode cX11_init 25 = .ok (.newarray .int, 2) := by decide +kernel
theorem dX11_init_27 : decode cX11_init 27 = .ok (.putfield 101, 3) := by decide +kernel
theorem dX11_init_30 : decode cX11_init 30 = .ok (.aload_n 0, 1) := by decide +kernel
theorem dX11_init_31 : decode cX11_init 31 = .ok (.sipush 882, 3) := by decide +kernel
theorem dX11_init_34 : decode cX11_init 34 = .ok (.newarray .int, 2) := by decide +kernel
theorem dX11_init_36 : decode cX11_init 36 = .ok (.putfield 104, 3) := by decide +kernel
theorem dX11_init_39 : decode cX11_init 39 = .ok (.aload_n 0, 1) := by decide +kernel
theorem dX11_init_40 : decode cX11_init 40 = .ok (.sipush 1312, 3) := by decide +kernel
theorem dX11_init_43 : decode cX11_init 43 = .ok (.newarray .int, 2) := by decide +kernel
theorem dX11_init_45 : decode cX11_init 45 = .ok (.putfield 107, 3) := by decide +kernel
theorem dX11_init_48 : decode cX11_init 48 = .ok (.aload_n 0, 1) := by decide +kernel
theorem dX11_init_49 : decode cX11_init 49 = .ok (.sipush 164, 3) := by decide +kernel
theorem dX11_init_52 : decode cX11_init 52 = .ok (.newarray .int, 2) := by decide +kernel
theorem dX11_init_54 : decode cX11_init 54 = .ok (.putfield 110, 3) := by decide +kernel
theorem dX11_init_57 : decode cX11_init 57 = .ok (.aload_n 0, 1) := by decide +kernel
theorem dX11_init_58 : decode cX11_init 58 = .ok (.bipush 16, 2) := by decide +kernel
theorem dX11_init_60 : decode cX11_init 60 = .ok (.newarray .long, 2) := by decide +kernel
theorem dX11_init_62 : decode cX11_init 62 = .ok (.putfield 113, 3) := by decide +kernel
theorem dX11_init_65 : decode cX11_init 65 = .ok (.aload_n 0, 1) := by decide +kernel
theorem dX11_init_66 : decode cX11_init 66 = .ok (.bipush 16, 2) := by decide +kernel
theorem dX11_init_68 : decode cX11_init 68 = .ok (.newarray .long, 2) := by decide +kernel
theorem dX11_init_70 : decode cX11_init 70 = .ok (.putfield 117, 3) := by decide +kernel
theorem dX11_init_73 : decode cX11_init 73 = .ok (.aload_n 0, 1) := by decide +kernel
theorem dX11_init_74 : decode cX11_init 74 = .ok (.bipush 32, 2) := by decide +kernel
theorem dX11_init_76 : decode cX11_init 76 = .ok (.newarray .long, 2) := by decide +kernel
theorem dX11_init_78 : decode cX11_init 78 = .ok (.putfield 120, 3) := by decide +kernel
theorem dX11_init_81 : decode cX11_init 81 = .ok (.aload_n 0, 1) := by decide +kernel
theorem dX11_init_82 : decode cX11_init 82 = .ok (.iconst 2, 1) := by decide +kernel
theorem dX11_init_83 : decode cX11_init 83 = .ok (.newarray .boolean, 2) := by decide +kernel
theorem dX11_init_85 : decode cX11_init 85 = .ok (.putfield 123, 3) := by decide +kernel
theorem dX11_init_88 : decode cX11_init 88 = .ok (.aload_n 0, 1) := by decide +kernel
theorem dX11_init_89 : decode cX11_init 89 = .ok (.sipush 9537, 3) := by decide +kernel
theorem dX11_init_92 : decode cX11_init 92 = .ok (.newarray .int, 2) := by decide +kernel
theorem dX11_init_94 : decode cX11_init 94 = .ok (.putfield 127, 3) := by decide +kernel
theorem dX11_init_97 : decode cX11_init 97 = .ok (.aload_n 0, 1) := by decide +kernel
theorem dX11_init_98 : decode cX11_init 98 = .ok (.iconst 3, 1) := by decide +kernel
theorem dX11_init_99 : decode cX11_init 99 = .ok (.newarray .int, 2) := by decide +kernel
theorem dX11_init_101 : decode cX11_init 101 = .ok (.putfield 130, 3) := by decide +kernel
theorem dX11_init_104 : decode cX11_init 104 = .ok (.aload_n 0, 1) := by decide +kernel
theorem dX11_init_105 : decode cX11_init 105 = .ok (.bipush 6, 2) := by decide +kernel
theorem dX11_init_107 : decode cX11_init 107 = .ok (.newarray .int, 2) := by decide +kernel
theorem dX11_init_109 : decode cX11_init 109 = .ok (.putfield 133, 3) := by decide +kernel
theorem dX11_init_112 : decode cX11_init 112 = .ok (.aload_n 0, 1) := by decide +kernel
theorem dX11_init_113 : decode cX11_init 113 = .ok (.bipush 6, 2) := by decide +kernel
theorem dX11_init_115 : decode cX11_init 115 = .ok (.newarray .int, 2) := by decide +kernel
theorem dX11_init_117 : decode cX11_init 117 = .ok (.putfield 136, 3) := by decide +kernel
theorem dX11_init_120 : decode cX11_init 120 = .ok (.aload_n 0, 1) := by decide +kernel
theorem dX11_init_121 : decode cX11_init 121 = .ok (.bipush 6, 2) := by decide +kernel
theorem dX11_init_123 : decode cX11_init 123 = .ok (.newarray .int, 2) := by decide +kernel
theorem dX11_init_125 : decode cX11_init 125 = .ok (.putfield 139, 3) := by decide +kernel
theorem dX11_init_128 : decode cX11_init 128 = .ok (.aload_n 0, 1) := by decide +kernel
theorem dX11_init_129 : decode cX11_init 129 = .ok (.bipush 64, 2) := by decide +kernel
theorem dX11_init_131 : decode cX11_init 131 = .ok (.newarray .int, 2) := by decide +kernel
theorem dX11_init_133 : decode cX11_init 133 = .ok (.putfield 142, 3) := by decide +kernel
theorem dX11_init_136 : decode cX11_init 136 = .ok (.aload_n 0, 1) := by decide +kernel
theorem dX11_init_137 : decode cX11_init 137 = .ok (.sipush 200, 3) := by decide +kernel
theorem dX11_init_140 : decode cX11_init 140 = .ok (.newarray .int, 2) := by decide +kernel
theorem dX11_init_142 : decode cX11_init 142 = .ok (.putfield 145, 3) := by decide +kernel
theorem dX11_init_145 : decode cX11_init 145 = .ok (.aload_n 0, 1) := by decide +kernel
theorem dX11_init_146 : decode cX11_init 146 = .ok (.iconst 4, 1) := by decide +kernel
theorem dX11_init_147 : decode cX11_init 147 = .ok (.newarray .int, 2) := by decide +kernel
theorem dX11_init_149 : decode cX11_init 149 = .ok (.putfield 148, 3) := by decide +kernel
theorem dX11_init_152 : decode cX11_init 152 = .ok (.aload_n 0, 1) := by decide +kernel
theorem dX11_init_153 : decode cX11_init 153 = .ok (.sipush 240, 3) := by decide +kernel
theorem dX11_init_156 : decode cX11_init 156 = .ok (.newarray .int, 2) := by decide +kernel
theorem dX11_init_158 : decode cX11_init 158 = .ok (.putfield 151, 3) := by decide +kernel
theorem dX11_init_161 : decode cX11_init 161 = .ok (.aload_n 0, 1) := by decide +kernel
theorem dX11_init_162 : decode cX11_init 162 = .ok (.getfield 98, 3) := by decide +kernel
theorem dX11_init_165 : decode cX11_init 165 = .ok (.iconst 4, 1) := by decide +kernel
theorem dX11_init_166 : decode cX11_init 166 = .ok (.iconst 3, 1) := by decide +kernel
theorem dX11_init_167 : decode cX11_init 167 = .ok (.iastore, 1) := by decide +kernel
theorem dX11_init_168 : decode cX11_init 168 = .ok (.aload_n 0, 1) := by decide +kernel
theorem dX11_init_169 : decode cX11_init 169 = .ok (.invokevirtual 154, 3) := by decide +kernel
theorem dX11_init_172 : decode cX11_init 172 = .ok (.return_, 1) := by decide +kernel
def fX11_init (N : Nat) (v0 : Nat) (M : Mem) : Option (Unit × Mem) := ((nV M 20 940).bind fun (x8_1, M8_1) => ((pR M8_1 11 v0 1 x8_1).bind fun M10_2 => ((nV M10_2 20 441).bind fun (x17_3, M17_3) => ((pR M17_3 11 v0 14 x17_3).bind fun M19_4 => ((nV M19_4 20 35).bind fun (x25_5, M25_5) => ((pR M25_5 11 v0 15 x25_5).bind fun M27_6 => ((nV M27_6 20 882).bind fun (x34_7, M34_7) => ((pR M34_7 11 v0 16 x34_7).bind fun M36_8 => ((nV M36_8 20 1312).bind fun (x43_9, M43_9) => ((pR M43_9 11 v0 17 x43_9).bind fun M45_10 => ((nV M45_10 20 164).bind fun (x52_11, M52_11) => ((pR M52_11 11 v0 18 x52_11).bind fun M54_12 => ((nV M54_12 21 16).bind fun (x60_13, M60_13) => ((pR M60_13 11 v0 19 x60_13).bind fun M62_14 => ((nV M62_14 21 16).bind fun (x68_15, M68_15) => ((pR M68_15 11 v0 20 x68_15).bind fun M70_16 => ((nV M70_16 21 32).bind fun (x76_17, M76_17) => ((pR M76_17 11 v0 21 x76_17).bind fun M78_18 => ((nV M78_18 22 2).bind fun (x83_19, M83_19) => ((pR M83_19 11 v0 22 x83_19).bind fun M85_20 => ((nV M85_20 20 9537).bind fun (x92_21, M92_21) => ((pR M92_21 11 v0 25 x92_21).bind fun M94_22 => ((nV M94_22 20 3).bind fun (x99_23, M99_23) => ((pR M99_23 11 v0 26 x99_23).bind fun M101_24 => ((nV M101_24 20 6).bind fun (x107_25, M107_25) => ((pR M107_25 11 v0 28 x107_25).bind fun M109_26 => ((nV M109_26 20 6).bind fun (x115_27, M115_27) => ((pR M115_27 11 v0 29 x115_27).bind fun M117_28 => ((nV M117_28 20 6).bind fun (x123_29, M123_29) => ((pR M123_29 11 v0 30 x123_29).bind fun M125_30 => ((nV M125_30 20 64).bind fun (x131_31, M131_31) => ((pR M131_31 11 v0 33 x131_31).bind fun M133_32 => ((nV M133_32 20 200).bind fun (x140_33, M140_33) => ((pR M140_33 11 v0 36 x140_33).bind fun M142_34 => ((nV M142_34 20 4).bind fun (x147_35, M147_35) => ((pR M147_35 11 v0 37 x147_35).bind fun M149_36 => ((nV M149_36 20 240).bind fun (x156_37, M156_37) => ((pR M156_37 11 v0 40 x156_37).bind fun M158_38 => ((fR M158_38 11 v0 14).bind fun x162_39 => ((tI M158_38 x162_39 4 3).bind fun M167 => (if mK M167 v0 = 12 then ((fX11_startSo N v0 M167).bind fun (u169, M169) => some ((), M169)) else none)))))))))))))))))))))))))))))))))))))))))
set_option maxHeartbeats 4000000 in
set_option maxRecDepth 100000 in
theorem k_X11_init (l : Launch) (b : Nat) (D : va_G) (cy : Nat → ClassId) (N : Nat) (v0 : Nat) (M : Mem) (r : Unit) (Mf : Mem) (h : fX11_init N v0 M = some (r, Mf)) : Ct l yX11_init cX11_init 1 none 2 19 13906 b D cy [.ref (b + v0)] M none Mf := by
  refine Ct_of (own := RX11) (by decide) rfl (Nat.le_of_ble_eq_true rfl) ?_
  intro p e s m args below meth c F hr hl hmn
  unfold fX11_init at h
  show X p l e ({ frames := 2, cells := 19, slots := 13906, locals := 100 * 2 }) s m args below meth c (MQ below (Qm b D cy none Mf) args s 19 13906 (fun q => b ≤ q)) 1 b D cy 0 0 M 0 [(0, .ref (b + v0))] []
  refine x_aload_n F dX11_init_0 rfl 0 rfl ?_
  refine x_objInit F wl_914 wl_3 wl_4 (Nat.le_of_ble_eq_true rfl) (Nat.le_of_ble_eq_true rfl) dX11_init_1 ?_
  refine x_aload_n F dX11_init_4 rfl 0 rfl ?_
  refine x_sipush F (v := 940) dX11_init_5 (by decide) ?_
  obtain ⟨⟨x8_1, M8_1⟩, c8, h⟩ := bdS h
  dsimp only at h
  refine x_nVI F (N0 := 940) (by decide) wl_5 c8 ⟨Nat.le_of_ble_eq_true rfl, Nat.le_of_ble_eq_true rfl⟩ dX11_init_8 ?_
  obtain ⟨M10_2, c10, h⟩ := bdS h
  refine x_putRF F (ci := 11) (C := RX11) (T := TX11) (N := 45) rfl ⟨by decide, rfl⟩ inU11 tyX11_ok nmX11 1 (by decide) ⟨rfl, rfl⟩ (fun _ _ _ => rfl) rfl hmn rfl wl_848 c10 dX11_init_10 ?_
  refine x_aload_n F dX11_init_13 rfl 0 rfl ?_
  refine x_sipush F (v := 441) dX11_init_14 (by decide) ?_
  obtain ⟨⟨x17_3, M17_3⟩, c17, h⟩ := bdS h
  dsimp only at h
  refine x_nVI F (N0 := 441) (by decide) wl_5 c17 ⟨Nat.le_of_ble_eq_true rfl, Nat.le_of_ble_eq_true rfl⟩ dX11_init_17 ?_
  obtain ⟨M19_4, c19, h⟩ := bdS h
  refine x_putRF F (ci := 11) (C := RX11) (T := TX11) (N := 45) rfl ⟨by decide, rfl⟩ inU11 tyX11_ok nmX11 14 (by decide) ⟨rfl, rfl⟩ (fun _ _ _ => rfl) rfl hmn rfl wl_913 c19 dX11_init_19 ?_
  refine x_aload_n F dX11_init_22 rfl 0 rfl ?_
  refine x_bipush F (v := 35) dX11_init_23 (by decide) ?_
  obtain ⟨⟨x25_5, M25_5⟩, c25, h⟩ := bdS h
  dsimp only at h
  refine x_nVI F (N0 := 35) (by decide) wl_5 c25 ⟨Nat.le_of_ble_eq_true rfl, Nat.le_of_ble_eq_true rfl⟩ dX11_init_25 ?_
  obtain ⟨M27_6, c27, h⟩ := bdS h
  refine x_putRF F (ci := 11) (C := RX11) (T := TX11) (N := 45) rfl ⟨by decide, rfl⟩ inU11 tyX11_ok nmX11 15 (by decide) ⟨rfl, rfl⟩ (fun _ _ _ => rfl) rfl hmn rfl wl_915 c27 dX11_init_27 ?_
  refine x_aload_n F dX11_init_30 rfl 0 rfl ?_
  refine x_sipush F (v := 882) dX11_init_31 (by decide) ?_
  obtain ⟨⟨x34_7, M34_7⟩, c34, h⟩ := bdS h
  dsimp only at h
  refine x_nVI F (N0 := 882) (by decide) wl_5 c34 ⟨Nat.le_of_ble_eq_true rfl, Nat.le_of_ble_eq_true rfl⟩ dX11_init_34 ?_
  obtain ⟨M36_8, c36, h⟩ := bdS h
  refine x_putRF F (ci := 11) (C := RX11) (T := TX11) (N := 45) rfl ⟨by decide, rfl⟩ inU11 tyX11_ok nmX11 16 (by decide) ⟨rfl, rfl⟩ (fun _ _ _ => rfl) rfl hmn rfl wl_916 c36 dX11_init_36 ?_
  refine x_aload_n F dX11_init_39 rfl 0 rfl ?_
  refine x_sipush F (v := 1312) dX11_init_40 (by decide) ?_
  obtain ⟨⟨x43_9, M43_9⟩, c43, h⟩ := bdS h
  dsimp only at h
  refine x_nVI F (N0 := 1312) (by decide) wl_5 c43 ⟨Nat.le_of_ble_eq_true rfl, Nat.le_of_ble_eq_true rfl⟩ dX11_init_43 ?_
  obtain ⟨M45_10, c45, h⟩ := bdS h
  refine x_putRF F (ci := 11) (C := RX11) (T := TX11) (N := 45) rfl ⟨by decide, rfl⟩ inU11 tyX11_ok nmX11 17 (by decide) ⟨rfl, rfl⟩ (fun _ _ _ => rfl) rfl hmn rfl wl_917 c45 dX11_init_45 ?_
  refine x_aload_n F dX11_init_48 rfl 0 rfl ?_
  refine x_sipush F (v := 164) dX11_init_49 (by decide) ?_
  obtain ⟨⟨x52_11, M52_11⟩, c52, h⟩ := bdS h
  dsimp only at h
  refine x_nVI F (N0 := 164) (by decide) wl_5 c52 ⟨Nat.le_of_ble_eq_true rfl, Nat.le_of_ble_eq_true rfl⟩ dX11_init_52 ?_
  obtain ⟨M54_12, c54, h⟩ := bdS h
  refine x_putRF F (ci := 11) (C := RX11) (T := TX11) (N := 45) rfl ⟨by decide, rfl⟩ inU11 tyX11_ok nmX11 18 (by decide) ⟨rfl, rfl⟩ (fun _ _ _ => rfl) rfl hmn rfl wl_918 c54 dX11_init_54 ?_
  refine x_aload_n F dX11_init_57 rfl 0 rfl ?_
  refine x_bipush F (v := 16) dX11_init_58 (by decide) ?_
  obtain ⟨⟨x60_13, M60_13⟩, c60, h⟩ := bdS h
  dsimp only at h
  refine x_nVL F (N0 := 16) (by decide) wl_485 c60 ⟨Nat.le_of_ble_eq_true rfl, Nat.le_of_ble_eq_true rfl⟩ dX11_init_60 ?_
  obtain ⟨M62_14, c62, h⟩ := bdS h
  refine x_putRF F (ci := 11) (C := RX11) (T := TX11) (N := 45) rfl ⟨by decide, rfl⟩ inU11 tyX11_ok nmX11 19 (by decide) ⟨rfl, rfl⟩ (fun _ _ _ => rfl) rfl hmn rfl wl_919 c62 dX11_init_62 ?_
  refine x_aload_n F dX11_init_65 rfl 0 rfl ?_
  refine x_bipush F (v := 16) dX11_init_66 (by decide) ?_
  obtain ⟨⟨x68_15, M68_15⟩, c68, h⟩ := bdS h
  dsimp only at h
  refine x_nVL F (N0 := 16) (by decide) wl_485 c68 ⟨Nat.le_of_ble_eq_true rfl, Nat.le_of_ble_eq_true rfl⟩ dX11_init_68 ?_
  obtain ⟨M70_16, c70, h⟩ := bdS h
  refine x_putRF F (ci := 11) (C := RX11) (T := TX11) (N := 45) rfl ⟨by decide, rfl⟩ inU11 tyX11_ok nmX11 20 (by decide) ⟨rfl, rfl⟩ (fun _ _ _ => rfl) rfl hmn rfl wl_920 c70 dX11_init_70 ?_
  refine x_aload_n F dX11_init_73 rfl 0 rfl ?_
  refine x_bipush F (v := 32) dX11_init_74 (by decide) ?_
  obtain ⟨⟨x76_17, M76_17⟩, c76, h⟩ := bdS h
  dsimp only at h
  refine x_nVL F (N0 := 32) (by decide) wl_485 c76 ⟨Nat.le_of_ble_eq_true rfl, Nat.le_of_ble_eq_true rfl⟩ dX11_init_76 ?_
  obtain ⟨M78_18, c78, h⟩ := bdS h
  refine x_putRF F (ci := 11) (C := RX11) (T := TX11) (N := 45) rfl ⟨by decide, rfl⟩ inU11 tyX11_ok nmX11 21 (by decide) ⟨rfl, rfl⟩ (fun _ _ _ => rfl) rfl hmn rfl wl_921 c78 dX11_init_78 ?_
  refine x_aload_n F dX11_init_81 rfl 0 rfl ?_
  refine x_iconst F (v := 2) dX11_init_82 (by decide) ?_
  obtain ⟨⟨x83_19, M83_19⟩, c83, h⟩ := bdS h
  dsimp only at h
  refine x_nVZ F (N0 := 2) (by decide) wl_652 c83 ⟨Nat.le_of_ble_eq_true rfl, Nat.le_of_ble_eq_true rfl⟩ dX11_init_83 ?_
  obtain ⟨M85_20, c85, h⟩ := bdS h
  refine x_putRF F (ci := 11) (C := RX11) (T := TX11) (N := 45) rfl ⟨by decide, rfl⟩ inU11 tyX11_ok nmX11 22 (by decide) ⟨rfl, rfl⟩ (fun _ _ _ => rfl) rfl hmn rfl wl_922 c85 dX11_init_85 ?_
  refine x_aload_n F dX11_init_88 rfl 0 rfl ?_
  refine x_sipush F (v := 9537) dX11_init_89 (by decide) ?_
  obtain ⟨⟨x92_21, M92_21⟩, c92, h⟩ := bdS h
  dsimp only at h
  refine x_nVI F (N0 := 9537) (by decide) wl_5 c92 ⟨Nat.le_of_ble_eq_true rfl, Nat.le_of_ble_eq_true rfl⟩ dX11_init_92 ?_
  obtain ⟨M94_22, c94, h⟩ := bdS h
  refine x_putRF F (ci := 11) (C := RX11) (T := TX11) (N := 45) rfl ⟨by decide, rfl⟩ inU11 tyX11_ok nmX11 25 (by decide) ⟨rfl, rfl⟩ (fun _ _ _ => rfl) rfl hmn rfl wl_923 c94 dX11_init_94 ?_
  refine x_aload_n F dX11_init_97 rfl 0 rfl ?_
  refine x_iconst F (v := 3) dX11_init_98 (by decide) ?_
  obtain ⟨⟨x99_23, M99_23⟩, c99, h⟩ := bdS h
  dsimp only at h
  refine x_nVI F (N0 := 3) (by decide) wl_5 c99 ⟨Nat.le_of_ble_eq_true rfl, Nat.le_of_ble_eq_true rfl⟩ dX11_init_99 ?_
  obtain ⟨M101_24, c101, h⟩ := bdS h
  refine x_putRF F (ci := 11) (C := RX11) (T := TX11) (N := 45) rfl ⟨by decide, rfl⟩ inU11 tyX11_ok nmX11 26 (by decide) ⟨rfl, rfl⟩ (fun _ _ _ => rfl) rfl hmn rfl wl_924 c101 dX11_init_101 ?_
  refine x_aload_n F dX11_init_104 rfl 0 rfl ?_
  refine x_bipush F (v := 6) dX11_init_105 (by decide) ?_
  obtain ⟨⟨x107_25, M107_25⟩, c107, h⟩ := bdS h
  dsimp only at h
  refine x_nVI F (N0 := 6) (by decide) wl_5 c107 ⟨Nat.le_of_ble_eq_true rfl, Nat.le_of_ble_eq_true rfl⟩ dX11_init_107 ?_
  obtain ⟨M109_26, c109, h⟩ := bdS h
  refine x_putRF F (ci := 11) (C := RX11) (T := TX11) (N := 45) rfl ⟨by decide, rfl⟩ inU11 tyX11_ok nmX11 28 (by decide) ⟨rfl, rfl⟩ (fun _ _ _ => rfl) rfl hmn rfl wl_925 c109 dX11_init_109 ?_
  refine x_aload_n F dX11_init_112 rfl 0 rfl ?_
  refine x_bipush F (v := 6) dX11_init_113 (by decide) ?_
  obtain ⟨⟨x115_27, M115_27⟩, c115, h⟩ := bdS h
  dsimp only at h
  refine x_nVI F (N0 := 6) (by decide) wl_5 c115 ⟨Nat.le_of_ble_eq_true rfl, Nat.le_of_ble_eq_true rfl⟩ dX11_init_115 ?_
  obtain ⟨M117_28, c117, h⟩ := bdS h
  refine x_putRF F (ci := 11) (C := RX11) (T := TX11) (N := 45) rfl ⟨by decide, rfl⟩ inU11 tyX11_ok nmX11 29 (by decide) ⟨rfl, rfl⟩ (fun _ _ _ => rfl) rfl hmn rfl wl_926 c117 dX11_init_117 ?_
  refine x_aload_n F dX11_init_120 rfl 0 rfl ?_
  refine x_bipush F (v := 6) dX11_init_121 (by decide) ?_
  obtain ⟨⟨x123_29, M123_29⟩, c123, h⟩ := bdS h
  dsimp only at h
  refine x_nVI F (N0 := 6) (by decide) wl_5 c123 ⟨Nat.le_of_ble_eq_true rfl, Nat.le_of_ble_eq_true rfl⟩ dX11_init_123 ?_
  obtain ⟨M125_30, c125, h⟩ := bdS h
  refine x_putRF F (ci := 11) (C := RX11) (T := TX11) (N := 45) rfl ⟨by decide, rfl⟩ inU11 tyX11_ok nmX11 30 (by decide) ⟨rfl, rfl⟩ (fun _ _ _ => rfl) rfl hmn rfl wl_927 c125 dX11_init_125 ?_
  refine x_aload_n F dX11_init_128 rfl 0 rfl ?_
  refine x_bipush F (v := 64) dX11_init_129 (by decide) ?_
  obtain ⟨⟨x131_31, M131_31⟩, c131, h⟩ := bdS h
  dsimp only at h
  refine x_nVI F (N0 := 64) (by decide) wl_5 c131 ⟨Nat.le_of_ble_eq_true rfl, Nat.le_of_ble_eq_true rfl⟩ dX11_init_131 ?_
  obtain ⟨M133_32, c133, h⟩ := bdS h
  refine x_putRF F (ci := 11) (C := RX11) (T := TX11) (N := 45) rfl ⟨by decide, rfl⟩ inU11 tyX11_ok nmX11 33 (by decide) ⟨rfl, rfl⟩ (fun _ _ _ => rfl) rfl hmn rfl wl_928 c133 dX11_init_133 ?_
  refine x_aload_n F dX11_init_136 rfl 0 rfl ?_
  refine x_sipush F (v := 200) dX11_init_137 (by decide) ?_
  obtain ⟨⟨x140_33, M140_33⟩, c140, h⟩ := bdS h
  dsimp only at h
  refine x_nVI F (N0 := 200) (by decide) wl_5 c140 ⟨Nat.le_of_ble_eq_true rfl, Nat.le_of_ble_eq_true rfl⟩ dX11_init_140 ?_
  obtain ⟨M142_34, c142, h⟩ := bdS h
  refine x_putRF F (ci := 11) (C := RX11) (T := TX11) (N := 45) rfl ⟨by decide, rfl⟩ inU11 tyX11_ok nmX11 36 (by decide) ⟨rfl, rfl⟩ (fun _ _ _ => rfl) rfl hmn rfl wl_929 c142 dX11_init_142 ?_
  refine x_aload_n F dX11_init_145 rfl 0 rfl ?_
  refine x_iconst F (v := 4) dX11_init_146 (by decide) ?_
  obtain ⟨⟨x147_35, M147_35⟩, c147, h⟩ := bdS h
  dsimp only at h
  refine x_nVI F (N0 := 4) (by decide) wl_5 c147 ⟨Nat.le_of_ble_eq_true rfl, Nat.le_of_ble_eq_true rfl⟩ dX11_init_147 ?_
  obtain ⟨M149_36, c149, h⟩ := bdS h
  refine x_putRF F (ci := 11) (C := RX11) (T := TX11) (N := 45) rfl ⟨by decide, rfl⟩ inU11 tyX11_ok nmX11 37 (by decide) ⟨rfl, rfl⟩ (fun _ _ _ => rfl) rfl hmn rfl wl_930 c149 dX11_init_149 ?_
  refine x_aload_n F dX11_init_152 rfl 0 rfl ?_
  refine x_sipush F (v := 240) dX11_init_153 (by decide) ?_
  obtain ⟨⟨x156_37, M156_37⟩, c156, h⟩ := bdS h
  dsimp only at h
  refine x_nVI F (N0 := 240) (by decide) wl_5 c156 ⟨Nat.le_of_ble_eq_true rfl, Nat.le_of_ble_eq_true rfl⟩ dX11_init_156 ?_
  obtain ⟨M158_38, c158, h⟩ := bdS h
  refine x_putRF F (ci := 11) (C := RX11) (T := TX11) (N := 45) rfl ⟨by decide, rfl⟩ inU11 tyX11_ok nmX11 40 (by decide) ⟨rfl, rfl⟩ (fun _ _ _ => rfl) rfl hmn rfl wl_931 c158 dX11_init_158 ?_
  refine x_aload_n F dX11_init_161 rfl 0 rfl ?_
  obtain ⟨x162_39, c162, h⟩ := bdS h
  refine x_getR F (ci := 11) (C := RX11) (T := TX11) (N := 45) rfl ⟨by decide, rfl⟩ inU11 14 (by decide) (fun _ _ _ => rfl) wl_913 c162 dX11_init_162 ?_
  refine x_iconst F (v := 4) dX11_init_165 (by decide) ?_
  refine x_iconst F (v := 3) dX11_init_166 (by decide) ?_
  obtain ⟨M167, c167, h⟩ := bdS h
  refine x_tI F c167 dX11_init_167 ?_
  refine x_aload_n F dX11_init_168 rfl 0 rfl ?_
  obtain ⟨k169, h⟩ := gdS h
  obtain ⟨⟨u169, M169⟩, c169, h⟩ := bdS h
  dsimp only at h
  refine x_callV F (As := []) (rest := []) (res := none) (ci := 11) (q := (RX11, TX11, 45)) rfl (by decide) k169 (k_X11_startSo l b D cy N v0 M167 _ _ c169) wl_932 wl_933 wl_934 wl_854 wl_912 hd_X11_startSo ⟨Nat.le_of_ble_eq_true rfl, Nat.le_of_ble_eq_true rfl⟩ ⟨Nat.le_refl _, Nat.le_refl _⟩ (Nat.le_of_ble_eq_true rfl) rfl dX11_init_169 ?_
  obtain ⟨rfl, rfl⟩ := retS h
  exact x_vret F hr hl dX11_init_172
