theorem dX10_band_0 : decode cX10_band 0 = .ok (.aload_n 0, 1) := by decide +kernel
theorem dX10_band_1 : decode cX10_band 1 = .ok (.getfield 19, 3) := by decide +kernel
theorem dX10_band_4 : decode cX10_band 4 = .ok (.iload_n 1, 1) := by decide +kernel
theorem dX10_band_5 : decode cX10_band 5 = .ok (.invokevirtual 142, 3) := by decide +kernel
theorem dX10_band_8 : decode cX10_band 8 = .ok (.ifCond .ne 13, 3) := by decide +kernel
theorem dX10_band_11 : decode cX10_band 11 = .ok (.new 146, 3) := by decide +kernel
theorem dX10_band_14 : decode cX10_band 14 = .ok (.dup, 1) := by decide +kernel
theorem dX10_band_15 : decode cX10_band 15 = .ok (.ldc 148, 2) := by decide +kernel
theorem dX10_band_17 : decode cX10_band 17 = .ok (.invokespecial 150, 3) := by decide +kernel
theorem dX10_band_20 : decode cX10_band 20 = .ok (.athrow, 1) := by decide +kernel
theorem dX10_band_21 : decode cX10_band 21 = .ok (.iload_n 2, 1) := by decide +kernel
theorem dX10_band_22 : decode cX10_band 22 = .ok (.tableswitch 83 0 4 #[34, 44, 54, 64, 74], 34) := by decide +kernel
theorem dX10_band_56 : decode cX10_band 56 = .ok (.aload_n 0, 1) := by decide +kernel
theorem dX10_band_57 : decode cX10_band 57 = .ok (.getfield 19, 3) := by decide +kernel
theorem dX10_band_60 : decode cX10_band 60 = .ok (.getfield 153, 3) := by decide +kernel
theorem dX10_band_63 : decode cX10_band 63 = .ok (.iload_n 1, 1) := by decide +kernel
theorem dX10_band_64 : decode cX10_band 64 = .ok (.iaload, 1) := by decide +kernel
theorem dX10_band_65 : decode cX10_band 65 = .ok (.ireturn, 1) := by decide +kernel
theorem dX10_band_66 : decode cX10_band 66 = .ok (.aload_n 0, 1) := by decide +kernel
theorem dX10_band_67 : decode cX10_band 67 = .ok (.getfield 19, 3) := by decide +kernel
theorem dX10_band_70 : decode cX10_band 70 = .ok (.getfield 156, 3) := by decide +kernel
theorem dX10_band_73 : decode cX10_band 73 = .ok (.iload_n 1, 1) := by decide +kernel
theorem dX10_band_74 : decode cX10_band 74 = .ok (.iaload, 1) := by decide +kernel
theorem dX10_band_75 : decode cX10_band 75 = .ok (.ireturn, 1) := by decide +kernel
theorem dX10_band_76 : decode cX10_band 76 = .ok (.aload_n 0, 1) := by decide +kernel
theorem dX10_band_77 : decode cX10_band 77 = .ok (.getfield 31, 3) := by decide +kernel
theorem dX10_band_80 : decode cX10_band 80 = .ok (.getfield 159, 3) := by decide +kernel
theorem dX10_band_83 : decode cX10_band 83 = .ok (.iload_n 1, 1) := by decide +kernel
theorem dX10_band_84 : decode cX10_band 84 = .ok (.iaload, 1) := by decide +kernel
theorem dX10_band_85 : decode cX10_band 85 = .ok (.ireturn, 1) := by decide +kernel
theorem dX10_band_86 : decode cX10_band 86 = .ok (.aload_n 0, 1) := by decide +kernel
theorem dX10_band_87 : decode cX10_band 87 = .ok (.getfield 31, 3) := by decide +kernel
theorem dX10_band_90 : decode cX10_band 90 = .ok (.getfield 162, 3) := by decide +kernel
theorem dX10_band_93 : decode cX10_band 93 = .ok (.iload_n 1, 1) := by decide +kernel
theorem dX10_band_94 : decode cX10_band 94 = .ok (.iaload, 1) := by decide +kernel
theorem dX10_band_95 : decode cX10_band 95 = .ok (.ireturn, 1) := by decide +kernel
theorem dX10_band_96 : decode cX10_band 96 = .ok (.aload_n 0, 1) := by decide +kernel
theorem dX10_band_97 : decode cX10_band 97 = .ok (.getfield 31, 3) := by decide +kernel
theorem dX10_band_100 : decode cX10_band 100 = .ok (.iload_n 1, 1) := by decide +kernel
theorem dX10_band_101 : decode cX10_band 101 = .ok (.invokevirtual 165, 3) := by decide +kernel
theorem dX10_band_104 : decode cX10_band 104 = .ok (.ireturn, 1) := by decide +kernel
theorem dX10_band_105 : decode cX10_band 105 = .ok (.new 146, 3) := by decide +kernel
theorem dX10_band_108 : decode cX10_band 108 = .ok (.dup, 1) := by decide +kernel
theorem dX10_band_109 : decode cX10_band 109 = .ok (.ldc 169, 2) := by decide +kernel
theorem dX10_band_111 : decode cX10_band 111 = .ok (.invokespecial 150, 3) := by decide +kernel
theorem dX10_band_114 : decode cX10_band 114 = .ok (.athrow, 1) := by decide +kernel
def fX10_band (N : Nat) (v0 : Nat) (v1 : Int32) (v2 : Int32) (M : Mem) : Option (Option Int32 × Mem) := ((fR M 10 v0 1).bind fun x1 => (if mK M x1 = 9 then ((fX8_hasBand N x1 v1 M).bind fun (x5, M5) => (if x5 = 0 then (if mZ M5 = 0 then some (none, M5) else none) else (if v2 = 0 then ((fR M5 10 v0 1).bind fun x57 => ((fR M5 8 x57 2).bind fun x60 => ((aI M5 x60 v1).bind fun x64 => some (some x64, M5)))) else (if v2 = 1 then ((fR M5 10 v0 1).bind fun x67 => ((fR M5 8 x67 3).bind fun x70 => ((aI M5 x70 v1).bind fun x74 => some (some x74, M5)))) else (if v2 = 2 then ((fR M5 10 v0 3).bind fun x77 => ((fR M5 0 x77 3).bind fun x80 => ((aI M5 x80 v1).bind fun x84 => some (some x84, M5)))) else (if v2 = 3 then ((fR M5 10 v0 3).bind fun x87 => ((fR M5 0 x87 4).bind fun x90 => ((aI M5 x90 v1).bind fun x94 => some (some x94, M5)))) else (if v2 = 4 then ((fR M5 10 v0 3).bind fun x97 => (if mK M5 x97 = 1 then ((fX0_lawsReadIn N x97 v1 M5).bind fun (x101, M101) => some (some x101, M101)) else none)) else (if mZ M5 = 0 then some (none, M5) else none)))))))) else none))
set_option maxHeartbeats 4000000 in
set_option maxRecDepth 100000 in
theorem kx_X10_band (l : Launch) (hlt : l.stackTraces = false) (b : Nat) (D : va_G) (cy : Nat → ClassId) (N : Nat) (v0 : Nat) (v1 : Int32) (v2 : Int32) (M : Mem) (r : Option Int32) (Mf : Mem) (h : fX10_band N v0 v1 v2 M = some (r, Mf)) : CtX l yX10_band cX10_band 3 (some .int) 8 b D cy [.ref (b + v0), .int v1, .int v2] M r Mf := by
  refine CtX_of (own := RX10) (by decide) rfl (Nat.le_of_ble_eq_true rfl) ?_
  intro p e s m args below meth c F hr hl hno
  unfold fX10_band at h
  show X p l e ({ frames := 8, cells := 1, slots := 6, locals := 100 * 8 }) s m args below meth c (vx_MQ below (QX b D cy r Mf) (XCX b D cy r Mf) args s 1 6 (fun q => b ≤ q)) 3 b D cy 0 0 M 0 [(0, .ref (b + v0)), (1, .int v1), (2, .int v2)] []
  refine x_aload_n F dX10_band_0 rfl 0 rfl ?_
  obtain ⟨x1, c1, h⟩ := bdS h
  refine x_getR F (ci := 10) (C := RX10) (T := TX10) (N := 19) rfl ⟨by decide, rfl⟩ inU10 1 (by decide) (fun _ _ _ => rfl) wl_619 c1 dX10_band_1 ?_
  refine x_iload_n F dX10_band_4 rfl 1 rfl ?_
  obtain ⟨k5, h⟩ := gdS h
  obtain ⟨⟨x5, M5⟩, c5, h⟩ := bdS h
  dsimp only at h
  refine x_callV F (As := [.int v1]) (rest := []) (res := (some (.int x5))) (ci := 8) (q := (RX8, TX8, 17)) rfl (by decide) k5 (k_X8_hasBand l b D cy N x1 v1 M _ _ c5) wl_703 wl_242 wl_243 wl_75 wl_237 hd_X8_hasBand ⟨Nat.le_of_ble_eq_true rfl, Nat.le_of_ble_eq_true rfl⟩ ⟨Nat.zero_le _, Nat.zero_le _⟩ (Nat.le_of_ble_eq_true rfl) rfl dX10_band_5 ?_
  refine x_if_ne F (tgt := 21) dX10_band_8 (by decide) (fun c8 => ?_) (fun c8 => ?_)
  · rw [if_neg c8] at h
    refine x_iload_n F dX10_band_21 rfl 2 rfl ?_
    by_cases c22_0 : v2 = 0
    · rw [if_pos c22_0] at h
      refine x_tableIn F (off := 34) (tgt := 56) dX10_band_22 (by rw [c22_0]; decide) (by rw [c22_0]; decide) (by rw [c22_0]; decide) (by decide) ?_
      refine x_aload_n F dX10_band_56 rfl 0 rfl ?_
      obtain ⟨x57, c57, h⟩ := bdS h
      refine x_getR F (ci := 10) (C := RX10) (T := TX10) (N := 19) rfl ⟨by decide, rfl⟩ inU10 1 (by decide) (fun _ _ _ => rfl) wl_619 c57 dX10_band_57 ?_
      obtain ⟨x60, c60, h⟩ := bdS h
      refine x_getR F (ci := 8) (C := RX8) (T := TX8) (N := 17) rfl ⟨by decide, rfl⟩ inU8 2 (by decide) (fun _ _ _ => rfl) wl_699 c60 dX10_band_60 ?_
      refine x_iload_n F dX10_band_63 rfl 1 rfl ?_
      obtain ⟨x64, c64, h⟩ := bdS h
      refine x_aI F c64 dX10_band_64 ?_
      obtain ⟨rfl, rfl⟩ := retS h
      exact x_iretX F hr hl dX10_band_65
    rw [if_neg c22_0] at h
    by_cases c22_1 : v2 = 1
    · rw [if_pos c22_1] at h
      refine x_tableIn F (off := 44) (tgt := 66) dX10_band_22 (by rw [c22_1]; decide) (by rw [c22_1]; decide) (by rw [c22_1]; decide) (by decide) ?_
      refine x_aload_n F dX10_band_66 rfl 0 rfl ?_
      obtain ⟨x67, c67, h⟩ := bdS h
      refine x_getR F (ci := 10) (C := RX10) (T := TX10) (N := 19) rfl ⟨by decide, rfl⟩ inU10 1 (by decide) (fun _ _ _ => rfl) wl_619 c67 dX10_band_67 ?_
      obtain ⟨x70, c70, h⟩ := bdS h
      refine x_getR F (ci := 8) (C := RX8) (T := TX8) (N := 17) rfl ⟨by decide, rfl⟩ inU8 3 (by decide) (fun _ _ _ => rfl) wl_700 c70 dX10_band_70 ?_
      refine x_iload_n F dX10_band_73 rfl 1 rfl ?_
      obtain ⟨x74, c74, h⟩ := bdS h
      refine x_aI F c74 dX10_band_74 ?_
      obtain ⟨rfl, rfl⟩ := retS h
      exact x_iretX F hr hl dX10_band_75
    rw [if_neg c22_1] at h
    by_cases c22_2 : v2 = 2
    · rw [if_pos c22_2] at h
      refine x_tableIn F (off := 54) (tgt := 76) dX10_band_22 (by rw [c22_2]; decide) (by rw [c22_2]; decide) (by rw [c22_2]; decide) (by decide) ?_
      refine x_aload_n F dX10_band_76 rfl 0 rfl ?_
      obtain ⟨x77, c77, h⟩ := bdS h
      refine x_getR F (ci := 10) (C := RX10) (T := TX10) (N := 19) rfl ⟨by decide, rfl⟩ inU10 3 (by decide) (fun _ _ _ => rfl) wl_622 c77 dX10_band_77 ?_
      obtain ⟨x80, c80, h⟩ := bdS h
      refine x_getR F (ci := 0) (C := RX0) (T := TX0) (N := 12) rfl ⟨by decide, rfl⟩ inU0 3 (by decide) (fun _ _ _ => rfl) wl_701 c80 dX10_band_80 ?_
      refine x_iload_n F dX10_band_83 rfl 1 rfl ?_
      obtain ⟨x84, c84, h⟩ := bdS h
      refine x_aI F c84 dX10_band_84 ?_
      obtain ⟨rfl, rfl⟩ := retS h
      exact x_iretX F hr hl dX10_band_85
    rw [if_neg c22_2] at h
    by_cases c22_3 : v2 = 3
    · rw [if_pos c22_3] at h
      refine x_tableIn F (off := 64) (tgt := 86) dX10_band_22 (by rw [c22_3]; decide) (by rw [c22_3]; decide) (by rw [c22_3]; decide) (by decide) ?_
      refine x_aload_n F dX10_band_86 rfl 0 rfl ?_
      obtain ⟨x87, c87, h⟩ := bdS h
      refine x_getR F (ci := 10) (C := RX10) (T := TX10) (N := 19) rfl ⟨by decide, rfl⟩ inU10 3 (by decide) (fun _ _ _ => rfl) wl_622 c87 dX10_band_87 ?_
      obtain ⟨x90, c90, h⟩ := bdS h
      refine x_getR F (ci := 0) (C := RX0) (T := TX0) (N := 12) rfl ⟨by decide, rfl⟩ inU0 4 (by decide) (fun _ _ _ => rfl) wl_702 c90 dX10_band_90 ?_
      refine x_iload_n F dX10_band_93 rfl 1 rfl ?_
      obtain ⟨x94, c94, h⟩ := bdS h
      refine x_aI F c94 dX10_band_94 ?_
      obtain ⟨rfl, rfl⟩ := retS h
      exact x_iretX F hr hl dX10_band_95
    rw [if_neg c22_3] at h
    by_cases c22_4 : v2 = 4
    · rw [if_pos c22_4] at h
      refine x_tableIn F (off := 74) (tgt := 96) dX10_band_22 (by rw [c22_4]; decide) (by rw [c22_4]; decide) (by rw [c22_4]; decide) (by decide) ?_
      refine x_aload_n F dX10_band_96 rfl 0 rfl ?_
      obtain ⟨x97, c97, h⟩ := bdS h
      refine x_getR F (ci := 10) (C := RX10) (T := TX10) (N := 19) rfl ⟨by decide, rfl⟩ inU10 3 (by decide) (fun _ _ _ => rfl) wl_622 c97 dX10_band_97 ?_
      refine x_iload_n F dX10_band_100 rfl 1 rfl ?_
      obtain ⟨k101, h⟩ := gdS h
      obtain ⟨⟨x101, M101⟩, c101, h⟩ := bdS h
      dsimp only at h
      refine x_callV F (As := [.int v1]) (rest := []) (res := (some (.int x101))) (ci := 0) (q := (RX0, TX0, 12)) rfl (by decide) k101 (k_X0_lawsReadIn l b D cy N x97 v1 M5 _ _ c101) wl_704 wl_89 wl_90 wl_52 wl_86 hd_X0_lawsReadIn ⟨Nat.le_of_ble_eq_true rfl, Nat.le_of_ble_eq_true rfl⟩ ⟨Nat.zero_le _, Nat.zero_le _⟩ (Nat.le_of_ble_eq_true rfl) rfl dX10_band_101 ?_
      obtain ⟨rfl, rfl⟩ := retS h
      exact x_iretX F hr hl dX10_band_104
    rw [if_neg c22_4] at h
    refine x_tableOut F (tgt := 105) dX10_band_22 (by have q0 := sw_ne (t := 0) c22_0 (by decide); have q1 := sw_ne (t := 1) c22_1 (by decide); have q2 := sw_ne (t := 2) c22_2 (by decide); have q3 := sw_ne (t := 3) c22_3 (by decide); have q4 := sw_ne (t := 4) c22_4 (by decide); omega) (by decide) ?_
    obtain ⟨cz, h⟩ := gdS h
    obtain ⟨rfl, rfl⟩ := retS h
    exact x_throwX F hlt hno hl (is := 169) (by simp [msgs]; rfl) rfl cz dX10_band_105 dX10_band_108 dX10_band_109 dX10_band_111 dX10_band_114 (Nat.le_of_ble_eq_true rfl) (Nat.le_of_ble_eq_true rfl) (Nat.le_of_ble_eq_true rfl) (Nat.le_of_ble_eq_true rfl)
  · rw [if_pos c8] at h
    obtain ⟨cz, h⟩ := gdS h
    obtain ⟨rfl, rfl⟩ := retS h
    exact x_throwX F hlt hno hl (is := 148) (by simp [msgs]; rfl) rfl cz dX10_band_11 dX10_band_14 dX10_band_15 dX10_band_17 dX10_band_20 (Nat.le_of_ble_eq_true rfl) (Nat.le_of_ble_eq_true rfl) (Nat.le_of_ble_eq_true rfl) (Nat.le_of_ble_eq_true rfl)
theorem hd_X8_strokesOf : (yX8_strokesOf).cls = RX8 ∧ (yX8_strokesOf).cls ≠ "java/lang/invoke/MethodHandle" ∧ (yX8_strokesOf).cls ≠ "java/lang/invoke/VarHandle" ∧ (parseMethodDescriptor (yX8_strokesOf).desc).map (fun d => d.parameters.length) = some 1 := by decide +kernel
theorem dX10_law_0 : decode cX10_law 0 = .ok (.aload_n 0, 1) := by decide +kernel
theorem dX10_law_1 : decode cX10_law 1 = .ok (.getfield 19, 3) := by decide +kernel
theorem dX10_law_4 : decode cX10_law 4 = .ok (.iload_n 1, 1) := by decide +kernel
theorem dX10_law_5 : decode cX10_law 5 = .ok (.invokevirtual 185, 3) := by decide +kernel
theorem dX10_law_8 : decode cX10_law 8 = .ok (.ifCond .ne 13, 3) := by decide +kernel
theorem dX10_law_11 : decode cX10_law 11 = .ok (.new 146, 3) := by decide +kernel
theorem dX10_law_14 : decode cX10_law 14 = .ok (.dup, 1) := by decide +kernel
theorem dX10_law_15 : decode cX10_law 15 = .ok (.ldc 188, 2) := by decide +kernel
theorem dX10_law_17 : decode cX10_law 17 = .ok (.invokespecial 150, 3) := by decide +kernel
theorem dX10_law_20 : decode cX10_law 20 = .ok (.athrow, 1) := by decide +kernel
theorem dX10_law_21 : decode cX10_law 21 = .ok (.iload_n 2, 1) := by decide +kernel
theorem dX10_law_22 : decode cX10_law 22 = .ok (.tableswitch 89 0 4 #[34, 44, 54, 71, 80], 34) := by decide +kernel
theorem dX10_law_56 : decode cX10_law 56 = .ok (.aload_n 0, 1) := by decide +kernel
theorem dX10_law_57 : decode cX10_law 57 = .ok (.getfield 19, 3) := by decide +kernel
theorem dX10_law_60 : decode cX10_law 60 = .ok (.getfield 190, 3) := by decide +kernel
theorem dX10_law_63 : decode cX10_law 63 = .ok (.iload_n 1, 1) := by decide +kernel
theorem dX10_law_64 : decode cX10_law 64 = .ok (.iaload, 1) := by decide +kernel
theorem dX10_law_65 : decode cX10_law 65 = .ok (.ireturn, 1) := by decide +kernel
theorem dX10_law_66 : decode cX10_law 66 = .ok (.aload_n 0, 1) := by decide +kernel
theorem dX10_law_67 : decode cX10_law 67 = .ok (.getfield 31, 3) := by decide +kernel
theorem dX10_law_70 : decode cX10_law 70 = .ok (.getfield 193, 3) := by decide +kernel
theorem dX10_law_73 : decode cX10_law 73 = .ok (.iload_n 1, 1) := by decide +kernel
theorem dX10_law_74 : decode cX10_law 74 = .ok (.iaload, 1) := by decide +kernel
theorem dX10_law_75 : decode cX10_law 75 = .ok (.ireturn, 1) := by decide +kernel
theorem dX10_law_76 : decode cX10_law 76 = .ok (.aload_n 0, 1) := by decide +kernel
theorem dX10_law_77 : decode cX10_law 77 = .ok (.getfield 31, 3) := by decide +kernel
theorem dX10_law_80 : decode cX10_law 80 = .ok (.iload_n 1, 1) := by decide +kernel
theorem dX10_law_81 : decode cX10_law 81 = .ok (.invokevirtual 196, 3) := by decide +kernel
theorem dX10_law_84 : decode cX10_law 84 = .ok (.ifCond .eq 7, 3) := by decide +kernel
theorem dX10_law_87 : decode cX10_law 87 = .ok (.iconst 1, 1) := by decide +kernel
theorem dX10_law_88 : decode cX10_law 88 = .ok (.goto 4, 3) := by decide +kernel
theorem dX10_law_91 : decode cX10_law 91 = .ok (.iconst 0, 1) := by decide +kernel
theorem dX10_law_92 : decode cX10_law 92 = .ok (.ireturn, 1) := by decide +kernel
theorem dX10_law_93 : decode cX10_law 93 = .ok (.aload_n 0, 1) := by decide +kernel
theorem dX10_law_94 : decode cX10_law 94 = .ok (.getfield 31, 3) := by decide +kernel
theorem dX10_law_97 : decode cX10_law 97 = .ok (.iload_n 1, 1) := by decide +kernel
theorem dX10_law_98 : decode cX10_law 98 = .ok (.invokevirtual 199, 3) := by decide +kernel
theorem dX10_law_101 : decode cX10_law 101 = .ok (.ireturn, 1) := by decide +kernel
theorem dX10_law_102 : decode cX10_law 102 = .ok (.aload_n 0, 1) := by decide +kernel
theorem dX10_law_103 : decode cX10_law 103 = .ok (.getfield 19, 3) := by decide +kernel
theorem dX10_law_106 : decode cX10_law 106 = .ok (.iload_n 1, 1) := by decide +kernel
theorem dX10_law_107 : decode cX10_law 107 = .ok (.invokevirtual 202, 3) := by decide +kernel
theorem dX10_law_110 : decode cX10_law 110 = .ok (.ireturn, 1) := by decide +kernel
theorem dX10_law_111 : decode cX10_law 111 = .ok (.new 146, 3) := by decide +kernel
theorem dX10_law_114 : decode cX10_law 114 = .ok (.dup, 1) := by decide +kernel
theorem dX10_law_115 : decode cX10_law 115 = .ok (.ldc 205, 2) := by decide +kernel
theorem dX10_law_117 : decode cX10_law 117 = .ok (.invokespecial 150, 3) := by decide +kernel
theorem dX10_law_120 : decode cX10_law 120 = .ok (.athrow, 1) := by decide +kernel
def fX10_law (N : Nat) (v0 : Nat) (v1 : Int32) (v2 : Int32) (M : Mem) : Option (Option Int32 × Mem) := ((fR M 10 v0 1).bind fun x1 => (if mK M x1 = 9 then ((fX8_hasLaw N x1 v1 M).bind fun (x5, M5) => (if x5 = 0 then (if mZ M5 = 0 then some (none, M5) else none) else (if v2 = 0 then ((fR M5 10 v0 1).bind fun x57 => ((fR M5 8 x57 12).bind fun x60 => ((aI M5 x60 v1).bind fun x64 => some (some x64, M5)))) else (if v2 = 1 then ((fR M5 10 v0 3).bind fun x67 => ((fR M5 0 x67 5).bind fun x70 => ((aI M5 x70 v1).bind fun x74 => some (some x74, M5)))) else (if v2 = 2 then ((fR M5 10 v0 3).bind fun x77 => (if mK M5 x77 = 1 then ((fX0_hasLapsed N x77 v1 M5).bind fun (x81, M81) => (if x81 = 0 then some (some 0, M81) else some (some 1, M81))) else none)) else (if v2 = 3 then ((fR M5 10 v0 3).bind fun x94 => (if mK M5 x94 = 1 then ((fX0_firstBandOf N x94 v1 M5).bind fun (x98, M98) => some (some x98, M98)) else none)) else (if v2 = 4 then ((fR M5 10 v0 1).bind fun x103 => (if mK M5 x103 = 9 then ((fX8_strokesOf N x103 v1 M5).bind fun (x107, M107) => some (some x107, M107)) else none)) else (if mZ M5 = 0 then some (none, M5) else none)))))))) else none))
set_option maxHeartbeats 4000000 in
set_option maxRecDepth 100000 in
theorem kx_X10_law (l : Launch) (hlt : l.stackTraces = false) (b : Nat) (D : va_G) (cy : Nat → ClassId) (N : Nat) (v0 : Nat) (v1 : Int32) (v2 : Int32) (M : Mem) (r : Option Int32) (Mf : Mem) (h : fX10_law N v0 v1 v2 M = some (r, Mf)) : CtX l yX10_law cX10_law 3 (some .int) 8 b D cy [.ref (b + v0), .int v1, .int v2] M r Mf := by
  refine CtX_of (own := RX10) (by decide) rfl (Nat.le_of_ble_eq_true rfl) ?_
  intro p e s m args below meth c F hr hl hno
  unfold fX10_law at h
  show X p l e ({ frames := 8, cells := 1, slots := 6, locals := 100 * 8 }) s m args below meth c (vx_MQ below (QX b D cy r Mf) (XCX b D cy r Mf) args s 1 6 (fun q => b ≤ q)) 3 b D cy 0 0 M 0 [(0, .ref (b + v0)), (1, .int v1), (2, .int v2)] []
  refine x_aload_n F dX10_law_0 rfl 0 rfl ?_
  obtain ⟨x1, c1, h⟩ := bdS h
  refine x_getR F (ci := 10) (C := RX10) (T := TX10) (N := 19) rfl ⟨by decide, rfl⟩ inU10 1 (by decide) (fun _ _ _ => rfl) wl_619 c1 dX10_law_1 ?_
  refine x_iload_n F dX10_law_4 rfl 1 rfl ?_
  obtain ⟨k5, h⟩ := gdS h
  obtain ⟨⟨x5, M5⟩, c5, h⟩ := bdS h
  dsimp only at h
  refine x_callV F (As := [.int v1]) (rest := []) (res := (some (.int x5))) (ci := 8) (q := (RX8, TX8, 17)) rfl (by decide) k5 (k_X8_hasLaw l b D cy N x1 v1 M _ _ c5) wl_714 wl_465 wl_466 wl_75 wl_456 hd_X8_hasLaw ⟨Nat.le_of_ble_eq_true rfl, Nat.le_of_ble_eq_true rfl⟩ ⟨Nat.zero_le _, Nat.zero_le _⟩ (Nat.le_of_ble_eq_true rfl) rfl dX10_law_5 ?_
  refine x_if_ne F (tgt := 21) dX10_law_8 (by decide) (fun c8 => ?_) (fun c8 => ?_)
  · rw [if_neg c8] at h
    refine x_iload_n F dX10_law_21 rfl 2 rfl ?_
    by_cases c22_0 : v2 = 0
    · rw [if_pos c22_0] at h
      refine x_tableIn F (off := 34) (tgt := 56) dX10_law_22 (by rw [c22_0]; decide) (by rw [c22_0]; decide) (by rw [c22_0]; decide) (by decide) ?_
      refine x_aload_n F dX10_law_56 rfl 0 rfl ?_
      obtain ⟨x57, c57, h⟩ := bdS h
      refine x_getR F (ci := 10) (C := RX10) (T := TX10) (N := 19) rfl ⟨by decide, rfl⟩ inU10 1 (by decide) (fun _ _ _ => rfl) wl_619 c57 dX10_law_57 ?_
      obtain ⟨x60, c60, h⟩ := bdS h
      refine x_getR F (ci := 8) (C := RX8) (T := TX8) (N := 17) rfl ⟨by decide, rfl⟩ inU8 12 (by decide) (fun _ _ _ => rfl) wl_712 c60 dX10_law_60 ?_
      refine x_iload_n F dX10_law_63 rfl 1 rfl ?_
      obtain ⟨x64, c64, h⟩ := bdS h
      refine x_aI F c64 dX10_law_64 ?_
      obtain ⟨rfl, rfl⟩ := retS h
      exact x_iretX F hr hl dX10_law_65
    rw [if_neg c22_0] at h
    by_cases c22_1 : v2 = 1
    · rw [if_pos c22_1] at h
      refine x_tableIn F (off := 44) (tgt := 66) dX10_law_22 (by rw [c22_1]; decide) (by rw [c22_1]; decide) (by rw [c22_1]; decide) (by decide) ?_
      refine x_aload_n F dX10_law_66 rfl 0 rfl ?_
      obtain ⟨x67, c67, h⟩ := bdS h
      refine x_getR F (ci := 10) (C := RX10) (T := TX10) (N := 19) rfl ⟨by decide, rfl⟩ inU10 3 (by decide) (fun _ _ _ => rfl) wl_622 c67 dX10_law_67 ?_
      obtain ⟨x70, c70, h⟩ := bdS h
      refine x_getR F (ci := 0) (C := RX0) (T := TX0) (N := 12) rfl ⟨by decide, rfl⟩ inU0 5 (by decide) (fun _ _ _ => rfl) wl_713 c70 dX10_law_70 ?_
      refine x_iload_n F dX10_law_73 rfl 1 rfl ?_
      obtain ⟨x74, c74, h⟩ := bdS h
      refine x_aI F c74 dX10_law_74 ?_
      obtain ⟨rfl, rfl⟩ := retS h
      exact x_iretX F hr hl dX10_law_75
    rw [if_neg c22_1] at h
    by_cases c22_2 : v2 = 2
    · rw [if_pos c22_2] at h
      refine x_tableIn F (off := 54) (tgt := 76) dX10_law_22 (by rw [c22_2]; decide) (by rw [c22_2]; decide) (by rw [c22_2]; decide) (by decide) ?_
      refine x_aload_n F dX10_law_76 rfl 0 rfl ?_
      obtain ⟨x77, c77, h⟩ := bdS h
      refine x_getR F (ci := 10) (C := RX10) (T := TX10) (N := 19) rfl ⟨by decide, rfl⟩ inU10 3 (by decide) (fun _ _ _ => rfl) wl_622 c77 dX10_law_77 ?_
      refine x_iload_n F dX10_law_80 rfl 1 rfl ?_
      obtain ⟨k81, h⟩ := gdS h
      obtain ⟨⟨x81, M81⟩, c81, h⟩ := bdS h
      dsimp only at h
      refine x_callV F (As := [.int v1]) (rest := []) (res := (some (.int x81))) (ci := 0) (q := (RX0, TX0, 12)) rfl (by decide) k81 (k_X0_hasLapsed l b D cy N x77 v1 M5 _ _ c81) wl_715 wl_80 wl_81 wl_52 wl_53 hd_X0_hasLapsed ⟨Nat.le_of_ble_eq_true rfl, Nat.le_of_ble_eq_true rfl⟩ ⟨Nat.zero_le _, Nat.zero_le _⟩ (Nat.le_of_ble_eq_true rfl) rfl dX10_law_81 ?_
      refine x_if_eq F (tgt := 91) dX10_law_84 (by decide) (fun c84 => ?_) (fun c84 => ?_)
      · rw [if_pos c84] at h
        refine x_iconst F (v := 0) dX10_law_91 (by decide) ?_
        obtain ⟨rfl, rfl⟩ := retS h
        exact x_iretX F hr hl dX10_law_92
      · rw [if_neg c84] at h
        refine x_iconst F (v := 1) dX10_law_87 (by decide) ?_
        refine x_goto F (tgt := 92) dX10_law_88 (by decide) ?_
        obtain ⟨rfl, rfl⟩ := retS h
        exact x_iretX F hr hl dX10_law_92
    rw [if_neg c22_2] at h
    by_cases c22_3 : v2 = 3
    · rw [if_pos c22_3] at h
      refine x_tableIn F (off := 71) (tgt := 93) dX10_law_22 (by rw [c22_3]; decide) (by rw [c22_3]; decide) (by rw [c22_3]; decide) (by decide) ?_
      refine x_aload_n F dX10_law_93 rfl 0 rfl ?_
      obtain ⟨x94, c94, h⟩ := bdS h
      refine x_getR F (ci := 10) (C := RX10) (T := TX10) (N := 19) rfl ⟨by decide, rfl⟩ inU10 3 (by decide) (fun _ _ _ => rfl) wl_622 c94 dX10_law_94 ?_
      refine x_iload_n F dX10_law_97 rfl 1 rfl ?_
      obtain ⟨k98, h⟩ := gdS h
      obtain ⟨⟨x98, M98⟩, c98, h⟩ := bdS h
      dsimp only at h
      refine x_callV F (As := [.int v1]) (rest := []) (res := (some (.int x98))) (ci := 0) (q := (RX0, TX0, 12)) rfl (by decide) k98 (k_X0_firstBandOf l b D cy N x94 v1 M5 _ _ c98) wl_716 wl_68 wl_69 wl_52 wl_62 hd_X0_firstBandOf ⟨Nat.le_of_ble_eq_true rfl, Nat.le_of_ble_eq_true rfl⟩ ⟨Nat.zero_le _, Nat.zero_le _⟩ (Nat.le_of_ble_eq_true rfl) rfl dX10_law_98 ?_
      obtain ⟨rfl, rfl⟩ := retS h
      exact x_iretX F hr hl dX10_law_101
    rw [if_neg c22_3] at h
    by_cases c22_4 : v2 = 4
    · rw [if_pos c22_4] at h
      refine x_tableIn F (off := 80) (tgt := 102) dX10_law_22 (by rw [c22_4]; decide) (by rw [c22_4]; decide) (by rw [c22_4]; decide) (by decide) ?_
      refine x_aload_n F dX10_law_102 rfl 0 rfl ?_
      obtain ⟨x103, c103, h⟩ := bdS h
      refine x_getR F (ci := 10) (C := RX10) (T := TX10) (N := 19) rfl ⟨by decide, rfl⟩ inU10 1 (by decide) (fun _ _ _ => rfl) wl_619 c103 dX10_law_103 ?_
      refine x_iload_n F dX10_law_106 rfl 1 rfl ?_
      obtain ⟨k107, h⟩ := gdS h
      obtain ⟨⟨x107, M107⟩, c107, h⟩ := bdS h
      dsimp only at h
      refine x_callV F (As := [.int v1]) (rest := []) (res := (some (.int x107))) (ci := 8) (q := (RX8, TX8, 17)) rfl (by decide) k107 (k_X8_strokesOf l b D cy N x103 v1 M5 _ _ c107) wl_717 wl_718 wl_719 wl_75 wl_554 hd_X8_strokesOf ⟨Nat.le_of_ble_eq_true rfl, Nat.le_of_ble_eq_true rfl⟩ ⟨Nat.zero_le _, Nat.zero_le _⟩ (Nat.le_of_ble_eq_true rfl) rfl dX10_law_107 ?_
      obtain ⟨rfl, rfl⟩ := retS h
      exact x_iretX F hr hl dX10_law_110
    rw [if_neg c22_4] at h
    refine x_tableOut F (tgt := 111) dX10_law_22 (by have q0 := sw_ne (t := 0) c22_0 (by decide); have q1 := sw_ne (t := 1) c22_1 (by decide); have q2 := sw_ne (t := 2) c22_2 (by decide); have q3 := sw_ne (t := 3) c22_3 (by decide); have q4 := sw_ne (t := 4) c22_4 (by decide); omega) (by decide) ?_
    obtain ⟨cz, h⟩ := gdS h
    obtain ⟨rfl, rfl⟩ := retS h
    exact x_throwX F hlt hno hl (is := 205) (by simp [msgs]; rfl) rfl cz dX10_law_111 dX10_law_114 dX10_law_115 dX10_law_117 dX10_law_120 (Nat.le_of_ble_eq_true rfl) (Nat.le_of_ble_eq_true rfl) (Nat.le_of_ble_eq_true rfl) (Nat.le_of_ble_eq_true rfl)
  · rw [if_pos c8] at h
    obtain ⟨cz, h⟩ := gdS h
    obtain ⟨rfl, rfl⟩ := retS h
    exact x_throwX F hlt hno hl (is := 188) (by simp [msgs]; rfl) rfl cz dX10_law_11 dX10_law_14 dX10_law_15 dX10_law_17 dX10_law_20 (Nat.le_of_ble_eq_true rfl) (Nat.le_of_ble_eq_true rfl) (Nat.le_of_ble_eq_true rfl) (Nat.le_of_ble_eq_true rfl)
