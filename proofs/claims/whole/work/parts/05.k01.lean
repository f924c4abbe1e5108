theorem sw_ne {x k : Int32} {t : Int} (h : ¬ x = k) (hk : k.toInt = t) : x.toInt ≠ t := fun e => h (Int32.toInt_inj.mp (e.trans hk.symm))
theorem dJ7_fill_53178_0 : decode cJ7_fill_53178 0 = .ok (.iconst 0, 1) := by decide +kernel
theorem dJ7_fill_53178_1 : decode cJ7_fill_53178 1 = .ok (.istore_n 2, 1) := by decide +kernel
theorem dJ7_fill_53178_2 : decode cJ7_fill_53178 2 = .ok (.aload_n 0, 1) := by decide +kernel
theorem dJ7_fill_53178_3 : decode cJ7_fill_53178 3 = .ok (.arraylength, 1) := by decide +kernel
theorem dJ7_fill_53178_4 : decode cJ7_fill_53178 4 = .ok (.istore_n 3, 1) := by decide +kernel
theorem dJ7_fill_53178_5 : decode cJ7_fill_53178 5 = .ok (.iload_n 2, 1) := by decide +kernel
theorem dJ7_fill_53178_6 : decode cJ7_fill_53178 6 = .ok (.iload_n 3, 1) := by decide +kernel
theorem dJ7_fill_53178_7 : decode cJ7_fill_53178 7 = .ok (.if_icmp .ge 13, 3) := by decide +kernel
theorem dJ7_fill_53178_10 : decode cJ7_fill_53178 10 = .ok (.aload_n 0, 1) := by decide +kernel
theorem dJ7_fill_53178_11 : decode cJ7_fill_53178 11 = .ok (.iload_n 2, 1) := by decide +kernel
theorem dJ7_fill_53178_12 : decode cJ7_fill_53178 12 = .ok (.iload_n 1, 1) := by decide +kernel
theorem dJ7_fill_53178_13 : decode cJ7_fill_53178 13 = .ok (.iastore, 1) := by decide +kernel
theorem dJ7_fill_53178_14 : decode cJ7_fill_53178 14 = .ok (.iinc 2 1, 3) := by decide +kernel
theorem dJ7_fill_53178_17 : decode cJ7_fill_53178 17 = .ok (.goto (-12), 3) := by decide +kernel
theorem dJ7_fill_53178_20 : decode cJ7_fill_53178 20 = .ok (.return_, 1) := by decide +kernel
def fJ7_fill_53178_L5 (N : Nat) (v0 : Nat) (v1 : Int32) (v3 : Int32) : Nat → Int32 → Mem → Option (Mem)
  | 0, _, _ => none
  | n + 1, v2, M => (if v3 ≤ v2 then some M else ((tI M v0 v2 v1).bind fun M13 => fJ7_fill_53178_L5 N v0 v1 v3 n (v2 + 1) M13))
def fJ7_fill_53178 (N : Nat) (v0 : Nat) (v1 : Int32) (M : Mem) : Option (Unit × Mem) := ((nA M v0).bind fun x3 => ((fJ7_fill_53178_L5 N v0 v1 x3 N 0 M).bind fun o5 => some ((), o5)))
set_option maxHeartbeats 4000000 in
set_option maxRecDepth 100000 in
theorem k_J7_fill_53178 (l : Launch) (b : Nat) (D : va_G) (cy : Nat → ClassId) (N : Nat) (v0 : Nat) (v1 : Int32) (M : Mem) (r : Unit) (Mf : Mem) (h : fJ7_fill_53178 N v0 v1 M = some (r, Mf)) : Ct l yJ7_fill_53178 cJ7_fill_53178 4 none 1 0 0 b D cy [.ref (b + v0), .int v1] M none Mf := by
  refine Ct_of (own := RJ7) (by decide) rfl (Nat.le_of_ble_eq_true rfl) ?_
  intro p e s m args below meth c F hr hl hmn
  unfold fJ7_fill_53178 at h
  show X p l e ({ frames := 1, cells := 0, slots := 0, locals := 100 * 1 }) s m args below meth c (MQ below (Qm b D cy none Mf) args s 0 0 (fun q => b ≤ q)) 4 b D cy 0 0 M 0 [(0, .ref (b + v0)), (1, .int v1)] []
  refine x_iconst F (v := 0) dJ7_fill_53178_0 (by decide) ?_
  refine x_istore_n F (lv' := [(2, .int 0), (0, .ref (b + v0)), (1, .int v1)]) dJ7_fill_53178_1 rfl (by decide) rfl ?_
  refine x_aload_n F dJ7_fill_53178_2 rfl 1 rfl ?_
  obtain ⟨x3, c3, h⟩ := bdS h
  refine x_nA F c3 dJ7_fill_53178_3 ?_
  refine x_istore_n F (lv' := [(3, .int x3), (2, .int 0), (0, .ref (b + v0)), (1, .int v1)]) dJ7_fill_53178_4 rfl (by decide) rfl ?_
  have L5 : ∀ (v0 : Nat) (v1 : Int32) (v3 : Int32) (n : Nat) (v2 : Int32) (M : Mem) (o : Mem), fJ7_fill_53178_L5 N v0 v1 v3 n v2 M = some o → X p l e ({ frames := 1, cells := 0, slots := 0, locals := 100 * 1 }) s m args below meth c (MQ below (Qm b D cy none Mf) args s 0 0 (fun q => b ≤ q)) 4 b D cy 0 0 o 20 [] [] → X p l e ({ frames := 1, cells := 0, slots := 0, locals := 100 * 1 }) s m args below meth c (MQ below (Qm b D cy none Mf) args s 0 0 (fun q => b ≤ q)) 4 b D cy 0 0 M 5 [(0, .ref (b + v0)), (1, .int v1), (2, .int v2), (3, .int v3)] [] := by
    intro v0 v1 v3 n
    induction n with
    | zero => intro v2 M o h; exact absurd h (by rw [fJ7_fill_53178_L5]; exact fun z => by cases z)
    | succ n ih =>
      intro v2 M o h hE
      rw [fJ7_fill_53178_L5] at h
      refine x_iload_n F dJ7_fill_53178_5 rfl 2 rfl ?_
      refine x_iload_n F dJ7_fill_53178_6 rfl 3 rfl ?_
      refine x_icmp_ge F (tgt := 20) dJ7_fill_53178_7 (by decide) (fun c7 => ?_) (fun c7 => ?_)
      · rw [if_pos c7] at h
        obtain rfl := Option.some.inj h
        refine x_sub [] rfl ?_
        exact hE
      · rw [if_neg c7] at h
        refine x_aload_n F dJ7_fill_53178_10 rfl 0 rfl ?_
        refine x_iload_n F dJ7_fill_53178_11 rfl 2 rfl ?_
        refine x_iload_n F dJ7_fill_53178_12 rfl 1 rfl ?_
        obtain ⟨M13, c13, h⟩ := bdS h
        refine x_tI F c13 dJ7_fill_53178_13 ?_
        refine x_iinc F (v := v2 + 1) (lv' := [(2, .int (v2 + 1)), (0, .ref (b + v0)), (1, .int v1), (3, .int v3)]) dJ7_fill_53178_14 2 rfl rfl (by decide) rfl ?_
        refine x_goto F (tgt := 5) dJ7_fill_53178_17 (by decide) ?_
        refine x_sub [1, 2, 0, 3] rfl ?_
        exact ih (v2 + 1) M13 o h hE
  obtain ⟨o5, h5, h⟩ := bdS h
  refine x_sub [2, 3, 1, 0] rfl ?_
  refine L5 v0 v1 x3 N 0 M o5 h5 ?_
  obtain ⟨rfl, rfl⟩ := retS h
  exact x_vret F hr hl dJ7_fill_53178_20
theorem hd_J7_fill_53178 : (yJ7_fill_53178).cls = RJ7 ∧ (yJ7_fill_53178).cls ≠ "java/lang/invoke/MethodHandle" ∧ (yJ7_fill_53178).cls ≠ "java/lang/invoke/VarHandle" ∧ (parseMethodDescriptor (yJ7_fill_53178).desc).map (fun d => d.parameters.length) = some 2 := by decide +kernel
theorem dX0_clear_0 : decode cX0_clear 0 = .ok (.aload_n 0, 1) := by decide +kernel
theorem dX0_clear_1 : decode cX0_clear 1 = .ok (.getfield 11, 3) := by decide +kernel
theorem dX0_clear_4 : decode cX0_clear 4 = .ok (.iconst (-1), 1) := by decide +kernel
theorem dX0_clear_5 : decode cX0_clear 5 = .ok (.invokestatic 50, 3) := by decide +kernel
theorem dX0_clear_8 : decode cX0_clear 8 = .ok (.aload_n 0, 1) := by decide +kernel
theorem dX0_clear_9 : decode cX0_clear 9 = .ok (.getfield 15, 3) := by decide +kernel
theorem dX0_clear_12 : decode cX0_clear 12 = .ok (.iconst (-1), 1) := by decide +kernel
theorem dX0_clear_13 : decode cX0_clear 13 = .ok (.invokestatic 50, 3) := by decide +kernel
theorem dX0_clear_16 : decode cX0_clear 16 = .ok (.aload_n 0, 1) := by decide +kernel
theorem dX0_clear_17 : decode cX0_clear 17 = .ok (.getfield 18, 3) := by decide +kernel
theorem dX0_clear_20 : decode cX0_clear 20 = .ok (.iconst 0, 1) := by decide +kernel
theorem dX0_clear_21 : decode cX0_clear 21 = .ok (.invokestatic 50, 3) := by decide +kernel
theorem dX0_clear_24 : decode cX0_clear 24 = .ok (.aload_n 0, 1) := by decide +kernel
theorem dX0_clear_25 : decode cX0_clear 25 = .ok (.getfield 21, 3) := by decide +kernel
theorem dX0_clear_28 : decode cX0_clear 28 = .ok (.iconst 0, 1) := by decide +kernel
theorem dX0_clear_29 : decode cX0_clear 29 = .ok (.invokestatic 50, 3) := by decide +kernel
theorem dX0_clear_32 : decode cX0_clear 32 = .ok (.aload_n 0, 1) := by decide +kernel
theorem dX0_clear_33 : decode cX0_clear 33 = .ok (.getfield 24, 3) := by decide +kernel
theorem dX0_clear_36 : decode cX0_clear 36 = .ok (.iconst 0, 1) := by decide +kernel
theorem dX0_clear_37 : decode cX0_clear 37 = .ok (.invokestatic 50, 3) := by decide +kernel
theorem dX0_clear_40 : decode cX0_clear 40 = .ok (.aload_n 0, 1) := by decide +kernel
theorem dX0_clear_41 : decode cX0_clear 41 = .ok (.getfield 27, 3) := by decide +kernel
theorem dX0_clear_44 : decode cX0_clear 44 = .ok (.iconst 0, 1) := by decide +kernel
theorem dX0_clear_45 : decode cX0_clear 45 = .ok (.invokestatic 50, 3) := by decide +kernel
theorem dX0_clear_48 : decode cX0_clear 48 = .ok (.aload_n 0, 1) := by decide +kernel
theorem dX0_clear_49 : decode cX0_clear 49 = .ok (.iconst 0, 1) := by decide +kernel
theorem dX0_clear_50 : decode cX0_clear 50 = .ok (.putfield 33, 3) := by decide +kernel
theorem dX0_clear_53 : decode cX0_clear 53 = .ok (.aload_n 0, 1) := by decide +kernel
theorem dX0_clear_54 : decode cX0_clear 54 = .ok (.iconst 0, 1) := by decide +kernel
theorem dX0_clear_55 : decode cX0_clear 55 = .ok (.putfield 37, 3) := by decide +kernel
theorem dX0_clear_58 : decode cX0_clear 58 = .ok (.aload_n 0, 1) := by decide +kernel
theorem dX0_clear_59 : decode cX0_clear 59 = .ok (.iconst 0, 1) := by decide +kernel
theorem dX0_clear_60 : decode cX0_clear 60 = .ok (.putfield 40, 3) := by decide +kernel
theorem dX0_clear_63 : decode cX0_clear 63 = .ok (.aload_n 0, 1) := by decide +kernel
theorem dX0_clear_64 : decode cX0_clear 64 = .ok (.iconst 0, 1) := by decide +kernel
theorem dX0_clear_65 : decode cX0_clear 65 = .ok (.putfield 43, 3) := by decide +kernel
theorem dX0_clear_68 : decode cX0_clear 68 = .ok (.return_, 1) := by decide +kernel
def fX0_clear (N : Nat) (v0 : Nat) (M : Mem) : Option (Unit × Mem) := ((fR M 0 v0 1).bind fun x1 => ((fJ7_fill_53178 N x1 ((-1)) M).bind fun (u5, M5) => ((fR M5 0 v0 2).bind fun x9 => ((fJ7_fill_53178 N x9 ((-1)) M5).bind fun (u13, M13) => ((fR M13 0 v0 3).bind fun x17 => ((fJ7_fill_53178 N x17 0 M13).bind fun (u21, M21) => ((fR M21 0 v0 4).bind fun x25 => ((fJ7_fill_53178 N x25 0 M21).bind fun (u29, M29) => ((fR M29 0 v0 5).bind fun x33 => ((fJ7_fill_53178 N x33 0 M29).bind fun (u37, M37) => ((fR M37 0 v0 6).bind fun x41 => ((fJ7_fill_53178 N x41 0 M37).bind fun (u45, M45) => ((pI M45 0 v0 8 0).bind fun M50 => ((pI M50 0 v0 9 0).bind fun M55 => ((pI M55 0 v0 10 0).bind fun M60 => ((pI M60 0 v0 11 0).bind fun M65 => some ((), M65)))))))))))))))))
set_option maxHeartbeats 4000000 in
set_option maxRecDepth 100000 in
theorem k_X0_clear (l : Launch) (b : Nat) (D : va_G) (cy : Nat → ClassId) (N : Nat) (v0 : Nat) (M : Mem) (r : Unit) (Mf : Mem) (h : fX0_clear N v0 M = some (r, Mf)) : Ct l yX0_clear cX0_clear 1 none 2 0 0 b D cy [.ref (b + v0)] M none Mf := by
  refine Ct_of (own := RX0) (by decide) rfl (Nat.le_of_ble_eq_true rfl) ?_
  intro p e s m args below meth c F hr hl hmn
  unfold fX0_clear at h
  show X p l e ({ frames := 2, cells := 0, slots := 0, locals := 100 * 2 }) s m args below meth c (MQ below (Qm b D cy none Mf) args s 0 0 (fun q => b ≤ q)) 1 b D cy 0 0 M 0 [(0, .ref (b + v0))] []
  refine x_aload_n F dX0_clear_0 rfl 0 rfl ?_
  obtain ⟨x1, c1, h⟩ := bdS h
  refine x_getR F (ci := 0) (C := RX0) (T := TX0) (N := 12) rfl ⟨by decide, rfl⟩ inU0 1 (by decide) (fun _ _ _ => rfl) wl_6 c1 dX0_clear_1 ?_
  refine x_iconst F (v := (-1)) dX0_clear_4 (by decide) ?_
  obtain ⟨⟨u5, M5⟩, c5, h⟩ := bdS h
  dsimp only at h
  refine x_callS F (As := [.ref (b + x1), .int ((-1))]) (rest := []) (res := none) (k_J7_fill_53178 l b D cy N x1 ((-1)) M _ _ c5) wl_18 wl_19 wl_20 wl_0 (hd_J7_fill_53178).2 ⟨Nat.le_of_ble_eq_true rfl, Nat.le_of_ble_eq_true rfl⟩ ⟨Nat.le_refl _, Nat.le_refl _⟩ (Nat.le_of_ble_eq_true rfl) rfl dX0_clear_5 ?_
  refine x_aload_n F dX0_clear_8 rfl 0 rfl ?_
  obtain ⟨x9, c9, h⟩ := bdS h
  refine x_getR F (ci := 0) (C := RX0) (T := TX0) (N := 12) rfl ⟨by decide, rfl⟩ inU0 2 (by decide) (fun _ _ _ => rfl) wl_7 c9 dX0_clear_9 ?_
  refine x_iconst F (v := (-1)) dX0_clear_12 (by decide) ?_
  obtain ⟨⟨u13, M13⟩, c13, h⟩ := bdS h
  dsimp only at h
  refine x_callS F (As := [.ref (b + x9), .int ((-1))]) (rest := []) (res := none) (k_J7_fill_53178 l b D cy N x9 ((-1)) M5 _ _ c13) wl_18 wl_19 wl_20 wl_0 (hd_J7_fill_53178).2 ⟨Nat.le_of_ble_eq_true rfl, Nat.le_of_ble_eq_true rfl⟩ ⟨Nat.le_refl _, Nat.le_refl _⟩ (Nat.le_of_ble_eq_true rfl) rfl dX0_clear_13 ?_
  refine x_aload_n F dX0_clear_16 rfl 0 rfl ?_
  obtain ⟨x17, c17, h⟩ := bdS h
  refine x_getR F (ci := 0) (C := RX0) (T := TX0) (N := 12) rfl ⟨by decide, rfl⟩ inU0 3 (by decide) (fun _ _ _ => rfl) wl_8 c17 dX0_clear_17 ?_
  refine x_iconst F (v := 0) dX0_clear_20 (by decide) ?_
  obtain ⟨⟨u21, M21⟩, c21, h⟩ := bdS h
  dsimp only at h
  refine x_callS F (As := [.ref (b + x17), .int 0]) (rest := []) (res := none) (k_J7_fill_53178 l b D cy N x17 0 M13 _ _ c21) wl_18 wl_19 wl_20 wl_0 (hd_J7_fill_53178).2 ⟨Nat.le_of_ble_eq_true rfl, Nat.le_of_ble_eq_true rfl⟩ ⟨Nat.le_refl _, Nat.le_refl _⟩ (Nat.le_of_ble_eq_true rfl) rfl dX0_clear_21 ?_
  refine x_aload_n F dX0_clear_24 rfl 0 rfl ?_
  obtain ⟨x25, c25, h⟩ := bdS h
  refine x_getR F (ci := 0) (C := RX0) (T := TX0) (N := 12) rfl ⟨by decide, rfl⟩ inU0 4 (by decide) (fun _ _ _ => rfl) wl_9 c25 dX0_clear_25 ?_
  refine x_iconst F (v := 0) dX0_clear_28 (by decide) ?_
  obtain ⟨⟨u29, M29⟩, c29, h⟩ := bdS h
  dsimp only at h
  refine x_callS F (As := [.ref (b + x25), .int 0]) (rest := []) (res := none) (k_J7_fill_53178 l b D cy N x25 0 M21 _ _ c29) wl_18 wl_19 wl_20 wl_0 (hd_J7_fill_53178).2 ⟨Nat.le_of_ble_eq_true rfl, Nat.le_of_ble_eq_true rfl⟩ ⟨Nat.le_refl _, Nat.le_refl _⟩ (Nat.le_of_ble_eq_true rfl) rfl dX0_clear_29 ?_
  refine x_aload_n F dX0_clear_32 rfl 0 rfl ?_
  obtain ⟨x33, c33, h⟩ := bdS h
  refine x_getR F (ci := 0) (C := RX0) (T := TX0) (N := 12) rfl ⟨by decide, rfl⟩ inU0 5 (by decide) (fun _ _ _ => rfl) wl_10 c33 dX0_clear_33 ?_
  refine x_iconst F (v := 0) dX0_clear_36 (by decide) ?_
  obtain ⟨⟨u37, M37⟩, c37, h⟩ := bdS h
  dsimp only at h
  refine x_callS F (As := [.ref (b + x33), .int 0]) (rest := []) (res := none) (k_J7_fill_53178 l b D cy N x33 0 M29 _ _ c37) wl_18 wl_19 wl_20 wl_0 (hd_J7_fill_53178).2 ⟨Nat.le_of_ble_eq_true rfl, Nat.le_of_ble_eq_true rfl⟩ ⟨Nat.le_refl _, Nat.le_refl _⟩ (Nat.le_of_ble_eq_true rfl) rfl dX0_clear_37 ?_
  refine x_aload_n F dX0_clear_40 rfl 0 rfl ?_
  obtain ⟨x41, c41, h⟩ := bdS h
  refine x_getR F (ci := 0) (C := RX0) (T := TX0) (N := 12) rfl ⟨by decide, rfl⟩ inU0 6 (by decide) (fun _ _ _ => rfl) wl_11 c41 dX0_clear_41 ?_
  refine x_iconst F (v := 0) dX0_clear_44 (by decide) ?_
  obtain ⟨⟨u45, M45⟩, c45, h⟩ := bdS h
  dsimp only at h
  refine x_callS F (As := [.ref (b + x41), .int 0]) (rest := []) (res := none) (k_J7_fill_53178 l b D cy N x41 0 M37 _ _ c45) wl_18 wl_19 wl_20 wl_0 (hd_J7_fill_53178).2 ⟨Nat.le_of_ble_eq_true rfl, Nat.le_of_ble_eq_true rfl⟩ ⟨Nat.le_refl _, Nat.le_refl _⟩ (Nat.le_of_ble_eq_true rfl) rfl dX0_clear_45 ?_
  refine x_aload_n F dX0_clear_48 rfl 0 rfl ?_
  refine x_iconst F (v := 0) dX0_clear_49 (by decide) ?_
  obtain ⟨M50, c50, h⟩ := bdS h
  refine x_putI F (ci := 0) (C := RX0) (T := TX0) (N := 12) rfl ⟨by decide, rfl⟩ inU0 tyX0_ok nmX0 8 (by decide) rfl rfl wl_13 c50 dX0_clear_50 ?_
  refine x_aload_n F dX0_clear_53 rfl 0 rfl ?_
  refine x_iconst F (v := 0) dX0_clear_54 (by decide) ?_
  obtain ⟨M55, c55, h⟩ := bdS h
  refine x_putI F (ci := 0) (C := RX0) (T := TX0) (N := 12) rfl ⟨by decide, rfl⟩ inU0 tyX0_ok nmX0 9 (by decide) rfl rfl wl_14 c55 dX0_clear_55 ?_
  refine x_aload_n F dX0_clear_58 rfl 0 rfl ?_
  refine x_iconst F (v := 0) dX0_clear_59 (by decide) ?_
  obtain ⟨M60, c60, h⟩ := bdS h
  refine x_putI F (ci := 0) (C := RX0) (T := TX0) (N := 12) rfl ⟨by decide, rfl⟩ inU0 tyX0_ok nmX0 10 (by decide) rfl rfl wl_15 c60 dX0_clear_60 ?_
  refine x_aload_n F dX0_clear_63 rfl 0 rfl ?_
  refine x_iconst F (v := 0) dX0_clear_64 (by decide) ?_
  obtain ⟨M65, c65, h⟩ := bdS h
  refine x_putI F (ci := 0) (C := RX0) (T := TX0) (N := 12) rfl ⟨by decide, rfl⟩ inU0 tyX0_ok nmX0 11 (by decide) rfl rfl wl_16 c65 dX0_clear_65 ?_
  obtain ⟨rfl, rfl⟩ := retS h
  exact x_vret F hr hl dX0_clear_68
theorem dX0_copyFrom_0 : decode cX0_copyFrom 0 = .ok (.aload_n 1, 1) := by decide +kernel
theorem dX0_copyFrom_1 : decode cX0_copyFrom 1 = .ok (.getfield 11, 3) := by decide +kernel
theorem dX0_copyFrom_4 : decode cX0_copyFrom 4 = .ok (.iconst 0, 1) := by decide +kernel
theorem dX0_copyFrom_5 : decode cX0_copyFrom 5 = .ok (.aload_n 0, 1) := by decide +kernel
theorem dX0_copyFrom_6 : decode cX0_copyFrom 6 = .ok (.getfield 11, 3) := by decide +kernel
theorem dX0_copyFrom_9 : decode cX0_copyFrom 9 = .ok (.iconst 0, 1) := by decide +kernel
theorem dX0_copyFrom_10 : decode cX0_copyFrom 10 = .ok (.bipush 72, 2) := by decide +kernel
theorem dX0_copyFrom_12 : decode cX0_copyFrom 12 = .ok (.invokestatic 56, 3) := by decide +kernel
theorem dX0_copyFrom_15 : decode cX0_copyFrom 15 = .ok (.aload_n 1, 1) := by decide +kernel
theorem dX0_copyFrom_16 : decode cX0_copyFrom 16 = .ok (.getfield 15, 3) := by decide +kernel
theorem dX0_copyFrom_19 : decode cX0_copyFrom 19 = .ok (.iconst 0, 1) := by decide +kernel
theorem dX0_copyFrom_20 : decode cX0_copyFrom 20 = .ok (.aload_n 0, 1) := by decide +kernel
theorem dX0_copyFrom_21 : decode cX0_copyFrom 21 = .ok (.getfield 15, 3) := by decide +kernel
theorem dX0_copyFrom_24 : decode cX0_copyFrom 24 = .ok (.iconst 0, 1) := by decide +kernel
theorem dX0_copyFrom_25 : decode cX0_copyFrom 25 = .ok (.bipush 72, 2) := by decide +kernel
theorem dX0_copyFrom_27 : decode cX0_copyFrom 27 = .ok (.invokestatic 56, 3) := by decide +kernel
theorem dX0_copyFrom_30 : decode cX0_copyFrom 30 = .ok (.aload_n 1, 1) := by decide +kernel
theorem dX0_copyFrom_31 : decode cX0_copyFrom 31 = .ok (.getfield 18, 3) := by decide +kernel
theorem dX0_copyFrom_34 : decode cX0_copyFrom 34 = .ok (.iconst 0, 1) := by decide +kernel
theorem dX0_copyFrom_35 : decode cX0_copyFrom 35 = .ok (.aload_n 0, 1) := by decide +kernel
theorem dX0_copyFrom_36 : decode cX0_copyFrom 36 = .ok (.getfield 18, 3) := by decide +kernel
theorem dX0_copyFrom_39 : decode cX0_copyFrom 39 = .ok (.iconst 0, 1) := by decide +kernel
theorem dX0_copyFrom_40 : decode cX0_copyFrom 40 = .ok (.bipush 6, 2) := by decide +kernel
theorem dX0_copyFrom_42 : decode cX0_copyFrom 42 = .ok (.invokestatic 56, 3) := by decide +kernel
theorem dX0_copyFrom_45 : decode cX0_copyFrom 45 = .ok (.aload_n 1, 1) := by decide +kernel
theorem dX0_copyFrom_46 : decode cX0_copyFrom 46 = .ok (.getfield 21, 3) := by decide +kernel
theorem dX0_copyFrom_49 : decode cX0_copyFrom 49 = .ok (.iconst 0, 1) := by decide +kernel
theorem dX0_copyFrom_50 : decode cX0_copyFrom 50 = .ok (.aload_n 0, 1) := by decide +kernel
theorem dX0_copyFrom_51 : decode cX0_copyFrom 51 = .ok (.getfield 21, 3) := by decide +kernel
theorem dX0_copyFrom_54 : decode cX0_copyFrom 54 = .ok (.iconst 0, 1) := by decide +kernel
theorem dX0_copyFrom_55 : decode cX0_copyFrom 55 = .ok (.bipush 6, 2) := by decide +kernel
theorem dX0_copyFrom_57 : decode cX0_copyFrom 57 = .ok (.invokestatic 56, 3) := by decide +kernel
theorem dX0_copyFrom_60 : decode cX0_copyFrom 60 = .ok (.aload_n 1, 1) := by decide +kernel
theorem dX0_copyFrom_61 : decode cX0_copyFrom 61 = .ok (.getfield 24, 3) := by decide +kernel
theorem dX0_copyFrom_64 : decode cX0_copyFrom 64 = .ok (.iconst 0, 1) := by decide +kernel
theorem dX0_copyFrom_65 : decode cX0_copyFrom 65 = .ok (.aload_n 0, 1) := by decide +kernel
theorem dX0_copyFrom_66 : decode cX0_copyFrom 66 = .ok (.getfield 24, 3) := by decide +kernel
theorem dX0_copyFrom_69 : decode cX0_copyFrom 69 = .ok (.iconst 0, 1) := by decide +kernel
theorem dX0_copyFrom_70 : decode cX0_copyFrom 70 = .ok (.bipush 6, 2) := by decide +kernel
theorem dX0_copyFrom_72 : decode cX0_copyFrom 72 = .ok (.invokestatic 56, 3) := by decide +kernel
theorem dX0_copyFrom_75 : decode cX0_copyFrom 75 = .ok (.aload_n 1, 1) := by decide +kernel
theorem dX0_copyFrom_76 : decode cX0_copyFrom 76 = .ok (.getfield 27, 3) := by decide +kernel
theorem dX0_copyFrom_79 : decode cX0_copyFrom 79 = .ok (.iconst 0, 1) := by decide +kernel
theorem dX0_copyFrom_80 : decode cX0_copyFrom 80 = .ok (.aload_n 0, 1) := by decide +kernel
theorem dX0_copyFrom_81 : decode cX0_copyFrom 81 = .ok (.getfield 27, 3) := by decide +kernel
theorem dX0_copyFrom_84 : decode cX0_copyFrom 84 = .ok (.iconst 0, 1) := by decide +kernel
theorem dX0_copyFrom_85 : decode cX0_copyFrom 85 = .ok (.iconst 4, 1) := by decide +kernel
theorem dX0_copyFrom_86 : decode cX0_copyFrom 86 = .ok (.invokestatic 56, 3) := by decide +kernel
theorem dX0_copyFrom_89 : decode cX0_copyFrom 89 = .ok (.aload_n 0, 1) := by decide +kernel
theorem dX0_copyFrom_90 : decode cX0_copyFrom 90 = .ok (.aload_n 1, 1) := by decide +kernel
theorem dX0_copyFrom_91 : decode cX0_copyFrom 91 = .ok (.getfield 33, 3) := by decide +kernel
theorem dX0_copyFrom_94 : decode cX0_copyFrom 94 = .ok (.putfield 33, 3) := by decide +kernel
theorem dX0_copyFrom_97 : decode cX0_copyFrom 97 = .ok (.aload_n 0, 1) := by decide +kernel
theorem dX0_copyFrom_98 : decode cX0_copyFrom 98 = .ok (.aload_n 1, 1) := by decide +kernel
theorem dX0_copyFrom_99 : decode cX0_copyFrom 99 = .ok (.getfield 37, 3) := by decide +kernel
theorem dX0_copyFrom_102 : decode cX0_copyFrom 102 = .ok (.putfield 37, 3) := by decide +kernel
theorem dX0_copyFrom_105 : decode cX0_copyFrom 105 = .ok (.aload_n 0, 1) := by decide +kernel
theorem dX0_copyFrom_106 : decode cX0_copyFrom 106 = .ok (.aload_n 1, 1) := by decide +kernel
theorem dX0_copyFrom_107 : decode cX0_copyFrom 107 = .ok (.getfield 40, 3) := by decide +kernel
theorem dX0_copyFrom_110 : decode cX0_copyFrom 110 = .ok (.putfield 40, 3) := by decide +kernel
theorem dX0_copyFrom_113 : decode cX0_copyFrom 113 = .ok (.aload_n 0, 1) := by decide +kernel
theorem dX0_copyFrom_114 : decode cX0_copyFrom 114 = .ok (.aload_n 1, 1) := by decide +kernel
theorem dX0_copyFrom_115 : decode cX0_copyFrom 115 = .ok (.getfield 43, 3) := by decide +kernel
theorem dX0_copyFrom_118 : decode cX0_copyFrom 118 = .ok (.putfield 43, 3) := by decide +kernel
theorem dX0_copyFrom_121 : decode cX0_copyFrom 121 = .ok (.return_, 1) := by decide +kernel
def fX0_copyFrom (N : Nat) (v0 : Nat) (v1 : Nat) (M : Mem) : Option (Unit × Mem) := ((fR M 0 v1 1).bind fun x1 => ((fR M 0 v0 1).bind fun x6 => ((cI M x1 0 x6 0 72).bind fun M12 => ((fR M12 0 v1 2).bind fun x16 => ((fR M12 0 v0 2).bind fun x21 => ((cI M12 x16 0 x21 0 72).bind fun M27 => ((fR M27 0 v1 3).bind fun x31 => ((fR M27 0 v0 3).bind fun x36 => ((cI M27 x31 0 x36 0 6).bind fun M42 => ((fR M42 0 v1 4).bind fun x46 => ((fR M42 0 v0 4).bind fun x51 => ((cI M42 x46 0 x51 0 6).bind fun M57 => ((fR M57 0 v1 5).bind fun x61 => ((fR M57 0 v0 5).bind fun x66 => ((cI M57 x61 0 x66 0 6).bind fun M72 => ((fR M72 0 v1 6).bind fun x76 => ((fR M72 0 v0 6).bind fun x81 => ((cI M72 x76 0 x81 0 4).bind fun M86 => ((fI M86 0 v1 8).bind fun x91 => ((pI M86 0 v0 8 x91).bind fun M94 => ((fI M94 0 v1 9).bind fun x99 => ((pI M94 0 v0 9 x99).bind fun M102 => ((fI M102 0 v1 10).bind fun x107 => ((pI M102 0 v0 10 x107).bind fun M110 => ((fI M110 0 v1 11).bind fun x115 => ((pI M110 0 v0 11 x115).bind fun M118 => some ((), M118)))))))))))))))))))))))))))
set_option maxHeartbeats 4000000 in
set_option maxRecDepth 100000 in
theorem k_X0_copyFrom (l : Launch) (b : Nat) (D : va_G) (cy : Nat → ClassId) (N : Nat) (v0 : Nat) (v1 : Nat) (M : Mem) (r : Unit) (Mf : Mem) (h : fX0_copyFrom N v0 v1 M = some (r, Mf)) : Ct l yX0_copyFrom cX0_copyFrom 2 none 1 0 0 b D cy [.ref (b + v0), .ref (b + v1)] M none Mf := by
  refine Ct_of (own := RX0) (by decide) rfl (Nat.le_of_ble_eq_true rfl) ?_
  intro p e s m args below meth c F hr hl hmn
  unfold fX0_copyFrom at h
  show X p l e ({ frames := 1, cells := 0, slots := 0, locals := 100 * 1 }) s m args below meth c (MQ below (Qm b D cy none Mf) args s 0 0 (fun q => b ≤ q)) 2 b D cy 0 0 M 0 [(0, .ref (b + v0)), (1, .ref (b + v1))] []
  refine x_aload_n F dX0_copyFrom_0 rfl 1 rfl ?_
  obtain ⟨x1, c1, h⟩ := bdS h
  refine x_getR F (ci := 0) (C := RX0) (T := TX0) (N := 12) rfl ⟨by decide, rfl⟩ inU0 1 (by decide) (fun _ _ _ => rfl) wl_6 c1 dX0_copyFrom_1 ?_
  refine x_iconst F (v := 0) dX0_copyFrom_4 (by decide) ?_
  refine x_aload_n F dX0_copyFrom_5 rfl 0 rfl ?_
  obtain ⟨x6, c6, h⟩ := bdS h
  refine x_getR F (ci := 0) (C := RX0) (T := TX0) (N := 12) rfl ⟨by decide, rfl⟩ inU0 1 (by decide) (fun _ _ _ => rfl) wl_6 c6 dX0_copyFrom_6 ?_
  refine x_iconst F (v := 0) dX0_copyFrom_9 (by decide) ?_
  refine x_bipush F (v := 72) dX0_copyFrom_10 (by decide) ?_
  obtain ⟨M12, c12, h⟩ := bdS h
  refine x_cI F wl_23 wl_24 wl_25 wl_26 (Nat.le_of_ble_eq_true rfl) (by decide +kernel) c12 dX0_copyFrom_12 ?_
  refine x_aload_n F dX0_copyFrom_15 rfl 1 rfl ?_
  obtain ⟨x16, c16, h⟩ := bdS h
  refine x_getR F (ci := 0) (C := RX0) (T := TX0) (N := 12) rfl ⟨by decide, rfl⟩ inU0 2 (by decide) (fun _ _ _ => rfl) wl_7 c16 dX0_copyFrom_16 ?_
  refine x_iconst F (v := 0) dX0_copyFrom_19 (by decide) ?_
  refine x_aload_n F dX0_copyFrom_20 rfl 0 rfl ?_
  obtain ⟨x21, c21, h⟩ := bdS h
  refine x_getR F (ci := 0) (C := RX0) (T := TX0) (N := 12) rfl ⟨by decide, rfl⟩ inU0 2 (by decide) (fun _ _ _ => rfl) wl_7 c21 dX0_copyFrom_21 ?_
  refine x_iconst F (v := 0) dX0_copyFrom_24 (by decide) ?_
  refine x_bipush F (v := 72) dX0_copyFrom_25 (by decide) ?_
  obtain ⟨M27, c27, h⟩ := bdS h
  refine x_cI F wl_23 wl_24 wl_25 wl_26 (Nat.le_of_ble_eq_true rfl) (by decide +kernel) c27 dX0_copyFrom_27 ?_
  refine x_aload_n F dX0_copyFrom_30 rfl 1 rfl ?_
  obtain ⟨x31, c31, h⟩ := bdS h
  refine x_getR F (ci := 0) (C := RX0) (T := TX0) (N := 12) rfl ⟨by decide, rfl⟩ inU0 3 (by decide) (fun _ _ _ => rfl) wl_8 c31 dX0_copyFrom_31 ?_
  refine x_iconst F (v := 0) dX0_copyFrom_34 (by decide) ?_
  refine x_aload_n F dX0_copyFrom_35 rfl 0 rfl ?_
  obtain ⟨x36, c36, h⟩ := bdS h
  refine x_getR F (ci := 0) (C := RX0) (T := TX0) (N := 12) rfl ⟨by decide, rfl⟩ inU0 3 (by decide) (fun _ _ _ => rfl) wl_8 c36 dX0_copyFrom_36 ?_
  refine x_iconst F (v := 0) dX0_copyFrom_39 (by decide) ?_
  refine x_bipush F (v := 6) dX0_copyFrom_40 (by decide) ?_
  obtain ⟨M42, c42, h⟩ := bdS h
  refine x_cI F wl_23 wl_24 wl_25 wl_26 (Nat.le_of_ble_eq_true rfl) (by decide +kernel) c42 dX0_copyFrom_42 ?_
  refine x_aload_n F dX0_copyFrom_45 rfl 1 rfl ?_
  obtain ⟨x46, c46, h⟩ := bdS h
  refine x_getR F (ci := 0) (C := RX0) (T := TX0) (N := 12) rfl ⟨by decide, rfl⟩ inU0 4 (by decide) (fun _ _ _ => rfl) wl_9 c46 dX0_copyFrom_46 ?_
  refine x_iconst F (v := 0) dX0_copyFrom_49 (by decide) ?_
  refine x_aload_n F dX0_copyFrom_50 rfl 0 rfl ?_
  obtain ⟨x51, c51, h⟩ := bdS h
  refine x_getR F (ci := 0) (C := RX0) (T := TX0) (N := 12) rfl ⟨by decide, rfl⟩ inU0 4 (by decide) (fun _ _ _ => rfl) wl_9 c51 dX0_copyFrom_51 ?_
  refine x_iconst F (v := 0) dX0_copyFrom_54 (by decide) ?_
  refine x_bipush F (v := 6) dX0_copyFrom_55 (by decide) ?_
  obtain ⟨M57, c57, h⟩ := bdS h
  refine x_cI F wl_23 wl_24 wl_25 wl_26 (Nat.le_of_ble_eq_true rfl) (by decide +kernel) c57 dX0_copyFrom_57 ?_
  refine x_aload_n F dX0_copyFrom_60 rfl 1 rfl ?_
  obtain ⟨x61, c61, h⟩ := bdS h
  refine x_getR F (ci := 0) (C := RX0) (T := TX0) (N := 12) rfl ⟨by decide, rfl⟩ inU0 5 (by decide) (fun _ _ _ => rfl) wl_10 c61 dX0_copyFrom_61 ?_
  refine x_iconst F (v := 0) dX0_copyFrom_64 (by decide) ?_
  refine x_aload_n F dX0_copyFrom_65 rfl 0 rfl ?_
  obtain ⟨x66, c66, h⟩ := bdS h
  refine x_getR F (ci := 0) (C := RX0) (T := TX0) (N := 12) rfl ⟨by decide, rfl⟩ inU0 5 (by decide) (fun _ _ _ => rfl) wl_10 c66 dX0_copyFrom_66 ?_
  refine x_iconst F (v := 0) dX0_copyFrom_69 (by decide) ?_
  refine x_bipush F (v := 6) dX0_copyFrom_70 (by decide) ?_
  obtain ⟨M72, c72, h⟩ := bdS h
  refine x_cI F wl_23 wl_24 wl_25 wl_26 (Nat.le_of_ble_eq_true rfl) (by decide +kernel) c72 dX0_copyFrom_72 ?_
  refine x_aload_n F dX0_copyFrom_75 rfl 1 rfl ?_
  obtain ⟨x76, c76, h⟩ := bdS h
  refine x_getR F (ci := 0) (C := RX0) (T := TX0) (N := 12) rfl ⟨by decide, rfl⟩ inU0 6 (by decide) (fun _ _ _ => rfl) wl_11 c76 dX0_copyFrom_76 ?_
  refine x_iconst F (v := 0) dX0_copyFrom_79 (by decide) ?_
  refine x_aload_n F dX0_copyFrom_80 rfl 0 rfl ?_
  obtain ⟨x81, c81, h⟩ := bdS h
  refine x_getR F (ci := 0) (C := RX0) (T := TX0) (N := 12) rfl ⟨by decide, rfl⟩ inU0 6 (by decide) (fun _ _ _ => rfl) wl_11 c81 dX0_copyFrom_81 ?_
  refine x_iconst F (v := 0) dX0_copyFrom_84 (by decide) ?_
  refine x_iconst F (v := 4) dX0_copyFrom_85 (by decide) ?_
  obtain ⟨M86, c86, h⟩ := bdS h
  refine x_cI F wl_23 wl_24 wl_25 wl_26 (Nat.le_of_ble_eq_true rfl) (by decide +kernel) c86 dX0_copyFrom_86 ?_
  refine x_aload_n F dX0_copyFrom_89 rfl 0 rfl ?_
  refine x_aload_n F dX0_copyFrom_90 rfl 1 rfl ?_
  obtain ⟨x91, c91, h⟩ := bdS h
  refine x_getI F (ci := 0) (C := RX0) (T := TX0) (N := 12) rfl ⟨by decide, rfl⟩ inU0 8 (by decide) (fun _ _ _ => rfl) wl_13 c91 dX0_copyFrom_91 ?_
  obtain ⟨M94, c94, h⟩ := bdS h
  refine x_putI F (ci := 0) (C := RX0) (T := TX0) (N := 12) rfl ⟨by decide, rfl⟩ inU0 tyX0_ok nmX0 8 (by decide) rfl rfl wl_13 c94 dX0_copyFrom_94 ?_
  refine x_aload_n F dX0_copyFrom_97 rfl 0 rfl ?_
  refine x_aload_n F dX0_copyFrom_98 rfl 1 rfl ?_
  obtain ⟨x99, c99, h⟩ := bdS h
  refine x_getI F (ci := 0) (C := RX0) (T := TX0) (N := 12) rfl ⟨by decide, rfl⟩ inU0 9 (by decide) (fun _ _ _ => rfl) wl_14 c99 dX0_copyFrom_99 ?_
  obtain ⟨M102, c102, h⟩ := bdS h
  refine x_putI F (ci := 0) (C := RX0) (T := TX0) (N := 12) rfl ⟨by decide, rfl⟩ inU0 tyX0_ok nmX0 9 (by decide) rfl rfl wl_14 c102 dX0_copyFrom_102 ?_
  refine x_aload_n F dX0_copyFrom_105 rfl 0 rfl ?_
  refine x_aload_n F dX0_copyFrom_106 rfl 1 rfl ?_
  obtain ⟨x107, c107, h⟩ := bdS h
  refine x_getI F (ci := 0) (C := RX0) (T := TX0) (N := 12) rfl ⟨by decide, rfl⟩ inU0 10 (by decide) (fun _ _ _ => rfl) wl_15 c107 dX0_copyFrom_107 ?_
  obtain ⟨M110, c110, h⟩ := bdS h
  refine x_putI F (ci := 0) (C := RX0) (T := TX0) (N := 12) rfl ⟨by decide, rfl⟩ inU0 tyX0_ok nmX0 10 (by decide) rfl rfl wl_15 c110 dX0_copyFrom_110 ?_
  refine x_aload_n F dX0_copyFrom_113 rfl 0 rfl ?_
  refine x_aload_n F dX0_copyFrom_114 rfl 1 rfl ?_
  obtain ⟨x115, c115, h⟩ := bdS h
  refine x_getI F (ci := 0) (C := RX0) (T := TX0) (N := 12) rfl ⟨by decide, rfl⟩ inU0 11 (by decide) (fun _ _ _ => rfl) wl_16 c115 dX0_copyFrom_115 ?_
  obtain ⟨M118, c118, h⟩ := bdS h
  refine x_putI F (ci := 0) (C := RX0) (T := TX0) (N := 12) rfl ⟨by decide, rfl⟩ inU0 tyX0_ok nmX0 11 (by decide) rfl rfl wl_16 c118 dX0_copyFrom_118 ?_
  obtain ⟨rfl, rfl⟩ := retS h
  exact x_vret F hr hl dX0_copyFrom_121
theorem dX10_placeIndex_0 : decode cX10_placeIndex 0 = .ok (.iload_n 0, 1) := by decide +kernel
theorem dX10_placeIndex_1 : decode cX10_placeIndex 1 = .ok (.bipush 12, 2) := by decide +kernel
theorem dX10_placeIndex_3 : decode cX10_placeIndex 3 = .ok (.imul, 1) := by decide +kernel
theorem dX10_placeIndex_4 : decode cX10_placeIndex 4 = .ok (.iload_n 1, 1) := by decide +kernel
theorem dX10_placeIndex_5 : decode cX10_placeIndex 5 = .ok (.iadd, 1) := by decide +kernel
theorem dX10_placeIndex_6 : decode cX10_placeIndex 6 = .ok (.ireturn, 1) := by decide +kernel
def fX10_placeIndex (N : Nat) (v0 : Int32) (v1 : Int32) (M : Mem) : Option (Int32 × Mem) := some ((v0 * 12) + v1, M)
set_option maxHeartbeats 4000000 in
set_option maxRecDepth 100000 in
theorem k_X10_placeIndex (l : Launch) (b : Nat) (D : va_G) (cy : Nat → ClassId) (N : Nat) (v0 : Int32) (v1 : Int32) (M : Mem) (r : Int32) (Mf : Mem) (h : fX10_placeIndex N v0 v1 M = some (r, Mf)) : Ct l yX10_placeIndex cX10_placeIndex 2 (some .int) 1 0 0 b D cy [.int v0, .int v1] M (some (.int r)) Mf := by
  refine Ct_of (own := RX10) (by decide) rfl (Nat.le_of_ble_eq_true rfl) ?_
  intro p e s m args below meth c F hr hl hmn
  unfold fX10_placeIndex at h
  show X p l e ({ frames := 1, cells := 0, slots := 0, locals := 100 * 1 }) s m args below meth c (MQ below (Qm b D cy (some (.int r)) Mf) args s 0 0 (fun q => b ≤ q)) 2 b D cy 0 0 M 0 [(0, .int v0), (1, .int v1)] []
  refine x_iload_n F dX10_placeIndex_0 rfl 0 rfl ?_
  refine x_bipush F (v := 12) dX10_placeIndex_1 (by decide) ?_
  refine x_imul F dX10_placeIndex_3 ?_
  refine x_iload_n F dX10_placeIndex_4 rfl 1 rfl ?_
  refine x_iadd F dX10_placeIndex_5 ?_
  obtain ⟨rfl, rfl⟩ := retS h
  exact x_iret F hr hl dX10_placeIndex_6
theorem hd_X10_placeIndex : (yX10_placeIndex).cls = RX10 ∧ (yX10_placeIndex).cls ≠ "java/lang/invoke/MethodHandle" ∧ (yX10_placeIndex).cls ≠ "java/lang/invoke/VarHandle" ∧ (parseMethodDescriptor (yX10_placeIndex).desc).map (fun d => d.parameters.length) = some 2 := by decide +kernel
theorem dX0_whyNotWrite_0 : decode cX0_whyNotWrite 0 = .ok (.aload_n 0, 1) := by decide +kernel
theorem dX0_whyNotWrite_1 : decode cX0_whyNotWrite 1 = .ok (.getfield 27, 3) := by decide +kernel
theorem dX0_whyNotWrite_4 : decode cX0_whyNotWrite 4 = .ok (.iload_n 1, 1) := by decide +kernel
theorem dX0_whyNotWrite_5 : decode cX0_whyNotWrite 5 = .ok (.iaload, 1) := by decide +kernel
theorem dX0_whyNotWrite_6 : decode cX0_whyNotWrite 6 = .ok (.aload_n 0, 1) := by decide +kernel
theorem dX0_whyNotWrite_7 : decode cX0_whyNotWrite 7 = .ok (.getfield 46, 3) := by decide +kernel
theorem dX0_whyNotWrite_10 : decode cX0_whyNotWrite 10 = .ok (.getfield 62, 3) := by decide +kernel
theorem dX0_whyNotWrite_13 : decode cX0_whyNotWrite 13 = .ok (.iload_n 1, 1) := by decide +kernel
theorem dX0_whyNotWrite_14 : decode cX0_whyNotWrite 14 = .ok (.iaload, 1) := by decide +kernel
theorem dX0_whyNotWrite_15 : decode cX0_whyNotWrite 15 = .ok (.if_icmp .lt 5, 3) := by decide +kernel
theorem dX0_whyNotWrite_18 : decode cX0_whyNotWrite 18 = .ok (.iconst 1, 1) := by decide +kernel
theorem dX0_whyNotWrite_19 : decode cX0_whyNotWrite 19 = .ok (.ireturn, 1) := by decide +kernel
theorem dX0_whyNotWrite_20 : decode cX0_whyNotWrite 20 = .ok (.aload_n 0, 1) := by decide +kernel
theorem dX0_whyNotWrite_21 : decode cX0_whyNotWrite 21 = .ok (.getfield 11, 3) := by decide +kernel
theorem dX0_whyNotWrite_24 : decode cX0_whyNotWrite 24 = .ok (.iload_n 2, 1) := by decide +kernel
theorem dX0_whyNotWrite_25 : decode cX0_whyNotWrite 25 = .ok (.iload_n 3, 1) := by decide +kernel
theorem dX0_whyNotWrite_26 : decode cX0_whyNotWrite 26 = .ok (.invokestatic 67, 3) := by decide +kernel
theorem dX0_whyNotWrite_29 : decode cX0_whyNotWrite 29 = .ok (.iaload, 1) := by decide +kernel
theorem dX0_whyNotWrite_30 : decode cX0_whyNotWrite 30 = .ok (.iconst (-1), 1) := by decide +kernel
theorem dX0_whyNotWrite_31 : decode cX0_whyNotWrite 31 = .ok (.if_icmp .eq 7, 3) := by decide +kernel
theorem dX0_whyNotWrite_34 : decode cX0_whyNotWrite 34 = .ok (.iconst 2, 1) := by decide +kernel
theorem dX0_whyNotWrite_35 : decode cX0_whyNotWrite 35 = .ok (.goto 4, 3) := by decide +kernel
theorem dX0_whyNotWrite_38 : decode cX0_whyNotWrite 38 = .ok (.iconst 0, 1) := by decide +kernel
theorem dX0_whyNotWrite_39 : decode cX0_whyNotWrite 39 = .ok (.ireturn, 1) := by decide +kernel
def fX0_whyNotWrite (N : Nat) (v0 : Nat) (v1 : Int32) (v2 : Int32) (v3 : Int32) (M : Mem) : Option (Int32 × Mem) := ((fR M 0 v0 6).bind fun x1 => ((aI M x1 v1).bind fun x5 => ((fR M 0 v0 0).bind fun x7 => ((fR M 8 x7 8).bind fun x10 => ((aI M x10 v1).bind fun x14 => (if x5 < x14 then ((fR M 0 v0 1).bind fun x21 => ((fX10_placeIndex N v2 v3 M).bind fun (x26, M26) => ((aI M26 x21 x26).bind fun x29 => (if x29 = ((-1)) then some (0, M26) else some (2, M26))))) else some (1, M)))))))
set_option maxHeartbeats 4000000 in
set_option maxRecDepth 100000 in
theorem k_X0_whyNotWrite (l : Launch) (b : Nat) (D : va_G) (cy : Nat → ClassId) (N : Nat) (v0 : Nat) (v1 : Int32) (v2 : Int32) (v3 : Int32) (M : Mem) (r : Int32) (Mf : Mem) (h : fX0_whyNotWrite N v0 v1 v2 v3 M = some (r, Mf)) : Ct l yX0_whyNotWrite cX0_whyNotWrite 4 (some .int) 2 0 0 b D cy [.ref (b + v0), .int v1, .int v2, .int v3] M (some (.int r)) Mf := by
  refine Ct_of (own := RX0) (by decide) rfl (Nat.le_of_ble_eq_true rfl) ?_
  intro p e s m args below meth c F hr hl hmn
  unfold fX0_whyNotWrite at h
  show X p l e ({ frames := 2, cells := 0, slots := 0, locals := 100 * 2 }) s m args below meth c (MQ below (Qm b D cy (some (.int r)) Mf) args s 0 0 (fun q => b ≤ q)) 4 b D cy 0 0 M 0 [(0, .ref (b + v0)), (1, .int v1), (2, .int v2), (3, .int v3)] []
  refine x_aload_n F dX0_whyNotWrite_0 rfl 0 rfl ?_
  obtain ⟨x1, c1, h⟩ := bdS h
  refine x_getR F (ci := 0) (C := RX0) (T := TX0) (N := 12) rfl ⟨by decide, rfl⟩ inU0 6 (by decide) (fun _ _ _ => rfl) wl_11 c1 dX0_whyNotWrite_1 ?_
  refine x_iload_n F dX0_whyNotWrite_4 rfl 1 rfl ?_
  obtain ⟨x5, c5, h⟩ := bdS h
  refine x_aI F c5 dX0_whyNotWrite_5 ?_
  refine x_aload_n F dX0_whyNotWrite_6 rfl 0 rfl ?_
  obtain ⟨x7, c7, h⟩ := bdS h
  refine x_getR F (ci := 0) (C := RX0) (T := TX0) (N := 12) rfl ⟨by decide, rfl⟩ inU0 0 (by decide) (fun _ _ _ => rfl) wl_17 c7 dX0_whyNotWrite_7 ?_
  obtain ⟨x10, c10, h⟩ := bdS h
  refine x_getR F (ci := 8) (C := RX8) (T := TX8) (N := 17) rfl ⟨by decide, rfl⟩ inU8 8 (by decide) (fun _ _ _ => rfl) wl_29 c10 dX0_whyNotWrite_10 ?_
  refine x_iload_n F dX0_whyNotWrite_13 rfl 1 rfl ?_
  obtain ⟨x14, c14, h⟩ := bdS h
  refine x_aI F c14 dX0_whyNotWrite_14 ?_
  refine x_icmp_lt F (tgt := 20) dX0_whyNotWrite_15 (by decide) (fun c15 => ?_) (fun c15 => ?_)
  · rw [if_pos c15] at h
    refine x_aload_n F dX0_whyNotWrite_20 rfl 0 rfl ?_
    obtain ⟨x21, c21, h⟩ := bdS h
    refine x_getR F (ci := 0) (C := RX0) (T := TX0) (N := 12) rfl ⟨by decide, rfl⟩ inU0 1 (by decide) (fun _ _ _ => rfl) wl_6 c21 dX0_whyNotWrite_21 ?_
    refine x_iload_n F dX0_whyNotWrite_24 rfl 2 rfl ?_
    refine x_iload_n F dX0_whyNotWrite_25 rfl 3 rfl ?_
    obtain ⟨⟨x26, M26⟩, c26, h⟩ := bdS h
    dsimp only at h
    refine x_callSN F (As := [.int v2, .int v3]) (rest := [.ref (b + x21)]) (res := (some (.int x26))) (host := RX10) (k_X10_placeIndex l b D cy N v2 v3 M _ _ c26) wl_27 (by decide +kernel) wl_31 wl_30 (hd_X10_placeIndex).2 ⟨Nat.le_of_ble_eq_true rfl, Nat.le_of_ble_eq_true rfl⟩ ⟨Nat.le_refl _, Nat.le_refl _⟩ (Nat.le_of_ble_eq_true rfl) rfl dX0_whyNotWrite_26 ?_
    obtain ⟨x29, c29, h⟩ := bdS h
    refine x_aI F c29 dX0_whyNotWrite_29 ?_
    refine x_iconst F (v := (-1)) dX0_whyNotWrite_30 (by decide) ?_
    refine x_icmp_eq F (tgt := 38) dX0_whyNotWrite_31 (by decide) (fun c31 => ?_) (fun c31 => ?_)
    · rw [if_pos c31] at h
      refine x_iconst F (v := 0) dX0_whyNotWrite_38 (by decide) ?_
      obtain ⟨rfl, rfl⟩ := retS h
      exact x_iret F hr hl dX0_whyNotWrite_39
    · rw [if_neg c31] at h
      refine x_iconst F (v := 2) dX0_whyNotWrite_34 (by decide) ?_
      refine x_goto F (tgt := 39) dX0_whyNotWrite_35 (by decide) ?_
      obtain ⟨rfl, rfl⟩ := retS h
      exact x_iret F hr hl dX0_whyNotWrite_39
  · rw [if_neg c15] at h
    refine x_iconst F (v := 1) dX0_whyNotWrite_18 (by decide) ?_
    obtain ⟨rfl, rfl⟩ := retS h
    exact x_iret F hr hl dX0_whyNotWrite_19
theorem dX0_putSign_0 : decode cX0_putSign 0 = .ok (.aload_n 0, 1) := by decide +kernel
theorem dX0_putSign_1 : decode cX0_putSign 1 = .ok (.getfield 11, 3) := by decide +kernel
theorem dX0_putSign_4 : decode cX0_putSign 4 = .ok (.iload_n 2, 1) := by decide +kernel
theorem dX0_putSign_5 : decode cX0_putSign 5 = .ok (.iload_n 3, 1) := by decide +kernel
theorem dX0_putSign_6 : decode cX0_putSign 6 = .ok (.invokestatic 67, 3) := by decide +kernel
theorem dX0_putSign_9 : decode cX0_putSign 9 = .ok (.iload 4, 2) := by decide +kernel
theorem dX0_putSign_11 : decode cX0_putSign 11 = .ok (.iastore, 1) := by decide +kernel
theorem dX0_putSign_12 : decode cX0_putSign 12 = .ok (.aload_n 0, 1) := by decide +kernel
theorem dX0_putSign_13 : decode cX0_putSign 13 = .ok (.getfield 15, 3) := by decide +kernel
theorem dX0_putSign_16 : decode cX0_putSign 16 = .ok (.iload_n 2, 1) := by decide +kernel
theorem dX0_putSign_17 : decode cX0_putSign 17 = .ok (.iload_n 3, 1) := by decide +kernel
theorem dX0_putSign_18 : decode cX0_putSign 18 = .ok (.invokestatic 67, 3) := by decide +kernel
theorem dX0_putSign_21 : decode cX0_putSign 21 = .ok (.iload_n 1, 1) := by decide +kernel
theorem dX0_putSign_22 : decode cX0_putSign 22 = .ok (.iastore, 1) := by decide +kernel
theorem dX0_putSign_23 : decode cX0_putSign 23 = .ok (.aload_n 0, 1) := by decide +kernel
theorem dX0_putSign_24 : decode cX0_putSign 24 = .ok (.getfield 18, 3) := by decide +kernel
theorem dX0_putSign_27 : decode cX0_putSign 27 = .ok (.iload_n 2, 1) := by decide +kernel
theorem dX0_putSign_28 : decode cX0_putSign 28 = .ok (.dup2, 1) := by decide +kernel
theorem dX0_putSign_29 : decode cX0_putSign 29 = .ok (.iaload, 1) := by decide +kernel
theorem dX0_putSign_30 : decode cX0_putSign 30 = .ok (.iconst 1, 1) := by decide +kernel
theorem dX0_putSign_31 : decode cX0_putSign 31 = .ok (.iadd, 1) := by decide +kernel
theorem dX0_putSign_32 : decode cX0_putSign 32 = .ok (.iastore, 1) := by decide +kernel
theorem dX0_putSign_33 : decode cX0_putSign 33 = .ok (.aload_n 0, 1) := by decide +kernel
theorem dX0_putSign_34 : decode cX0_putSign 34 = .ok (.getfield 27, 3) := by decide +kernel
theorem dX0_putSign_37 : decode cX0_putSign 37 = .ok (.iload_n 1, 1) := by decide +kernel
theorem dX0_putSign_38 : decode cX0_putSign 38 = .ok (.dup2, 1) := by decide +kernel
theorem dX0_putSign_39 : decode cX0_putSign 39 = .ok (.iaload, 1) := by decide +kernel
theorem dX0_putSign_40 : decode cX0_putSign 40 = .ok (.iconst 1, 1) := by decide +kernel
theorem dX0_putSign_41 : decode cX0_putSign 41 = .ok (.iadd, 1) := by decide +kernel
theorem dX0_putSign_42 : decode cX0_putSign 42 = .ok (.iastore, 1) := by decide +kernel
theorem dX0_putSign_43 : decode cX0_putSign 43 = .ok (.aload_n 0, 1) := by decide +kernel
theorem dX0_putSign_44 : decode cX0_putSign 44 = .ok (.dup, 1) := by decide +kernel
theorem dX0_putSign_45 : decode cX0_putSign 45 = .ok (.getfield 40, 3) := by decide +kernel
theorem dX0_putSign_48 : decode cX0_putSign 48 = .ok (.iconst 1, 1) := by decide +kernel
theorem dX0_putSign_49 : decode cX0_putSign 49 = .ok (.iadd, 1) := by decide +kernel
theorem dX0_putSign_50 : decode cX0_putSign 50 = .ok (.putfield 40, 3) := by decide +kernel
theorem dX0_putSign_53 : decode cX0_putSign 53 = .ok (.aload_n 0, 1) := by decide +kernel
theorem dX0_putSign_54 : decode cX0_putSign 54 = .ok (.dup, 1) := by decide +kernel
theorem dX0_putSign_55 : decode cX0_putSign 55 = .ok (.getfield 43, 3) := by decide +kernel
theorem dX0_putSign_58 : decode cX0_putSign 58 = .ok (.getstatic 71, 3) := by decide +kernel
theorem dX0_putSign_61 : decode cX0_putSign 61 = .ok (.iload 4, 2) := by decide +kernel
theorem dX0_putSign_63 : decode cX0_putSign 63 = .ok (.iaload, 1) := by decide +kernel
theorem dX0_putSign_64 : decode cX0_putSign 64 = .ok (.iadd, 1) := by decide +kernel
theorem dX0_putSign_65 : decode cX0_putSign 65 = .ok (.putfield 43, 3) := by decide +kernel
theorem dX0_putSign_68 : decode cX0_putSign 68 = .ok (.return_, 1) := by decide +kernel
def fX0_putSign (N : Nat) (v0 : Nat) (v1 : Int32) (v2 : Int32) (v3 : Int32) (v4 : Int32) (M : Mem) : Option (Unit × Mem) := ((fR M 0 v0 1).bind fun x1 => ((fX10_placeIndex N v2 v3 M).bind fun (x6, M6) => ((tI M6 x1 x6 v4).bind fun M11 => ((fR M11 0 v0 2).bind fun x13 => ((fX10_placeIndex N v2 v3 M11).bind fun (x18, M18) => ((tI M18 x13 x18 v1).bind fun M22 => ((fR M22 0 v0 3).bind fun x24 => ((aI M22 x24 v2).bind fun x29 => ((tI M22 x24 v2 (x29 + 1)).bind fun M32 => ((fR M32 0 v0 6).bind fun x34 => ((aI M32 x34 v1).bind fun x39 => ((tI M32 x34 v1 (x39 + 1)).bind fun M42 => ((fI M42 0 v0 10).bind fun x45 => ((pI M42 0 v0 10 (x45 + 1)).bind fun M50 => ((fI M50 0 v0 11).bind fun x55 => ((kS v4).bind fun x63 => ((pI M50 0 v0 11 (x55 + x63)).bind fun M65 => some ((), M65))))))))))))))))))
set_option maxHeartbeats 4000000 in
set_option maxRecDepth 100000 in
theorem k_X0_putSign (l : Launch) (b : Nat) (D : va_G) (cy : Nat → ClassId) (N : Nat) (v0 : Nat) (v1 : Int32) (v2 : Int32) (v3 : Int32) (v4 : Int32) (M : Mem) (r : Unit) (Mf : Mem) (h : fX0_putSign N v0 v1 v2 v3 v4 M = some (r, Mf)) : Ct l yX0_putSign cX0_putSign 5 none 2 0 0 b D cy [.ref (b + v0), .int v1, .int v2, .int v3, .int v4] M none Mf := by
  refine Ct_of (own := RX0) (by decide) rfl (Nat.le_of_ble_eq_true rfl) ?_
  intro p e s m args below meth c F hr hl hmn
  unfold fX0_putSign at h
  show X p l e ({ frames := 2, cells := 0, slots := 0, locals := 100 * 2 }) s m args below meth c (MQ below (Qm b D cy none Mf) args s 0 0 (fun q => b ≤ q)) 5 b D cy 0 0 M 0 [(0, .ref (b + v0)), (1, .int v1), (2, .int v2), (3, .int v3), (4, .int v4)] []
  refine x_aload_n F dX0_putSign_0 rfl 0 rfl ?_
  obtain ⟨x1, c1, h⟩ := bdS h
  refine x_getR F (ci := 0) (C := RX0) (T := TX0) (N := 12) rfl ⟨by decide, rfl⟩ inU0 1 (by decide) (fun _ _ _ => rfl) wl_6 c1 dX0_putSign_1 ?_
  refine x_iload_n F dX0_putSign_4 rfl 2 rfl ?_
  refine x_iload_n F dX0_putSign_5 rfl 3 rfl ?_
  obtain ⟨⟨x6, M6⟩, c6, h⟩ := bdS h
  dsimp only at h
  refine x_callSN F (As := [.int v2, .int v3]) (rest := [.ref (b + x1)]) (res := (some (.int x6))) (host := RX10) (k_X10_placeIndex l b D cy N v2 v3 M _ _ c6) wl_27 (by decide +kernel) wl_31 wl_30 (hd_X10_placeIndex).2 ⟨Nat.le_of_ble_eq_true rfl, Nat.le_of_ble_eq_true rfl⟩ ⟨Nat.le_refl _, Nat.le_refl _⟩ (Nat.le_of_ble_eq_true rfl) rfl dX0_putSign_6 ?_
  refine x_iload F dX0_putSign_9 4 rfl ?_
  obtain ⟨M11, c11, h⟩ := bdS h
  refine x_tI F c11 dX0_putSign_11 ?_
  refine x_aload_n F dX0_putSign_12 rfl 0 rfl ?_
  obtain ⟨x13, c13, h⟩ := bdS h
  refine x_getR F (ci := 0) (C := RX0) (T := TX0) (N := 12) rfl ⟨by decide, rfl⟩ inU0 2 (by decide) (fun _ _ _ => rfl) wl_7 c13 dX0_putSign_13 ?_
  refine x_iload_n F dX0_putSign_16 rfl 2 rfl ?_
  refine x_iload_n F dX0_putSign_17 rfl 3 rfl ?_
  obtain ⟨⟨x18, M18⟩, c18, h⟩ := bdS h
  dsimp only at h
  refine x_callSN F (As := [.int v2, .int v3]) (rest := [.ref (b + x13)]) (res := (some (.int x18))) (host := RX10) (k_X10_placeIndex l b D cy N v2 v3 M11 _ _ c18) wl_27 (by decide +kernel) wl_31 wl_30 (hd_X10_placeIndex).2 ⟨Nat.le_of_ble_eq_true rfl, Nat.le_of_ble_eq_true rfl⟩ ⟨Nat.le_refl _, Nat.le_refl _⟩ (Nat.le_of_ble_eq_true rfl) rfl dX0_putSign_18 ?_
  refine x_iload_n F dX0_putSign_21 rfl 1 rfl ?_
  obtain ⟨M22, c22, h⟩ := bdS h
  refine x_tI F c22 dX0_putSign_22 ?_
  refine x_aload_n F dX0_putSign_23 rfl 0 rfl ?_
  obtain ⟨x24, c24, h⟩ := bdS h
  refine x_getR F (ci := 0) (C := RX0) (T := TX0) (N := 12) rfl ⟨by decide, rfl⟩ inU0 3 (by decide) (fun _ _ _ => rfl) wl_8 c24 dX0_putSign_24 ?_
  refine x_iload_n F dX0_putSign_27 rfl 2 rfl ?_
  refine x_dup2 F dX0_putSign_28 rfl rfl ?_
  obtain ⟨x29, c29, h⟩ := bdS h
  refine x_aI F c29 dX0_putSign_29 ?_
  refine x_iconst F (v := 1) dX0_putSign_30 (by decide) ?_
  refine x_iadd F dX0_putSign_31 ?_
  obtain ⟨M32, c32, h⟩ := bdS h
  refine x_tI F c32 dX0_putSign_32 ?_
  refine x_aload_n F dX0_putSign_33 rfl 0 rfl ?_
  obtain ⟨x34, c34, h⟩ := bdS h
  refine x_getR F (ci := 0) (C := RX0) (T := TX0) (N := 12) rfl ⟨by decide, rfl⟩ inU0 6 (by decide) (fun _ _ _ => rfl) wl_11 c34 dX0_putSign_34 ?_
  refine x_iload_n F dX0_putSign_37 rfl 1 rfl ?_
  refine x_dup2 F dX0_putSign_38 rfl rfl ?_
  obtain ⟨x39, c39, h⟩ := bdS h
  refine x_aI F c39 dX0_putSign_39 ?_
  refine x_iconst F (v := 1) dX0_putSign_40 (by decide) ?_
  refine x_iadd F dX0_putSign_41 ?_
  obtain ⟨M42, c42, h⟩ := bdS h
  refine x_tI F c42 dX0_putSign_42 ?_
  refine x_aload_n F dX0_putSign_43 rfl 0 rfl ?_
  refine x_dup F dX0_putSign_44 rfl ?_
  obtain ⟨x45, c45, h⟩ := bdS h
  refine x_getI F (ci := 0) (C := RX0) (T := TX0) (N := 12) rfl ⟨by decide, rfl⟩ inU0 10 (by decide) (fun _ _ _ => rfl) wl_15 c45 dX0_putSign_45 ?_
  refine x_iconst F (v := 1) dX0_putSign_48 (by decide) ?_
  refine x_iadd F dX0_putSign_49 ?_
  obtain ⟨M50, c50, h⟩ := bdS h
  refine x_putI F (ci := 0) (C := RX0) (T := TX0) (N := 12) rfl ⟨by decide, rfl⟩ inU0 tyX0_ok nmX0 10 (by decide) rfl rfl wl_15 c50 dX0_putSign_50 ?_
  refine x_aload_n F dX0_putSign_53 rfl 0 rfl ?_
  refine x_dup F dX0_putSign_54 rfl ?_
  obtain ⟨x55, c55, h⟩ := bdS h
  refine x_getI F (ci := 0) (C := RX0) (T := TX0) (N := 12) rfl ⟨by decide, rfl⟩ inU0 11 (by decide) (fun _ _ _ => rfl) wl_16 c55 dX0_putSign_55 ?_
  refine x_stk F (by decide +kernel) dX0_putSign_58 (fun aS g2 => ?_)
  refine x_iload F dX0_putSign_61 4 rfl ?_
  obtain ⟨x63, c63, h⟩ := bdS h
  refine x_kS F g2 c63 dX0_putSign_63 ?_
  refine x_iadd F dX0_putSign_64 ?_
  obtain ⟨M65, c65, h⟩ := bdS h
  refine x_putI F (ci := 0) (C := RX0) (T := TX0) (N := 12) rfl ⟨by decide, rfl⟩ inU0 tyX0_ok nmX0 11 (by decide) rfl rfl wl_16 c65 dX0_putSign_65 ?_
  obtain ⟨rfl, rfl⟩ := retS h
  exact x_vret F hr hl dX0_putSign_68
theorem dX0_whyNotTread_0 : decode cX0_whyNotTread 0 = .ok (.aload_n 0, 1) := by decide +kernel
theorem dX0_whyNotTread_1 : decode cX0_whyNotTread 1 = .ok (.getfield 11, 3) := by decide +kernel
theorem dX0_whyNotTread_4 : decode cX0_whyNotTread 4 = .ok (.iload_n 1, 1) := by decide +kernel
theorem dX0_whyNotTread_5 : decode cX0_whyNotTread 5 = .ok (.iload_n 2, 1) := by decide +kernel
theorem dX0_whyNotTread_6 : decode cX0_whyNotTread 6 = .ok (.invokestatic 67, 3) := by decide +kernel
theorem dX0_whyNotTread_9 : decode cX0_whyNotTread 9 = .ok (.iaload, 1) := by decide +kernel
theorem dX0_whyNotTread_10 : decode cX0_whyNotTread 10 = .ok (.iconst (-1), 1) := by decide +kernel
theorem dX0_whyNotTread_11 : decode cX0_whyNotTread 11 = .ok (.if_icmp .ne 7, 3) := by decide +kernel
theorem dX0_whyNotTread_14 : decode cX0_whyNotTread 14 = .ok (.iconst 1, 1) := by decide +kernel
theorem dX0_whyNotTread_15 : decode cX0_whyNotTread 15 = .ok (.goto 4, 3) := by decide +kernel
theorem dX0_whyNotTread_18 : decode cX0_whyNotTread 18 = .ok (.iconst 0, 1) := by decide +kernel
theorem dX0_whyNotTread_19 : decode cX0_whyNotTread 19 = .ok (.ireturn, 1) := by decide +kernel
def fX0_whyNotTread (N : Nat) (v0 : Nat) (v1 : Int32) (v2 : Int32) (M : Mem) : Option (Int32 × Mem) := ((fR M 0 v0 1).bind fun x1 => ((fX10_placeIndex N v1 v2 M).bind fun (x6, M6) => ((aI M6 x1 x6).bind fun x9 => (if x9 = ((-1)) then some (1, M6) else some (0, M6)))))
set_option maxHeartbeats 4000000 in
set_option maxRecDepth 100000 in
theorem k_X0_whyNotTread (l : Launch) (b : Nat) (D : va_G) (cy : Nat → ClassId) (N : Nat) (v0 : Nat) (v1 : Int32) (v2 : Int32) (M : Mem) (r : Int32) (Mf : Mem) (h : fX0_whyNotTread N v0 v1 v2 M = some (r, Mf)) : Ct l yX0_whyNotTread cX0_whyNotTread 3 (some .int) 2 0 0 b D cy [.ref (b + v0), .int v1, .int v2] M (some (.int r)) Mf := by
  refine Ct_of (own := RX0) (by decide) rfl (Nat.le_of_ble_eq_true rfl) ?_
  intro p e s m args below meth c F hr hl hmn
  unfold fX0_whyNotTread at h
  show X p l e ({ frames := 2, cells := 0, slots := 0, locals := 100 * 2 }) s m args below meth c (MQ below (Qm b D cy (some (.int r)) Mf) args s 0 0 (fun q => b ≤ q)) 3 b D cy 0 0 M 0 [(0, .ref (b + v0)), (1, .int v1), (2, .int v2)] []
  refine x_aload_n F dX0_whyNotTread_0 rfl 0 rfl ?_
  obtain ⟨x1, c1, h⟩ := bdS h
  refine x_getR F (ci := 0) (C := RX0) (T := TX0) (N := 12) rfl ⟨by decide, rfl⟩ inU0 1 (by decide) (fun _ _ _ => rfl) wl_6 c1 dX0_whyNotTread_1 ?_
  refine x_iload_n F dX0_whyNotTread_4 rfl 1 rfl ?_
  refine x_iload_n F dX0_whyNotTread_5 rfl 2 rfl ?_
  obtain ⟨⟨x6, M6⟩, c6, h⟩ := bdS h
  dsimp only at h
  refine x_callSN F (As := [.int v1, .int v2]) (rest := [.ref (b + x1)]) (res := (some (.int x6))) (host := RX10) (k_X10_placeIndex l b D cy N v1 v2 M _ _ c6) wl_27 (by decide +kernel) wl_31 wl_30 (hd_X10_placeIndex).2 ⟨Nat.le_of_ble_eq_true rfl, Nat.le_of_ble_eq_true rfl⟩ ⟨Nat.le_refl _, Nat.le_refl _⟩ (Nat.le_of_ble_eq_true rfl) rfl dX0_whyNotTread_6 ?_
  obtain ⟨x9, c9, h⟩ := bdS h
  refine x_aI F c9 dX0_whyNotTread_9 ?_
  refine x_iconst F (v := (-1)) dX0_whyNotTread_10 (by decide) ?_
  refine x_icmp_ne F (tgt := 18) dX0_whyNotTread_11 (by decide) (fun c11 => ?_) (fun c11 => ?_)
  · rw [if_neg c11] at h
    refine x_iconst F (v := 0) dX0_whyNotTread_18 (by decide) ?_
    obtain ⟨rfl, rfl⟩ := retS h
    exact x_iret F hr hl dX0_whyNotTread_19
  · rw [if_pos c11] at h
    refine x_iconst F (v := 1) dX0_whyNotTread_14 (by decide) ?_
    refine x_goto F (tgt := 19) dX0_whyNotTread_15 (by decide) ?_
    obtain ⟨rfl, rfl⟩ := retS h
    exact x_iret F hr hl dX0_whyNotTread_19
theorem dX0_removeSign_0 : decode cX0_removeSign 0 = .ok (.aload_n 0, 1) := by decide +kernel
theorem dX0_removeSign_1 : decode cX0_removeSign 1 = .ok (.getfield 11, 3) := by decide +kernel
theorem dX0_removeSign_4 : decode cX0_removeSign 4 = .ok (.iload_n 1, 1) := by decide +kernel
theorem dX0_removeSign_5 : decode cX0_removeSign 5 = .ok (.iload_n 2, 1) := by decide +kernel
theorem dX0_removeSign_6 : decode cX0_removeSign 6 = .ok (.invokestatic 67, 3) := by decide +kernel
theorem dX0_removeSign_9 : decode cX0_removeSign 9 = .ok (.iconst (-1), 1) := by decide +kernel
theorem dX0_removeSign_10 : decode cX0_removeSign 10 = .ok (.iastore, 1) := by decide +kernel
theorem dX0_removeSign_11 : decode cX0_removeSign 11 = .ok (.aload_n 0, 1) := by decide +kernel
theorem dX0_removeSign_12 : decode cX0_removeSign 12 = .ok (.getfield 15, 3) := by decide +kernel
theorem dX0_removeSign_15 : decode cX0_removeSign 15 = .ok (.iload_n 1, 1) := by decide +kernel
theorem dX0_removeSign_16 : decode cX0_removeSign 16 = .ok (.iload_n 2, 1) := by decide +kernel
theorem dX0_removeSign_17 : decode cX0_removeSign 17 = .ok (.invokestatic 67, 3) := by decide +kernel
theorem dX0_removeSign_20 : decode cX0_removeSign 20 = .ok (.iconst (-1), 1) := by decide +kernel
theorem dX0_removeSign_21 : decode cX0_removeSign 21 = .ok (.iastore, 1) := by decide +kernel
theorem dX0_removeSign_22 : decode cX0_removeSign 22 = .ok (.aload_n 0, 1) := by decide +kernel
theorem dX0_removeSign_23 : decode cX0_removeSign 23 = .ok (.getfield 18, 3) := by decide +kernel
theorem dX0_removeSign_26 : decode cX0_removeSign 26 = .ok (.iload_n 1, 1) := by decide +kernel
theorem dX0_removeSign_27 : decode cX0_removeSign 27 = .ok (.dup2, 1) := by decide +kernel
theorem dX0_removeSign_28 : decode cX0_removeSign 28 = .ok (.iaload, 1) := by decide +kernel
theorem dX0_removeSign_29 : decode cX0_removeSign 29 = .ok (.iconst 1, 1) := by decide +kernel
theorem dX0_removeSign_30 : decode cX0_removeSign 30 = .ok (.isub, 1) := by decide +kernel
theorem dX0_removeSign_31 : decode cX0_removeSign 31 = .ok (.iastore, 1) := by decide +kernel
theorem dX0_removeSign_32 : decode cX0_removeSign 32 = .ok (.return_, 1) := by decide +kernel
def fX0_removeSign (N : Nat) (v0 : Nat) (v1 : Int32) (v2 : Int32) (M : Mem) : Option (Unit × Mem) := ((fR M 0 v0 1).bind fun x1 => ((fX10_placeIndex N v1 v2 M).bind fun (x6, M6) => ((tI M6 x1 x6 ((-1))).bind fun M10 => ((fR M10 0 v0 2).bind fun x12 => ((fX10_placeIndex N v1 v2 M10).bind fun (x17, M17) => ((tI M17 x12 x17 ((-1))).bind fun M21 => ((fR M21 0 v0 3).bind fun x23 => ((aI M21 x23 v1).bind fun x28 => ((tI M21 x23 v1 (x28 - 1)).bind fun M31 => some ((), M31))))))))))
set_option maxHeartbeats 4000000 in
set_option maxRecDepth 100000 in
theorem k_X0_removeSign (l : Launch) (b : Nat) (D : va_G) (cy : Nat → ClassId) (N : Nat) (v0 : Nat) (v1 : Int32) (v2 : Int32) (M : Mem) (r : Unit) (Mf : Mem) (h : fX0_removeSign N v0 v1 v2 M = some (r, Mf)) : Ct l yX0_removeSign cX0_removeSign 3 none 2 0 0 b D cy [.ref (b + v0), .int v1, .int v2] M none Mf := by
  refine Ct_of (own := RX0) (by decide) rfl (Nat.le_of_ble_eq_true rfl) ?_
  intro p e s m args below meth c F hr hl hmn
  unfold fX0_removeSign at h
  show X p l e ({ frames := 2, cells := 0, slots := 0, locals := 100 * 2 }) s m args below meth c (MQ below (Qm b D cy none Mf) args s 0 0 (fun q => b ≤ q)) 3 b D cy 0 0 M 0 [(0, .ref (b + v0)), (1, .int v1), (2, .int v2)] []
  refine x_aload_n F dX0_removeSign_0 rfl 0 rfl ?_
  obtain ⟨x1, c1, h⟩ := bdS h
  refine x_getR F (ci := 0) (C := RX0) (T := TX0) (N := 12) rfl ⟨by decide, rfl⟩ inU0 1 (by decide) (fun _ _ _ => rfl) wl_6 c1 dX0_removeSign_1 ?_
  refine x_iload_n F dX0_removeSign_4 rfl 1 rfl ?_
  refine x_iload_n F dX0_removeSign_5 rfl 2 rfl ?_
  obtain ⟨⟨x6, M6⟩, c6, h⟩ := bdS h
  dsimp only at h
  refine x_callSN F (As := [.int v1, .int v2]) (rest := [.ref (b + x1)]) (res := (some (.int x6))) (host := RX10) (k_X10_placeIndex l b D cy N v1 v2 M _ _ c6) wl_27 (by decide +kernel) wl_31 wl_30 (hd_X10_placeIndex).2 ⟨Nat.le_of_ble_eq_true rfl, Nat.le_of_ble_eq_true rfl⟩ ⟨Nat.le_refl _, Nat.le_refl _⟩ (Nat.le_of_ble_eq_true rfl) rfl dX0_removeSign_6 ?_
  refine x_iconst F (v := (-1)) dX0_removeSign_9 (by decide) ?_
  obtain ⟨M10, c10, h⟩ := bdS h
  refine x_tI F c10 dX0_removeSign_10 ?_
  refine x_aload_n F dX0_removeSign_11 rfl 0 rfl ?_
  obtain ⟨x12, c12, h⟩ := bdS h
  refine x_getR F (ci := 0) (C := RX0) (T := TX0) (N := 12) rfl ⟨by decide, rfl⟩ inU0 2 (by decide) (fun _ _ _ => rfl) wl_7 c12 dX0_removeSign_12 ?_
  refine x_iload_n F dX0_removeSign_15 rfl 1 rfl ?_
  refine x_iload_n F dX0_removeSign_16 rfl 2 rfl ?_
  obtain ⟨⟨x17, M17⟩, c17, h⟩ := bdS h
  dsimp only at h
  refine x_callSN F (As := [.int v1, .int v2]) (rest := [.ref (b + x12)]) (res := (some (.int x17))) (host := RX10) (k_X10_placeIndex l b D cy N v1 v2 M10 _ _ c17) wl_27 (by decide +kernel) wl_31 wl_30 (hd_X10_placeIndex).2 ⟨Nat.le_of_ble_eq_true rfl, Nat.le_of_ble_eq_true rfl⟩ ⟨Nat.le_refl _, Nat.le_refl _⟩ (Nat.le_of_ble_eq_true rfl) rfl dX0_removeSign_17 ?_
  refine x_iconst F (v := (-1)) dX0_removeSign_20 (by decide) ?_
  obtain ⟨M21, c21, h⟩ := bdS h
  refine x_tI F c21 dX0_removeSign_21 ?_
  refine x_aload_n F dX0_removeSign_22 rfl 0 rfl ?_
  obtain ⟨x23, c23, h⟩ := bdS h
  refine x_getR F (ci := 0) (C := RX0) (T := TX0) (N := 12) rfl ⟨by decide, rfl⟩ inU0 3 (by decide) (fun _ _ _ => rfl) wl_8 c23 dX0_removeSign_23 ?_
  refine x_iload_n F dX0_removeSign_26 rfl 1 rfl ?_
  refine x_dup2 F dX0_removeSign_27 rfl rfl ?_
  obtain ⟨x28, c28, h⟩ := bdS h
  refine x_aI F c28 dX0_removeSign_28 ?_
  refine x_iconst F (v := 1) dX0_removeSign_29 (by decide) ?_
  refine x_isub F dX0_removeSign_30 ?_
  obtain ⟨M31, c31, h⟩ := bdS h
  refine x_tI F c31 dX0_removeSign_31 ?_
  obtain ⟨rfl, rfl⟩ := retS h
  exact x_vret F hr hl dX0_removeSign_32
theorem dX0_hoursLeft_0 : decode cX0_hoursLeft 0 = .ok (.sipush 400, 3) := by decide +kernel
theorem dX0_hoursLeft_3 : decode cX0_hoursLeft 3 = .ok (.aload_n 0, 1) := by decide +kernel
theorem dX0_hoursLeft_4 : decode cX0_hoursLeft 4 = .ok (.getfield 37, 3) := by decide +kernel
theorem dX0_hoursLeft_7 : decode cX0_hoursLeft 7 = .ok (.isub, 1) := by decide +kernel
theorem dX0_hoursLeft_8 : decode cX0_hoursLeft 8 = .ok (.ireturn, 1) := by decide +kernel
def fX0_hoursLeft (N : Nat) (v0 : Nat) (M : Mem) : Option (Int32 × Mem) := ((fI M 0 v0 9).bind fun x4 => some (400 - x4, M))
set_option maxHeartbeats 4000000 in
set_option maxRecDepth 100000 in
theorem k_X0_hoursLeft (l : Launch) (b : Nat) (D : va_G) (cy : Nat → ClassId) (N : Nat) (v0 : Nat) (M : Mem) (r : Int32) (Mf : Mem) (h : fX0_hoursLeft N v0 M = some (r, Mf)) : Ct l yX0_hoursLeft cX0_hoursLeft 1 (some .int) 1 0 0 b D cy [.ref (b + v0)] M (some (.int r)) Mf := by
  refine Ct_of (own := RX0) (by decide) rfl (Nat.le_of_ble_eq_true rfl) ?_
  intro p e s m args below meth c F hr hl hmn
  unfold fX0_hoursLeft at h
  show X p l e ({ frames := 1, cells := 0, slots := 0, locals := 100 * 1 }) s m args below meth c (MQ below (Qm b D cy (some (.int r)) Mf) args s 0 0 (fun q => b ≤ q)) 1 b D cy 0 0 M 0 [(0, .ref (b + v0))] []
  refine x_sipush F (v := 400) dX0_hoursLeft_0 (by decide) ?_
  refine x_aload_n F dX0_hoursLeft_3 rfl 0 rfl ?_
  obtain ⟨x4, c4, h⟩ := bdS h
  refine x_getI F (ci := 0) (C := RX0) (T := TX0) (N := 12) rfl ⟨by decide, rfl⟩ inU0 9 (by decide) (fun _ _ _ => rfl) wl_14 c4 dX0_hoursLeft_4 ?_
  refine x_isub F dX0_hoursLeft_7 ?_
  obtain ⟨rfl, rfl⟩ := retS h
  exact x_iret F hr hl dX0_hoursLeft_8
theorem dX0_hasLapsed_0 : decode cX0_hasLapsed 0 = .ok (.aload_n 0, 1) := by decide +kernel
theorem dX0_hasLapsed_1 : decode cX0_hasLapsed 1 = .ok (.getfield 33, 3) := by decide +kernel
theorem dX0_hasLapsed_4 : decode cX0_hasLapsed 4 = .ok (.iload_n 1, 1) := by decide +kernel
theorem dX0_hasLapsed_5 : decode cX0_hasLapsed 5 = .ok (.ishr, 1) := by decide +kernel
theorem dX0_hasLapsed_6 : decode cX0_hasLapsed 6 = .ok (.iconst 1, 1) := by decide +kernel
theorem dX0_hasLapsed_7 : decode cX0_hasLapsed 7 = .ok (.iand, 1) := by decide +kernel
theorem dX0_hasLapsed_8 : decode cX0_hasLapsed 8 = .ok (.ifCond .eq 7, 3) := by decide +kernel
theorem dX0_hasLapsed_11 : decode cX0_hasLapsed 11 = .ok (.iconst 1, 1) := by decide +kernel
theorem dX0_hasLapsed_12 : decode cX0_hasLapsed 12 = .ok (.goto 4, 3) := by decide +kernel
theorem dX0_hasLapsed_15 : decode cX0_hasLapsed 15 = .ok (.iconst 0, 1) := by decide +kernel
theorem dX0_hasLapsed_16 : decode cX0_hasLapsed 16 = .ok (.ireturn, 1) := by decide +kernel
def fX0_hasLapsed (N : Nat) (v0 : Nat) (v1 : Int32) (M : Mem) : Option (Int32 × Mem) := ((fI M 0 v0 8).bind fun x1 => (if ((x1 >>> (v1 &&& 31)) &&& 1) = 0 then some (0, M) else some (1, M)))
set_option maxHeartbeats 4000000 in
set_option maxRecDepth 100000 in
theorem k_X0_hasLapsed (l : Launch) (b : Nat) (D : va_G) (cy : Nat → ClassId) (N : Nat) (v0 : Nat) (v1 : Int32) (M : Mem) (r : Int32) (Mf : Mem) (h : fX0_hasLapsed N v0 v1 M = some (r, Mf)) : Ct l yX0_hasLapsed cX0_hasLapsed 2 (some .boolean) 1 0 0 b D cy [.ref (b + v0), .int v1] M (some (.int r)) Mf := by
  refine Ct_of (own := RX0) (by decide) rfl (Nat.le_of_ble_eq_true rfl) ?_
  intro p e s m args below meth c F hr hl hmn
  unfold fX0_hasLapsed at h
  show X p l e ({ frames := 1, cells := 0, slots := 0, locals := 100 * 1 }) s m args below meth c (MQ below (Qm b D cy (some (.int r)) Mf) args s 0 0 (fun q => b ≤ q)) 2 b D cy 0 0 M 0 [(0, .ref (b + v0)), (1, .int v1)] []
  refine x_aload_n F dX0_hasLapsed_0 rfl 0 rfl ?_
  obtain ⟨x1, c1, h⟩ := bdS h
  refine x_getI F (ci := 0) (C := RX0) (T := TX0) (N := 12) rfl ⟨by decide, rfl⟩ inU0 8 (by decide) (fun _ _ _ => rfl) wl_13 c1 dX0_hasLapsed_1 ?_
  refine x_iload_n F dX0_hasLapsed_4 rfl 1 rfl ?_
  refine x_ishr F dX0_hasLapsed_5 ?_
  refine x_iconst F (v := 1) dX0_hasLapsed_6 (by decide) ?_
  refine x_iand F dX0_hasLapsed_7 ?_
  refine x_if_eq F (tgt := 15) dX0_hasLapsed_8 (by decide) (fun c8 => ?_) (fun c8 => ?_)
  · rw [if_pos c8] at h
    refine x_iconst F (v := 0) dX0_hasLapsed_15 (by decide) ?_
    obtain ⟨rfl, rfl⟩ := retS h
    exact x_zret F hr hl (by decide) dX0_hasLapsed_16
  · rw [if_neg c8] at h
    refine x_iconst F (v := 1) dX0_hasLapsed_11 (by decide) ?_
    refine x_goto F (tgt := 16) dX0_hasLapsed_12 (by decide) ?_
    obtain ⟨rfl, rfl⟩ := retS h
    exact x_zret F hr hl (by decide) dX0_hasLapsed_16
theorem dX0_standsAt_0 : decode cX0_standsAt 0 = .ok (.iconst 0, 1) := by decide +kernel
theorem dX0_standsAt_1 : decode cX0_standsAt 1 = .ok (.istore_n 3, 1) := by decide +kernel
theorem dX0_standsAt_2 : decode cX0_standsAt 2 = .ok (.iload_n 3, 1) := by decide +kernel
theorem dX0_standsAt_3 : decode cX0_standsAt 3 = .ok (.aload_n 0, 1) := by decide +kernel
theorem dX0_standsAt_4 : decode cX0_standsAt 4 = .ok (.getfield 46, 3) := by decide +kernel
theorem dX0_standsAt_7 : decode cX0_standsAt 7 = .ok (.getfield 114, 3) := by decide +kernel
theorem dX0_standsAt_10 : decode cX0_standsAt 10 = .ok (.iload_n 1, 1) := by decide +kernel
theorem dX0_standsAt_11 : decode cX0_standsAt 11 = .ok (.iaload, 1) := by decide +kernel
theorem dX0_standsAt_12 : decode cX0_standsAt 12 = .ok (.if_icmp .ge 35, 3) := by decide +kernel
theorem dX0_standsAt_15 : decode cX0_standsAt 15 = .ok (.aload_n 0, 1) := by decide +kernel
theorem dX0_standsAt_16 : decode cX0_standsAt 16 = .ok (.getfield 11, 3) := by decide +kernel
theorem dX0_standsAt_19 : decode cX0_standsAt 19 = .ok (.iload_n 2, 1) := by decide +kernel
theorem dX0_standsAt_20 : decode cX0_standsAt 20 = .ok (.iload_n 3, 1) := by decide +kernel
theorem dX0_standsAt_21 : decode cX0_standsAt 21 = .ok (.iadd, 1) := by decide +kernel
theorem dX0_standsAt_22 : decode cX0_standsAt 22 = .ok (.iaload, 1) := by decide +kernel
theorem dX0_standsAt_23 : decode cX0_standsAt 23 = .ok (.aload_n 0, 1) := by decide +kernel
theorem dX0_standsAt_24 : decode cX0_standsAt 24 = .ok (.getfield 46, 3) := by decide +kernel
theorem dX0_standsAt_27 : decode cX0_standsAt 27 = .ok (.getfield 123, 3) := by decide +kernel
theorem dX0_standsAt_30 : decode cX0_standsAt 30 = .ok (.iload_n 1, 1) := by decide +kernel
theorem dX0_standsAt_31 : decode cX0_standsAt 31 = .ok (.iconst 3, 1) := by decide +kernel
theorem dX0_standsAt_32 : decode cX0_standsAt 32 = .ok (.imul, 1) := by decide +kernel
theorem dX0_standsAt_33 : decode cX0_standsAt 33 = .ok (.iload_n 3, 1) := by decide +kernel
theorem dX0_standsAt_34 : decode cX0_standsAt 34 = .ok (.iadd, 1) := by decide +kernel
theorem dX0_standsAt_35 : decode cX0_standsAt 35 = .ok (.iaload, 1) := by decide +kernel
theorem dX0_standsAt_36 : decode cX0_standsAt 36 = .ok (.if_icmp .eq 5, 3) := by decide +kernel
theorem dX0_standsAt_39 : decode cX0_standsAt 39 = .ok (.iconst 0, 1) := by decide +kernel
theorem dX0_standsAt_40 : decode cX0_standsAt 40 = .ok (.ireturn, 1) := by decide +kernel
theorem dX0_standsAt_41 : decode cX0_standsAt 41 = .ok (.iinc 3 1, 3) := by decide +kernel
theorem dX0_standsAt_44 : decode cX0_standsAt 44 = .ok (.goto (-42), 3) := by decide +kernel
theorem dX0_standsAt_47 : decode cX0_standsAt 47 = .ok (.iconst 1, 1) := by decide +kernel
theorem dX0_standsAt_48 : decode cX0_standsAt 48 = .ok (.ireturn, 1) := by decide +kernel
def fX0_standsAt_L2 (N : Nat) (v0 : Nat) (v1 : Int32) (v2 : Int32) : Nat → Int32 → Mem → Option (Int32 × Mem)
  | 0, _, _ => none
  | n + 1, v3, M => ((fR M 0 v0 0).bind fun x4 => ((fR M 8 x4 12).bind fun x7 => ((aI M x7 v1).bind fun x11 => (if x11 ≤ v3 then some (1, M) else ((fR M 0 v0 1).bind fun x16 => ((aI M x16 (v2 + v3)).bind fun x22 => ((fR M 0 v0 0).bind fun x24 => ((fR M 8 x24 13).bind fun x27 => ((aI M x27 ((v1 * 3) + v3)).bind fun x35 => (if x22 = x35 then fX0_standsAt_L2 N v0 v1 v2 n (v3 + 1) M else some (0, M)))))))))))
def fX0_standsAt (N : Nat) (v0 : Nat) (v1 : Int32) (v2 : Int32) (M : Mem) : Option (Int32 × Mem) := ((fX0_standsAt_L2 N v0 v1 v2 N 0 M).bind fun o2 => some o2)
set_option maxHeartbeats 4000000 in
set_option maxRecDepth 100000 in
theorem k_X0_standsAt (l : Launch) (b : Nat) (D : va_G) (cy : Nat → ClassId) (N : Nat) (v0 : Nat) (v1 : Int32) (v2 : Int32) (M : Mem) (r : Int32) (Mf : Mem) (h : fX0_standsAt N v0 v1 v2 M = some (r, Mf)) : Ct l yX0_standsAt cX0_standsAt 4 (some .boolean) 1 0 0 b D cy [.ref (b + v0), .int v1, .int v2] M (some (.int r)) Mf := by
  refine Ct_of (own := RX0) (by decide) rfl (Nat.le_of_ble_eq_true rfl) ?_
  intro p e s m args below meth c F hr hl hmn
  unfold fX0_standsAt at h
  show X p l e ({ frames := 1, cells := 0, slots := 0, locals := 100 * 1 }) s m args below meth c (MQ below (Qm b D cy (some (.int r)) Mf) args s 0 0 (fun q => b ≤ q)) 4 b D cy 0 0 M 0 [(0, .ref (b + v0)), (1, .int v1), (2, .int v2)] []
  refine x_iconst F (v := 0) dX0_standsAt_0 (by decide) ?_
  refine x_istore_n F (lv' := [(3, .int 0), (0, .ref (b + v0)), (1, .int v1), (2, .int v2)]) dX0_standsAt_1 rfl (by decide) rfl ?_
  have L2 : ∀ (v0 : Nat) (v1 : Int32) (v2 : Int32) (n : Nat) (v3 : Int32) (M : Mem) (o : Int32 × Mem), fX0_standsAt_L2 N v0 v1 v2 n v3 M = some o → (∀ (r' : Int32) (M' : Mem), o = (r', M') → r' = r ∧ M' = Mf) → X p l e ({ frames := 1, cells := 0, slots := 0, locals := 100 * 1 }) s m args below meth c (MQ below (Qm b D cy (some (.int r)) Mf) args s 0 0 (fun q => b ≤ q)) 4 b D cy 0 0 M 2 [(0, .ref (b + v0)), (1, .int v1), (2, .int v2), (3, .int v3)] [] := by
    intro v0 v1 v2 n
    induction n with
    | zero => intro v3 M o h; exact absurd h (by rw [fX0_standsAt_L2]; exact fun z => by cases z)
    | succ n ih =>
      intro v3 M o h hR
      rw [fX0_standsAt_L2] at h
      refine x_iload_n F dX0_standsAt_2 rfl 3 rfl ?_
      refine x_aload_n F dX0_standsAt_3 rfl 0 rfl ?_
      obtain ⟨x4, c4, h⟩ := bdS h
      refine x_getR F (ci := 0) (C := RX0) (T := TX0) (N := 12) rfl ⟨by decide, rfl⟩ inU0 0 (by decide) (fun _ _ _ => rfl) wl_17 c4 dX0_standsAt_4 ?_
      obtain ⟨x7, c7, h⟩ := bdS h
      refine x_getR F (ci := 8) (C := RX8) (T := TX8) (N := 17) rfl ⟨by decide, rfl⟩ inU8 12 (by decide) (fun _ _ _ => rfl) wl_55 c7 dX0_standsAt_7 ?_
      refine x_iload_n F dX0_standsAt_10 rfl 1 rfl ?_
      obtain ⟨x11, c11, h⟩ := bdS h
      refine x_aI F c11 dX0_standsAt_11 ?_
      refine x_icmp_ge F (tgt := 47) dX0_standsAt_12 (by decide) (fun c12 => ?_) (fun c12 => ?_)
      · rw [if_pos c12] at h
        refine x_iconst F (v := 1) dX0_standsAt_47 (by decide) ?_
        obtain rfl := Option.some.inj h
        obtain ⟨rfl, rfl⟩ := hR _ _ rfl
        exact x_zret F hr hl (by decide) dX0_standsAt_48
      · rw [if_neg c12] at h
        refine x_aload_n F dX0_standsAt_15 rfl 0 rfl ?_
        obtain ⟨x16, c16, h⟩ := bdS h
        refine x_getR F (ci := 0) (C := RX0) (T := TX0) (N := 12) rfl ⟨by decide, rfl⟩ inU0 1 (by decide) (fun _ _ _ => rfl) wl_6 c16 dX0_standsAt_16 ?_
        refine x_iload_n F dX0_standsAt_19 rfl 2 rfl ?_
        refine x_iload_n F dX0_standsAt_20 rfl 3 rfl ?_
        refine x_iadd F dX0_standsAt_21 ?_
        obtain ⟨x22, c22, h⟩ := bdS h
        refine x_aI F c22 dX0_standsAt_22 ?_
        refine x_aload_n F dX0_standsAt_23 rfl 0 rfl ?_
        obtain ⟨x24, c24, h⟩ := bdS h
        refine x_getR F (ci := 0) (C := RX0) (T := TX0) (N := 12) rfl ⟨by decide, rfl⟩ inU0 0 (by decide) (fun _ _ _ => rfl) wl_17 c24 dX0_standsAt_24 ?_
        obtain ⟨x27, c27, h⟩ := bdS h
        refine x_getR F (ci := 8) (C := RX8) (T := TX8) (N := 17) rfl ⟨by decide, rfl⟩ inU8 13 (by decide) (fun _ _ _ => rfl) wl_56 c27 dX0_standsAt_27 ?_
        refine x_iload_n F dX0_standsAt_30 rfl 1 rfl ?_
        refine x_iconst F (v := 3) dX0_standsAt_31 (by decide) ?_
        refine x_imul F dX0_standsAt_32 ?_
        refine x_iload_n F dX0_standsAt_33 rfl 3 rfl ?_
        refine x_iadd F dX0_standsAt_34 ?_
        obtain ⟨x35, c35, h⟩ := bdS h
        refine x_aI F c35 dX0_standsAt_35 ?_
        refine x_icmp_eq F (tgt := 41) dX0_standsAt_36 (by decide) (fun c36 => ?_) (fun c36 => ?_)
        · rw [if_pos c36] at h
          refine x_iinc F (v := v3 + 1) (lv' := [(3, .int (v3 + 1)), (0, .ref (b + v0)), (1, .int v1), (2, .int v2)]) dX0_standsAt_41 3 rfl rfl (by decide) rfl ?_
          refine x_goto F (tgt := 2) dX0_standsAt_44 (by decide) ?_
          refine x_sub [1, 2, 3, 0] rfl ?_
          exact ih (v3 + 1) M o h hR
        · rw [if_neg c36] at h
          refine x_iconst F (v := 0) dX0_standsAt_39 (by decide) ?_
          obtain rfl := Option.some.inj h
          obtain ⟨rfl, rfl⟩ := hR _ _ rfl
          exact x_zret F hr hl (by decide) dX0_standsAt_40
  obtain ⟨o2, h2, h⟩ := bdS h
  refine x_sub [1, 2, 3, 0] rfl ?_
  refine L2 v0 v1 v2 N 0 M o2 h2 (fun r' M' e => ?_)
  · subst e
    try dsimp only at h
    obtain ⟨rfl, rfl⟩ := retS h; exact ⟨rfl, rfl⟩
theorem hd_X0_standsAt : (yX0_standsAt).cls = RX0 ∧ (yX0_standsAt).cls ≠ "java/lang/invoke/MethodHandle" ∧ (yX0_standsAt).cls ≠ "java/lang/invoke/VarHandle" ∧ (parseMethodDescriptor (yX0_standsAt).desc).map (fun d => d.parameters.length) = some 2 := by decide +kernel
theorem dX0_canBeRead_0 : decode cX0_canBeRead 0 = .ok (.aload_n 0, 1) := by decide +kernel
theorem dX0_canBeRead_1 : decode cX0_canBeRead 1 = .ok (.getfield 18, 3) := by decide +kernel
theorem dX0_canBeRead_4 : decode cX0_canBeRead 4 = .ok (.iload_n 2, 1) := by decide +kernel
theorem dX0_canBeRead_5 : decode cX0_canBeRead 5 = .ok (.iaload, 1) := by decide +kernel
theorem dX0_canBeRead_6 : decode cX0_canBeRead 6 = .ok (.aload_n 0, 1) := by decide +kernel
theorem dX0_canBeRead_7 : decode cX0_canBeRead 7 = .ok (.getfield 46, 3) := by decide +kernel
theorem dX0_canBeRead_10 : decode cX0_canBeRead 10 = .ok (.getfield 114, 3) := by decide +kernel
theorem dX0_canBeRead_13 : decode cX0_canBeRead 13 = .ok (.iload_n 1, 1) := by decide +kernel
theorem dX0_canBeRead_14 : decode cX0_canBeRead 14 = .ok (.iaload, 1) := by decide +kernel
theorem dX0_canBeRead_15 : decode cX0_canBeRead 15 = .ok (.if_icmp .ge 5, 3) := by decide +kernel
theorem dX0_canBeRead_18 : decode cX0_canBeRead 18 = .ok (.iconst 0, 1) := by decide +kernel
theorem dX0_canBeRead_19 : decode cX0_canBeRead 19 = .ok (.ireturn, 1) := by decide +kernel
theorem dX0_canBeRead_20 : decode cX0_canBeRead 20 = .ok (.iconst 0, 1) := by decide +kernel
theorem dX0_canBeRead_21 : decode cX0_canBeRead 21 = .ok (.istore_n 3, 1) := by decide +kernel
theorem dX0_canBeRead_22 : decode cX0_canBeRead 22 = .ok (.iload_n 3, 1) := by decide +kernel
theorem dX0_canBeRead_23 : decode cX0_canBeRead 23 = .ok (.aload_n 0, 1) := by decide +kernel
theorem dX0_canBeRead_24 : decode cX0_canBeRead 24 = .ok (.getfield 46, 3) := by decide +kernel
theorem dX0_canBeRead_27 : decode cX0_canBeRead 27 = .ok (.getfield 114, 3) := by decide +kernel
theorem dX0_canBeRead_30 : decode cX0_canBeRead 30 = .ok (.iload_n 1, 1) := by decide +kernel
theorem dX0_canBeRead_31 : decode cX0_canBeRead 31 = .ok (.iaload, 1) := by decide +kernel
theorem dX0_canBeRead_32 : decode cX0_canBeRead 32 = .ok (.iadd, 1) := by decide +kernel
theorem dX0_canBeRead_33 : decode cX0_canBeRead 33 = .ok (.aload_n 0, 1) := by decide +kernel
theorem dX0_canBeRead_34 : decode cX0_canBeRead 34 = .ok (.getfield 46, 3) := by decide +kernel
theorem dX0_canBeRead_37 : decode cX0_canBeRead 37 = .ok (.getfield 117, 3) := by decide +kernel
theorem dX0_canBeRead_40 : decode cX0_canBeRead 40 = .ok (.iload_n 2, 1) := by decide +kernel
theorem dX0_canBeRead_41 : decode cX0_canBeRead 41 = .ok (.iaload, 1) := by decide +kernel
theorem dX0_canBeRead_42 : decode cX0_canBeRead 42 = .ok (.if_icmp .gt 24, 3) := by decide +kernel
theorem dX0_canBeRead_45 : decode cX0_canBeRead 45 = .ok (.aload_n 0, 1) := by decide +kernel
theorem dX0_canBeRead_46 : decode cX0_canBeRead 46 = .ok (.iload_n 1, 1) := by decide +kernel
theorem dX0_canBeRead_47 : decode cX0_canBeRead 47 = .ok (.iload_n 2, 1) := by decide +kernel
theorem dX0_canBeRead_48 : decode cX0_canBeRead 48 = .ok (.iload_n 3, 1) := by decide +kernel
theorem dX0_canBeRead_49 : decode cX0_canBeRead 49 = .ok (.invokestatic 67, 3) := by decide +kernel
theorem dX0_canBeRead_52 : decode cX0_canBeRead 52 = .ok (.invokevirtual 120, 3) := by decide +kernel
theorem dX0_canBeRead_55 : decode cX0_canBeRead 55 = .ok (.ifCond .eq 5, 3) := by decide +kernel
theorem dX0_canBeRead_58 : decode cX0_canBeRead 58 = .ok (.iconst 1, 1) := by decide +kernel
theorem dX0_canBeRead_59 : decode cX0_canBeRead 59 = .ok (.ireturn, 1) := by decide +kernel
theorem dX0_canBeRead_60 : decode cX0_canBeRead 60 = .ok (.iinc 3 1, 3) := by decide +kernel
theorem dX0_canBeRead_63 : decode cX0_canBeRead 63 = .ok (.goto (-41), 3) := by decide +kernel
theorem dX0_canBeRead_66 : decode cX0_canBeRead 66 = .ok (.iconst 0, 1) := by decide +kernel
theorem dX0_canBeRead_67 : decode cX0_canBeRead 67 = .ok (.ireturn, 1) := by decide +kernel
def fX0_canBeRead_L22 (N : Nat) (v0 : Nat) (v1 : Int32) (v2 : Int32) : Nat → Int32 → Mem → Option (Int32 × Mem)
  | 0, _, _ => none
  | n + 1, v3, M => ((fR M 0 v0 0).bind fun x24 => ((fR M 8 x24 12).bind fun x27 => ((aI M x27 v1).bind fun x31 => ((fR M 0 v0 0).bind fun x34 => ((fR M 8 x34 3).bind fun x37 => ((aI M x37 v2).bind fun x41 => (if x41 < (v3 + x31) then some (0, M) else ((fX10_placeIndex N v2 v3 M).bind fun (x49, M49) => (if mK M49 v0 = 1 then ((fX0_standsAt N v0 v1 x49 M49).bind fun (x52, M52) => (if x52 = 0 then fX0_canBeRead_L22 N v0 v1 v2 n (v3 + 1) M52 else some (1, M52))) else none)))))))))
def fX0_canBeRead (N : Nat) (v0 : Nat) (v1 : Int32) (v2 : Int32) (M : Mem) : Option (Int32 × Mem) := ((fR M 0 v0 3).bind fun x1 => ((aI M x1 v2).bind fun x5 => ((fR M 0 v0 0).bind fun x7 => ((fR M 8 x7 12).bind fun x10 => ((aI M x10 v1).bind fun x14 => (if x14 ≤ x5 then ((fX0_canBeRead_L22 N v0 v1 v2 N 0 M).bind fun o22 => some o22) else some (0, M)))))))
set_option maxHeartbeats 4000000 in
set_option maxRecDepth 100000 in
theorem k_X0_canBeRead (l : Launch) (b : Nat) (D : va_G) (cy : Nat → ClassId) (N : Nat) (v0 : Nat) (v1 : Int32) (v2 : Int32) (M : Mem) (r : Int32) (Mf : Mem) (h : fX0_canBeRead N v0 v1 v2 M = some (r, Mf)) : Ct l yX0_canBeRead cX0_canBeRead 4 (some .boolean) 2 0 0 b D cy [.ref (b + v0), .int v1, .int v2] M (some (.int r)) Mf := by
  refine Ct_of (own := RX0) (by decide) rfl (Nat.le_of_ble_eq_true rfl) ?_
  intro p e s m args below meth c F hr hl hmn
  unfold fX0_canBeRead at h
  show X p l e ({ frames := 2, cells := 0, slots := 0, locals := 100 * 2 }) s m args below meth c (MQ below (Qm b D cy (some (.int r)) Mf) args s 0 0 (fun q => b ≤ q)) 4 b D cy 0 0 M 0 [(0, .ref (b + v0)), (1, .int v1), (2, .int v2)] []
  refine x_aload_n F dX0_canBeRead_0 rfl 0 rfl ?_
  obtain ⟨x1, c1, h⟩ := bdS h
  refine x_getR F (ci := 0) (C := RX0) (T := TX0) (N := 12) rfl ⟨by decide, rfl⟩ inU0 3 (by decide) (fun _ _ _ => rfl) wl_8 c1 dX0_canBeRead_1 ?_
  refine x_iload_n F dX0_canBeRead_4 rfl 2 rfl ?_
  obtain ⟨x5, c5, h⟩ := bdS h
  refine x_aI F c5 dX0_canBeRead_5 ?_
  refine x_aload_n F dX0_canBeRead_6 rfl 0 rfl ?_
  obtain ⟨x7, c7, h⟩ := bdS h
  refine x_getR F (ci := 0) (C := RX0) (T := TX0) (N := 12) rfl ⟨by decide, rfl⟩ inU0 0 (by decide) (fun _ _ _ => rfl) wl_17 c7 dX0_canBeRead_7 ?_
  obtain ⟨x10, c10, h⟩ := bdS h
  refine x_getR F (ci := 8) (C := RX8) (T := TX8) (N := 17) rfl ⟨by decide, rfl⟩ inU8 12 (by decide) (fun _ _ _ => rfl) wl_55 c10 dX0_canBeRead_10 ?_
  refine x_iload_n F dX0_canBeRead_13 rfl 1 rfl ?_
  obtain ⟨x14, c14, h⟩ := bdS h
  refine x_aI F c14 dX0_canBeRead_14 ?_
  refine x_icmp_ge F (tgt := 20) dX0_canBeRead_15 (by decide) (fun c15 => ?_) (fun c15 => ?_)
  · rw [if_pos c15] at h
    refine x_iconst F (v := 0) dX0_canBeRead_20 (by decide) ?_
    refine x_istore_n F (lv' := [(3, .int 0), (0, .ref (b + v0)), (1, .int v1), (2, .int v2)]) dX0_canBeRead_21 rfl (by decide) rfl ?_
    have L22 : ∀ (v0 : Nat) (v1 : Int32) (v2 : Int32) (n : Nat) (v3 : Int32) (M : Mem) (o : Int32 × Mem), fX0_canBeRead_L22 N v0 v1 v2 n v3 M = some o → (∀ (r' : Int32) (M' : Mem), o = (r', M') → r' = r ∧ M' = Mf) → X p l e ({ frames := 2, cells := 0, slots := 0, locals := 100 * 2 }) s m args below meth c (MQ below (Qm b D cy (some (.int r)) Mf) args s 0 0 (fun q => b ≤ q)) 4 b D cy 0 0 M 22 [(0, .ref (b + v0)), (1, .int v1), (2, .int v2), (3, .int v3)] [] := by
      intro v0 v1 v2 n
      induction n with
      | zero => intro v3 M o h; exact absurd h (by rw [fX0_canBeRead_L22]; exact fun z => by cases z)
      | succ n ih =>
        intro v3 M o h hR
        rw [fX0_canBeRead_L22] at h
        refine x_iload_n F dX0_canBeRead_22 rfl 3 rfl ?_
        refine x_aload_n F dX0_canBeRead_23 rfl 0 rfl ?_
        obtain ⟨x24, c24, h⟩ := bdS h
        refine x_getR F (ci := 0) (C := RX0) (T := TX0) (N := 12) rfl ⟨by decide, rfl⟩ inU0 0 (by decide) (fun _ _ _ => rfl) wl_17 c24 dX0_canBeRead_24 ?_
        obtain ⟨x27, c27, h⟩ := bdS h
        refine x_getR F (ci := 8) (C := RX8) (T := TX8) (N := 17) rfl ⟨by decide, rfl⟩ inU8 12 (by decide) (fun _ _ _ => rfl) wl_55 c27 dX0_canBeRead_27 ?_
        refine x_iload_n F dX0_canBeRead_30 rfl 1 rfl ?_
        obtain ⟨x31, c31, h⟩ := bdS h
        refine x_aI F c31 dX0_canBeRead_31 ?_
        refine x_iadd F dX0_canBeRead_32 ?_
        refine x_aload_n F dX0_canBeRead_33 rfl 0 rfl ?_
        obtain ⟨x34, c34, h⟩ := bdS h
        refine x_getR F (ci := 0) (C := RX0) (T := TX0) (N := 12) rfl ⟨by decide, rfl⟩ inU0 0 (by decide) (fun _ _ _ => rfl) wl_17 c34 dX0_canBeRead_34 ?_
        obtain ⟨x37, c37, h⟩ := bdS h
        refine x_getR F (ci := 8) (C := RX8) (T := TX8) (N := 17) rfl ⟨by decide, rfl⟩ inU8 3 (by decide) (fun _ _ _ => rfl) wl_58 c37 dX0_canBeRead_37 ?_
        refine x_iload_n F dX0_canBeRead_40 rfl 2 rfl ?_
        obtain ⟨x41, c41, h⟩ := bdS h
        refine x_aI F c41 dX0_canBeRead_41 ?_
        refine x_icmp_gt F (tgt := 66) dX0_canBeRead_42 (by decide) (fun c42 => ?_) (fun c42 => ?_)
        · rw [if_pos c42] at h
          refine x_iconst F (v := 0) dX0_canBeRead_66 (by decide) ?_
          obtain rfl := Option.some.inj h
          obtain ⟨rfl, rfl⟩ := hR _ _ rfl
          exact x_zret F hr hl (by decide) dX0_canBeRead_67
        · rw [if_neg c42] at h
          refine x_aload_n F dX0_canBeRead_45 rfl 0 rfl ?_
          refine x_iload_n F dX0_canBeRead_46 rfl 1 rfl ?_
          refine x_iload_n F dX0_canBeRead_47 rfl 2 rfl ?_
          refine x_iload_n F dX0_canBeRead_48 rfl 3 rfl ?_
          obtain ⟨⟨x49, M49⟩, c49, h⟩ := bdS h
          dsimp only at h
          refine x_callSN F (As := [.int v2, .int v3]) (rest := [.int v1, .ref (b + v0)]) (res := (some (.int x49))) (host := RX10) (k_X10_placeIndex l b D cy N v2 v3 M _ _ c49) wl_27 (by decide +kernel) wl_31 wl_30 (hd_X10_placeIndex).2 ⟨Nat.le_of_ble_eq_true rfl, Nat.le_of_ble_eq_true rfl⟩ ⟨Nat.le_refl _, Nat.le_refl _⟩ (Nat.le_of_ble_eq_true rfl) rfl dX0_canBeRead_49 ?_
          obtain ⟨k52, h⟩ := gdS h
          obtain ⟨⟨x52, M52⟩, c52, h⟩ := bdS h
          dsimp only at h
          refine x_callV F (As := [.int v1, .int x49]) (rest := []) (res := (some (.int x52))) (ci := 0) (q := (RX0, TX0, 12)) rfl (by decide) k52 (k_X0_standsAt l b D cy N v0 v1 x49 M49 _ _ c52) wl_59 wl_60 wl_61 wl_52 wl_54 hd_X0_standsAt ⟨Nat.le_of_ble_eq_true rfl, Nat.le_of_ble_eq_true rfl⟩ ⟨Nat.le_refl _, Nat.le_refl _⟩ (Nat.le_of_ble_eq_true rfl) rfl dX0_canBeRead_52 ?_
          refine x_if_eq F (tgt := 60) dX0_canBeRead_55 (by decide) (fun c55 => ?_) (fun c55 => ?_)
          · rw [if_pos c55] at h
            refine x_iinc F (v := v3 + 1) (lv' := [(3, .int (v3 + 1)), (0, .ref (b + v0)), (1, .int v1), (2, .int v2)]) dX0_canBeRead_60 3 rfl rfl (by decide) rfl ?_
            refine x_goto F (tgt := 22) dX0_canBeRead_63 (by decide) ?_
            refine x_sub [1, 2, 3, 0] rfl ?_
            exact ih (v3 + 1) M52 o h hR
          · rw [if_neg c55] at h
            refine x_iconst F (v := 1) dX0_canBeRead_58 (by decide) ?_
            obtain rfl := Option.some.inj h
            obtain ⟨rfl, rfl⟩ := hR _ _ rfl
            exact x_zret F hr hl (by decide) dX0_canBeRead_59
    obtain ⟨o22, h22, h⟩ := bdS h
    refine x_sub [1, 2, 3, 0] rfl ?_
    refine L22 v0 v1 v2 N 0 M o22 h22 (fun r' M' e => ?_)
    · subst e
      try dsimp only at h
      obtain ⟨rfl, rfl⟩ := retS h; exact ⟨rfl, rfl⟩
  · rw [if_neg c15] at h
    refine x_iconst F (v := 0) dX0_canBeRead_18 (by decide) ?_
    obtain ⟨rfl, rfl⟩ := retS h
    exact x_zret F hr hl (by decide) dX0_canBeRead_19
theorem hd_X0_canBeRead : (yX0_canBeRead).cls = RX0 ∧ (yX0_canBeRead).cls ≠ "java/lang/invoke/MethodHandle" ∧ (yX0_canBeRead).cls ≠ "java/lang/invoke/VarHandle" ∧ (parseMethodDescriptor (yX0_canBeRead).desc).map (fun d => d.parameters.length) = some 2 := by decide +kernel
theorem dX0_firstBandOf_0 : decode cX0_firstBandOf 0 = .ok (.iconst 0, 1) := by decide +kernel
theorem dX0_firstBandOf_1 : decode cX0_firstBandOf 1 = .ok (.istore_n 2, 1) := by decide +kernel
theorem dX0_firstBandOf_2 : decode cX0_firstBandOf 2 = .ok (.iload_n 2, 1) := by decide +kernel
theorem dX0_firstBandOf_3 : decode cX0_firstBandOf 3 = .ok (.aload_n 0, 1) := by decide +kernel
theorem dX0_firstBandOf_4 : decode cX0_firstBandOf 4 = .ok (.getfield 46, 3) := by decide +kernel
theorem dX0_firstBandOf_7 : decode cX0_firstBandOf 7 = .ok (.getfield 92, 3) := by decide +kernel
theorem dX0_firstBandOf_10 : decode cX0_firstBandOf 10 = .ok (.if_icmp .ge 20, 3) := by decide +kernel
theorem dX0_firstBandOf_13 : decode cX0_firstBandOf 13 = .ok (.aload_n 0, 1) := by decide +kernel
theorem dX0_firstBandOf_14 : decode cX0_firstBandOf 14 = .ok (.iload_n 1, 1) := by decide +kernel
theorem dX0_firstBandOf_15 : decode cX0_firstBandOf 15 = .ok (.iload_n 2, 1) := by decide +kernel
theorem dX0_firstBandOf_16 : decode cX0_firstBandOf 16 = .ok (.invokevirtual 110, 3) := by decide +kernel
theorem dX0_firstBandOf_19 : decode cX0_firstBandOf 19 = .ok (.ifCond .eq 5, 3) := by decide +kernel
theorem dX0_firstBandOf_22 : decode cX0_firstBandOf 22 = .ok (.iload_n 2, 1) := by decide +kernel
theorem dX0_firstBandOf_23 : decode cX0_firstBandOf 23 = .ok (.ireturn, 1) := by decide +kernel
theorem dX0_firstBandOf_24 : decode cX0_firstBandOf 24 = .ok (.iinc 2 1, 3) := by decide +kernel
theorem dX0_firstBandOf_27 : decode cX0_firstBandOf 27 = .ok (.goto (-25), 3) := by decide +kernel
theorem dX0_firstBandOf_30 : decode cX0_firstBandOf 30 = .ok (.iconst (-1), 1) := by decide +kernel
theorem dX0_firstBandOf_31 : decode cX0_firstBandOf 31 = .ok (.ireturn, 1) := by decide +kernel
def fX0_firstBandOf_L2 (N : Nat) (v0 : Nat) (v1 : Int32) : Nat → Int32 → Mem → Option (Int32 × Mem)
  | 0, _, _ => none
  | n + 1, v2, M => ((fR M 0 v0 0).bind fun x4 => ((fI M 8 x4 0).bind fun x7 => (if x7 ≤ v2 then some ((-1), M) else (if mK M v0 = 1 then ((fX0_canBeRead N v0 v1 v2 M).bind fun (x16, M16) => (if x16 = 0 then fX0_firstBandOf_L2 N v0 v1 n (v2 + 1) M16 else some (v2, M16))) else none))))
def fX0_firstBandOf (N : Nat) (v0 : Nat) (v1 : Int32) (M : Mem) : Option (Int32 × Mem) := ((fX0_firstBandOf_L2 N v0 v1 N 0 M).bind fun o2 => some o2)
set_option maxHeartbeats 4000000 in
set_option maxRecDepth 100000 in
theorem k_X0_firstBandOf (l : Launch) (b : Nat) (D : va_G) (cy : Nat → ClassId) (N : Nat) (v0 : Nat) (v1 : Int32) (M : Mem) (r : Int32) (Mf : Mem) (h : fX0_firstBandOf N v0 v1 M = some (r, Mf)) : Ct l yX0_firstBandOf cX0_firstBandOf 3 (some .int) 3 0 0 b D cy [.ref (b + v0), .int v1] M (some (.int r)) Mf := by
  refine Ct_of (own := RX0) (by decide) rfl (Nat.le_of_ble_eq_true rfl) ?_
  intro p e s m args below meth c F hr hl hmn
  unfold fX0_firstBandOf at h
  show X p l e ({ frames := 3, cells := 0, slots := 0, locals := 100 * 3 }) s m args below meth c (MQ below (Qm b D cy (some (.int r)) Mf) args s 0 0 (fun q => b ≤ q)) 3 b D cy 0 0 M 0 [(0, .ref (b + v0)), (1, .int v1)] []
  refine x_iconst F (v := 0) dX0_firstBandOf_0 (by decide) ?_
  refine x_istore_n F (lv' := [(2, .int 0), (0, .ref (b + v0)), (1, .int v1)]) dX0_firstBandOf_1 rfl (by decide) rfl ?_
  have L2 : ∀ (v0 : Nat) (v1 : Int32) (n : Nat) (v2 : Int32) (M : Mem) (o : Int32 × Mem), fX0_firstBandOf_L2 N v0 v1 n v2 M = some o → (∀ (r' : Int32) (M' : Mem), o = (r', M') → r' = r ∧ M' = Mf) → X p l e ({ frames := 3, cells := 0, slots := 0, locals := 100 * 3 }) s m args below meth c (MQ below (Qm b D cy (some (.int r)) Mf) args s 0 0 (fun q => b ≤ q)) 3 b D cy 0 0 M 2 [(0, .ref (b + v0)), (1, .int v1), (2, .int v2)] [] := by
    intro v0 v1 n
    induction n with
    | zero => intro v2 M o h; exact absurd h (by rw [fX0_firstBandOf_L2]; exact fun z => by cases z)
    | succ n ih =>
      intro v2 M o h hR
      rw [fX0_firstBandOf_L2] at h
      refine x_iload_n F dX0_firstBandOf_2 rfl 2 rfl ?_
      refine x_aload_n F dX0_firstBandOf_3 rfl 0 rfl ?_
      obtain ⟨x4, c4, h⟩ := bdS h
      refine x_getR F (ci := 0) (C := RX0) (T := TX0) (N := 12) rfl ⟨by decide, rfl⟩ inU0 0 (by decide) (fun _ _ _ => rfl) wl_17 c4 dX0_firstBandOf_4 ?_
      obtain ⟨x7, c7, h⟩ := bdS h
      refine x_getI F (ci := 8) (C := RX8) (T := TX8) (N := 17) rfl ⟨by decide, rfl⟩ inU8 0 (by decide) (fun _ _ _ => rfl) wl_47 c7 dX0_firstBandOf_7 ?_
      refine x_icmp_ge F (tgt := 30) dX0_firstBandOf_10 (by decide) (fun c10 => ?_) (fun c10 => ?_)
      · rw [if_pos c10] at h
        refine x_iconst F (v := (-1)) dX0_firstBandOf_30 (by decide) ?_
        obtain rfl := Option.some.inj h
        obtain ⟨rfl, rfl⟩ := hR _ _ rfl
        exact x_iret F hr hl dX0_firstBandOf_31
      · rw [if_neg c10] at h
        refine x_aload_n F dX0_firstBandOf_13 rfl 0 rfl ?_
        refine x_iload_n F dX0_firstBandOf_14 rfl 1 rfl ?_
        refine x_iload_n F dX0_firstBandOf_15 rfl 2 rfl ?_
        obtain ⟨k16, h⟩ := gdS h
        obtain ⟨⟨x16, M16⟩, c16, h⟩ := bdS h
        dsimp only at h
        refine x_callV F (As := [.int v1, .int v2]) (rest := []) (res := (some (.int x16))) (ci := 0) (q := (RX0, TX0, 12)) rfl (by decide) k16 (k_X0_canBeRead l b D cy N v0 v1 v2 M _ _ c16) wl_63 wl_64 wl_65 wl_52 wl_57 hd_X0_canBeRead ⟨Nat.le_of_ble_eq_true rfl, Nat.le_of_ble_eq_true rfl⟩ ⟨Nat.le_refl _, Nat.le_refl _⟩ (Nat.le_of_ble_eq_true rfl) rfl dX0_firstBandOf_16 ?_
        refine x_if_eq F (tgt := 24) dX0_firstBandOf_19 (by decide) (fun c19 => ?_) (fun c19 => ?_)
        · rw [if_pos c19] at h
          refine x_iinc F (v := v2 + 1) (lv' := [(2, .int (v2 + 1)), (0, .ref (b + v0)), (1, .int v1)]) dX0_firstBandOf_24 2 rfl rfl (by decide) rfl ?_
          refine x_goto F (tgt := 2) dX0_firstBandOf_27 (by decide) ?_
          refine x_sub [1, 2, 0] rfl ?_
          exact ih (v2 + 1) M16 o h hR
        · rw [if_neg c19] at h
          refine x_iload_n F dX0_firstBandOf_22 rfl 2 rfl ?_
          obtain rfl := Option.some.inj h
          obtain ⟨rfl, rfl⟩ := hR _ _ rfl
          exact x_iret F hr hl dX0_firstBandOf_23
  obtain ⟨o2, h2, h⟩ := bdS h
  refine x_sub [1, 2, 0] rfl ?_
  refine L2 v0 v1 N 0 M o2 h2 (fun r' M' e => ?_)
  · subst e
    try dsimp only at h
    obtain ⟨rfl, rfl⟩ := retS h; exact ⟨rfl, rfl⟩
theorem hd_X0_firstBandOf : (yX0_firstBandOf).cls = RX0 ∧ (yX0_firstBandOf).cls ≠ "java/lang/invoke/MethodHandle" ∧ (yX0_firstBandOf).cls ≠ "java/lang/invoke/VarHandle" ∧ (parseMethodDescriptor (yX0_firstBandOf).desc).map (fun d => d.parameters.length) = some 1 := by decide +kernel
theorem dX0_makeOlder_0 : decode cX0_makeOlder 0 = .ok (.aload_n 0, 1) := by decide +kernel
theorem dX0_makeOlder_1 : decode cX0_makeOlder 1 = .ok (.iload_n 1, 1) := by decide +kernel
theorem dX0_makeOlder_2 : decode cX0_makeOlder 2 = .ok (.invokevirtual 104, 3) := by decide +kernel
theorem dX0_makeOlder_5 : decode cX0_makeOlder 5 = .ok (.iconst (-1), 1) := by decide +kernel
theorem dX0_makeOlder_6 : decode cX0_makeOlder 6 = .ok (.if_icmp .eq 11, 3) := by decide +kernel
theorem dX0_makeOlder_9 : decode cX0_makeOlder 9 = .ok (.aload_n 0, 1) := by decide +kernel
theorem dX0_makeOlder_10 : decode cX0_makeOlder 10 = .ok (.getfield 24, 3) := by decide +kernel
theorem dX0_makeOlder_13 : decode cX0_makeOlder 13 = .ok (.iload_n 1, 1) := by decide +kernel
theorem dX0_makeOlder_14 : decode cX0_makeOlder 14 = .ok (.iconst 0, 1) := by decide +kernel
theorem dX0_makeOlder_15 : decode cX0_makeOlder 15 = .ok (.iastore, 1) := by decide +kernel
theorem dX0_makeOlder_16 : decode cX0_makeOlder 16 = .ok (.return_, 1) := by decide +kernel
theorem dX0_makeOlder_17 : decode cX0_makeOlder 17 = .ok (.aload_n 0, 1) := by decide +kernel
theorem dX0_makeOlder_18 : decode cX0_makeOlder 18 = .ok (.getfield 24, 3) := by decide +kernel
theorem dX0_makeOlder_21 : decode cX0_makeOlder 21 = .ok (.iload_n 1, 1) := by decide +kernel
theorem dX0_makeOlder_22 : decode cX0_makeOlder 22 = .ok (.dup2, 1) := by decide +kernel
theorem dX0_makeOlder_23 : decode cX0_makeOlder 23 = .ok (.iaload, 1) := by decide +kernel
theorem dX0_makeOlder_24 : decode cX0_makeOlder 24 = .ok (.iconst 1, 1) := by decide +kernel
theorem dX0_makeOlder_25 : decode cX0_makeOlder 25 = .ok (.iadd, 1) := by decide +kernel
theorem dX0_makeOlder_26 : decode cX0_makeOlder 26 = .ok (.iastore, 1) := by decide +kernel
theorem dX0_makeOlder_27 : decode cX0_makeOlder 27 = .ok (.aload_n 0, 1) := by decide +kernel
theorem dX0_makeOlder_28 : decode cX0_makeOlder 28 = .ok (.getfield 24, 3) := by decide +kernel
theorem dX0_makeOlder_31 : decode cX0_makeOlder 31 = .ok (.iload_n 1, 1) := by decide +kernel
theorem dX0_makeOlder_32 : decode cX0_makeOlder 32 = .ok (.iaload, 1) := by decide +kernel
theorem dX0_makeOlder_33 : decode cX0_makeOlder 33 = .ok (.aload_n 0, 1) := by decide +kernel
theorem dX0_makeOlder_34 : decode cX0_makeOlder 34 = .ok (.getfield 46, 3) := by decide +kernel
theorem dX0_makeOlder_37 : decode cX0_makeOlder 37 = .ok (.getfield 107, 3) := by decide +kernel
theorem dX0_makeOlder_40 : decode cX0_makeOlder 40 = .ok (.if_icmp .lt 15, 3) := by decide +kernel
theorem dX0_makeOlder_43 : decode cX0_makeOlder 43 = .ok (.aload_n 0, 1) := by decide +kernel
theorem dX0_makeOlder_44 : decode cX0_makeOlder 44 = .ok (.dup, 1) := by decide +kernel
theorem dX0_makeOlder_45 : decode cX0_makeOlder 45 = .ok (.getfield 33, 3) := by decide +kernel
theorem dX0_makeOlder_48 : decode cX0_makeOlder 48 = .ok (.iconst 1, 1) := by decide +kernel
theorem dX0_makeOlder_49 : decode cX0_makeOlder 49 = .ok (.iload_n 1, 1) := by decide +kernel
theorem dX0_makeOlder_50 : decode cX0_makeOlder 50 = .ok (.ishl, 1) := by decide +kernel
theorem dX0_makeOlder_51 : decode cX0_makeOlder 51 = .ok (.ior, 1) := by decide +kernel
theorem dX0_makeOlder_52 : decode cX0_makeOlder 52 = .ok (.putfield 33, 3) := by decide +kernel
theorem dX0_makeOlder_55 : decode cX0_makeOlder 55 = .ok (.return_, 1) := by decide +kernel
def fX0_makeOlder (N : Nat) (v0 : Nat) (v1 : Int32) (M : Mem) : Option (Unit × Mem) := (if mK M v0 = 1 then ((fX0_firstBandOf N v0 v1 M).bind fun (x2, M2) => (if x2 = ((-1)) then ((fR M2 0 v0 5).bind fun x18 => ((aI M2 x18 v1).bind fun x23 => ((tI M2 x18 v1 (x23 + 1)).bind fun M26 => ((fR M26 0 v0 5).bind fun x28 => ((aI M26 x28 v1).bind fun x32 => ((fR M26 0 v0 0).bind fun x34 => ((fI M26 8 x34 14).bind fun x37 => (if x32 < x37 then some ((), M26) else ((fI M26 0 v0 8).bind fun x45 => ((pI M26 0 v0 8 (x45 ||| (1 <<< (v1 &&& 31)))).bind fun M52 => some ((), M52))))))))))) else ((fR M2 0 v0 5).bind fun x10 => ((tI M2 x10 v1 0).bind fun M15 => some ((), M15))))) else none)
set_option maxHeartbeats 4000000 in
set_option maxRecDepth 100000 in
theorem k_X0_makeOlder (l : Launch) (b : Nat) (D : va_G) (cy : Nat → ClassId) (N : Nat) (v0 : Nat) (v1 : Int32) (M : Mem) (r : Unit) (Mf : Mem) (h : fX0_makeOlder N v0 v1 M = some (r, Mf)) : Ct l yX0_makeOlder cX0_makeOlder 2 none 4 0 0 b D cy [.ref (b + v0), .int v1] M none Mf := by
  refine Ct_of (own := RX0) (by decide) rfl (Nat.le_of_ble_eq_true rfl) ?_
  intro p e s m args below meth c F hr hl hmn
  unfold fX0_makeOlder at h
  show X p l e ({ frames := 4, cells := 0, slots := 0, locals := 100 * 4 }) s m args below meth c (MQ below (Qm b D cy none Mf) args s 0 0 (fun q => b ≤ q)) 2 b D cy 0 0 M 0 [(0, .ref (b + v0)), (1, .int v1)] []
  refine x_aload_n F dX0_makeOlder_0 rfl 0 rfl ?_
  refine x_iload_n F dX0_makeOlder_1 rfl 1 rfl ?_
  obtain ⟨k2, h⟩ := gdS h
  obtain ⟨⟨x2, M2⟩, c2, h⟩ := bdS h
  dsimp only at h
  refine x_callV F (As := [.int v1]) (rest := []) (res := (some (.int x2))) (ci := 0) (q := (RX0, TX0, 12)) rfl (by decide) k2 (k_X0_firstBandOf l b D cy N v0 v1 M _ _ c2) wl_67 wl_68 wl_69 wl_52 wl_62 hd_X0_firstBandOf ⟨Nat.le_of_ble_eq_true rfl, Nat.le_of_ble_eq_true rfl⟩ ⟨Nat.le_refl _, Nat.le_refl _⟩ (Nat.le_of_ble_eq_true rfl) rfl dX0_makeOlder_2 ?_
  refine x_iconst F (v := (-1)) dX0_makeOlder_5 (by decide) ?_
  refine x_icmp_eq F (tgt := 17) dX0_makeOlder_6 (by decide) (fun c6 => ?_) (fun c6 => ?_)
  · rw [if_pos c6] at h
    refine x_aload_n F dX0_makeOlder_17 rfl 0 rfl ?_
    obtain ⟨x18, c18, h⟩ := bdS h
    refine x_getR F (ci := 0) (C := RX0) (T := TX0) (N := 12) rfl ⟨by decide, rfl⟩ inU0 5 (by decide) (fun _ _ _ => rfl) wl_10 c18 dX0_makeOlder_18 ?_
    refine x_iload_n F dX0_makeOlder_21 rfl 1 rfl ?_
    refine x_dup2 F dX0_makeOlder_22 rfl rfl ?_
    obtain ⟨x23, c23, h⟩ := bdS h
    refine x_aI F c23 dX0_makeOlder_23 ?_
    refine x_iconst F (v := 1) dX0_makeOlder_24 (by decide) ?_
    refine x_iadd F dX0_makeOlder_25 ?_
    obtain ⟨M26, c26, h⟩ := bdS h
    refine x_tI F c26 dX0_makeOlder_26 ?_
    refine x_aload_n F dX0_makeOlder_27 rfl 0 rfl ?_
    obtain ⟨x28, c28, h⟩ := bdS h
    refine x_getR F (ci := 0) (C := RX0) (T := TX0) (N := 12) rfl ⟨by decide, rfl⟩ inU0 5 (by decide) (fun _ _ _ => rfl) wl_10 c28 dX0_makeOlder_28 ?_
    refine x_iload_n F dX0_makeOlder_31 rfl 1 rfl ?_
    obtain ⟨x32, c32, h⟩ := bdS h
    refine x_aI F c32 dX0_makeOlder_32 ?_
    refine x_aload_n F dX0_makeOlder_33 rfl 0 rfl ?_
    obtain ⟨x34, c34, h⟩ := bdS h
    refine x_getR F (ci := 0) (C := RX0) (T := TX0) (N := 12) rfl ⟨by decide, rfl⟩ inU0 0 (by decide) (fun _ _ _ => rfl) wl_17 c34 dX0_makeOlder_34 ?_
    obtain ⟨x37, c37, h⟩ := bdS h
    refine x_getI F (ci := 8) (C := RX8) (T := TX8) (N := 17) rfl ⟨by decide, rfl⟩ inU8 14 (by decide) (fun _ _ _ => rfl) wl_66 c37 dX0_makeOlder_37 ?_
    refine x_icmp_lt F (tgt := 55) dX0_makeOlder_40 (by decide) (fun c40 => ?_) (fun c40 => ?_)
    · rw [if_pos c40] at h
      obtain ⟨rfl, rfl⟩ := retS h
      exact x_vret F hr hl dX0_makeOlder_55
    · rw [if_neg c40] at h
      refine x_aload_n F dX0_makeOlder_43 rfl 0 rfl ?_
      refine x_dup F dX0_makeOlder_44 rfl ?_
      obtain ⟨x45, c45, h⟩ := bdS h
      refine x_getI F (ci := 0) (C := RX0) (T := TX0) (N := 12) rfl ⟨by decide, rfl⟩ inU0 8 (by decide) (fun _ _ _ => rfl) wl_13 c45 dX0_makeOlder_45 ?_
      refine x_iconst F (v := 1) dX0_makeOlder_48 (by decide) ?_
      refine x_iload_n F dX0_makeOlder_49 rfl 1 rfl ?_
      refine x_ishl F dX0_makeOlder_50 ?_
      refine x_ior F dX0_makeOlder_51 ?_
      obtain ⟨M52, c52, h⟩ := bdS h
      refine x_putI F (ci := 0) (C := RX0) (T := TX0) (N := 12) rfl ⟨by decide, rfl⟩ inU0 tyX0_ok nmX0 8 (by decide) rfl rfl wl_13 c52 dX0_makeOlder_52 ?_
      obtain ⟨rfl, rfl⟩ := retS h
      exact x_vret F hr hl dX0_makeOlder_55
  · rw [if_neg c6] at h
    refine x_aload_n F dX0_makeOlder_9 rfl 0 rfl ?_
    obtain ⟨x10, c10, h⟩ := bdS h
    refine x_getR F (ci := 0) (C := RX0) (T := TX0) (N := 12) rfl ⟨by decide, rfl⟩ inU0 5 (by decide) (fun _ _ _ => rfl) wl_10 c10 dX0_makeOlder_10 ?_
    refine x_iload_n F dX0_makeOlder_13 rfl 1 rfl ?_
    refine x_iconst F (v := 0) dX0_makeOlder_14 (by decide) ?_
    obtain ⟨M15, c15, h⟩ := bdS h
    refine x_tI F c15 dX0_makeOlder_15 ?_
    obtain ⟨rfl, rfl⟩ := retS h
    exact x_vret F hr hl dX0_makeOlder_16
theorem dJ7_rangeCheck_23922_0 : decode cJ7_rangeCheck_23922 0 = .ok (.iload_n 1, 1) := by decide +kernel
theorem dJ7_rangeCheck_23922_1 : decode cJ7_rangeCheck_23922 1 = .ok (.iload_n 2, 1) := by decide +kernel
theorem dJ7_rangeCheck_23922_2 : decode cJ7_rangeCheck_23922 2 = .ok (.if_icmp .le 44, 3) := by decide +kernel
theorem dJ7_rangeCheck_23922_5 : decode cJ7_rangeCheck_23922 5 = .ok (.new 43, 3) := by decide +kernel
theorem dJ7_rangeCheck_23922_8 : decode cJ7_rangeCheck_23922 8 = .ok (.dup, 1) := by decide +kernel
theorem dJ7_rangeCheck_23922_9 : decode cJ7_rangeCheck_23922 9 = .ok (.new 45, 3) := by decide +kernel
theorem dJ7_rangeCheck_23922_12 : decode cJ7_rangeCheck_23922 12 = .ok (.dup, 1) := by decide +kernel
theorem dJ7_rangeCheck_23922_13 : decode cJ7_rangeCheck_23922 13 = .ok (.invokespecial 47, 3) := by decide +kernel
theorem dJ7_rangeCheck_23922_16 : decode cJ7_rangeCheck_23922 16 = .ok (.ldc 48, 2) := by decide +kernel
theorem dJ7_rangeCheck_23922_18 : decode cJ7_rangeCheck_23922 18 = .ok (.invokevirtual 50, 3) := by decide +kernel
theorem dJ7_rangeCheck_23922_21 : decode cJ7_rangeCheck_23922 21 = .ok (.iload_n 1, 1) := by decide +kernel
theorem dJ7_rangeCheck_23922_22 : decode cJ7_rangeCheck_23922 22 = .ok (.invokevirtual 54, 3) := by decide +kernel
theorem dJ7_rangeCheck_23922_25 : decode cJ7_rangeCheck_23922 25 = .ok (.ldc 57, 2) := by decide +kernel
theorem dJ7_rangeCheck_23922_27 : decode cJ7_rangeCheck_23922 27 = .ok (.invokevirtual 50, 3) := by decide +kernel
theorem dJ7_rangeCheck_23922_30 : decode cJ7_rangeCheck_23922 30 = .ok (.iload_n 2, 1) := by decide +kernel
theorem dJ7_rangeCheck_23922_31 : decode cJ7_rangeCheck_23922 31 = .ok (.invokevirtual 54, 3) := by decide +kernel
theorem dJ7_rangeCheck_23922_34 : decode cJ7_rangeCheck_23922 34 = .ok (.ldc 59, 2) := by decide +kernel
theorem dJ7_rangeCheck_23922_36 : decode cJ7_rangeCheck_23922 36 = .ok (.invokevirtual 50, 3) := by decide +kernel
theorem dJ7_rangeCheck_23922_39 : decode cJ7_rangeCheck_23922 39 = .ok (.invokevirtual 61, 3) := by decide +kernel
theorem dJ7_rangeCheck_23922_42 : decode cJ7_rangeCheck_23922 42 = .ok (.invokespecial 65, 3) := by decide +kernel
theorem dJ7_rangeCheck_23922_45 : decode cJ7_rangeCheck_23922 45 = .ok (.athrow, 1) := by decide +kernel
theorem dJ7_rangeCheck_23922_46 : decode cJ7_rangeCheck_23922 46 = .ok (.iload_n 1, 1) := by decide +kernel
theorem dJ7_rangeCheck_23922_47 : decode cJ7_rangeCheck_23922 47 = .ok (.ifCond .ge 12, 3) := by decide +kernel
theorem dJ7_rangeCheck_23922_50 : decode cJ7_rangeCheck_23922 50 = .ok (.new 68, 3) := by decide +kernel
theorem dJ7_rangeCheck_23922_53 : decode cJ7_rangeCheck_23922 53 = .ok (.dup, 1) := by decide +kernel
theorem dJ7_rangeCheck_23922_54 : decode cJ7_rangeCheck_23922 54 = .ok (.iload_n 1, 1) := by decide +kernel
theorem dJ7_rangeCheck_23922_55 : decode cJ7_rangeCheck_23922 55 = .ok (.invokespecial 70, 3) := by decide +kernel
theorem dJ7_rangeCheck_23922_58 : decode cJ7_rangeCheck_23922 58 = .ok (.athrow, 1) := by decide +kernel
theorem dJ7_rangeCheck_23922_59 : decode cJ7_rangeCheck_23922 59 = .ok (.iload_n 2, 1) := by decide +kernel
theorem dJ7_rangeCheck_23922_60 : decode cJ7_rangeCheck_23922 60 = .ok (.iload_n 0, 1) := by decide +kernel
theorem dJ7_rangeCheck_23922_61 : decode cJ7_rangeCheck_23922 61 = .ok (.if_icmp .le 12, 3) := by decide +kernel
theorem dJ7_rangeCheck_23922_64 : decode cJ7_rangeCheck_23922 64 = .ok (.new 68, 3) := by decide +kernel
theorem dJ7_rangeCheck_23922_67 : decode cJ7_rangeCheck_23922 67 = .ok (.dup, 1) := by decide +kernel
theorem dJ7_rangeCheck_23922_68 : decode cJ7_rangeCheck_23922 68 = .ok (.iload_n 2, 1) := by decide +kernel
theorem dJ7_rangeCheck_23922_69 : decode cJ7_rangeCheck_23922 69 = .ok (.invokespecial 70, 3) := by decide +kernel
theorem dJ7_rangeCheck_23922_72 : decode cJ7_rangeCheck_23922 72 = .ok (.athrow, 1) := by decide +kernel
theorem dJ7_rangeCheck_23922_73 : decode cJ7_rangeCheck_23922 73 = .ok (.return_, 1) := by decide +kernel
def fJ7_rangeCheck_23922 (N : Nat) (v0 : Int32) (v1 : Int32) (v2 : Int32) (M : Mem) : Option (Unit × Mem) := (if v1 ≤ v2 then (if 0 ≤ v1 then (if v2 ≤ v0 then some ((), M) else none) else none) else none)
set_option maxHeartbeats 4000000 in
set_option maxRecDepth 100000 in
theorem k_J7_rangeCheck_23922 (l : Launch) (b : Nat) (D : va_G) (cy : Nat → ClassId) (N : Nat) (v0 : Int32) (v1 : Int32) (v2 : Int32) (M : Mem) (r : Unit) (Mf : Mem) (h : fJ7_rangeCheck_23922 N v0 v1 v2 M = some (r, Mf)) : Ct l yJ7_rangeCheck_23922 cJ7_rangeCheck_23922 3 none 1 0 0 b D cy [.int v0, .int v1, .int v2] M none Mf := by
  refine Ct_of (own := RJ7) (by decide) rfl (Nat.le_of_ble_eq_true rfl) ?_
  intro p e s m args below meth c F hr hl hmn
  unfold fJ7_rangeCheck_23922 at h
  show X p l e ({ frames := 1, cells := 0, slots := 0, locals := 100 * 1 }) s m args below meth c (MQ below (Qm b D cy none Mf) args s 0 0 (fun q => b ≤ q)) 3 b D cy 0 0 M 0 [(0, .int v0), (1, .int v1), (2, .int v2)] []
  refine x_iload_n F dJ7_rangeCheck_23922_0 rfl 1 rfl ?_
  refine x_iload_n F dJ7_rangeCheck_23922_1 rfl 2 rfl ?_
  refine x_icmp_le F (tgt := 46) dJ7_rangeCheck_23922_2 (by decide) (fun c2 => ?_) (fun c2 => ?_)
  · rw [if_pos c2] at h
    refine x_iload_n F dJ7_rangeCheck_23922_46 rfl 1 rfl ?_
    refine x_if_ge F (tgt := 59) dJ7_rangeCheck_23922_47 (by decide) (fun c47 => ?_) (fun c47 => ?_)
    · rw [if_pos c47] at h
      refine x_iload_n F dJ7_rangeCheck_23922_59 rfl 2 rfl ?_
      refine x_iload_n F dJ7_rangeCheck_23922_60 rfl 0 rfl ?_
      refine x_icmp_le F (tgt := 73) dJ7_rangeCheck_23922_61 (by decide) (fun c61 => ?_) (fun c61 => ?_)
      · rw [if_pos c61] at h
        obtain ⟨rfl, rfl⟩ := retS h
        exact x_vret F hr hl dJ7_rangeCheck_23922_73
      · rw [if_neg c61] at h
        cases h
    · rw [if_neg c47] at h
      cases h
  · rw [if_neg c2] at h
    cases h
theorem hd_J7_rangeCheck_23922 : (yJ7_rangeCheck_23922).cls = RJ7 ∧ (yJ7_rangeCheck_23922).cls ≠ "java/lang/invoke/MethodHandle" ∧ (yJ7_rangeCheck_23922).cls ≠ "java/lang/invoke/VarHandle" ∧ (parseMethodDescriptor (yJ7_rangeCheck_23922).desc).map (fun d => d.parameters.length) = some 3 := by decide +kernel
theorem dJ7_fill_fda19_0 : decode cJ7_fill_fda19 0 = .ok (.aload_n 0, 1) := by decide +kernel
theorem dJ7_fill_fda19_1 : decode cJ7_fill_fda19 1 = .ok (.arraylength, 1) := by decide +kernel
theorem dJ7_fill_fda19_2 : decode cJ7_fill_fda19 2 = .ok (.iload_n 1, 1) := by decide +kernel
theorem dJ7_fill_fda19_3 : decode cJ7_fill_fda19 3 = .ok (.iload_n 2, 1) := by decide +kernel
theorem dJ7_fill_fda19_4 : decode cJ7_fill_fda19 4 = .ok (.invokestatic 13, 3) := by decide +kernel
theorem dJ7_fill_fda19_7 : decode cJ7_fill_fda19 7 = .ok (.iload_n 1, 1) := by decide +kernel
theorem dJ7_fill_fda19_8 : decode cJ7_fill_fda19 8 = .ok (.istore 4, 2) := by decide +kernel
theorem dJ7_fill_fda19_10 : decode cJ7_fill_fda19 10 = .ok (.iload 4, 2) := by decide +kernel
theorem dJ7_fill_fda19_12 : decode cJ7_fill_fda19 12 = .ok (.iload_n 2, 1) := by decide +kernel
theorem dJ7_fill_fda19_13 : decode cJ7_fill_fda19 13 = .ok (.if_icmp .ge 14, 3) := by decide +kernel
theorem dJ7_fill_fda19_16 : decode cJ7_fill_fda19 16 = .ok (.aload_n 0, 1) := by decide +kernel
theorem dJ7_fill_fda19_17 : decode cJ7_fill_fda19 17 = .ok (.iload 4, 2) := by decide +kernel
theorem dJ7_fill_fda19_19 : decode cJ7_fill_fda19 19 = .ok (.iload_n 3, 1) := by decide +kernel
theorem dJ7_fill_fda19_20 : decode cJ7_fill_fda19 20 = .ok (.iastore, 1) := by decide +kernel
theorem dJ7_fill_fda19_21 : decode cJ7_fill_fda19 21 = .ok (.iinc 4 1, 3) := by decide +kernel
theorem dJ7_fill_fda19_24 : decode cJ7_fill_fda19 24 = .ok (.goto (-14), 3) := by decide +kernel
theorem dJ7_fill_fda19_27 : decode cJ7_fill_fda19 27 = .ok (.return_, 1) := by decide +kernel
def fJ7_fill_fda19_L10 (N : Nat) (v0 : Nat) (v2 : Int32) (v3 : Int32) : Nat → Int32 → Mem → Option (Mem)
  | 0, _, _ => none
  | n + 1, v4, M => (if v2 ≤ v4 then some M else ((tI M v0 v4 v3).bind fun M20 => fJ7_fill_fda19_L10 N v0 v2 v3 n (v4 + 1) M20))
def fJ7_fill_fda19 (N : Nat) (v0 : Nat) (v1 : Int32) (v2 : Int32) (v3 : Int32) (M : Mem) : Option (Unit × Mem) := ((nA M v0).bind fun x1 => ((fJ7_rangeCheck_23922 N x1 v1 v2 M).bind fun (u4, M4) => ((fJ7_fill_fda19_L10 N v0 v2 v3 N v1 M4).bind fun o10 => some ((), o10))))
set_option maxHeartbeats 4000000 in
set_option maxRecDepth 100000 in
theorem k_J7_fill_fda19 (l : Launch) (b : Nat) (D : va_G) (cy : Nat → ClassId) (N : Nat) (v0 : Nat) (v1 : Int32) (v2 : Int32) (v3 : Int32) (M : Mem) (r : Unit) (Mf : Mem) (h : fJ7_fill_fda19 N v0 v1 v2 v3 M = some (r, Mf)) : Ct l yJ7_fill_fda19 cJ7_fill_fda19 5 none 2 0 0 b D cy [.ref (b + v0), .int v1, .int v2, .int v3] M none Mf := by
  refine Ct_of (own := RJ7) (by decide) rfl (Nat.le_of_ble_eq_true rfl) ?_
  intro p e s m args below meth c F hr hl hmn
  unfold fJ7_fill_fda19 at h
  show X p l e ({ frames := 2, cells := 0, slots := 0, locals := 100 * 2 }) s m args below meth c (MQ below (Qm b D cy none Mf) args s 0 0 (fun q => b ≤ q)) 5 b D cy 0 0 M 0 [(0, .ref (b + v0)), (1, .int v1), (2, .int v2), (3, .int v3)] []
  refine x_aload_n F dJ7_fill_fda19_0 rfl 0 rfl ?_
  obtain ⟨x1, c1, h⟩ := bdS h
  refine x_nA F c1 dJ7_fill_fda19_1 ?_
  refine x_iload_n F dJ7_fill_fda19_2 rfl 1 rfl ?_
  refine x_iload_n F dJ7_fill_fda19_3 rfl 2 rfl ?_
  obtain ⟨⟨u4, M4⟩, c4, h⟩ := bdS h
  dsimp only at h
  refine x_callS F (As := [.int x1, .int v1, .int v2]) (rest := []) (res := none) (k_J7_rangeCheck_23922 l b D cy N x1 v1 v2 M _ _ c4) wl_41 wl_42 wl_20 wl_39 (hd_J7_rangeCheck_23922).2 ⟨Nat.le_of_ble_eq_true rfl, Nat.le_of_ble_eq_true rfl⟩ ⟨Nat.le_refl _, Nat.le_refl _⟩ (Nat.le_of_ble_eq_true rfl) rfl dJ7_fill_fda19_4 ?_
  refine x_iload_n F dJ7_fill_fda19_7 rfl 1 rfl ?_
  refine x_istore F (lv' := [(4, .int v1), (0, .ref (b + v0)), (1, .int v1), (2, .int v2), (3, .int v3)]) dJ7_fill_fda19_8 (by decide) rfl ?_
  have L10 : ∀ (v0 : Nat) (v2 : Int32) (v3 : Int32) (n : Nat) (v4 : Int32) (M : Mem) (o : Mem), fJ7_fill_fda19_L10 N v0 v2 v3 n v4 M = some o → X p l e ({ frames := 2, cells := 0, slots := 0, locals := 100 * 2 }) s m args below meth c (MQ below (Qm b D cy none Mf) args s 0 0 (fun q => b ≤ q)) 5 b D cy 0 0 o 27 [] [] → X p l e ({ frames := 2, cells := 0, slots := 0, locals := 100 * 2 }) s m args below meth c (MQ below (Qm b D cy none Mf) args s 0 0 (fun q => b ≤ q)) 5 b D cy 0 0 M 10 [(0, .ref (b + v0)), (2, .int v2), (3, .int v3), (4, .int v4)] [] := by
    intro v0 v2 v3 n
    induction n with
    | zero => intro v4 M o h; exact absurd h (by rw [fJ7_fill_fda19_L10]; exact fun z => by cases z)
    | succ n ih =>
      intro v4 M o h hE
      rw [fJ7_fill_fda19_L10] at h
      refine x_iload F dJ7_fill_fda19_10 3 rfl ?_
      refine x_iload_n F dJ7_fill_fda19_12 rfl 1 rfl ?_
      refine x_icmp_ge F (tgt := 27) dJ7_fill_fda19_13 (by decide) (fun c13 => ?_) (fun c13 => ?_)
      · rw [if_pos c13] at h
        obtain rfl := Option.some.inj h
        refine x_sub [] rfl ?_
        exact hE
      · rw [if_neg c13] at h
        refine x_aload_n F dJ7_fill_fda19_16 rfl 0 rfl ?_
        refine x_iload F dJ7_fill_fda19_17 3 rfl ?_
        refine x_iload_n F dJ7_fill_fda19_19 rfl 2 rfl ?_
        obtain ⟨M20, c20, h⟩ := bdS h
        refine x_tI F c20 dJ7_fill_fda19_20 ?_
        refine x_iinc F (v := v4 + 1) (lv' := [(4, .int (v4 + 1)), (0, .ref (b + v0)), (2, .int v2), (3, .int v3)]) dJ7_fill_fda19_21 3 rfl rfl (by decide) rfl ?_
        refine x_goto F (tgt := 10) dJ7_fill_fda19_24 (by decide) ?_
        refine x_sub [1, 2, 3, 0] rfl ?_
        exact ih (v4 + 1) M20 o h hE
  obtain ⟨o10, h10, h⟩ := bdS h
  refine x_sub [1, 3, 4, 0] rfl ?_
  refine L10 v0 v2 v3 N v1 M4 o10 h10 ?_
  obtain ⟨rfl, rfl⟩ := retS h
  exact x_vret F hr hl dJ7_fill_fda19_27
theorem hd_J7_fill_fda19 : (yJ7_fill_fda19).cls = RJ7 ∧ (yJ7_fill_fda19).cls ≠ "java/lang/invoke/MethodHandle" ∧ (yJ7_fill_fda19).cls ≠ "java/lang/invoke/VarHandle" ∧ (parseMethodDescriptor (yJ7_fill_fda19).desc).map (fun d => d.parameters.length) = some 4 := by decide +kernel
theorem dX0_wash_0 : decode cX0_wash 0 = .ok (.aload_n 0, 1) := by decide +kernel
theorem dX0_wash_1 : decode cX0_wash 1 = .ok (.getfield 11, 3) := by decide +kernel
theorem dX0_wash_4 : decode cX0_wash 4 = .ok (.iload_n 1, 1) := by decide +kernel
theorem dX0_wash_5 : decode cX0_wash 5 = .ok (.iconst 0, 1) := by decide +kernel
theorem dX0_wash_6 : decode cX0_wash 6 = .ok (.invokestatic 67, 3) := by decide +kernel
theorem dX0_wash_9 : decode cX0_wash 9 = .ok (.iload_n 1, 1) := by decide +kernel
theorem dX0_wash_10 : decode cX0_wash 10 = .ok (.bipush 12, 2) := by decide +kernel
theorem dX0_wash_12 : decode cX0_wash 12 = .ok (.invokestatic 67, 3) := by decide +kernel
theorem dX0_wash_15 : decode cX0_wash 15 = .ok (.iconst (-1), 1) := by decide +kernel
theorem dX0_wash_16 : decode cX0_wash 16 = .ok (.invokestatic 101, 3) := by decide +kernel
theorem dX0_wash_19 : decode cX0_wash 19 = .ok (.aload_n 0, 1) := by decide +kernel
theorem dX0_wash_20 : decode cX0_wash 20 = .ok (.getfield 15, 3) := by decide +kernel
theorem dX0_wash_23 : decode cX0_wash 23 = .ok (.iload_n 1, 1) := by decide +kernel
theorem dX0_wash_24 : decode cX0_wash 24 = .ok (.iconst 0, 1) := by decide +kernel
theorem dX0_wash_25 : decode cX0_wash 25 = .ok (.invokestatic 67, 3) := by decide +kernel
theorem dX0_wash_28 : decode cX0_wash 28 = .ok (.iload_n 1, 1) := by decide +kernel
theorem dX0_wash_29 : decode cX0_wash 29 = .ok (.bipush 12, 2) := by decide +kernel
theorem dX0_wash_31 : decode cX0_wash 31 = .ok (.invokestatic 67, 3) := by decide +kernel
theorem dX0_wash_34 : decode cX0_wash 34 = .ok (.iconst (-1), 1) := by decide +kernel
theorem dX0_wash_35 : decode cX0_wash 35 = .ok (.invokestatic 101, 3) := by decide +kernel
theorem dX0_wash_38 : decode cX0_wash 38 = .ok (.aload_n 0, 1) := by decide +kernel
theorem dX0_wash_39 : decode cX0_wash 39 = .ok (.getfield 18, 3) := by decide +kernel
theorem dX0_wash_42 : decode cX0_wash 42 = .ok (.iload_n 1, 1) := by decide +kernel
theorem dX0_wash_43 : decode cX0_wash 43 = .ok (.iconst 0, 1) := by decide +kernel
theorem dX0_wash_44 : decode cX0_wash 44 = .ok (.iastore, 1) := by decide +kernel
theorem dX0_wash_45 : decode cX0_wash 45 = .ok (.aload_n 0, 1) := by decide +kernel
theorem dX0_wash_46 : decode cX0_wash 46 = .ok (.getfield 21, 3) := by decide +kernel
theorem dX0_wash_49 : decode cX0_wash 49 = .ok (.iload_n 1, 1) := by decide +kernel
theorem dX0_wash_50 : decode cX0_wash 50 = .ok (.dup2, 1) := by decide +kernel
theorem dX0_wash_51 : decode cX0_wash 51 = .ok (.iaload, 1) := by decide +kernel
theorem dX0_wash_52 : decode cX0_wash 52 = .ok (.iconst 1, 1) := by decide +kernel
theorem dX0_wash_53 : decode cX0_wash 53 = .ok (.iadd, 1) := by decide +kernel
theorem dX0_wash_54 : decode cX0_wash 54 = .ok (.iastore, 1) := by decide +kernel
theorem dX0_wash_55 : decode cX0_wash 55 = .ok (.return_, 1) := by decide +kernel
def fX0_wash (N : Nat) (v0 : Nat) (v1 : Int32) (M : Mem) : Option (Unit × Mem) := ((fR M 0 v0 1).bind fun x1 => ((fX10_placeIndex N v1 0 M).bind fun (x6, M6) => ((fX10_placeIndex N v1 12 M6).bind fun (x12, M12) => ((fJ7_fill_fda19 N x1 x6 x12 ((-1)) M12).bind fun (u16, M16) => ((fR M16 0 v0 2).bind fun x20 => ((fX10_placeIndex N v1 0 M16).bind fun (x25, M25) => ((fX10_placeIndex N v1 12 M25).bind fun (x31, M31) => ((fJ7_fill_fda19 N x20 x25 x31 ((-1)) M31).bind fun (u35, M35) => ((fR M35 0 v0 3).bind fun x39 => ((tI M35 x39 v1 0).bind fun M44 => ((fR M44 0 v0 4).bind fun x46 => ((aI M44 x46 v1).bind fun x51 => ((tI M44 x46 v1 (x51 + 1)).bind fun M54 => some ((), M54))))))))))))))
set_option maxHeartbeats 4000000 in
set_option maxRecDepth 100000 in
theorem k_X0_wash (l : Launch) (b : Nat) (D : va_G) (cy : Nat → ClassId) (N : Nat) (v0 : Nat) (v1 : Int32) (M : Mem) (r : Unit) (Mf : Mem) (h : fX0_wash N v0 v1 M = some (r, Mf)) : Ct l yX0_wash cX0_wash 2 none 3 0 0 b D cy [.ref (b + v0), .int v1] M none Mf := by
  refine Ct_of (own := RX0) (by decide) rfl (Nat.le_of_ble_eq_true rfl) ?_
  intro p e s m args below meth c F hr hl hmn
  unfold fX0_wash at h
  show X p l e ({ frames := 3, cells := 0, slots := 0, locals := 100 * 3 }) s m args below meth c (MQ below (Qm b D cy none Mf) args s 0 0 (fun q => b ≤ q)) 2 b D cy 0 0 M 0 [(0, .ref (b + v0)), (1, .int v1)] []
  refine x_aload_n F dX0_wash_0 rfl 0 rfl ?_
  obtain ⟨x1, c1, h⟩ := bdS h
  refine x_getR F (ci := 0) (C := RX0) (T := TX0) (N := 12) rfl ⟨by decide, rfl⟩ inU0 1 (by decide) (fun _ _ _ => rfl) wl_6 c1 dX0_wash_1 ?_
  refine x_iload_n F dX0_wash_4 rfl 1 rfl ?_
  refine x_iconst F (v := 0) dX0_wash_5 (by decide) ?_
  obtain ⟨⟨x6, M6⟩, c6, h⟩ := bdS h
  dsimp only at h
  refine x_callSN F (As := [.int v1, .int 0]) (rest := [.ref (b + x1)]) (res := (some (.int x6))) (host := RX10) (k_X10_placeIndex l b D cy N v1 0 M _ _ c6) wl_27 (by decide +kernel) wl_31 wl_30 (hd_X10_placeIndex).2 ⟨Nat.le_of_ble_eq_true rfl, Nat.le_of_ble_eq_true rfl⟩ ⟨Nat.le_refl _, Nat.le_refl _⟩ (Nat.le_of_ble_eq_true rfl) rfl dX0_wash_6 ?_
  refine x_iload_n F dX0_wash_9 rfl 1 rfl ?_
  refine x_bipush F (v := 12) dX0_wash_10 (by decide) ?_
  obtain ⟨⟨x12, M12⟩, c12, h⟩ := bdS h
  dsimp only at h
  refine x_callSN F (As := [.int v1, .int 12]) (rest := [.int x6, .ref (b + x1)]) (res := (some (.int x12))) (host := RX10) (k_X10_placeIndex l b D cy N v1 12 M6 _ _ c12) wl_27 (by decide +kernel) wl_31 wl_30 (hd_X10_placeIndex).2 ⟨Nat.le_of_ble_eq_true rfl, Nat.le_of_ble_eq_true rfl⟩ ⟨Nat.le_refl _, Nat.le_refl _⟩ (Nat.le_of_ble_eq_true rfl) rfl dX0_wash_12 ?_
  refine x_iconst F (v := (-1)) dX0_wash_15 (by decide) ?_
  obtain ⟨⟨u16, M16⟩, c16, h⟩ := bdS h
  dsimp only at h
  refine x_callS F (As := [.ref (b + x1), .int x6, .int x12, .int ((-1))]) (rest := []) (res := none) (k_J7_fill_fda19 l b D cy N x1 x6 x12 ((-1)) M12 _ _ c16) wl_44 wl_45 wl_20 wl_40 (hd_J7_fill_fda19).2 ⟨Nat.le_of_ble_eq_true rfl, Nat.le_of_ble_eq_true rfl⟩ ⟨Nat.le_refl _, Nat.le_refl _⟩ (Nat.le_of_ble_eq_true rfl) rfl dX0_wash_16 ?_
  refine x_aload_n F dX0_wash_19 rfl 0 rfl ?_
  obtain ⟨x20, c20, h⟩ := bdS h
  refine x_getR F (ci := 0) (C := RX0) (T := TX0) (N := 12) rfl ⟨by decide, rfl⟩ inU0 2 (by decide) (fun _ _ _ => rfl) wl_7 c20 dX0_wash_20 ?_
  refine x_iload_n F dX0_wash_23 rfl 1 rfl ?_
  refine x_iconst F (v := 0) dX0_wash_24 (by decide) ?_
  obtain ⟨⟨x25, M25⟩, c25, h⟩ := bdS h
  dsimp only at h
  refine x_callSN F (As := [.int v1, .int 0]) (rest := [.ref (b + x20)]) (res := (some (.int x25))) (host := RX10) (k_X10_placeIndex l b D cy N v1 0 M16 _ _ c25) wl_27 (by decide +kernel) wl_31 wl_30 (hd_X10_placeIndex).2 ⟨Nat.le_of_ble_eq_true rfl, Nat.le_of_ble_eq_true rfl⟩ ⟨Nat.le_refl _, Nat.le_refl _⟩ (Nat.le_of_ble_eq_true rfl) rfl dX0_wash_25 ?_
  refine x_iload_n F dX0_wash_28 rfl 1 rfl ?_
  refine x_bipush F (v := 12) dX0_wash_29 (by decide) ?_
  obtain ⟨⟨x31, M31⟩, c31, h⟩ := bdS h
  dsimp only at h
  refine x_callSN F (As := [.int v1, .int 12]) (rest := [.int x25, .ref (b + x20)]) (res := (some (.int x31))) (host := RX10) (k_X10_placeIndex l b D cy N v1 12 M25 _ _ c31) wl_27 (by decide +kernel) wl_31 wl_30 (hd_X10_placeIndex).2 ⟨Nat.le_of_ble_eq_true rfl, Nat.le_of_ble_eq_true rfl⟩ ⟨Nat.le_refl _, Nat.le_refl _⟩ (Nat.le_of_ble_eq_true rfl) rfl dX0_wash_31 ?_
  refine x_iconst F (v := (-1)) dX0_wash_34 (by decide) ?_
  obtain ⟨⟨u35, M35⟩, c35, h⟩ := bdS h
  dsimp only at h
  refine x_callS F (As := [.ref (b + x20), .int x25, .int x31, .int ((-1))]) (rest := []) (res := none) (k_J7_fill_fda19 l b D cy N x20 x25 x31 ((-1)) M31 _ _ c35) wl_44 wl_45 wl_20 wl_40 (hd_J7_fill_fda19).2 ⟨Nat.le_of_ble_eq_true rfl, Nat.le_of_ble_eq_true rfl⟩ ⟨Nat.le_refl _, Nat.le_refl _⟩ (Nat.le_of_ble_eq_true rfl) rfl dX0_wash_35 ?_
  refine x_aload_n F dX0_wash_38 rfl 0 rfl ?_
  obtain ⟨x39, c39, h⟩ := bdS h
  refine x_getR F (ci := 0) (C := RX0) (T := TX0) (N := 12) rfl ⟨by decide, rfl⟩ inU0 3 (by decide) (fun _ _ _ => rfl) wl_8 c39 dX0_wash_39 ?_
  refine x_iload_n F dX0_wash_42 rfl 1 rfl ?_
  refine x_iconst F (v := 0) dX0_wash_43 (by decide) ?_
  obtain ⟨M44, c44, h⟩ := bdS h
  refine x_tI F c44 dX0_wash_44 ?_
  refine x_aload_n F dX0_wash_45 rfl 0 rfl ?_
  obtain ⟨x46, c46, h⟩ := bdS h
  refine x_getR F (ci := 0) (C := RX0) (T := TX0) (N := 12) rfl ⟨by decide, rfl⟩ inU0 4 (by decide) (fun _ _ _ => rfl) wl_9 c46 dX0_wash_46 ?_
  refine x_iload_n F dX0_wash_49 rfl 1 rfl ?_
  refine x_dup2 F dX0_wash_50 rfl rfl ?_
  obtain ⟨x51, c51, h⟩ := bdS h
  refine x_aI F c51 dX0_wash_51 ?_
  refine x_iconst F (v := 1) dX0_wash_52 (by decide) ?_
  refine x_iadd F dX0_wash_53 ?_
  obtain ⟨M54, c54, h⟩ := bdS h
  refine x_tI F c54 dX0_wash_54 ?_
  obtain ⟨rfl, rfl⟩ := retS h
  exact x_vret F hr hl dX0_wash_55
theorem hd_X0_wash : (yX0_wash).cls = RX0 ∧ (yX0_wash).cls ≠ "java/lang/invoke/MethodHandle" ∧ (yX0_wash).cls ≠ "java/lang/invoke/VarHandle" ∧ (parseMethodDescriptor (yX0_wash).desc).map (fun d => d.parameters.length) = some 1 := by decide +kernel
theorem dX0_washBands_0 : decode cX0_washBands 0 = .ok (.iconst 0, 1) := by decide +kernel
theorem dX0_washBands_1 : decode cX0_washBands 1 = .ok (.istore_n 2, 1) := by decide +kernel
theorem dX0_washBands_2 : decode cX0_washBands 2 = .ok (.iload_n 2, 1) := by decide +kernel
theorem dX0_washBands_3 : decode cX0_washBands 3 = .ok (.aload_n 0, 1) := by decide +kernel
theorem dX0_washBands_4 : decode cX0_washBands 4 = .ok (.getfield 46, 3) := by decide +kernel
theorem dX0_washBands_7 : decode cX0_washBands 7 = .ok (.getfield 92, 3) := by decide +kernel
theorem dX0_washBands_10 : decode cX0_washBands 10 = .ok (.if_icmp .ge 27, 3) := by decide +kernel
theorem dX0_washBands_13 : decode cX0_washBands 13 = .ok (.aload_n 0, 1) := by decide +kernel
theorem dX0_washBands_14 : decode cX0_washBands 14 = .ok (.getfield 46, 3) := by decide +kernel
theorem dX0_washBands_17 : decode cX0_washBands 17 = .ok (.getfield 95, 3) := by decide +kernel
theorem dX0_washBands_20 : decode cX0_washBands 20 = .ok (.iload_n 2, 1) := by decide +kernel
theorem dX0_washBands_21 : decode cX0_washBands 21 = .ok (.iaload, 1) := by decide +kernel
theorem dX0_washBands_22 : decode cX0_washBands 22 = .ok (.iload_n 1, 1) := by decide +kernel
theorem dX0_washBands_23 : decode cX0_washBands 23 = .ok (.if_icmp .gt 8, 3) := by decide +kernel
theorem dX0_washBands_26 : decode cX0_washBands 26 = .ok (.aload_n 0, 1) := by decide +kernel
theorem dX0_washBands_27 : decode cX0_washBands 27 = .ok (.iload_n 2, 1) := by decide +kernel
theorem dX0_washBands_28 : decode cX0_washBands 28 = .ok (.invokevirtual 98, 3) := by decide +kernel
theorem dX0_washBands_31 : decode cX0_washBands 31 = .ok (.iinc 2 1, 3) := by decide +kernel
theorem dX0_washBands_34 : decode cX0_washBands 34 = .ok (.goto (-32), 3) := by decide +kernel
theorem dX0_washBands_37 : decode cX0_washBands 37 = .ok (.return_, 1) := by decide +kernel
def fX0_washBands_L2 (N : Nat) (v0 : Nat) (v1 : Int32) : Nat → Int32 → Mem → Option (Mem)
  | 0, _, _ => none
  | n + 1, v2, M => ((fR M 0 v0 0).bind fun x4 => ((fI M 8 x4 0).bind fun x7 => (if x7 ≤ v2 then some M else ((fR M 0 v0 0).bind fun x14 => ((fR M 8 x14 2).bind fun x17 => ((aI M x17 v2).bind fun x21 => (if v1 < x21 then fX0_washBands_L2 N v0 v1 n (v2 + 1) M else (if mK M v0 = 1 then ((fX0_wash N v0 v2 M).bind fun (u28, M28) => fX0_washBands_L2 N v0 v1 n (v2 + 1) M28) else none))))))))
def fX0_washBands (N : Nat) (v0 : Nat) (v1 : Int32) (M : Mem) : Option (Unit × Mem) := ((fX0_washBands_L2 N v0 v1 N 0 M).bind fun o2 => some ((), o2))
set_option maxHeartbeats 4000000 in
set_option maxRecDepth 100000 in
theorem k_X0_washBands (l : Launch) (b : Nat) (D : va_G) (cy : Nat → ClassId) (N : Nat) (v0 : Nat) (v1 : Int32) (M : Mem) (r : Unit) (Mf : Mem) (h : fX0_washBands N v0 v1 M = some (r, Mf)) : Ct l yX0_washBands cX0_washBands 3 none 4 0 0 b D cy [.ref (b + v0), .int v1] M none Mf := by
  refine Ct_of (own := RX0) (by decide) rfl (Nat.le_of_ble_eq_true rfl) ?_
  intro p e s m args below meth c F hr hl hmn
  unfold fX0_washBands at h
  show X p l e ({ frames := 4, cells := 0, slots := 0, locals := 100 * 4 }) s m args below meth c (MQ below (Qm b D cy none Mf) args s 0 0 (fun q => b ≤ q)) 3 b D cy 0 0 M 0 [(0, .ref (b + v0)), (1, .int v1)] []
  refine x_iconst F (v := 0) dX0_washBands_0 (by decide) ?_
  refine x_istore_n F (lv' := [(2, .int 0), (0, .ref (b + v0)), (1, .int v1)]) dX0_washBands_1 rfl (by decide) rfl ?_
  have L2 : ∀ (v0 : Nat) (v1 : Int32) (n : Nat) (v2 : Int32) (M : Mem) (o : Mem), fX0_washBands_L2 N v0 v1 n v2 M = some o → X p l e ({ frames := 4, cells := 0, slots := 0, locals := 100 * 4 }) s m args below meth c (MQ below (Qm b D cy none Mf) args s 0 0 (fun q => b ≤ q)) 3 b D cy 0 0 o 37 [] [] → X p l e ({ frames := 4, cells := 0, slots := 0, locals := 100 * 4 }) s m args below meth c (MQ below (Qm b D cy none Mf) args s 0 0 (fun q => b ≤ q)) 3 b D cy 0 0 M 2 [(0, .ref (b + v0)), (1, .int v1), (2, .int v2)] [] := by
    intro v0 v1 n
    induction n with
    | zero => intro v2 M o h; exact absurd h (by rw [fX0_washBands_L2]; exact fun z => by cases z)
    | succ n ih =>
      intro v2 M o h hE
      rw [fX0_washBands_L2] at h
      refine x_iload_n F dX0_washBands_2 rfl 2 rfl ?_
      refine x_aload_n F dX0_washBands_3 rfl 0 rfl ?_
      obtain ⟨x4, c4, h⟩ := bdS h
      refine x_getR F (ci := 0) (C := RX0) (T := TX0) (N := 12) rfl ⟨by decide, rfl⟩ inU0 0 (by decide) (fun _ _ _ => rfl) wl_17 c4 dX0_washBands_4 ?_
      obtain ⟨x7, c7, h⟩ := bdS h
      refine x_getI F (ci := 8) (C := RX8) (T := TX8) (N := 17) rfl ⟨by decide, rfl⟩ inU8 0 (by decide) (fun _ _ _ => rfl) wl_47 c7 dX0_washBands_7 ?_
      refine x_icmp_ge F (tgt := 37) dX0_washBands_10 (by decide) (fun c10 => ?_) (fun c10 => ?_)
      · rw [if_pos c10] at h
        obtain rfl := Option.some.inj h
        refine x_sub [] rfl ?_
        exact hE
      · rw [if_neg c10] at h
        refine x_aload_n F dX0_washBands_13 rfl 0 rfl ?_
        obtain ⟨x14, c14, h⟩ := bdS h
        refine x_getR F (ci := 0) (C := RX0) (T := TX0) (N := 12) rfl ⟨by decide, rfl⟩ inU0 0 (by decide) (fun _ _ _ => rfl) wl_17 c14 dX0_washBands_14 ?_
        obtain ⟨x17, c17, h⟩ := bdS h
        refine x_getR F (ci := 8) (C := RX8) (T := TX8) (N := 17) rfl ⟨by decide, rfl⟩ inU8 2 (by decide) (fun _ _ _ => rfl) wl_48 c17 dX0_washBands_17 ?_
        refine x_iload_n F dX0_washBands_20 rfl 2 rfl ?_
        obtain ⟨x21, c21, h⟩ := bdS h
        refine x_aI F c21 dX0_washBands_21 ?_
        refine x_iload_n F dX0_washBands_22 rfl 1 rfl ?_
        refine x_icmp_gt F (tgt := 31) dX0_washBands_23 (by decide) (fun c23 => ?_) (fun c23 => ?_)
        · rw [if_pos c23] at h
          refine x_iinc F (v := v2 + 1) (lv' := [(2, .int (v2 + 1)), (0, .ref (b + v0)), (1, .int v1)]) dX0_washBands_31 2 rfl rfl (by decide) rfl ?_
          refine x_goto F (tgt := 2) dX0_washBands_34 (by decide) ?_
          refine x_sub [1, 2, 0] rfl ?_
          exact ih (v2 + 1) M o h hE
        · rw [if_neg c23] at h
          refine x_aload_n F dX0_washBands_26 rfl 0 rfl ?_
          refine x_iload_n F dX0_washBands_27 rfl 2 rfl ?_
          obtain ⟨k28, h⟩ := gdS h
          obtain ⟨⟨u28, M28⟩, c28, h⟩ := bdS h
          dsimp only at h
          refine x_callV F (As := [.int v2]) (rest := []) (res := none) (ci := 0) (q := (RX0, TX0, 12)) rfl (by decide) k28 (k_X0_wash l b D cy N v0 v2 M _ _ c28) wl_49 wl_50 wl_51 wl_52 wl_43 hd_X0_wash ⟨Nat.le_of_ble_eq_true rfl, Nat.le_of_ble_eq_true rfl⟩ ⟨Nat.le_refl _, Nat.le_refl _⟩ (Nat.le_of_ble_eq_true rfl) rfl dX0_washBands_28 ?_
          refine x_iinc F (v := v2 + 1) (lv' := [(2, .int (v2 + 1)), (0, .ref (b + v0)), (1, .int v1)]) dX0_washBands_31 2 rfl rfl (by decide) rfl ?_
          refine x_goto F (tgt := 2) dX0_washBands_34 (by decide) ?_
          refine x_sub [1, 2, 0] rfl ?_
          exact ih (v2 + 1) M28 o h hE
  obtain ⟨o2, h2, h⟩ := bdS h
  refine x_sub [1, 2, 0] rfl ?_
  refine L2 v0 v1 N 0 M o2 h2 ?_
  obtain ⟨rfl, rfl⟩ := retS h
  exact x_vret F hr hl dX0_washBands_37
theorem dX8_tideOf_0 : decode cX8_tideOf 0 = .ok (.aload_n 0, 1) := by decide +kernel
theorem dX8_tideOf_1 : decode cX8_tideOf 1 = .ok (.getfield 26, 3) := by decide +kernel
theorem dX8_tideOf_4 : decode cX8_tideOf 4 = .ok (.ifCond .le 17, 3) := by decide +kernel
theorem dX8_tideOf_7 : decode cX8_tideOf 7 = .ok (.aload_n 0, 1) := by decide +kernel
theorem dX8_tideOf_8 : decode cX8_tideOf 8 = .ok (.getfield 29, 3) := by decide +kernel
theorem dX8_tideOf_11 : decode cX8_tideOf 11 = .ok (.iload_n 1, 1) := by decide +kernel
theorem dX8_tideOf_12 : decode cX8_tideOf 12 = .ok (.aload_n 0, 1) := by decide +kernel
theorem dX8_tideOf_13 : decode cX8_tideOf 13 = .ok (.getfield 26, 3) := by decide +kernel
theorem dX8_tideOf_16 : decode cX8_tideOf 16 = .ok (.irem, 1) := by decide +kernel
theorem dX8_tideOf_17 : decode cX8_tideOf 17 = .ok (.iaload, 1) := by decide +kernel
theorem dX8_tideOf_18 : decode cX8_tideOf 18 = .ok (.goto 4, 3) := by decide +kernel
theorem dX8_tideOf_21 : decode cX8_tideOf 21 = .ok (.iconst (-1), 1) := by decide +kernel
theorem dX8_tideOf_22 : decode cX8_tideOf 22 = .ok (.ireturn, 1) := by decide +kernel
def fX8_tideOf (N : Nat) (v0 : Nat) (v1 : Int32) (M : Mem) : Option (Int32 × Mem) := ((fI M 8 v0 4).bind fun x1 => (if x1 ≤ 0 then some ((-1), M) else ((fR M 8 v0 5).bind fun x8 => ((fI M 8 v0 4).bind fun x13 => (if ¬ x13 = 0 then ((aI M x8 (v1 - v1 / x13 * x13)).bind fun x17 => some (x17, M)) else none)))))
set_option maxHeartbeats 4000000 in
set_option maxRecDepth 100000 in
theorem k_X8_tideOf (l : Launch) (b : Nat) (D : va_G) (cy : Nat → ClassId) (N : Nat) (v0 : Nat) (v1 : Int32) (M : Mem) (r : Int32) (Mf : Mem) (h : fX8_tideOf N v0 v1 M = some (r, Mf)) : Ct l yX8_tideOf cX8_tideOf 2 (some .int) 1 0 0 b D cy [.ref (b + v0), .int v1] M (some (.int r)) Mf := by
  refine Ct_of (own := RX8) (by decide) rfl (Nat.le_of_ble_eq_true rfl) ?_
  intro p e s m args below meth c F hr hl hmn
  unfold fX8_tideOf at h
  show X p l e ({ frames := 1, cells := 0, slots := 0, locals := 100 * 1 }) s m args below meth c (MQ below (Qm b D cy (some (.int r)) Mf) args s 0 0 (fun q => b ≤ q)) 2 b D cy 0 0 M 0 [(0, .ref (b + v0)), (1, .int v1)] []
  refine x_aload_n F dX8_tideOf_0 rfl 0 rfl ?_
  obtain ⟨x1, c1, h⟩ := bdS h
  refine x_getI F (ci := 8) (C := RX8) (T := TX8) (N := 17) rfl ⟨by decide, rfl⟩ inU8 4 (by decide) (fun _ _ _ => rfl) wl_37 c1 dX8_tideOf_1 ?_
  refine x_if_le F (tgt := 21) dX8_tideOf_4 (by decide) (fun c4 => ?_) (fun c4 => ?_)
  · rw [if_pos c4] at h
    refine x_iconst F (v := (-1)) dX8_tideOf_21 (by decide) ?_
    obtain ⟨rfl, rfl⟩ := retS h
    exact x_iret F hr hl dX8_tideOf_22
  · rw [if_neg c4] at h
    refine x_aload_n F dX8_tideOf_7 rfl 0 rfl ?_
    obtain ⟨x8, c8, h⟩ := bdS h
    refine x_getR F (ci := 8) (C := RX8) (T := TX8) (N := 17) rfl ⟨by decide, rfl⟩ inU8 5 (by decide) (fun _ _ _ => rfl) wl_38 c8 dX8_tideOf_8 ?_
    refine x_iload_n F dX8_tideOf_11 rfl 1 rfl ?_
    refine x_aload_n F dX8_tideOf_12 rfl 0 rfl ?_
    obtain ⟨x13, c13, h⟩ := bdS h
    refine x_getI F (ci := 8) (C := RX8) (T := TX8) (N := 17) rfl ⟨by decide, rfl⟩ inU8 4 (by decide) (fun _ _ _ => rfl) wl_37 c13 dX8_tideOf_13 ?_
    obtain ⟨c16, h⟩ := gdS h
    refine x_irem F dX8_tideOf_16 c16 ?_
    obtain ⟨x17, c17, h⟩ := bdS h
    refine x_aI F c17 dX8_tideOf_17 ?_
    refine x_goto F (tgt := 22) dX8_tideOf_18 (by decide) ?_
    obtain ⟨rfl, rfl⟩ := retS h
    exact x_iret F hr hl dX8_tideOf_22
theorem hd_X8_tideOf : (yX8_tideOf).cls = RX8 ∧ (yX8_tideOf).cls ≠ "java/lang/invoke/MethodHandle" ∧ (yX8_tideOf).cls ≠ "java/lang/invoke/VarHandle" ∧ (parseMethodDescriptor (yX8_tideOf).desc).map (fun d => d.parameters.length) = some 1 := by decide +kernel
theorem hd_X0_washBands : (yX0_washBands).cls = RX0 ∧ (yX0_washBands).cls ≠ "java/lang/invoke/MethodHandle" ∧ (yX0_washBands).cls ≠ "java/lang/invoke/VarHandle" ∧ (parseMethodDescriptor (yX0_washBands).desc).map (fun d => d.parameters.length) = some 1 := by decide +kernel
theorem hd_X0_hasLapsed : (yX0_hasLapsed).cls = RX0 ∧ (yX0_hasLapsed).cls ≠ "java/lang/invoke/MethodHandle" ∧ (yX0_hasLapsed).cls ≠ "java/lang/invoke/VarHandle" ∧ (parseMethodDescriptor (yX0_hasLapsed).desc).map (fun d => d.parameters.length) = some 1 := by decide +kernel
theorem hd_X0_makeOlder : (yX0_makeOlder).cls = RX0 ∧ (yX0_makeOlder).cls ≠ "java/lang/invoke/MethodHandle" ∧ (yX0_makeOlder).cls ≠ "java/lang/invoke/VarHandle" ∧ (parseMethodDescriptor (yX0_makeOlder).desc).map (fun d => d.parameters.length) = some 1 := by decide +kernel
theorem dX0_passHours_0 : decode cX0_passHours 0 = .ok (.iconst 0, 1) := by decide +kernel
theorem dX0_passHours_1 : decode cX0_passHours 1 = .ok (.istore_n 2, 1) := by decide +kernel
theorem dX0_passHours_2 : decode cX0_passHours 2 = .ok (.iload_n 2, 1) := by decide +kernel
theorem dX0_passHours_3 : decode cX0_passHours 3 = .ok (.iload_n 1, 1) := by decide +kernel
theorem dX0_passHours_4 : decode cX0_passHours 4 = .ok (.if_icmp .ge 74, 3) := by decide +kernel
theorem dX0_passHours_7 : decode cX0_passHours 7 = .ok (.aload_n 0, 1) := by decide +kernel
theorem dX0_passHours_8 : decode cX0_passHours 8 = .ok (.aload_n 0, 1) := by decide +kernel
theorem dX0_passHours_9 : decode cX0_passHours 9 = .ok (.getfield 46, 3) := by decide +kernel
theorem dX0_passHours_12 : decode cX0_passHours 12 = .ok (.aload_n 0, 1) := by decide +kernel
theorem dX0_passHours_13 : decode cX0_passHours 13 = .ok (.getfield 37, 3) := by decide +kernel
theorem dX0_passHours_16 : decode cX0_passHours 16 = .ok (.invokevirtual 74, 3) := by decide +kernel
theorem dX0_passHours_19 : decode cX0_passHours 19 = .ok (.invokevirtual 78, 3) := by decide +kernel
theorem dX0_passHours_22 : decode cX0_passHours 22 = .ok (.iconst 0, 1) := by decide +kernel
theorem dX0_passHours_23 : decode cX0_passHours 23 = .ok (.istore_n 3, 1) := by decide +kernel
theorem dX0_passHours_24 : decode cX0_passHours 24 = .ok (.iload_n 3, 1) := by decide +kernel
theorem dX0_passHours_25 : decode cX0_passHours 25 = .ok (.aload_n 0, 1) := by decide +kernel
theorem dX0_passHours_26 : decode cX0_passHours 26 = .ok (.getfield 46, 3) := by decide +kernel
theorem dX0_passHours_29 : decode cX0_passHours 29 = .ok (.getfield 82, 3) := by decide +kernel
theorem dX0_passHours_32 : decode cX0_passHours 32 = .ok (.if_icmp .ge 22, 3) := by decide +kernel
theorem dX0_passHours_35 : decode cX0_passHours 35 = .ok (.aload_n 0, 1) := by decide +kernel
theorem dX0_passHours_36 : decode cX0_passHours 36 = .ok (.iload_n 3, 1) := by decide +kernel
theorem dX0_passHours_37 : decode cX0_passHours 37 = .ok (.invokevirtual 85, 3) := by decide +kernel
theorem dX0_passHours_40 : decode cX0_passHours 40 = .ok (.ifCond .ne 8, 3) := by decide +kernel
theorem dX0_passHours_43 : decode cX0_passHours 43 = .ok (.aload_n 0, 1) := by decide +kernel
theorem dX0_passHours_44 : decode cX0_passHours 44 = .ok (.iload_n 3, 1) := by decide +kernel
theorem dX0_passHours_45 : decode cX0_passHours 45 = .ok (.invokevirtual 89, 3) := by decide +kernel
theorem dX0_passHours_48 : decode cX0_passHours 48 = .ok (.iinc 3 1, 3) := by decide +kernel
theorem dX0_passHours_51 : decode cX0_passHours 51 = .ok (.goto (-27), 3) := by decide +kernel
theorem dX0_passHours_54 : decode cX0_passHours 54 = .ok (.aload_n 0, 1) := by decide +kernel
theorem dX0_passHours_55 : decode cX0_passHours 55 = .ok (.getfield 27, 3) := by decide +kernel
theorem dX0_passHours_58 : decode cX0_passHours 58 = .ok (.iconst 0, 1) := by decide +kernel
theorem dX0_passHours_59 : decode cX0_passHours 59 = .ok (.invokestatic 50, 3) := by decide +kernel
theorem dX0_passHours_62 : decode cX0_passHours 62 = .ok (.aload_n 0, 1) := by decide +kernel
theorem dX0_passHours_63 : decode cX0_passHours 63 = .ok (.dup, 1) := by decide +kernel
theorem dX0_passHours_64 : decode cX0_passHours 64 = .ok (.getfield 37, 3) := by decide +kernel
theorem dX0_passHours_67 : decode cX0_passHours 67 = .ok (.iconst 1, 1) := by decide +kernel
theorem dX0_passHours_68 : decode cX0_passHours 68 = .ok (.iadd, 1) := by decide +kernel
theorem dX0_passHours_69 : decode cX0_passHours 69 = .ok (.putfield 37, 3) := by decide +kernel
theorem dX0_passHours_72 : decode cX0_passHours 72 = .ok (.iinc 2 1, 3) := by decide +kernel
theorem dX0_passHours_75 : decode cX0_passHours 75 = .ok (.goto (-73), 3) := by decide +kernel
theorem dX0_passHours_78 : decode cX0_passHours 78 = .ok (.return_, 1) := by decide +kernel
def fX0_passHours_L24 (N : Nat) (v0 : Nat) (v1 : Int32) (v2 : Int32) : Nat → Int32 → Mem → Option (Mem)
  | 0, _, _ => none
  | n + 1, v3, M => ((fR M 0 v0 0).bind fun x26 => ((fI M 8 x26 9).bind fun x29 => (if x29 ≤ v3 then some M else (if mK M v0 = 1 then ((fX0_hasLapsed N v0 v3 M).bind fun (x37, M37) => (if x37 = 0 then (if mK M37 v0 = 1 then ((fX0_makeOlder N v0 v3 M37).bind fun (u45, M45) => fX0_passHours_L24 N v0 v1 v2 n (v3 + 1) M45) else none) else fX0_passHours_L24 N v0 v1 v2 n (v3 + 1) M37)) else none))))
def fX0_passHours_L2 (N : Nat) (v0 : Nat) (v1 : Int32) : Nat → Int32 → Mem → Option (Mem)
  | 0, _, _ => none
  | n + 1, v2, M => (if v1 ≤ v2 then some M else ((fR M 0 v0 0).bind fun x9 => ((fI M 0 v0 9).bind fun x13 => (if mK M x9 = 9 then ((fX8_tideOf N x9 x13 M).bind fun (x16, M16) => (if mK M16 v0 = 1 then ((fX0_washBands N v0 x16 M16).bind fun (u19, M19) => ((fX0_passHours_L24 N v0 v1 v2 N 0 M19).bind fun o24 => ((fR o24 0 v0 6).bind fun x55 => ((fJ7_fill_53178 N x55 0 o24).bind fun (u59, M59) => ((fI M59 0 v0 9).bind fun x64 => ((pI M59 0 v0 9 (x64 + 1)).bind fun M69 => fX0_passHours_L2 N v0 v1 n (v2 + 1) M69)))))) else none)) else none))))
def fX0_passHours (N : Nat) (v0 : Nat) (v1 : Int32) (M : Mem) : Option (Unit × Mem) := ((fX0_passHours_L2 N v0 v1 N 0 M).bind fun o2 => some ((), o2))
set_option maxHeartbeats 4000000 in
set_option maxRecDepth 100000 in
theorem k_X0_passHours (l : Launch) (b : Nat) (D : va_G) (cy : Nat → ClassId) (N : Nat) (v0 : Nat) (v1 : Int32) (M : Mem) (r : Unit) (Mf : Mem) (h : fX0_passHours N v0 v1 M = some (r, Mf)) : Ct l yX0_passHours cX0_passHours 4 none 5 0 0 b D cy [.ref (b + v0), .int v1] M none Mf := by
  refine Ct_of (own := RX0) (by decide) rfl (Nat.le_of_ble_eq_true rfl) ?_
  intro p e s m args below meth c F hr hl hmn
  unfold fX0_passHours at h
  show X p l e ({ frames := 5, cells := 0, slots := 0, locals := 100 * 5 }) s m args below meth c (MQ below (Qm b D cy none Mf) args s 0 0 (fun q => b ≤ q)) 4 b D cy 0 0 M 0 [(0, .ref (b + v0)), (1, .int v1)] []
  refine x_iconst F (v := 0) dX0_passHours_0 (by decide) ?_
  refine x_istore_n F (lv' := [(2, .int 0), (0, .ref (b + v0)), (1, .int v1)]) dX0_passHours_1 rfl (by decide) rfl ?_
  have L2 : ∀ (v0 : Nat) (v1 : Int32) (n : Nat) (v2 : Int32) (M : Mem) (o : Mem), fX0_passHours_L2 N v0 v1 n v2 M = some o → X p l e ({ frames := 5, cells := 0, slots := 0, locals := 100 * 5 }) s m args below meth c (MQ below (Qm b D cy none Mf) args s 0 0 (fun q => b ≤ q)) 4 b D cy 0 0 o 78 [] [] → X p l e ({ frames := 5, cells := 0, slots := 0, locals := 100 * 5 }) s m args below meth c (MQ below (Qm b D cy none Mf) args s 0 0 (fun q => b ≤ q)) 4 b D cy 0 0 M 2 [(0, .ref (b + v0)), (1, .int v1), (2, .int v2)] [] := by
    intro v0 v1 n
    induction n with
    | zero => intro v2 M o h; exact absurd h (by rw [fX0_passHours_L2]; exact fun z => by cases z)
    | succ n ih =>
      intro v2 M o h hE
      rw [fX0_passHours_L2] at h
      refine x_iload_n F dX0_passHours_2 rfl 2 rfl ?_
      refine x_iload_n F dX0_passHours_3 rfl 1 rfl ?_
      refine x_icmp_ge F (tgt := 78) dX0_passHours_4 (by decide) (fun c4 => ?_) (fun c4 => ?_)
      · rw [if_pos c4] at h
        obtain rfl := Option.some.inj h
        refine x_sub [] rfl ?_
        exact hE
      · rw [if_neg c4] at h
        refine x_aload_n F dX0_passHours_7 rfl 0 rfl ?_
        refine x_aload_n F dX0_passHours_8 rfl 0 rfl ?_
        obtain ⟨x9, c9, h⟩ := bdS h
        refine x_getR F (ci := 0) (C := RX0) (T := TX0) (N := 12) rfl ⟨by decide, rfl⟩ inU0 0 (by decide) (fun _ _ _ => rfl) wl_17 c9 dX0_passHours_9 ?_
        refine x_aload_n F dX0_passHours_12 rfl 0 rfl ?_
        obtain ⟨x13, c13, h⟩ := bdS h
        refine x_getI F (ci := 0) (C := RX0) (T := TX0) (N := 12) rfl ⟨by decide, rfl⟩ inU0 9 (by decide) (fun _ _ _ => rfl) wl_14 c13 dX0_passHours_13 ?_
        obtain ⟨k16, h⟩ := gdS h
        obtain ⟨⟨x16, M16⟩, c16, h⟩ := bdS h
        dsimp only at h
        refine x_callV F (As := [.int x13]) (rest := [.ref (b + v0)]) (res := (some (.int x16))) (ci := 8) (q := (RX8, TX8, 17)) rfl (by decide) k16 (k_X8_tideOf l b D cy N x9 x13 M _ _ c16) wl_72 wl_73 wl_74 wl_75 wl_36 hd_X8_tideOf ⟨Nat.le_of_ble_eq_true rfl, Nat.le_of_ble_eq_true rfl⟩ ⟨Nat.le_refl _, Nat.le_refl _⟩ (Nat.le_of_ble_eq_true rfl) rfl dX0_passHours_16 ?_
        obtain ⟨k19, h⟩ := gdS h
        obtain ⟨⟨u19, M19⟩, c19, h⟩ := bdS h
        dsimp only at h
        refine x_callV F (As := [.int x16]) (rest := []) (res := none) (ci := 0) (q := (RX0, TX0, 12)) rfl (by decide) k19 (k_X0_washBands l b D cy N v0 x16 M16 _ _ c19) wl_76 wl_77 wl_78 wl_52 wl_46 hd_X0_washBands ⟨Nat.le_of_ble_eq_true rfl, Nat.le_of_ble_eq_true rfl⟩ ⟨Nat.le_refl _, Nat.le_refl _⟩ (Nat.le_of_ble_eq_true rfl) rfl dX0_passHours_19 ?_
        refine x_iconst F (v := 0) dX0_passHours_22 (by decide) ?_
        refine x_istore_n F (lv' := [(3, .int 0), (0, .ref (b + v0)), (1, .int v1), (2, .int v2)]) dX0_passHours_23 rfl (by decide) rfl ?_
        have L24 : ∀ (v0 : Nat) (v1 : Int32) (v2 : Int32) (n : Nat) (v3 : Int32) (M : Mem) (o : Mem), fX0_passHours_L24 N v0 v1 v2 n v3 M = some o → X p l e ({ frames := 5, cells := 0, slots := 0, locals := 100 * 5 }) s m args below meth c (MQ below (Qm b D cy none Mf) args s 0 0 (fun q => b ≤ q)) 4 b D cy 0 0 o 54 [(0, .ref (b + v0)), (1, .int v1), (2, .int v2)] [] → X p l e ({ frames := 5, cells := 0, slots := 0, locals := 100 * 5 }) s m args below meth c (MQ below (Qm b D cy none Mf) args s 0 0 (fun q => b ≤ q)) 4 b D cy 0 0 M 24 [(0, .ref (b + v0)), (1, .int v1), (2, .int v2), (3, .int v3)] [] := by
          intro v0 v1 v2 n
          induction n with
          | zero => intro v3 M o h; exact absurd h (by rw [fX0_passHours_L24]; exact fun z => by cases z)
          | succ n ih =>
            intro v3 M o h hE
            rw [fX0_passHours_L24] at h
            refine x_iload_n F dX0_passHours_24 rfl 3 rfl ?_
            refine x_aload_n F dX0_passHours_25 rfl 0 rfl ?_
            obtain ⟨x26, c26, h⟩ := bdS h
            refine x_getR F (ci := 0) (C := RX0) (T := TX0) (N := 12) rfl ⟨by decide, rfl⟩ inU0 0 (by decide) (fun _ _ _ => rfl) wl_17 c26 dX0_passHours_26 ?_
            obtain ⟨x29, c29, h⟩ := bdS h
            refine x_getI F (ci := 8) (C := RX8) (T := TX8) (N := 17) rfl ⟨by decide, rfl⟩ inU8 9 (by decide) (fun _ _ _ => rfl) wl_71 c29 dX0_passHours_29 ?_
            refine x_icmp_ge F (tgt := 54) dX0_passHours_32 (by decide) (fun c32 => ?_) (fun c32 => ?_)
            · rw [if_pos c32] at h
              obtain rfl := Option.some.inj h
              refine x_sub [0, 1, 2] rfl ?_
              exact hE
            · rw [if_neg c32] at h
              refine x_aload_n F dX0_passHours_35 rfl 0 rfl ?_
              refine x_iload_n F dX0_passHours_36 rfl 3 rfl ?_
              obtain ⟨k37, h⟩ := gdS h
              obtain ⟨⟨x37, M37⟩, c37, h⟩ := bdS h
              dsimp only at h
              refine x_callV F (As := [.int v3]) (rest := []) (res := (some (.int x37))) (ci := 0) (q := (RX0, TX0, 12)) rfl (by decide) k37 (k_X0_hasLapsed l b D cy N v0 v3 M _ _ c37) wl_79 wl_80 wl_81 wl_52 wl_53 hd_X0_hasLapsed ⟨Nat.le_of_ble_eq_true rfl, Nat.le_of_ble_eq_true rfl⟩ ⟨Nat.le_refl _, Nat.le_refl _⟩ (Nat.le_of_ble_eq_true rfl) rfl dX0_passHours_37 ?_
              refine x_if_ne F (tgt := 48) dX0_passHours_40 (by decide) (fun c40 => ?_) (fun c40 => ?_)
              · rw [if_neg c40] at h
                refine x_iinc F (v := v3 + 1) (lv' := [(3, .int (v3 + 1)), (0, .ref (b + v0)), (1, .int v1), (2, .int v2)]) dX0_passHours_48 3 rfl rfl (by decide) rfl ?_
                refine x_goto F (tgt := 24) dX0_passHours_51 (by decide) ?_
                refine x_sub [1, 2, 3, 0] rfl ?_
                exact ih (v3 + 1) M37 o h hE
              · rw [if_pos c40] at h
                refine x_aload_n F dX0_passHours_43 rfl 0 rfl ?_
                refine x_iload_n F dX0_passHours_44 rfl 3 rfl ?_
                obtain ⟨k45, h⟩ := gdS h
                obtain ⟨⟨u45, M45⟩, c45, h⟩ := bdS h
                dsimp only at h
                refine x_callV F (As := [.int v3]) (rest := []) (res := none) (ci := 0) (q := (RX0, TX0, 12)) rfl (by decide) k45 (k_X0_makeOlder l b D cy N v0 v3 M37 _ _ c45) wl_82 wl_83 wl_84 wl_52 wl_70 hd_X0_makeOlder ⟨Nat.le_of_ble_eq_true rfl, Nat.le_of_ble_eq_true rfl⟩ ⟨Nat.le_refl _, Nat.le_refl _⟩ (Nat.le_of_ble_eq_true rfl) rfl dX0_passHours_45 ?_
                refine x_iinc F (v := v3 + 1) (lv' := [(3, .int (v3 + 1)), (0, .ref (b + v0)), (1, .int v1), (2, .int v2)]) dX0_passHours_48 3 rfl rfl (by decide) rfl ?_
                refine x_goto F (tgt := 24) dX0_passHours_51 (by decide) ?_
                refine x_sub [1, 2, 3, 0] rfl ?_
                exact ih (v3 + 1) M45 o h hE
        obtain ⟨o24, h24, h⟩ := bdS h
        refine x_sub [1, 2, 3, 0] rfl ?_
        refine L24 v0 v1 v2 N 0 M19 o24 h24 ?_
        refine x_aload_n F dX0_passHours_54 rfl 0 rfl ?_
        obtain ⟨x55, c55, h⟩ := bdS h
        refine x_getR F (ci := 0) (C := RX0) (T := TX0) (N := 12) rfl ⟨by decide, rfl⟩ inU0 6 (by decide) (fun _ _ _ => rfl) wl_11 c55 dX0_passHours_55 ?_
        refine x_iconst F (v := 0) dX0_passHours_58 (by decide) ?_
        obtain ⟨⟨u59, M59⟩, c59, h⟩ := bdS h
        dsimp only at h
        refine x_callS F (As := [.ref (b + x55), .int 0]) (rest := []) (res := none) (k_J7_fill_53178 l b D cy N x55 0 o24 _ _ c59) wl_18 wl_19 wl_20 wl_0 (hd_J7_fill_53178).2 ⟨Nat.le_of_ble_eq_true rfl, Nat.le_of_ble_eq_true rfl⟩ ⟨Nat.le_refl _, Nat.le_refl _⟩ (Nat.le_of_ble_eq_true rfl) rfl dX0_passHours_59 ?_
        refine x_aload_n F dX0_passHours_62 rfl 0 rfl ?_
        refine x_dup F dX0_passHours_63 rfl ?_
        obtain ⟨x64, c64, h⟩ := bdS h
        refine x_getI F (ci := 0) (C := RX0) (T := TX0) (N := 12) rfl ⟨by decide, rfl⟩ inU0 9 (by decide) (fun _ _ _ => rfl) wl_14 c64 dX0_passHours_64 ?_
        refine x_iconst F (v := 1) dX0_passHours_67 (by decide) ?_
        refine x_iadd F dX0_passHours_68 ?_
        obtain ⟨M69, c69, h⟩ := bdS h
        refine x_putI F (ci := 0) (C := RX0) (T := TX0) (N := 12) rfl ⟨by decide, rfl⟩ inU0 tyX0_ok nmX0 9 (by decide) rfl rfl wl_14 c69 dX0_passHours_69 ?_
        refine x_iinc F (v := v2 + 1) (lv' := [(2, .int (v2 + 1)), (0, .ref (b + v0)), (1, .int v1)]) dX0_passHours_72 2 rfl rfl (by decide) rfl ?_
        refine x_goto F (tgt := 2) dX0_passHours_75 (by decide) ?_
        refine x_sub [1, 2, 0] rfl ?_
        exact ih (v2 + 1) M69 o h hE
  obtain ⟨o2, h2, h⟩ := bdS h
  refine x_sub [1, 2, 0] rfl ?_
  refine L2 v0 v1 N 0 M o2 h2 ?_
  obtain ⟨rfl, rfl⟩ := retS h
  exact x_vret F hr hl dX0_passHours_78
theorem dX0_lawsReadIn_0 : decode cX0_lawsReadIn 0 = .ok (.iconst 0, 1) := by decide +kernel
theorem dX0_lawsReadIn_1 : decode cX0_lawsReadIn 1 = .ok (.istore_n 2, 1) := by decide +kernel
theorem dX0_lawsReadIn_2 : decode cX0_lawsReadIn 2 = .ok (.iconst 0, 1) := by decide +kernel
theorem dX0_lawsReadIn_3 : decode cX0_lawsReadIn 3 = .ok (.istore_n 3, 1) := by decide +kernel
theorem dX0_lawsReadIn_4 : decode cX0_lawsReadIn 4 = .ok (.iload_n 3, 1) := by decide +kernel
theorem dX0_lawsReadIn_5 : decode cX0_lawsReadIn 5 = .ok (.aload_n 0, 1) := by decide +kernel
theorem dX0_lawsReadIn_6 : decode cX0_lawsReadIn 6 = .ok (.getfield 46, 3) := by decide +kernel
theorem dX0_lawsReadIn_9 : decode cX0_lawsReadIn 9 = .ok (.getfield 82, 3) := by decide +kernel
theorem dX0_lawsReadIn_12 : decode cX0_lawsReadIn 12 = .ok (.if_icmp .ge 24, 3) := by decide +kernel
theorem dX0_lawsReadIn_15 : decode cX0_lawsReadIn 15 = .ok (.aload_n 0, 1) := by decide +kernel
theorem dX0_lawsReadIn_16 : decode cX0_lawsReadIn 16 = .ok (.iload_n 3, 1) := by decide +kernel
theorem dX0_lawsReadIn_17 : decode cX0_lawsReadIn 17 = .ok (.iload_n 1, 1) := by decide +kernel
theorem dX0_lawsReadIn_18 : decode cX0_lawsReadIn 18 = .ok (.invokevirtual 110, 3) := by decide +kernel
theorem dX0_lawsReadIn_21 : decode cX0_lawsReadIn 21 = .ok (.ifCond .eq 9, 3) := by decide +kernel
theorem dX0_lawsReadIn_24 : decode cX0_lawsReadIn 24 = .ok (.iload_n 2, 1) := by decide +kernel
theorem dX0_lawsReadIn_25 : decode cX0_lawsReadIn 25 = .ok (.iconst 1, 1) := by decide +kernel
theorem dX0_lawsReadIn_26 : decode cX0_lawsReadIn 26 = .ok (.iload_n 3, 1) := by decide +kernel
theorem dX0_lawsReadIn_27 : decode cX0_lawsReadIn 27 = .ok (.ishl, 1) := by decide +kernel
theorem dX0_lawsReadIn_28 : decode cX0_lawsReadIn 28 = .ok (.ior, 1) := by decide +kernel
theorem dX0_lawsReadIn_29 : decode cX0_lawsReadIn 29 = .ok (.istore_n 2, 1) := by decide +kernel
theorem dX0_lawsReadIn_30 : decode cX0_lawsReadIn 30 = .ok (.iinc 3 1, 3) := by decide +kernel
theorem dX0_lawsReadIn_33 : decode cX0_lawsReadIn 33 = .ok (.goto (-29), 3) := by decide +kernel
theorem dX0_lawsReadIn_36 : decode cX0_lawsReadIn 36 = .ok (.iload_n 2, 1) := by decide +kernel
theorem dX0_lawsReadIn_37 : decode cX0_lawsReadIn 37 = .ok (.ireturn, 1) := by decide +kernel
def fX0_lawsReadIn_L4 (N : Nat) (v0 : Nat) (v1 : Int32) : Nat → Int32 → Int32 → Mem → Option (Int32 × Mem)
  | 0, _, _, _ => none
  | n + 1, v2, v3, M => ((fR M 0 v0 0).bind fun x6 => ((fI M 8 x6 9).bind fun x9 => (if x9 ≤ v3 then some (v2, M) else (if mK M v0 = 1 then ((fX0_canBeRead N v0 v3 v1 M).bind fun (x18, M18) => (if x18 = 0 then fX0_lawsReadIn_L4 N v0 v1 n v2 (v3 + 1) M18 else fX0_lawsReadIn_L4 N v0 v1 n (v2 ||| (1 <<< (v3 &&& 31))) (v3 + 1) M18)) else none))))
def fX0_lawsReadIn (N : Nat) (v0 : Nat) (v1 : Int32) (M : Mem) : Option (Int32 × Mem) := ((fX0_lawsReadIn_L4 N v0 v1 N 0 0 M).bind fun o4 => some o4)
set_option maxHeartbeats 4000000 in
set_option maxRecDepth 100000 in
theorem k_X0_lawsReadIn (l : Launch) (b : Nat) (D : va_G) (cy : Nat → ClassId) (N : Nat) (v0 : Nat) (v1 : Int32) (M : Mem) (r : Int32) (Mf : Mem) (h : fX0_lawsReadIn N v0 v1 M = some (r, Mf)) : Ct l yX0_lawsReadIn cX0_lawsReadIn 4 (some .int) 3 0 0 b D cy [.ref (b + v0), .int v1] M (some (.int r)) Mf := by
  refine Ct_of (own := RX0) (by decide) rfl (Nat.le_of_ble_eq_true rfl) ?_
  intro p e s m args below meth c F hr hl hmn
  unfold fX0_lawsReadIn at h
  show X p l e ({ frames := 3, cells := 0, slots := 0, locals := 100 * 3 }) s m args below meth c (MQ below (Qm b D cy (some (.int r)) Mf) args s 0 0 (fun q => b ≤ q)) 4 b D cy 0 0 M 0 [(0, .ref (b + v0)), (1, .int v1)] []
  refine x_iconst F (v := 0) dX0_lawsReadIn_0 (by decide) ?_
  refine x_istore_n F (lv' := [(2, .int 0), (0, .ref (b + v0)), (1, .int v1)]) dX0_lawsReadIn_1 rfl (by decide) rfl ?_
  refine x_iconst F (v := 0) dX0_lawsReadIn_2 (by decide) ?_
  refine x_istore_n F (lv' := [(3, .int 0), (2, .int 0), (0, .ref (b + v0)), (1, .int v1)]) dX0_lawsReadIn_3 rfl (by decide) rfl ?_
  have L4 : ∀ (v0 : Nat) (v1 : Int32) (n : Nat) (v2 : Int32) (v3 : Int32) (M : Mem) (o : Int32 × Mem), fX0_lawsReadIn_L4 N v0 v1 n v2 v3 M = some o → (∀ (r' : Int32) (M' : Mem), o = (r', M') → r' = r ∧ M' = Mf) → X p l e ({ frames := 3, cells := 0, slots := 0, locals := 100 * 3 }) s m args below meth c (MQ below (Qm b D cy (some (.int r)) Mf) args s 0 0 (fun q => b ≤ q)) 4 b D cy 0 0 M 4 [(0, .ref (b + v0)), (1, .int v1), (2, .int v2), (3, .int v3)] [] := by
    intro v0 v1 n
    induction n with
    | zero => intro v2 v3 M o h; exact absurd h (by rw [fX0_lawsReadIn_L4]; exact fun z => by cases z)
    | succ n ih =>
      intro v2 v3 M o h hR
      rw [fX0_lawsReadIn_L4] at h
      refine x_iload_n F dX0_lawsReadIn_4 rfl 3 rfl ?_
      refine x_aload_n F dX0_lawsReadIn_5 rfl 0 rfl ?_
      obtain ⟨x6, c6, h⟩ := bdS h
      refine x_getR F (ci := 0) (C := RX0) (T := TX0) (N := 12) rfl ⟨by decide, rfl⟩ inU0 0 (by decide) (fun _ _ _ => rfl) wl_17 c6 dX0_lawsReadIn_6 ?_
      obtain ⟨x9, c9, h⟩ := bdS h
      refine x_getI F (ci := 8) (C := RX8) (T := TX8) (N := 17) rfl ⟨by decide, rfl⟩ inU8 9 (by decide) (fun _ _ _ => rfl) wl_71 c9 dX0_lawsReadIn_9 ?_
      refine x_icmp_ge F (tgt := 36) dX0_lawsReadIn_12 (by decide) (fun c12 => ?_) (fun c12 => ?_)
      · rw [if_pos c12] at h
        refine x_iload_n F dX0_lawsReadIn_36 rfl 2 rfl ?_
        obtain rfl := Option.some.inj h
        obtain ⟨rfl, rfl⟩ := hR _ _ rfl
        exact x_iret F hr hl dX0_lawsReadIn_37
      · rw [if_neg c12] at h
        refine x_aload_n F dX0_lawsReadIn_15 rfl 0 rfl ?_
        refine x_iload_n F dX0_lawsReadIn_16 rfl 3 rfl ?_
        refine x_iload_n F dX0_lawsReadIn_17 rfl 1 rfl ?_
        obtain ⟨k18, h⟩ := gdS h
        obtain ⟨⟨x18, M18⟩, c18, h⟩ := bdS h
        dsimp only at h
        refine x_callV F (As := [.int v3, .int v1]) (rest := []) (res := (some (.int x18))) (ci := 0) (q := (RX0, TX0, 12)) rfl (by decide) k18 (k_X0_canBeRead l b D cy N v0 v3 v1 M _ _ c18) wl_63 wl_64 wl_65 wl_52 wl_57 hd_X0_canBeRead ⟨Nat.le_of_ble_eq_true rfl, Nat.le_of_ble_eq_true rfl⟩ ⟨Nat.le_refl _, Nat.le_refl _⟩ (Nat.le_of_ble_eq_true rfl) rfl dX0_lawsReadIn_18 ?_
        refine x_if_eq F (tgt := 30) dX0_lawsReadIn_21 (by decide) (fun c21 => ?_) (fun c21 => ?_)
        · rw [if_pos c21] at h
          refine x_iinc F (v := v3 + 1) (lv' := [(3, .int (v3 + 1)), (0, .ref (b + v0)), (1, .int v1), (2, .int v2)]) dX0_lawsReadIn_30 3 rfl rfl (by decide) rfl ?_
          refine x_goto F (tgt := 4) dX0_lawsReadIn_33 (by decide) ?_
          refine x_sub [1, 2, 3, 0] rfl ?_
          exact ih v2 (v3 + 1) M18 o h hR
        · rw [if_neg c21] at h
          refine x_iload_n F dX0_lawsReadIn_24 rfl 2 rfl ?_
          refine x_iconst F (v := 1) dX0_lawsReadIn_25 (by decide) ?_
          refine x_iload_n F dX0_lawsReadIn_26 rfl 3 rfl ?_
          refine x_ishl F dX0_lawsReadIn_27 ?_
          refine x_ior F dX0_lawsReadIn_28 ?_
          refine x_istore_n F (lv' := [(2, .int (v2 ||| (1 <<< (v3 &&& 31)))), (0, .ref (b + v0)), (1, .int v1), (3, .int v3)]) dX0_lawsReadIn_29 rfl (by decide) rfl ?_
          refine x_iinc F (v := v3 + 1) (lv' := [(3, .int (v3 + 1)), (2, .int (v2 ||| (1 <<< (v3 &&& 31)))), (0, .ref (b + v0)), (1, .int v1)]) dX0_lawsReadIn_30 3 rfl rfl (by decide) rfl ?_
          refine x_goto F (tgt := 4) dX0_lawsReadIn_33 (by decide) ?_
          refine x_sub [2, 3, 1, 0] rfl ?_
          exact ih (v2 ||| (1 <<< (v3 &&& 31))) (v3 + 1) M18 o h hR
  obtain ⟨o4, h4, h⟩ := bdS h
  refine x_sub [2, 3, 1, 0] rfl ?_
  refine L4 v0 v1 N 0 0 M o4 h4 (fun r' M' e => ?_)
  · subst e
    try dsimp only at h
    obtain ⟨rfl, rfl⟩ := retS h; exact ⟨rfl, rfl⟩
theorem hd_X0_lawsReadIn : (yX0_lawsReadIn).cls = RX0 ∧ (yX0_lawsReadIn).cls ≠ "java/lang/invoke/MethodHandle" ∧ (yX0_lawsReadIn).cls ≠ "java/lang/invoke/VarHandle" ∧ (parseMethodDescriptor (yX0_lawsReadIn).desc).map (fun d => d.parameters.length) = some 1 := by decide +kernel
theorem dX0_lawsRead_0 : decode cX0_lawsRead 0 = .ok (.iconst 0, 1) := by decide +kernel
theorem dX0_lawsRead_1 : decode cX0_lawsRead 1 = .ok (.istore_n 1, 1) := by decide +kernel
theorem dX0_lawsRead_2 : decode cX0_lawsRead 2 = .ok (.iconst 0, 1) := by decide +kernel
theorem dX0_lawsRead_3 : decode cX0_lawsRead 3 = .ok (.istore_n 2, 1) := by decide +kernel
theorem dX0_lawsRead_4 : decode cX0_lawsRead 4 = .ok (.iload_n 2, 1) := by decide +kernel
theorem dX0_lawsRead_5 : decode cX0_lawsRead 5 = .ok (.aload_n 0, 1) := by decide +kernel
theorem dX0_lawsRead_6 : decode cX0_lawsRead 6 = .ok (.getfield 46, 3) := by decide +kernel
theorem dX0_lawsRead_9 : decode cX0_lawsRead 9 = .ok (.getfield 92, 3) := by decide +kernel
theorem dX0_lawsRead_12 : decode cX0_lawsRead 12 = .ok (.if_icmp .ge 17, 3) := by decide +kernel
theorem dX0_lawsRead_15 : decode cX0_lawsRead 15 = .ok (.iload_n 1, 1) := by decide +kernel
theorem dX0_lawsRead_16 : decode cX0_lawsRead 16 = .ok (.aload_n 0, 1) := by decide +kernel
theorem dX0_lawsRead_17 : decode cX0_lawsRead 17 = .ok (.iload_n 2, 1) := by decide +kernel
theorem dX0_lawsRead_18 : decode cX0_lawsRead 18 = .ok (.invokevirtual 126, 3) := by decide +kernel
theorem dX0_lawsRead_21 : decode cX0_lawsRead 21 = .ok (.ior, 1) := by decide +kernel
theorem dX0_lawsRead_22 : decode cX0_lawsRead 22 = .ok (.istore_n 1, 1) := by decide +kernel
theorem dX0_lawsRead_23 : decode cX0_lawsRead 23 = .ok (.iinc 2 1, 3) := by decide +kernel
theorem dX0_lawsRead_26 : decode cX0_lawsRead 26 = .ok (.goto (-22), 3) := by decide +kernel
theorem dX0_lawsRead_29 : decode cX0_lawsRead 29 = .ok (.iload_n 1, 1) := by decide +kernel
theorem dX0_lawsRead_30 : decode cX0_lawsRead 30 = .ok (.ireturn, 1) := by decide +kernel
def fX0_lawsRead_L4 (N : Nat) (v0 : Nat) : Nat → Int32 → Int32 → Mem → Option (Int32 × Mem)
  | 0, _, _, _ => none
  | n + 1, v1, v2, M => ((fR M 0 v0 0).bind fun x6 => ((fI M 8 x6 0).bind fun x9 => (if x9 ≤ v2 then some (v1, M) else (if mK M v0 = 1 then ((fX0_lawsReadIn N v0 v2 M).bind fun (x18, M18) => fX0_lawsRead_L4 N v0 n (v1 ||| x18) (v2 + 1) M18) else none))))
def fX0_lawsRead (N : Nat) (v0 : Nat) (M : Mem) : Option (Int32 × Mem) := ((fX0_lawsRead_L4 N v0 N 0 0 M).bind fun o4 => some o4)
set_option maxHeartbeats 4000000 in
set_option maxRecDepth 100000 in
theorem k_X0_lawsRead (l : Launch) (b : Nat) (D : va_G) (cy : Nat → ClassId) (N : Nat) (v0 : Nat) (M : Mem) (r : Int32) (Mf : Mem) (h : fX0_lawsRead N v0 M = some (r, Mf)) : Ct l yX0_lawsRead cX0_lawsRead 3 (some .int) 4 0 0 b D cy [.ref (b + v0)] M (some (.int r)) Mf := by
  refine Ct_of (own := RX0) (by decide) rfl (Nat.le_of_ble_eq_true rfl) ?_
  intro p e s m args below meth c F hr hl hmn
  unfold fX0_lawsRead at h
  show X p l e ({ frames := 4, cells := 0, slots := 0, locals := 100 * 4 }) s m args below meth c (MQ below (Qm b D cy (some (.int r)) Mf) args s 0 0 (fun q => b ≤ q)) 3 b D cy 0 0 M 0 [(0, .ref (b + v0))] []
  refine x_iconst F (v := 0) dX0_lawsRead_0 (by decide) ?_
  refine x_istore_n F (lv' := [(1, .int 0), (0, .ref (b + v0))]) dX0_lawsRead_1 rfl (by decide) rfl ?_
  refine x_iconst F (v := 0) dX0_lawsRead_2 (by decide) ?_
  refine x_istore_n F (lv' := [(2, .int 0), (1, .int 0), (0, .ref (b + v0))]) dX0_lawsRead_3 rfl (by decide) rfl ?_
  have L4 : ∀ (v0 : Nat) (n : Nat) (v1 : Int32) (v2 : Int32) (M : Mem) (o : Int32 × Mem), fX0_lawsRead_L4 N v0 n v1 v2 M = some o → (∀ (r' : Int32) (M' : Mem), o = (r', M') → r' = r ∧ M' = Mf) → X p l e ({ frames := 4, cells := 0, slots := 0, locals := 100 * 4 }) s m args below meth c (MQ below (Qm b D cy (some (.int r)) Mf) args s 0 0 (fun q => b ≤ q)) 3 b D cy 0 0 M 4 [(0, .ref (b + v0)), (1, .int v1), (2, .int v2)] [] := by
    intro v0 n
    induction n with
    | zero => intro v1 v2 M o h; exact absurd h (by rw [fX0_lawsRead_L4]; exact fun z => by cases z)
    | succ n ih =>
      intro v1 v2 M o h hR
      rw [fX0_lawsRead_L4] at h
      refine x_iload_n F dX0_lawsRead_4 rfl 2 rfl ?_
      refine x_aload_n F dX0_lawsRead_5 rfl 0 rfl ?_
      obtain ⟨x6, c6, h⟩ := bdS h
      refine x_getR F (ci := 0) (C := RX0) (T := TX0) (N := 12) rfl ⟨by decide, rfl⟩ inU0 0 (by decide) (fun _ _ _ => rfl) wl_17 c6 dX0_lawsRead_6 ?_
      obtain ⟨x9, c9, h⟩ := bdS h
      refine x_getI F (ci := 8) (C := RX8) (T := TX8) (N := 17) rfl ⟨by decide, rfl⟩ inU8 0 (by decide) (fun _ _ _ => rfl) wl_47 c9 dX0_lawsRead_9 ?_
      refine x_icmp_ge F (tgt := 29) dX0_lawsRead_12 (by decide) (fun c12 => ?_) (fun c12 => ?_)
      · rw [if_pos c12] at h
        refine x_iload_n F dX0_lawsRead_29 rfl 1 rfl ?_
        obtain rfl := Option.some.inj h
        obtain ⟨rfl, rfl⟩ := hR _ _ rfl
        exact x_iret F hr hl dX0_lawsRead_30
      · rw [if_neg c12] at h
        refine x_iload_n F dX0_lawsRead_15 rfl 1 rfl ?_
        refine x_aload_n F dX0_lawsRead_16 rfl 0 rfl ?_
        refine x_iload_n F dX0_lawsRead_17 rfl 2 rfl ?_
        obtain ⟨k18, h⟩ := gdS h
        obtain ⟨⟨x18, M18⟩, c18, h⟩ := bdS h
        dsimp only at h
        refine x_callV F (As := [.int v2]) (rest := [.int v1]) (res := (some (.int x18))) (ci := 0) (q := (RX0, TX0, 12)) rfl (by decide) k18 (k_X0_lawsReadIn l b D cy N v0 v2 M _ _ c18) wl_88 wl_89 wl_90 wl_52 wl_86 hd_X0_lawsReadIn ⟨Nat.le_of_ble_eq_true rfl, Nat.le_of_ble_eq_true rfl⟩ ⟨Nat.le_refl _, Nat.le_refl _⟩ (Nat.le_of_ble_eq_true rfl) rfl dX0_lawsRead_18 ?_
        refine x_ior F dX0_lawsRead_21 ?_
        refine x_istore_n F (lv' := [(1, .int (v1 ||| x18)), (0, .ref (b + v0)), (2, .int v2)]) dX0_lawsRead_22 rfl (by decide) rfl ?_
        refine x_iinc F (v := v2 + 1) (lv' := [(2, .int (v2 + 1)), (1, .int (v1 ||| x18)), (0, .ref (b + v0))]) dX0_lawsRead_23 2 rfl rfl (by decide) rfl ?_
        refine x_goto F (tgt := 4) dX0_lawsRead_26 (by decide) ?_
        refine x_sub [2, 1, 0] rfl ?_
        exact ih (v1 ||| x18) (v2 + 1) M18 o h hR
  obtain ⟨o4, h4, h⟩ := bdS h
  refine x_sub [2, 1, 0] rfl ?_
  refine L4 v0 N 0 0 M o4 h4 (fun r' M' e => ?_)
  · subst e
    try dsimp only at h
    obtain ⟨rfl, rfl⟩ := retS h; exact ⟨rfl, rfl⟩
theorem dX0_allSigns_0 : decode cX0_allSigns 0 = .ok (.iconst 0, 1) := by decide +kernel
theorem dX0_allSigns_1 : decode cX0_allSigns 1 = .ok (.istore_n 1, 1) := by decide +kernel
theorem dX0_allSigns_2 : decode cX0_allSigns 2 = .ok (.iconst 0, 1) := by decide +kernel
theorem dX0_allSigns_3 : decode cX0_allSigns 3 = .ok (.istore_n 2, 1) := by decide +kernel
theorem dX0_allSigns_4 : decode cX0_allSigns 4 = .ok (.iload_n 2, 1) := by decide +kernel
theorem dX0_allSigns_5 : decode cX0_allSigns 5 = .ok (.aload_n 0, 1) := by decide +kernel
theorem dX0_allSigns_6 : decode cX0_allSigns 6 = .ok (.getfield 46, 3) := by decide +kernel
theorem dX0_allSigns_9 : decode cX0_allSigns 9 = .ok (.getfield 92, 3) := by decide +kernel
theorem dX0_allSigns_12 : decode cX0_allSigns 12 = .ok (.if_icmp .ge 18, 3) := by decide +kernel
theorem dX0_allSigns_15 : decode cX0_allSigns 15 = .ok (.iload_n 1, 1) := by decide +kernel
theorem dX0_allSigns_16 : decode cX0_allSigns 16 = .ok (.aload_n 0, 1) := by decide +kernel
theorem dX0_allSigns_17 : decode cX0_allSigns 17 = .ok (.getfield 18, 3) := by decide +kernel
theorem dX0_allSigns_20 : decode cX0_allSigns 20 = .ok (.iload_n 2, 1) := by decide +kernel
theorem dX0_allSigns_21 : decode cX0_allSigns 21 = .ok (.iaload, 1) := by decide +kernel
theorem dX0_allSigns_22 : decode cX0_allSigns 22 = .ok (.iadd, 1) := by decide +kernel
theorem dX0_allSigns_23 : decode cX0_allSigns 23 = .ok (.istore_n 1, 1) := by decide +kernel
theorem dX0_allSigns_24 : decode cX0_allSigns 24 = .ok (.iinc 2 1, 3) := by decide +kernel
theorem dX0_allSigns_27 : decode cX0_allSigns 27 = .ok (.goto (-23), 3) := by decide +kernel
theorem dX0_allSigns_30 : decode cX0_allSigns 30 = .ok (.iload_n 1, 1) := by decide +kernel
theorem dX0_allSigns_31 : decode cX0_allSigns 31 = .ok (.ireturn, 1) := by decide +kernel
def fX0_allSigns_L4 (N : Nat) (v0 : Nat) : Nat → Int32 → Int32 → Mem → Option (Int32 × Mem)
  | 0, _, _, _ => none
  | n + 1, v1, v2, M => ((fR M 0 v0 0).bind fun x6 => ((fI M 8 x6 0).bind fun x9 => (if x9 ≤ v2 then some (v1, M) else ((fR M 0 v0 3).bind fun x17 => ((aI M x17 v2).bind fun x21 => fX0_allSigns_L4 N v0 n (v1 + x21) (v2 + 1) M)))))
def fX0_allSigns (N : Nat) (v0 : Nat) (M : Mem) : Option (Int32 × Mem) := ((fX0_allSigns_L4 N v0 N 0 0 M).bind fun o4 => some o4)
set_option maxHeartbeats 4000000 in
set_option maxRecDepth 100000 in
theorem k_X0_allSigns (l : Launch) (b : Nat) (D : va_G) (cy : Nat → ClassId) (N : Nat) (v0 : Nat) (M : Mem) (r : Int32) (Mf : Mem) (h : fX0_allSigns N v0 M = some (r, Mf)) : Ct l yX0_allSigns cX0_allSigns 3 (some .int) 1 0 0 b D cy [.ref (b + v0)] M (some (.int r)) Mf := by
  refine Ct_of (own := RX0) (by decide) rfl (Nat.le_of_ble_eq_true rfl) ?_
  intro p e s m args below meth c F hr hl hmn
  unfold fX0_allSigns at h
  show X p l e ({ frames := 1, cells := 0, slots := 0, locals := 100 * 1 }) s m args below meth c (MQ below (Qm b D cy (some (.int r)) Mf) args s 0 0 (fun q => b ≤ q)) 3 b D cy 0 0 M 0 [(0, .ref (b + v0))] []
  refine x_iconst F (v := 0) dX0_allSigns_0 (by decide) ?_
  refine x_istore_n F (lv' := [(1, .int 0), (0, .ref (b + v0))]) dX0_allSigns_1 rfl (by decide) rfl ?_
  refine x_iconst F (v := 0) dX0_allSigns_2 (by decide) ?_
  refine x_istore_n F (lv' := [(2, .int 0), (1, .int 0), (0, .ref (b + v0))]) dX0_allSigns_3 rfl (by decide) rfl ?_
  have L4 : ∀ (v0 : Nat) (n : Nat) (v1 : Int32) (v2 : Int32) (M : Mem) (o : Int32 × Mem), fX0_allSigns_L4 N v0 n v1 v2 M = some o → (∀ (r' : Int32) (M' : Mem), o = (r', M') → r' = r ∧ M' = Mf) → X p l e ({ frames := 1, cells := 0, slots := 0, locals := 100 * 1 }) s m args below meth c (MQ below (Qm b D cy (some (.int r)) Mf) args s 0 0 (fun q => b ≤ q)) 3 b D cy 0 0 M 4 [(0, .ref (b + v0)), (1, .int v1), (2, .int v2)] [] := by
    intro v0 n
    induction n with
    | zero => intro v1 v2 M o h; exact absurd h (by rw [fX0_allSigns_L4]; exact fun z => by cases z)
    | succ n ih =>
      intro v1 v2 M o h hR
      rw [fX0_allSigns_L4] at h
      refine x_iload_n F dX0_allSigns_4 rfl 2 rfl ?_
      refine x_aload_n F dX0_allSigns_5 rfl 0 rfl ?_
      obtain ⟨x6, c6, h⟩ := bdS h
      refine x_getR F (ci := 0) (C := RX0) (T := TX0) (N := 12) rfl ⟨by decide, rfl⟩ inU0 0 (by decide) (fun _ _ _ => rfl) wl_17 c6 dX0_allSigns_6 ?_
      obtain ⟨x9, c9, h⟩ := bdS h
      refine x_getI F (ci := 8) (C := RX8) (T := TX8) (N := 17) rfl ⟨by decide, rfl⟩ inU8 0 (by decide) (fun _ _ _ => rfl) wl_47 c9 dX0_allSigns_9 ?_
      refine x_icmp_ge F (tgt := 30) dX0_allSigns_12 (by decide) (fun c12 => ?_) (fun c12 => ?_)
      · rw [if_pos c12] at h
        refine x_iload_n F dX0_allSigns_30 rfl 1 rfl ?_
        obtain rfl := Option.some.inj h
        obtain ⟨rfl, rfl⟩ := hR _ _ rfl
        exact x_iret F hr hl dX0_allSigns_31
      · rw [if_neg c12] at h
        refine x_iload_n F dX0_allSigns_15 rfl 1 rfl ?_
        refine x_aload_n F dX0_allSigns_16 rfl 0 rfl ?_
        obtain ⟨x17, c17, h⟩ := bdS h
        refine x_getR F (ci := 0) (C := RX0) (T := TX0) (N := 12) rfl ⟨by decide, rfl⟩ inU0 3 (by decide) (fun _ _ _ => rfl) wl_8 c17 dX0_allSigns_17 ?_
        refine x_iload_n F dX0_allSigns_20 rfl 2 rfl ?_
        obtain ⟨x21, c21, h⟩ := bdS h
        refine x_aI F c21 dX0_allSigns_21 ?_
        refine x_iadd F dX0_allSigns_22 ?_
        refine x_istore_n F (lv' := [(1, .int (v1 + x21)), (0, .ref (b + v0)), (2, .int v2)]) dX0_allSigns_23 rfl (by decide) rfl ?_
        refine x_iinc F (v := v2 + 1) (lv' := [(2, .int (v2 + 1)), (1, .int (v1 + x21)), (0, .ref (b + v0))]) dX0_allSigns_24 2 rfl rfl (by decide) rfl ?_
        refine x_goto F (tgt := 4) dX0_allSigns_27 (by decide) ?_
        refine x_sub [2, 1, 0] rfl ?_
        exact ih (v1 + x21) (v2 + 1) M o h hR
  obtain ⟨o4, h4, h⟩ := bdS h
  refine x_sub [2, 1, 0] rfl ?_
  refine L4 v0 N 0 0 M o4 h4 (fun r' M' e => ?_)
  · subst e
    try dsimp only at h
    obtain ⟨rfl, rfl⟩ := retS h; exact ⟨rfl, rfl⟩
theorem dX0_hasSignBy_0 : decode cX0_hasSignBy 0 = .ok (.iconst 0, 1) := by decide +kernel
theorem dX0_hasSignBy_1 : decode cX0_hasSignBy 1 = .ok (.istore_n 3, 1) := by decide +kernel
theorem dX0_hasSignBy_2 : decode cX0_hasSignBy 2 = .ok (.iload_n 3, 1) := by decide +kernel
theorem dX0_hasSignBy_3 : decode cX0_hasSignBy 3 = .ok (.aload_n 0, 1) := by decide +kernel
theorem dX0_hasSignBy_4 : decode cX0_hasSignBy 4 = .ok (.getfield 46, 3) := by decide +kernel
theorem dX0_hasSignBy_7 : decode cX0_hasSignBy 7 = .ok (.getfield 117, 3) := by decide +kernel
theorem dX0_hasSignBy_10 : decode cX0_hasSignBy 10 = .ok (.iload_n 2, 1) := by decide +kernel
theorem dX0_hasSignBy_11 : decode cX0_hasSignBy 11 = .ok (.iaload, 1) := by decide +kernel
theorem dX0_hasSignBy_12 : decode cX0_hasSignBy 12 = .ok (.if_icmp .ge 25, 3) := by decide +kernel
theorem dX0_hasSignBy_15 : decode cX0_hasSignBy 15 = .ok (.aload_n 0, 1) := by decide +kernel
theorem dX0_hasSignBy_16 : decode cX0_hasSignBy 16 = .ok (.getfield 15, 3) := by decide +kernel
theorem dX0_hasSignBy_19 : decode cX0_hasSignBy 19 = .ok (.iload_n 2, 1) := by decide +kernel
theorem dX0_hasSignBy_20 : decode cX0_hasSignBy 20 = .ok (.iload_n 3, 1) := by decide +kernel
theorem dX0_hasSignBy_21 : decode cX0_hasSignBy 21 = .ok (.invokestatic 67, 3) := by decide +kernel
theorem dX0_hasSignBy_24 : decode cX0_hasSignBy 24 = .ok (.iaload, 1) := by decide +kernel
theorem dX0_hasSignBy_25 : decode cX0_hasSignBy 25 = .ok (.iload_n 1, 1) := by decide +kernel
theorem dX0_hasSignBy_26 : decode cX0_hasSignBy 26 = .ok (.if_icmp .ne 5, 3) := by decide +kernel
theorem dX0_hasSignBy_29 : decode cX0_hasSignBy 29 = .ok (.iconst 1, 1) := by decide +kernel
theorem dX0_hasSignBy_30 : decode cX0_hasSignBy 30 = .ok (.ireturn, 1) := by decide +kernel
theorem dX0_hasSignBy_31 : decode cX0_hasSignBy 31 = .ok (.iinc 3 1, 3) := by decide +kernel
theorem dX0_hasSignBy_34 : decode cX0_hasSignBy 34 = .ok (.goto (-32), 3) := by decide +kernel
theorem dX0_hasSignBy_37 : decode cX0_hasSignBy 37 = .ok (.iconst 0, 1) := by decide +kernel
theorem dX0_hasSignBy_38 : decode cX0_hasSignBy 38 = .ok (.ireturn, 1) := by decide +kernel
def fX0_hasSignBy_L2 (N : Nat) (v0 : Nat) (v1 : Int32) (v2 : Int32) : Nat → Int32 → Mem → Option (Int32 × Mem)
  | 0, _, _ => none
  | n + 1, v3, M => ((fR M 0 v0 0).bind fun x4 => ((fR M 8 x4 3).bind fun x7 => ((aI M x7 v2).bind fun x11 => (if x11 ≤ v3 then some (0, M) else ((fR M 0 v0 2).bind fun x16 => ((fX10_placeIndex N v2 v3 M).bind fun (x21, M21) => ((aI M21 x16 x21).bind fun x24 => (if x24 = v1 then some (1, M21) else fX0_hasSignBy_L2 N v0 v1 v2 n (v3 + 1) M21))))))))
def fX0_hasSignBy (N : Nat) (v0 : Nat) (v1 : Int32) (v2 : Int32) (M : Mem) : Option (Int32 × Mem) := ((fX0_hasSignBy_L2 N v0 v1 v2 N 0 M).bind fun o2 => some o2)
set_option maxHeartbeats 4000000 in
set_option maxRecDepth 100000 in
theorem k_X0_hasSignBy (l : Launch) (b : Nat) (D : va_G) (cy : Nat → ClassId) (N : Nat) (v0 : Nat) (v1 : Int32) (v2 : Int32) (M : Mem) (r : Int32) (Mf : Mem) (h : fX0_hasSignBy N v0 v1 v2 M = some (r, Mf)) : Ct l yX0_hasSignBy cX0_hasSignBy 4 (some .boolean) 2 0 0 b D cy [.ref (b + v0), .int v1, .int v2] M (some (.int r)) Mf := by
  refine Ct_of (own := RX0) (by decide) rfl (Nat.le_of_ble_eq_true rfl) ?_
  intro p e s m args below meth c F hr hl hmn
  unfold fX0_hasSignBy at h
  show X p l e ({ frames := 2, cells := 0, slots := 0, locals := 100 * 2 }) s m args below meth c (MQ below (Qm b D cy (some (.int r)) Mf) args s 0 0 (fun q => b ≤ q)) 4 b D cy 0 0 M 0 [(0, .ref (b + v0)), (1, .int v1), (2, .int v2)] []
  refine x_iconst F (v := 0) dX0_hasSignBy_0 (by decide) ?_
  refine x_istore_n F (lv' := [(3, .int 0), (0, .ref (b + v0)), (1, .int v1), (2, .int v2)]) dX0_hasSignBy_1 rfl (by decide) rfl ?_
  have L2 : ∀ (v0 : Nat) (v1 : Int32) (v2 : Int32) (n : Nat) (v3 : Int32) (M : Mem) (o : Int32 × Mem), fX0_hasSignBy_L2 N v0 v1 v2 n v3 M = some o → (∀ (r' : Int32) (M' : Mem), o = (r', M') → r' = r ∧ M' = Mf) → X p l e ({ frames := 2, cells := 0, slots := 0, locals := 100 * 2 }) s m args below meth c (MQ below (Qm b D cy (some (.int r)) Mf) args s 0 0 (fun q => b ≤ q)) 4 b D cy 0 0 M 2 [(0, .ref (b + v0)), (1, .int v1), (2, .int v2), (3, .int v3)] [] := by
    intro v0 v1 v2 n
    induction n with
    | zero => intro v3 M o h; exact absurd h (by rw [fX0_hasSignBy_L2]; exact fun z => by cases z)
    | succ n ih =>
      intro v3 M o h hR
      rw [fX0_hasSignBy_L2] at h
      refine x_iload_n F dX0_hasSignBy_2 rfl 3 rfl ?_
      refine x_aload_n F dX0_hasSignBy_3 rfl 0 rfl ?_
      obtain ⟨x4, c4, h⟩ := bdS h
      refine x_getR F (ci := 0) (C := RX0) (T := TX0) (N := 12) rfl ⟨by decide, rfl⟩ inU0 0 (by decide) (fun _ _ _ => rfl) wl_17 c4 dX0_hasSignBy_4 ?_
      obtain ⟨x7, c7, h⟩ := bdS h
      refine x_getR F (ci := 8) (C := RX8) (T := TX8) (N := 17) rfl ⟨by decide, rfl⟩ inU8 3 (by decide) (fun _ _ _ => rfl) wl_58 c7 dX0_hasSignBy_7 ?_
      refine x_iload_n F dX0_hasSignBy_10 rfl 2 rfl ?_
      obtain ⟨x11, c11, h⟩ := bdS h
      refine x_aI F c11 dX0_hasSignBy_11 ?_
      refine x_icmp_ge F (tgt := 37) dX0_hasSignBy_12 (by decide) (fun c12 => ?_) (fun c12 => ?_)
      · rw [if_pos c12] at h
        refine x_iconst F (v := 0) dX0_hasSignBy_37 (by decide) ?_
        obtain rfl := Option.some.inj h
        obtain ⟨rfl, rfl⟩ := hR _ _ rfl
        exact x_zret F hr hl (by decide) dX0_hasSignBy_38
      · rw [if_neg c12] at h
        refine x_aload_n F dX0_hasSignBy_15 rfl 0 rfl ?_
        obtain ⟨x16, c16, h⟩ := bdS h
        refine x_getR F (ci := 0) (C := RX0) (T := TX0) (N := 12) rfl ⟨by decide, rfl⟩ inU0 2 (by decide) (fun _ _ _ => rfl) wl_7 c16 dX0_hasSignBy_16 ?_
        refine x_iload_n F dX0_hasSignBy_19 rfl 2 rfl ?_
        refine x_iload_n F dX0_hasSignBy_20 rfl 3 rfl ?_
        obtain ⟨⟨x21, M21⟩, c21, h⟩ := bdS h
        dsimp only at h
        refine x_callSN F (As := [.int v2, .int v3]) (rest := [.ref (b + x16)]) (res := (some (.int x21))) (host := RX10) (k_X10_placeIndex l b D cy N v2 v3 M _ _ c21) wl_27 (by decide +kernel) wl_31 wl_30 (hd_X10_placeIndex).2 ⟨Nat.le_of_ble_eq_true rfl, Nat.le_of_ble_eq_true rfl⟩ ⟨Nat.le_refl _, Nat.le_refl _⟩ (Nat.le_of_ble_eq_true rfl) rfl dX0_hasSignBy_21 ?_
        obtain ⟨x24, c24, h⟩ := bdS h
        refine x_aI F c24 dX0_hasSignBy_24 ?_
        refine x_iload_n F dX0_hasSignBy_25 rfl 1 rfl ?_
        refine x_icmp_ne F (tgt := 31) dX0_hasSignBy_26 (by decide) (fun c26 => ?_) (fun c26 => ?_)
        · rw [if_neg c26] at h
          refine x_iinc F (v := v3 + 1) (lv' := [(3, .int (v3 + 1)), (0, .ref (b + v0)), (1, .int v1), (2, .int v2)]) dX0_hasSignBy_31 3 rfl rfl (by decide) rfl ?_
          refine x_goto F (tgt := 2) dX0_hasSignBy_34 (by decide) ?_
          refine x_sub [1, 2, 3, 0] rfl ?_
          exact ih (v3 + 1) M21 o h hR
        · rw [if_pos c26] at h
          refine x_iconst F (v := 1) dX0_hasSignBy_29 (by decide) ?_
          obtain rfl := Option.some.inj h
          obtain ⟨rfl, rfl⟩ := hR _ _ rfl
          exact x_zret F hr hl (by decide) dX0_hasSignBy_30
  obtain ⟨o2, h2, h⟩ := bdS h
  refine x_sub [1, 2, 3, 0] rfl ?_
  refine L2 v0 v1 v2 N 0 M o2 h2 (fun r' M' e => ?_)
  · subst e
    try dsimp only at h
    obtain ⟨rfl, rfl⟩ := retS h; exact ⟨rfl, rfl⟩
theorem hd_X0_hoursLeft : (yX0_hoursLeft).cls = RX0 ∧ (yX0_hoursLeft).cls ≠ "java/lang/invoke/MethodHandle" ∧ (yX0_hoursLeft).cls ≠ "java/lang/invoke/VarHandle" ∧ (parseMethodDescriptor (yX0_hoursLeft).desc).map (fun d => d.parameters.length) = some 0 := by decide +kernel
theorem dX0_hoursTillWashed_0 : decode cX0_hoursTillWashed 0 = .ok (.iconst 0, 1) := by decide +kernel
theorem dX0_hoursTillWashed_1 : decode cX0_hoursTillWashed 1 = .ok (.istore_n 2, 1) := by decide +kernel
theorem dX0_hoursTillWashed_2 : decode cX0_hoursTillWashed 2 = .ok (.iload_n 2, 1) := by decide +kernel
theorem dX0_hoursTillWashed_3 : decode cX0_hoursTillWashed 3 = .ok (.aload_n 0, 1) := by decide +kernel
theorem dX0_hoursTillWashed_4 : decode cX0_hoursTillWashed 4 = .ok (.getfield 46, 3) := by decide +kernel
theorem dX0_hoursTillWashed_7 : decode cX0_hoursTillWashed 7 = .ok (.getfield 129, 3) := by decide +kernel
theorem dX0_hoursTillWashed_10 : decode cX0_hoursTillWashed 10 = .ok (.if_icmp .ge 46, 3) := by decide +kernel
theorem dX0_hoursTillWashed_13 : decode cX0_hoursTillWashed 13 = .ok (.iload_n 2, 1) := by decide +kernel
theorem dX0_hoursTillWashed_14 : decode cX0_hoursTillWashed 14 = .ok (.aload_n 0, 1) := by decide +kernel
theorem dX0_hoursTillWashed_15 : decode cX0_hoursTillWashed 15 = .ok (.invokevirtual 132, 3) := by decide +kernel
theorem dX0_hoursTillWashed_18 : decode cX0_hoursTillWashed 18 = .ok (.if_icmp .ge 38, 3) := by decide +kernel
theorem dX0_hoursTillWashed_21 : decode cX0_hoursTillWashed 21 = .ok (.aload_n 0, 1) := by decide +kernel
theorem dX0_hoursTillWashed_22 : decode cX0_hoursTillWashed 22 = .ok (.getfield 46, 3) := by decide +kernel
theorem dX0_hoursTillWashed_25 : decode cX0_hoursTillWashed 25 = .ok (.aload_n 0, 1) := by decide +kernel
theorem dX0_hoursTillWashed_26 : decode cX0_hoursTillWashed 26 = .ok (.getfield 37, 3) := by decide +kernel
theorem dX0_hoursTillWashed_29 : decode cX0_hoursTillWashed 29 = .ok (.iload_n 2, 1) := by decide +kernel
theorem dX0_hoursTillWashed_30 : decode cX0_hoursTillWashed 30 = .ok (.iadd, 1) := by decide +kernel
theorem dX0_hoursTillWashed_31 : decode cX0_hoursTillWashed 31 = .ok (.invokevirtual 74, 3) := by decide +kernel
theorem dX0_hoursTillWashed_34 : decode cX0_hoursTillWashed 34 = .ok (.aload_n 0, 1) := by decide +kernel
theorem dX0_hoursTillWashed_35 : decode cX0_hoursTillWashed 35 = .ok (.getfield 46, 3) := by decide +kernel
theorem dX0_hoursTillWashed_38 : decode cX0_hoursTillWashed 38 = .ok (.getfield 95, 3) := by decide +kernel
theorem dX0_hoursTillWashed_41 : decode cX0_hoursTillWashed 41 = .ok (.iload_n 1, 1) := by decide +kernel
theorem dX0_hoursTillWashed_42 : decode cX0_hoursTillWashed 42 = .ok (.iaload, 1) := by decide +kernel
theorem dX0_hoursTillWashed_43 : decode cX0_hoursTillWashed 43 = .ok (.if_icmp .lt 7, 3) := by decide +kernel
theorem dX0_hoursTillWashed_46 : decode cX0_hoursTillWashed 46 = .ok (.iload_n 2, 1) := by decide +kernel
theorem dX0_hoursTillWashed_47 : decode cX0_hoursTillWashed 47 = .ok (.iconst 1, 1) := by decide +kernel
theorem dX0_hoursTillWashed_48 : decode cX0_hoursTillWashed 48 = .ok (.iadd, 1) := by decide +kernel
theorem dX0_hoursTillWashed_49 : decode cX0_hoursTillWashed 49 = .ok (.ireturn, 1) := by decide +kernel
theorem dX0_hoursTillWashed_50 : decode cX0_hoursTillWashed 50 = .ok (.iinc 2 1, 3) := by decide +kernel
theorem dX0_hoursTillWashed_53 : decode cX0_hoursTillWashed 53 = .ok (.goto (-51), 3) := by decide +kernel
theorem dX0_hoursTillWashed_56 : decode cX0_hoursTillWashed 56 = .ok (.iconst (-1), 1) := by decide +kernel
theorem dX0_hoursTillWashed_57 : decode cX0_hoursTillWashed 57 = .ok (.ireturn, 1) := by decide +kernel
def fX0_hoursTillWashed_L2 (N : Nat) (v0 : Nat) (v1 : Int32) : Nat → Int32 → Mem → Option (Int32 × Mem)
  | 0, _, _ => none
  | n + 1, v2, M => ((fR M 0 v0 0).bind fun x4 => ((fI M 8 x4 4).bind fun x7 => (if x7 ≤ v2 then some ((-1), M) else (if mK M v0 = 1 then ((fX0_hoursLeft N v0 M).bind fun (x15, M15) => (if x15 ≤ v2 then some ((-1), M15) else ((fR M15 0 v0 0).bind fun x22 => ((fI M15 0 v0 9).bind fun x26 => (if mK M15 x22 = 9 then ((fX8_tideOf N x22 (x26 + v2) M15).bind fun (x31, M31) => ((fR M31 0 v0 0).bind fun x35 => ((fR M31 8 x35 2).bind fun x38 => ((aI M31 x38 v1).bind fun x42 => (if x31 < x42 then fX0_hoursTillWashed_L2 N v0 v1 n (v2 + 1) M31 else some (v2 + 1, M31)))))) else none))))) else none))))
def fX0_hoursTillWashed (N : Nat) (v0 : Nat) (v1 : Int32) (M : Mem) : Option (Int32 × Mem) := ((fX0_hoursTillWashed_L2 N v0 v1 N 0 M).bind fun o2 => some o2)
set_option maxHeartbeats 4000000 in
set_option maxRecDepth 100000 in
theorem k_X0_hoursTillWashed (l : Launch) (b : Nat) (D : va_G) (cy : Nat → ClassId) (N : Nat) (v0 : Nat) (v1 : Int32) (M : Mem) (r : Int32) (Mf : Mem) (h : fX0_hoursTillWashed N v0 v1 M = some (r, Mf)) : Ct l yX0_hoursTillWashed cX0_hoursTillWashed 3 (some .int) 2 0 0 b D cy [.ref (b + v0), .int v1] M (some (.int r)) Mf := by
  refine Ct_of (own := RX0) (by decide) rfl (Nat.le_of_ble_eq_true rfl) ?_
  intro p e s m args below meth c F hr hl hmn
  unfold fX0_hoursTillWashed at h
  show X p l e ({ frames := 2, cells := 0, slots := 0, locals := 100 * 2 }) s m args below meth c (MQ below (Qm b D cy (some (.int r)) Mf) args s 0 0 (fun q => b ≤ q)) 3 b D cy 0 0 M 0 [(0, .ref (b + v0)), (1, .int v1)] []
  refine x_iconst F (v := 0) dX0_hoursTillWashed_0 (by decide) ?_
  refine x_istore_n F (lv' := [(2, .int 0), (0, .ref (b + v0)), (1, .int v1)]) dX0_hoursTillWashed_1 rfl (by decide) rfl ?_
  have L2 : ∀ (v0 : Nat) (v1 : Int32) (n : Nat) (v2 : Int32) (M : Mem) (o : Int32 × Mem), fX0_hoursTillWashed_L2 N v0 v1 n v2 M = some o → (∀ (r' : Int32) (M' : Mem), o = (r', M') → r' = r ∧ M' = Mf) → X p l e ({ frames := 2, cells := 0, slots := 0, locals := 100 * 2 }) s m args below meth c (MQ below (Qm b D cy (some (.int r)) Mf) args s 0 0 (fun q => b ≤ q)) 3 b D cy 0 0 M 2 [(0, .ref (b + v0)), (1, .int v1), (2, .int v2)] [] := by
    intro v0 v1 n
    induction n with
    | zero => intro v2 M o h; exact absurd h (by rw [fX0_hoursTillWashed_L2]; exact fun z => by cases z)
    | succ n ih =>
      intro v2 M o h hR
      rw [fX0_hoursTillWashed_L2] at h
      refine x_iload_n F dX0_hoursTillWashed_2 rfl 2 rfl ?_
      refine x_aload_n F dX0_hoursTillWashed_3 rfl 0 rfl ?_
      obtain ⟨x4, c4, h⟩ := bdS h
      refine x_getR F (ci := 0) (C := RX0) (T := TX0) (N := 12) rfl ⟨by decide, rfl⟩ inU0 0 (by decide) (fun _ _ _ => rfl) wl_17 c4 dX0_hoursTillWashed_4 ?_
      obtain ⟨x7, c7, h⟩ := bdS h
      refine x_getI F (ci := 8) (C := RX8) (T := TX8) (N := 17) rfl ⟨by decide, rfl⟩ inU8 4 (by decide) (fun _ _ _ => rfl) wl_94 c7 dX0_hoursTillWashed_7 ?_
      refine x_icmp_ge F (tgt := 56) dX0_hoursTillWashed_10 (by decide) (fun c10 => ?_) (fun c10 => ?_)
      · rw [if_pos c10] at h
        refine x_iconst F (v := (-1)) dX0_hoursTillWashed_56 (by decide) ?_
        obtain rfl := Option.some.inj h
        obtain ⟨rfl, rfl⟩ := hR _ _ rfl
        exact x_iret F hr hl dX0_hoursTillWashed_57
      · rw [if_neg c10] at h
        refine x_iload_n F dX0_hoursTillWashed_13 rfl 2 rfl ?_
        refine x_aload_n F dX0_hoursTillWashed_14 rfl 0 rfl ?_
        obtain ⟨k15, h⟩ := gdS h
        obtain ⟨⟨x15, M15⟩, c15, h⟩ := bdS h
        dsimp only at h
        refine x_callV F (As := []) (rest := [.int v2]) (res := (some (.int x15))) (ci := 0) (q := (RX0, TX0, 12)) rfl (by decide) k15 (k_X0_hoursLeft l b D cy N v0 M _ _ c15) wl_95 wl_96 wl_97 wl_52 wl_35 hd_X0_hoursLeft ⟨Nat.le_of_ble_eq_true rfl, Nat.le_of_ble_eq_true rfl⟩ ⟨Nat.le_refl _, Nat.le_refl _⟩ (Nat.le_of_ble_eq_true rfl) rfl dX0_hoursTillWashed_15 ?_
        refine x_icmp_ge F (tgt := 56) dX0_hoursTillWashed_18 (by decide) (fun c18 => ?_) (fun c18 => ?_)
        · rw [if_pos c18] at h
          refine x_iconst F (v := (-1)) dX0_hoursTillWashed_56 (by decide) ?_
          obtain rfl := Option.some.inj h
          obtain ⟨rfl, rfl⟩ := hR _ _ rfl
          exact x_iret F hr hl dX0_hoursTillWashed_57
        · rw [if_neg c18] at h
          refine x_aload_n F dX0_hoursTillWashed_21 rfl 0 rfl ?_
          obtain ⟨x22, c22, h⟩ := bdS h
          refine x_getR F (ci := 0) (C := RX0) (T := TX0) (N := 12) rfl ⟨by decide, rfl⟩ inU0 0 (by decide) (fun _ _ _ => rfl) wl_17 c22 dX0_hoursTillWashed_22 ?_
          refine x_aload_n F dX0_hoursTillWashed_25 rfl 0 rfl ?_
          obtain ⟨x26, c26, h⟩ := bdS h
          refine x_getI F (ci := 0) (C := RX0) (T := TX0) (N := 12) rfl ⟨by decide, rfl⟩ inU0 9 (by decide) (fun _ _ _ => rfl) wl_14 c26 dX0_hoursTillWashed_26 ?_
          refine x_iload_n F dX0_hoursTillWashed_29 rfl 2 rfl ?_
          refine x_iadd F dX0_hoursTillWashed_30 ?_
          obtain ⟨k31, h⟩ := gdS h
          obtain ⟨⟨x31, M31⟩, c31, h⟩ := bdS h
          dsimp only at h
          refine x_callV F (As := [.int (x26 + v2)]) (rest := []) (res := (some (.int x31))) (ci := 8) (q := (RX8, TX8, 17)) rfl (by decide) k31 (k_X8_tideOf l b D cy N x22 (x26 + v2) M15 _ _ c31) wl_72 wl_73 wl_74 wl_75 wl_36 hd_X8_tideOf ⟨Nat.le_of_ble_eq_true rfl, Nat.le_of_ble_eq_true rfl⟩ ⟨Nat.le_refl _, Nat.le_refl _⟩ (Nat.le_of_ble_eq_true rfl) rfl dX0_hoursTillWashed_31 ?_
          refine x_aload_n F dX0_hoursTillWashed_34 rfl 0 rfl ?_
          obtain ⟨x35, c35, h⟩ := bdS h
          refine x_getR F (ci := 0) (C := RX0) (T := TX0) (N := 12) rfl ⟨by decide, rfl⟩ inU0 0 (by decide) (fun _ _ _ => rfl) wl_17 c35 dX0_hoursTillWashed_35 ?_
          obtain ⟨x38, c38, h⟩ := bdS h
          refine x_getR F (ci := 8) (C := RX8) (T := TX8) (N := 17) rfl ⟨by decide, rfl⟩ inU8 2 (by decide) (fun _ _ _ => rfl) wl_48 c38 dX0_hoursTillWashed_38 ?_
          refine x_iload_n F dX0_hoursTillWashed_41 rfl 1 rfl ?_
          obtain ⟨x42, c42, h⟩ := bdS h
          refine x_aI F c42 dX0_hoursTillWashed_42 ?_
          refine x_icmp_lt F (tgt := 50) dX0_hoursTillWashed_43 (by decide) (fun c43 => ?_) (fun c43 => ?_)
          · rw [if_pos c43] at h
            refine x_iinc F (v := v2 + 1) (lv' := [(2, .int (v2 + 1)), (0, .ref (b + v0)), (1, .int v1)]) dX0_hoursTillWashed_50 2 rfl rfl (by decide) rfl ?_
            refine x_goto F (tgt := 2) dX0_hoursTillWashed_53 (by decide) ?_
            refine x_sub [1, 2, 0] rfl ?_
            exact ih (v2 + 1) M31 o h hR
          · rw [if_neg c43] at h
            refine x_iload_n F dX0_hoursTillWashed_46 rfl 2 rfl ?_
            refine x_iconst F (v := 1) dX0_hoursTillWashed_47 (by decide) ?_
            refine x_iadd F dX0_hoursTillWashed_48 ?_
            obtain rfl := Option.some.inj h
            obtain ⟨rfl, rfl⟩ := hR _ _ rfl
            exact x_iret F hr hl dX0_hoursTillWashed_49
  obtain ⟨o2, h2, h⟩ := bdS h
  refine x_sub [1, 2, 0] rfl ?_
  refine L2 v0 v1 N 0 M o2 h2 (fun r' M' e => ?_)
  · subst e
    try dsimp only at h
    obtain ⟨rfl, rfl⟩ := retS h; exact ⟨rfl, rfl⟩
theorem dJ6_bitCount_0f7a4_0 : decode cJ6_bitCount_0f7a4 0 = .ok (.iload_n 0, 1) := by decide +kernel
theorem dJ6_bitCount_0f7a4_1 : decode cJ6_bitCount_0f7a4 1 = .ok (.iload_n 0, 1) := by decide +kernel
theorem dJ6_bitCount_0f7a4_2 : decode cJ6_bitCount_0f7a4 2 = .ok (.iconst 1, 1) := by decide +kernel
theorem dJ6_bitCount_0f7a4_3 : decode cJ6_bitCount_0f7a4 3 = .ok (.iushr, 1) := by decide +kernel
theorem dJ6_bitCount_0f7a4_4 : decode cJ6_bitCount_0f7a4 4 = .ok (.ldc_w 265, 3) := by decide +kernel
theorem dJ6_bitCount_0f7a4_7 : decode cJ6_bitCount_0f7a4 7 = .ok (.iand, 1) := by decide +kernel
theorem dJ6_bitCount_0f7a4_8 : decode cJ6_bitCount_0f7a4 8 = .ok (.isub, 1) := by decide +kernel
theorem dJ6_bitCount_0f7a4_9 : decode cJ6_bitCount_0f7a4 9 = .ok (.istore_n 0, 1) := by decide +kernel
theorem dJ6_bitCount_0f7a4_10 : decode cJ6_bitCount_0f7a4 10 = .ok (.iload_n 0, 1) := by decide +kernel
theorem dJ6_bitCount_0f7a4_11 : decode cJ6_bitCount_0f7a4 11 = .ok (.ldc_w 266, 3) := by decide +kernel
theorem dJ6_bitCount_0f7a4_14 : decode cJ6_bitCount_0f7a4 14 = .ok (.iand, 1) := by decide +kernel
theorem dJ6_bitCount_0f7a4_15 : decode cJ6_bitCount_0f7a4 15 = .ok (.iload_n 0, 1) := by decide +kernel
theorem dJ6_bitCount_0f7a4_16 : decode cJ6_bitCount_0f7a4 16 = .ok (.iconst 2, 1) := by decide +kernel
theorem dJ6_bitCount_0f7a4_17 : decode cJ6_bitCount_0f7a4 17 = .ok (.iushr, 1) := by decide +kernel
theorem dJ6_bitCount_0f7a4_18 : decode cJ6_bitCount_0f7a4 18 = .ok (.ldc_w 266, 3) := by decide +kernel
theorem dJ6_bitCount_0f7a4_21 : decode cJ6_bitCount_0f7a4 21 = .ok (.iand, 1) := by decide +kernel
theorem dJ6_bitCount_0f7a4_22 : decode cJ6_bitCount_0f7a4 22 = .ok (.iadd, 1) := by decide +kernel
theorem dJ6_bitCount_0f7a4_23 : decode cJ6_bitCount_0f7a4 23 = .ok (.istore_n 0, 1) := by decide +kernel
theorem dJ6_bitCount_0f7a4_24 : decode cJ6_bitCount_0f7a4 24 = .ok (.iload_n 0, 1) := by decide +kernel
theorem dJ6_bitCount_0f7a4_25 : decode cJ6_bitCount_0f7a4 25 = .ok (.iload_n 0, 1) := by decide +kernel
theorem dJ6_bitCount_0f7a4_26 : decode cJ6_bitCount_0f7a4 26 = .ok (.iconst 4, 1) := by decide +kernel
theorem dJ6_bitCount_0f7a4_27 : decode cJ6_bitCount_0f7a4 27 = .ok (.iushr, 1) := by decide +kernel
theorem dJ6_bitCount_0f7a4_28 : decode cJ6_bitCount_0f7a4 28 = .ok (.iadd, 1) := by decide +kernel
theorem dJ6_bitCount_0f7a4_29 : decode cJ6_bitCount_0f7a4 29 = .ok (.ldc_w 267, 3) := by decide +kernel
theorem dJ6_bitCount_0f7a4_32 : decode cJ6_bitCount_0f7a4 32 = .ok (.iand, 1) := by decide +kernel
theorem dJ6_bitCount_0f7a4_33 : decode cJ6_bitCount_0f7a4 33 = .ok (.istore_n 0, 1) := by decide +kernel
theorem dJ6_bitCount_0f7a4_34 : decode cJ6_bitCount_0f7a4 34 = .ok (.iload_n 0, 1) := by decide +kernel
theorem dJ6_bitCount_0f7a4_35 : decode cJ6_bitCount_0f7a4 35 = .ok (.iload_n 0, 1) := by decide +kernel
theorem dJ6_bitCount_0f7a4_36 : decode cJ6_bitCount_0f7a4 36 = .ok (.bipush 8, 2) := by decide +kernel
theorem dJ6_bitCount_0f7a4_38 : decode cJ6_bitCount_0f7a4 38 = .ok (.iushr, 1) := by decide +kernel
theorem dJ6_bitCount_0f7a4_39 : decode cJ6_bitCount_0f7a4 39 = .ok (.iadd, 1) := by decide +kernel
theorem dJ6_bitCount_0f7a4_40 : decode cJ6_bitCount_0f7a4 40 = .ok (.istore_n 0, 1) := by decide +kernel
theorem dJ6_bitCount_0f7a4_41 : decode cJ6_bitCount_0f7a4 41 = .ok (.iload_n 0, 1) := by decide +kernel
theorem dJ6_bitCount_0f7a4_42 : decode cJ6_bitCount_0f7a4 42 = .ok (.iload_n 0, 1) := by decide +kernel
theorem dJ6_bitCount_0f7a4_43 : decode cJ6_bitCount_0f7a4 43 = .ok (.bipush 16, 2) := by decide +kernel
theorem dJ6_bitCount_0f7a4_45 : decode cJ6_bitCount_0f7a4 45 = .ok (.iushr, 1) := by decide +kernel
theorem dJ6_bitCount_0f7a4_46 : decode cJ6_bitCount_0f7a4 46 = .ok (.iadd, 1) := by decide +kernel
theorem dJ6_bitCount_0f7a4_47 : decode cJ6_bitCount_0f7a4 47 = .ok (.istore_n 0, 1) := by decide +kernel
theorem dJ6_bitCount_0f7a4_48 : decode cJ6_bitCount_0f7a4 48 = .ok (.iload_n 0, 1) := by decide +kernel
theorem dJ6_bitCount_0f7a4_49 : decode cJ6_bitCount_0f7a4 49 = .ok (.bipush 63, 2) := by decide +kernel
theorem dJ6_bitCount_0f7a4_51 : decode cJ6_bitCount_0f7a4 51 = .ok (.iand, 1) := by decide +kernel
theorem dJ6_bitCount_0f7a4_52 : decode cJ6_bitCount_0f7a4 52 = .ok (.ireturn, 1) := by decide +kernel
def fJ6_bitCount_0f7a4 (N : Nat) (v0 : Int32) (M : Mem) : Option (Int32 × Mem) := some ((((((((v0 - ((UInt32.toInt32 ((Int32.toUInt32 v0) >>> ((Int32.toUInt32 1) &&& Int32.toUInt32 31))) &&& ((1431655765)))) &&& ((858993459))) + ((UInt32.toInt32 ((Int32.toUInt32 (v0 - ((UInt32.toInt32 ((Int32.toUInt32 v0) >>> ((Int32.toUInt32 1) &&& Int32.toUInt32 31))) &&& ((1431655765))))) >>> ((Int32.toUInt32 2) &&& Int32.toUInt32 31))) &&& ((858993459)))) + (UInt32.toInt32 ((Int32.toUInt32 (((v0 - ((UInt32.toInt32 ((Int32.toUInt32 v0) >>> ((Int32.toUInt32 1) &&& Int32.toUInt32 31))) &&& ((1431655765)))) &&& ((858993459))) + ((UInt32.toInt32 ((Int32.toUInt32 (v0 - ((UInt32.toInt32 ((Int32.toUInt32 v0) >>> ((Int32.toUInt32 1) &&& Int32.toUInt32 31))) &&& ((1431655765))))) >>> ((Int32.toUInt32 2) &&& Int32.toUInt32 31))) &&& ((858993459))))) >>> ((Int32.toUInt32 4) &&& Int32.toUInt32 31)))) &&& ((252645135))) + (UInt32.toInt32 ((Int32.toUInt32 (((((v0 - ((UInt32.toInt32 ((Int32.toUInt32 v0) >>> ((Int32.toUInt32 1) &&& Int32.toUInt32 31))) &&& ((1431655765)))) &&& ((858993459))) + ((UInt32.toInt32 ((Int32.toUInt32 (v0 - ((UInt32.toInt32 ((Int32.toUInt32 v0) >>> ((Int32.toUInt32 1) &&& Int32.toUInt32 31))) &&& ((1431655765))))) >>> ((Int32.toUInt32 2) &&& Int32.toUInt32 31))) &&& ((858993459)))) + (UInt32.toInt32 ((Int32.toUInt32 (((v0 - ((UInt32.toInt32 ((Int32.toUInt32 v0) >>> ((Int32.toUInt32 1) &&& Int32.toUInt32 31))) &&& ((1431655765)))) &&& ((858993459))) + ((UInt32.toInt32 ((Int32.toUInt32 (v0 - ((UInt32.toInt32 ((Int32.toUInt32 v0) >>> ((Int32.toUInt32 1) &&& Int32.toUInt32 31))) &&& ((1431655765))))) >>> ((Int32.toUInt32 2) &&& Int32.toUInt32 31))) &&& ((858993459))))) >>> ((Int32.toUInt32 4) &&& Int32.toUInt32 31)))) &&& ((252645135)))) >>> ((Int32.toUInt32 8) &&& Int32.toUInt32 31)))) + (UInt32.toInt32 ((Int32.toUInt32 ((((((v0 - ((UInt32.toInt32 ((Int32.toUInt32 v0) >>> ((Int32.toUInt32 1) &&& Int32.toUInt32 31))) &&& ((1431655765)))) &&& ((858993459))) + ((UInt32.toInt32 ((Int32.toUInt32 (v0 - ((UInt32.toInt32 ((Int32.toUInt32 v0) >>> ((Int32.toUInt32 1) &&& Int32.toUInt32 31))) &&& ((1431655765))))) >>> ((Int32.toUInt32 2) &&& Int32.toUInt32 31))) &&& ((858993459)))) + (UInt32.toInt32 ((Int32.toUInt32 (((v0 - ((UInt32.toInt32 ((Int32.toUInt32 v0) >>> ((Int32.toUInt32 1) &&& Int32.toUInt32 31))) &&& ((1431655765)))) &&& ((858993459))) + ((UInt32.toInt32 ((Int32.toUInt32 (v0 - ((UInt32.toInt32 ((Int32.toUInt32 v0) >>> ((Int32.toUInt32 1) &&& Int32.toUInt32 31))) &&& ((1431655765))))) >>> ((Int32.toUInt32 2) &&& Int32.toUInt32 31))) &&& ((858993459))))) >>> ((Int32.toUInt32 4) &&& Int32.toUInt32 31)))) &&& ((252645135))) + (UInt32.toInt32 ((Int32.toUInt32 (((((v0 - ((UInt32.toInt32 ((Int32.toUInt32 v0) >>> ((Int32.toUInt32 1) &&& Int32.toUInt32 31))) &&& ((1431655765)))) &&& ((858993459))) + ((UInt32.toInt32 ((Int32.toUInt32 (v0 - ((UInt32.toInt32 ((Int32.toUInt32 v0) >>> ((Int32.toUInt32 1) &&& Int32.toUInt32 31))) &&& ((1431655765))))) >>> ((Int32.toUInt32 2) &&& Int32.toUInt32 31))) &&& ((858993459)))) + (UInt32.toInt32 ((Int32.toUInt32 (((v0 - ((UInt32.toInt32 ((Int32.toUInt32 v0) >>> ((Int32.toUInt32 1) &&& Int32.toUInt32 31))) &&& ((1431655765)))) &&& ((858993459))) + ((UInt32.toInt32 ((Int32.toUInt32 (v0 - ((UInt32.toInt32 ((Int32.toUInt32 v0) >>> ((Int32.toUInt32 1) &&& Int32.toUInt32 31))) &&& ((1431655765))))) >>> ((Int32.toUInt32 2) &&& Int32.toUInt32 31))) &&& ((858993459))))) >>> ((Int32.toUInt32 4) &&& Int32.toUInt32 31)))) &&& ((252645135)))) >>> ((Int32.toUInt32 8) &&& Int32.toUInt32 31))))) >>> ((Int32.toUInt32 16) &&& Int32.toUInt32 31)))) &&& 63, M)
set_option maxHeartbeats 4000000 in
set_option maxRecDepth 100000 in
theorem k_J6_bitCount_0f7a4 (l : Launch) (b : Nat) (D : va_G) (cy : Nat → ClassId) (N : Nat) (v0 : Int32) (M : Mem) (r : Int32) (Mf : Mem) (h : fJ6_bitCount_0f7a4 N v0 M = some (r, Mf)) : Ct l yJ6_bitCount_0f7a4 cJ6_bitCount_0f7a4 1 (some .int) 1 0 0 b D cy [.int v0] M (some (.int r)) Mf := by
  refine Ct_of (own := RJ6) (by decide) rfl (Nat.le_of_ble_eq_true rfl) ?_
  intro p e s m args below meth c F hr hl hmn
  unfold fJ6_bitCount_0f7a4 at h
  show X p l e ({ frames := 1, cells := 0, slots := 0, locals := 100 * 1 }) s m args below meth c (MQ below (Qm b D cy (some (.int r)) Mf) args s 0 0 (fun q => b ≤ q)) 1 b D cy 0 0 M 0 [(0, .int v0)] []
  refine x_iload_n F dJ6_bitCount_0f7a4_0 rfl 0 rfl ?_
  refine x_iload_n F dJ6_bitCount_0f7a4_1 rfl 0 rfl ?_
  refine x_iconst F (v := 1) dJ6_bitCount_0f7a4_2 (by decide) ?_
  refine x_iushr F dJ6_bitCount_0f7a4_3 ?_
  refine x_ldcw F (v := (1431655765)) dJ6_bitCount_0f7a4_4 wl_115 ?_
  refine x_iand F dJ6_bitCount_0f7a4_7 ?_
  refine x_isub F dJ6_bitCount_0f7a4_8 ?_
  refine x_istore_n F (lv' := [(0, .int (v0 - ((UInt32.toInt32 ((Int32.toUInt32 v0) >>> ((Int32.toUInt32 1) &&& Int32.toUInt32 31))) &&& ((1431655765)))))]) dJ6_bitCount_0f7a4_9 rfl (by decide) rfl ?_
  refine x_iload_n F dJ6_bitCount_0f7a4_10 rfl 0 rfl ?_
  refine x_ldcw F (v := (858993459)) dJ6_bitCount_0f7a4_11 wl_116 ?_
  refine x_iand F dJ6_bitCount_0f7a4_14 ?_
  refine x_iload_n F dJ6_bitCount_0f7a4_15 rfl 0 rfl ?_
  refine x_iconst F (v := 2) dJ6_bitCount_0f7a4_16 (by decide) ?_
  refine x_iushr F dJ6_bitCount_0f7a4_17 ?_
  refine x_ldcw F (v := (858993459)) dJ6_bitCount_0f7a4_18 wl_116 ?_
  refine x_iand F dJ6_bitCount_0f7a4_21 ?_
  refine x_iadd F dJ6_bitCount_0f7a4_22 ?_
  refine x_istore_n F (lv' := [(0, .int (((v0 - ((UInt32.toInt32 ((Int32.toUInt32 v0) >>> ((Int32.toUInt32 1) &&& Int32.toUInt32 31))) &&& ((1431655765)))) &&& ((858993459))) + ((UInt32.toInt32 ((Int32.toUInt32 (v0 - ((UInt32.toInt32 ((Int32.toUInt32 v0) >>> ((Int32.toUInt32 1) &&& Int32.toUInt32 31))) &&& ((1431655765))))) >>> ((Int32.toUInt32 2) &&& Int32.toUInt32 31))) &&& ((858993459)))))]) dJ6_bitCount_0f7a4_23 rfl (by decide) rfl ?_
  refine x_iload_n F dJ6_bitCount_0f7a4_24 rfl 0 rfl ?_
  refine x_iload_n F dJ6_bitCount_0f7a4_25 rfl 0 rfl ?_
  refine x_iconst F (v := 4) dJ6_bitCount_0f7a4_26 (by decide) ?_
  refine x_iushr F dJ6_bitCount_0f7a4_27 ?_
  refine x_iadd F dJ6_bitCount_0f7a4_28 ?_
  refine x_ldcw F (v := (252645135)) dJ6_bitCount_0f7a4_29 wl_117 ?_
  refine x_iand F dJ6_bitCount_0f7a4_32 ?_
  refine x_istore_n F (lv' := [(0, .int (((((v0 - ((UInt32.toInt32 ((Int32.toUInt32 v0) >>> ((Int32.toUInt32 1) &&& Int32.toUInt32 31))) &&& ((1431655765)))) &&& ((858993459))) + ((UInt32.toInt32 ((Int32.toUInt32 (v0 - ((UInt32.toInt32 ((Int32.toUInt32 v0) >>> ((Int32.toUInt32 1) &&& Int32.toUInt32 31))) &&& ((1431655765))))) >>> ((Int32.toUInt32 2) &&& Int32.toUInt32 31))) &&& ((858993459)))) + (UInt32.toInt32 ((Int32.toUInt32 (((v0 - ((UInt32.toInt32 ((Int32.toUInt32 v0) >>> ((Int32.toUInt32 1) &&& Int32.toUInt32 31))) &&& ((1431655765)))) &&& ((858993459))) + ((UInt32.toInt32 ((Int32.toUInt32 (v0 - ((UInt32.toInt32 ((Int32.toUInt32 v0) >>> ((Int32.toUInt32 1) &&& Int32.toUInt32 31))) &&& ((1431655765))))) >>> ((Int32.toUInt32 2) &&& Int32.toUInt32 31))) &&& ((858993459))))) >>> ((Int32.toUInt32 4) &&& Int32.toUInt32 31)))) &&& ((252645135))))]) dJ6_bitCount_0f7a4_33 rfl (by decide) rfl ?_
  refine x_iload_n F dJ6_bitCount_0f7a4_34 rfl 0 rfl ?_
  refine x_iload_n F dJ6_bitCount_0f7a4_35 rfl 0 rfl ?_
  refine x_bipush F (v := 8) dJ6_bitCount_0f7a4_36 (by decide) ?_
  refine x_iushr F dJ6_bitCount_0f7a4_38 ?_
  refine x_iadd F dJ6_bitCount_0f7a4_39 ?_
  refine x_istore_n F (lv' := [(0, .int ((((((v0 - ((UInt32.toInt32 ((Int32.toUInt32 v0) >>> ((Int32.toUInt32 1) &&& Int32.toUInt32 31))) &&& ((1431655765)))) &&& ((858993459))) + ((UInt32.toInt32 ((Int32.toUInt32 (v0 - ((UInt32.toInt32 ((Int32.toUInt32 v0) >>> ((Int32.toUInt32 1) &&& Int32.toUInt32 31))) &&& ((1431655765))))) >>> ((Int32.toUInt32 2) &&& Int32.toUInt32 31))) &&& ((858993459)))) + (UInt32.toInt32 ((Int32.toUInt32 (((v0 - ((UInt32.toInt32 ((Int32.toUInt32 v0) >>> ((Int32.toUInt32 1) &&& Int32.toUInt32 31))) &&& ((1431655765)))) &&& ((858993459))) + ((UInt32.toInt32 ((Int32.toUInt32 (v0 - ((UInt32.toInt32 ((Int32.toUInt32 v0) >>> ((Int32.toUInt32 1) &&& Int32.toUInt32 31))) &&& ((1431655765))))) >>> ((Int32.toUInt32 2) &&& Int32.toUInt32 31))) &&& ((858993459))))) >>> ((Int32.toUInt32 4) &&& Int32.toUInt32 31)))) &&& ((252645135))) + (UInt32.toInt32 ((Int32.toUInt32 (((((v0 - ((UInt32.toInt32 ((Int32.toUInt32 v0) >>> ((Int32.toUInt32 1) &&& Int32.toUInt32 31))) &&& ((1431655765)))) &&& ((858993459))) + ((UInt32.toInt32 ((Int32.toUInt32 (v0 - ((UInt32.toInt32 ((Int32.toUInt32 v0) >>> ((Int32.toUInt32 1) &&& Int32.toUInt32 31))) &&& ((1431655765))))) >>> ((Int32.toUInt32 2) &&& Int32.toUInt32 31))) &&& ((858993459)))) + (UInt32.toInt32 ((Int32.toUInt32 (((v0 - ((UInt32.toInt32 ((Int32.toUInt32 v0) >>> ((Int32.toUInt32 1) &&& Int32.toUInt32 31))) &&& ((1431655765)))) &&& ((858993459))) + ((UInt32.toInt32 ((Int32.toUInt32 (v0 - ((UInt32.toInt32 ((Int32.toUInt32 v0) >>> ((Int32.toUInt32 1) &&& Int32.toUInt32 31))) &&& ((1431655765))))) >>> ((Int32.toUInt32 2) &&& Int32.toUInt32 31))) &&& ((858993459))))) >>> ((Int32.toUInt32 4) &&& Int32.toUInt32 31)))) &&& ((252645135)))) >>> ((Int32.toUInt32 8) &&& Int32.toUInt32 31)))))]) dJ6_bitCount_0f7a4_40 rfl (by decide) rfl ?_
  refine x_iload_n F dJ6_bitCount_0f7a4_41 rfl 0 rfl ?_
  refine x_iload_n F dJ6_bitCount_0f7a4_42 rfl 0 rfl ?_
  refine x_bipush F (v := 16) dJ6_bitCount_0f7a4_43 (by decide) ?_
  refine x_iushr F dJ6_bitCount_0f7a4_45 ?_
  refine x_iadd F dJ6_bitCount_0f7a4_46 ?_
  refine x_istore_n F (lv' := [(0, .int (((((((v0 - ((UInt32.toInt32 ((Int32.toUInt32 v0) >>> ((Int32.toUInt32 1) &&& Int32.toUInt32 31))) &&& ((1431655765)))) &&& ((858993459))) + ((UInt32.toInt32 ((Int32.toUInt32 (v0 - ((UInt32.toInt32 ((Int32.toUInt32 v0) >>> ((Int32.toUInt32 1) &&& Int32.toUInt32 31))) &&& ((1431655765))))) >>> ((Int32.toUInt32 2) &&& Int32.toUInt32 31))) &&& ((858993459)))) + (UInt32.toInt32 ((Int32.toUInt32 (((v0 - ((UInt32.toInt32 ((Int32.toUInt32 v0) >>> ((Int32.toUInt32 1) &&& Int32.toUInt32 31))) &&& ((1431655765)))) &&& ((858993459))) + ((UInt32.toInt32 ((Int32.toUInt32 (v0 - ((UInt32.toInt32 ((Int32.toUInt32 v0) >>> ((Int32.toUInt32 1) &&& Int32.toUInt32 31))) &&& ((1431655765))))) >>> ((Int32.toUInt32 2) &&& Int32.toUInt32 31))) &&& ((858993459))))) >>> ((Int32.toUInt32 4) &&& Int32.toUInt32 31)))) &&& ((252645135))) + (UInt32.toInt32 ((Int32.toUInt32 (((((v0 - ((UInt32.toInt32 ((Int32.toUInt32 v0) >>> ((Int32.toUInt32 1) &&& Int32.toUInt32 31))) &&& ((1431655765)))) &&& ((858993459))) + ((UInt32.toInt32 ((Int32.toUInt32 (v0 - ((UInt32.toInt32 ((Int32.toUInt32 v0) >>> ((Int32.toUInt32 1) &&& Int32.toUInt32 31))) &&& ((1431655765))))) >>> ((Int32.toUInt32 2) &&& Int32.toUInt32 31))) &&& ((858993459)))) + (UInt32.toInt32 ((Int32.toUInt32 (((v0 - ((UInt32.toInt32 ((Int32.toUInt32 v0) >>> ((Int32.toUInt32 1) &&& Int32.toUInt32 31))) &&& ((1431655765)))) &&& ((858993459))) + ((UInt32.toInt32 ((Int32.toUInt32 (v0 - ((UInt32.toInt32 ((Int32.toUInt32 v0) >>> ((Int32.toUInt32 1) &&& Int32.toUInt32 31))) &&& ((1431655765))))) >>> ((Int32.toUInt32 2) &&& Int32.toUInt32 31))) &&& ((858993459))))) >>> ((Int32.toUInt32 4) &&& Int32.toUInt32 31)))) &&& ((252645135)))) >>> ((Int32.toUInt32 8) &&& Int32.toUInt32 31)))) + (UInt32.toInt32 ((Int32.toUInt32 ((((((v0 - ((UInt32.toInt32 ((Int32.toUInt32 v0) >>> ((Int32.toUInt32 1) &&& Int32.toUInt32 31))) &&& ((1431655765)))) &&& ((858993459))) + ((UInt32.toInt32 ((Int32.toUInt32 (v0 - ((UInt32.toInt32 ((Int32.toUInt32 v0) >>> ((Int32.toUInt32 1) &&& Int32.toUInt32 31))) &&& ((1431655765))))) >>> ((Int32.toUInt32 2) &&& Int32.toUInt32 31))) &&& ((858993459)))) + (UInt32.toInt32 ((Int32.toUInt32 (((v0 - ((UInt32.toInt32 ((Int32.toUInt32 v0) >>> ((Int32.toUInt32 1) &&& Int32.toUInt32 31))) &&& ((1431655765)))) &&& ((858993459))) + ((UInt32.toInt32 ((Int32.toUInt32 (v0 - ((UInt32.toInt32 ((Int32.toUInt32 v0) >>> ((Int32.toUInt32 1) &&& Int32.toUInt32 31))) &&& ((1431655765))))) >>> ((Int32.toUInt32 2) &&& Int32.toUInt32 31))) &&& ((858993459))))) >>> ((Int32.toUInt32 4) &&& Int32.toUInt32 31)))) &&& ((252645135))) + (UInt32.toInt32 ((Int32.toUInt32 (((((v0 - ((UInt32.toInt32 ((Int32.toUInt32 v0) >>> ((Int32.toUInt32 1) &&& Int32.toUInt32 31))) &&& ((1431655765)))) &&& ((858993459))) + ((UInt32.toInt32 ((Int32.toUInt32 (v0 - ((UInt32.toInt32 ((Int32.toUInt32 v0) >>> ((Int32.toUInt32 1) &&& Int32.toUInt32 31))) &&& ((1431655765))))) >>> ((Int32.toUInt32 2) &&& Int32.toUInt32 31))) &&& ((858993459)))) + (UInt32.toInt32 ((Int32.toUInt32 (((v0 - ((UInt32.toInt32 ((Int32.toUInt32 v0) >>> ((Int32.toUInt32 1) &&& Int32.toUInt32 31))) &&& ((1431655765)))) &&& ((858993459))) + ((UInt32.toInt32 ((Int32.toUInt32 (v0 - ((UInt32.toInt32 ((Int32.toUInt32 v0) >>> ((Int32.toUInt32 1) &&& Int32.toUInt32 31))) &&& ((1431655765))))) >>> ((Int32.toUInt32 2) &&& Int32.toUInt32 31))) &&& ((858993459))))) >>> ((Int32.toUInt32 4) &&& Int32.toUInt32 31)))) &&& ((252645135)))) >>> ((Int32.toUInt32 8) &&& Int32.toUInt32 31))))) >>> ((Int32.toUInt32 16) &&& Int32.toUInt32 31)))))]) dJ6_bitCount_0f7a4_47 rfl (by decide) rfl ?_
  refine x_iload_n F dJ6_bitCount_0f7a4_48 rfl 0 rfl ?_
  refine x_bipush F (v := 63) dJ6_bitCount_0f7a4_49 (by decide) ?_
  refine x_iand F dJ6_bitCount_0f7a4_51 ?_
  obtain ⟨rfl, rfl⟩ := retS h
  exact x_iret F hr hl dJ6_bitCount_0f7a4_52
theorem dX8_lawSign_0 : decode cX8_lawSign 0 = .ok (.aload_n 0, 1) := by decide +kernel
theorem dX8_lawSign_1 : decode cX8_lawSign 1 = .ok (.getfield 53, 3) := by decide +kernel
theorem dX8_lawSign_4 : decode cX8_lawSign 4 = .ok (.iload_n 1, 1) := by decide +kernel
theorem dX8_lawSign_5 : decode cX8_lawSign 5 = .ok (.iconst 3, 1) := by decide +kernel
theorem dX8_lawSign_6 : decode cX8_lawSign 6 = .ok (.imul, 1) := by decide +kernel
theorem dX8_lawSign_7 : decode cX8_lawSign 7 = .ok (.iload_n 2, 1) := by decide +kernel
theorem dX8_lawSign_8 : decode cX8_lawSign 8 = .ok (.iadd, 1) := by decide +kernel
theorem dX8_lawSign_9 : decode cX8_lawSign 9 = .ok (.iaload, 1) := by decide +kernel
theorem dX8_lawSign_10 : decode cX8_lawSign 10 = .ok (.ireturn, 1) := by decide +kernel
def fX8_lawSign (N : Nat) (v0 : Nat) (v1 : Int32) (v2 : Int32) (M : Mem) : Option (Int32 × Mem) := ((fR M 8 v0 13).bind fun x1 => ((aI M x1 ((v1 * 3) + v2)).bind fun x9 => some (x9, M)))
set_option maxHeartbeats 4000000 in
set_option maxRecDepth 100000 in
theorem k_X8_lawSign (l : Launch) (b : Nat) (D : va_G) (cy : Nat → ClassId) (N : Nat) (v0 : Nat) (v1 : Int32) (v2 : Int32) (M : Mem) (r : Int32) (Mf : Mem) (h : fX8_lawSign N v0 v1 v2 M = some (r, Mf)) : Ct l yX8_lawSign cX8_lawSign 3 (some .int) 1 0 0 b D cy [.ref (b + v0), .int v1, .int v2] M (some (.int r)) Mf := by
  refine Ct_of (own := RX8) (by decide) rfl (Nat.le_of_ble_eq_true rfl) ?_
  intro p e s m args below meth c F hr hl hmn
  unfold fX8_lawSign at h
  show X p l e ({ frames := 1, cells := 0, slots := 0, locals := 100 * 1 }) s m args below meth c (MQ below (Qm b D cy (some (.int r)) Mf) args s 0 0 (fun q => b ≤ q)) 3 b D cy 0 0 M 0 [(0, .ref (b + v0)), (1, .int v1), (2, .int v2)] []
  refine x_aload_n F dX8_lawSign_0 rfl 0 rfl ?_
  obtain ⟨x1, c1, h⟩ := bdS h
  refine x_getR F (ci := 8) (C := RX8) (T := TX8) (N := 17) rfl ⟨by decide, rfl⟩ inU8 13 (by decide) (fun _ _ _ => rfl) wl_99 c1 dX8_lawSign_1 ?_
  refine x_iload_n F dX8_lawSign_4 rfl 1 rfl ?_
  refine x_iconst F (v := 3) dX8_lawSign_5 (by decide) ?_
  refine x_imul F dX8_lawSign_6 ?_
  refine x_iload_n F dX8_lawSign_7 rfl 2 rfl ?_
  refine x_iadd F dX8_lawSign_8 ?_
  obtain ⟨x9, c9, h⟩ := bdS h
  refine x_aI F c9 dX8_lawSign_9 ?_
  obtain ⟨rfl, rfl⟩ := retS h
  exact x_iret F hr hl dX8_lawSign_10
theorem hd_X8_lawSign : (yX8_lawSign).cls = RX8 ∧ (yX8_lawSign).cls ≠ "java/lang/invoke/MethodHandle" ∧ (yX8_lawSign).cls ≠ "java/lang/invoke/VarHandle" ∧ (parseMethodDescriptor (yX8_lawSign).desc).map (fun d => d.parameters.length) = some 2 := by decide +kernel
theorem dX8_nothingAgainst_0 : decode cX8_nothingAgainst 0 = .ok (.iconst 0, 1) := by decide +kernel
theorem dX8_nothingAgainst_1 : decode cX8_nothingAgainst 1 = .ok (.istore 4, 2) := by decide +kernel
theorem dX8_nothingAgainst_3 : decode cX8_nothingAgainst 3 = .ok (.iload 4, 2) := by decide +kernel
theorem dX8_nothingAgainst_5 : decode cX8_nothingAgainst 5 = .ok (.aload_n 0, 1) := by decide +kernel
theorem dX8_nothingAgainst_6 : decode cX8_nothingAgainst 6 = .ok (.getfield 50, 3) := by decide +kernel
theorem dX8_nothingAgainst_9 : decode cX8_nothingAgainst 9 = .ok (.iload_n 3, 1) := by decide +kernel
theorem dX8_nothingAgainst_10 : decode cX8_nothingAgainst 10 = .ok (.iaload, 1) := by decide +kernel
theorem dX8_nothingAgainst_11 : decode cX8_nothingAgainst 11 = .ok (.if_icmp .ge 37, 3) := by decide +kernel
theorem dX8_nothingAgainst_14 : decode cX8_nothingAgainst 14 = .ok (.aload_n 1, 1) := by decide +kernel
theorem dX8_nothingAgainst_15 : decode cX8_nothingAgainst 15 = .ok (.iload_n 2, 1) := by decide +kernel
theorem dX8_nothingAgainst_16 : decode cX8_nothingAgainst 16 = .ok (.iload 4, 2) := by decide +kernel
theorem dX8_nothingAgainst_18 : decode cX8_nothingAgainst 18 = .ok (.iadd, 1) := by decide +kernel
theorem dX8_nothingAgainst_19 : decode cX8_nothingAgainst 19 = .ok (.iaload, 1) := by decide +kernel
theorem dX8_nothingAgainst_20 : decode cX8_nothingAgainst 20 = .ok (.istore 5, 2) := by decide +kernel
theorem dX8_nothingAgainst_22 : decode cX8_nothingAgainst 22 = .ok (.iload 5, 2) := by decide +kernel
theorem dX8_nothingAgainst_24 : decode cX8_nothingAgainst 24 = .ok (.iconst (-1), 1) := by decide +kernel
theorem dX8_nothingAgainst_25 : decode cX8_nothingAgainst 25 = .ok (.if_icmp .eq 17, 3) := by decide +kernel
theorem dX8_nothingAgainst_28 : decode cX8_nothingAgainst 28 = .ok (.iload 5, 2) := by decide +kernel
theorem dX8_nothingAgainst_30 : decode cX8_nothingAgainst 30 = .ok (.aload_n 0, 1) := by decide +kernel
theorem dX8_nothingAgainst_31 : decode cX8_nothingAgainst 31 = .ok (.iload_n 3, 1) := by decide +kernel
theorem dX8_nothingAgainst_32 : decode cX8_nothingAgainst 32 = .ok (.iload 4, 2) := by decide +kernel
theorem dX8_nothingAgainst_34 : decode cX8_nothingAgainst 34 = .ok (.invokevirtual 158, 3) := by decide +kernel
theorem dX8_nothingAgainst_37 : decode cX8_nothingAgainst 37 = .ok (.if_icmp .eq 5, 3) := by decide +kernel
theorem dX8_nothingAgainst_40 : decode cX8_nothingAgainst 40 = .ok (.iconst 0, 1) := by decide +kernel
theorem dX8_nothingAgainst_41 : decode cX8_nothingAgainst 41 = .ok (.ireturn, 1) := by decide +kernel
theorem dX8_nothingAgainst_42 : decode cX8_nothingAgainst 42 = .ok (.iinc 4 1, 3) := by decide +kernel
theorem dX8_nothingAgainst_45 : decode cX8_nothingAgainst 45 = .ok (.goto (-42), 3) := by decide +kernel
theorem dX8_nothingAgainst_48 : decode cX8_nothingAgainst 48 = .ok (.iconst 1, 1) := by decide +kernel
theorem dX8_nothingAgainst_49 : decode cX8_nothingAgainst 49 = .ok (.ireturn, 1) := by decide +kernel
def fX8_nothingAgainst_L3 (N : Nat) (v0 : Nat) (v1 : Nat) (v2 : Int32) (v3 : Int32) : Nat → Int32 → Mem → Option (Int32 × Mem)
  | 0, _, _ => none
  | n + 1, v4, M => ((fR M 8 v0 12).bind fun x6 => ((aI M x6 v3).bind fun x10 => (if x10 ≤ v4 then some (1, M) else ((aI M v1 (v2 + v4)).bind fun x19 => (if x19 = ((-1)) then fX8_nothingAgainst_L3 N v0 v1 v2 v3 n (v4 + 1) M else (if mK M v0 = 9 then ((fX8_lawSign N v0 v3 v4 M).bind fun (x34, M34) => (if x19 = x34 then fX8_nothingAgainst_L3 N v0 v1 v2 v3 n (v4 + 1) M34 else some (0, M34))) else none))))))
def fX8_nothingAgainst (N : Nat) (v0 : Nat) (v1 : Nat) (v2 : Int32) (v3 : Int32) (M : Mem) : Option (Int32 × Mem) := ((fX8_nothingAgainst_L3 N v0 v1 v2 v3 N 0 M).bind fun o3 => some o3)
set_option maxHeartbeats 4000000 in
set_option maxRecDepth 100000 in
theorem k_X8_nothingAgainst (l : Launch) (b : Nat) (D : va_G) (cy : Nat → ClassId) (N : Nat) (v0 : Nat) (v1 : Nat) (v2 : Int32) (v3 : Int32) (M : Mem) (r : Int32) (Mf : Mem) (h : fX8_nothingAgainst N v0 v1 v2 v3 M = some (r, Mf)) : Ct l yX8_nothingAgainst cX8_nothingAgainst 6 (some .boolean) 2 0 0 b D cy [.ref (b + v0), .ref (b + v1), .int v2, .int v3] M (some (.int r)) Mf := by
  refine Ct_of (own := RX8) (by decide) rfl (Nat.le_of_ble_eq_true rfl) ?_
  intro p e s m args below meth c F hr hl hmn
  unfold fX8_nothingAgainst at h
  show X p l e ({ frames := 2, cells := 0, slots := 0, locals := 100 * 2 }) s m args below meth c (MQ below (Qm b D cy (some (.int r)) Mf) args s 0 0 (fun q => b ≤ q)) 6 b D cy 0 0 M 0 [(0, .ref (b + v0)), (1, .ref (b + v1)), (2, .int v2), (3, .int v3)] []
  refine x_iconst F (v := 0) dX8_nothingAgainst_0 (by decide) ?_
  refine x_istore F (lv' := [(4, .int 0), (0, .ref (b + v0)), (1, .ref (b + v1)), (2, .int v2), (3, .int v3)]) dX8_nothingAgainst_1 (by decide) rfl ?_
  have L3 : ∀ (v0 : Nat) (v1 : Nat) (v2 : Int32) (v3 : Int32) (n : Nat) (v4 : Int32) (M : Mem) (o : Int32 × Mem), fX8_nothingAgainst_L3 N v0 v1 v2 v3 n v4 M = some o → (∀ (r' : Int32) (M' : Mem), o = (r', M') → r' = r ∧ M' = Mf) → X p l e ({ frames := 2, cells := 0, slots := 0, locals := 100 * 2 }) s m args below meth c (MQ below (Qm b D cy (some (.int r)) Mf) args s 0 0 (fun q => b ≤ q)) 6 b D cy 0 0 M 3 [(0, .ref (b + v0)), (1, .ref (b + v1)), (2, .int v2), (3, .int v3), (4, .int v4)] [] := by
    intro v0 v1 v2 v3 n
    induction n with
    | zero => intro v4 M o h; exact absurd h (by rw [fX8_nothingAgainst_L3]; exact fun z => by cases z)
    | succ n ih =>
      intro v4 M o h hR
      rw [fX8_nothingAgainst_L3] at h
      refine x_iload F dX8_nothingAgainst_3 4 rfl ?_
      refine x_aload_n F dX8_nothingAgainst_5 rfl 0 rfl ?_
      obtain ⟨x6, c6, h⟩ := bdS h
      refine x_getR F (ci := 8) (C := RX8) (T := TX8) (N := 17) rfl ⟨by decide, rfl⟩ inU8 12 (by decide) (fun _ _ _ => rfl) wl_101 c6 dX8_nothingAgainst_6 ?_
      refine x_iload_n F dX8_nothingAgainst_9 rfl 3 rfl ?_
      obtain ⟨x10, c10, h⟩ := bdS h
      refine x_aI F c10 dX8_nothingAgainst_10 ?_
      refine x_icmp_ge F (tgt := 48) dX8_nothingAgainst_11 (by decide) (fun c11 => ?_) (fun c11 => ?_)
      · rw [if_pos c11] at h
        refine x_iconst F (v := 1) dX8_nothingAgainst_48 (by decide) ?_
        obtain rfl := Option.some.inj h
        obtain ⟨rfl, rfl⟩ := hR _ _ rfl
        exact x_zret F hr hl (by decide) dX8_nothingAgainst_49
      · rw [if_neg c11] at h
        refine x_aload_n F dX8_nothingAgainst_14 rfl 1 rfl ?_
        refine x_iload_n F dX8_nothingAgainst_15 rfl 2 rfl ?_
        refine x_iload F dX8_nothingAgainst_16 4 rfl ?_
        refine x_iadd F dX8_nothingAgainst_18 ?_
        obtain ⟨x19, c19, h⟩ := bdS h
        refine x_aI F c19 dX8_nothingAgainst_19 ?_
        refine x_istore F (lv' := [(5, .int x19), (0, .ref (b + v0)), (1, .ref (b + v1)), (2, .int v2), (3, .int v3), (4, .int v4)]) dX8_nothingAgainst_20 (by decide) rfl ?_
        refine x_iload F dX8_nothingAgainst_22 0 rfl ?_
        refine x_iconst F (v := (-1)) dX8_nothingAgainst_24 (by decide) ?_
        refine x_icmp_eq F (tgt := 42) dX8_nothingAgainst_25 (by decide) (fun c25 => ?_) (fun c25 => ?_)
        · rw [if_pos c25] at h
          refine x_iinc F (v := v4 + 1) (lv' := [(4, .int (v4 + 1)), (5, .int x19), (0, .ref (b + v0)), (1, .ref (b + v1)), (2, .int v2), (3, .int v3)]) dX8_nothingAgainst_42 5 rfl rfl (by decide) rfl ?_
          refine x_goto F (tgt := 3) dX8_nothingAgainst_45 (by decide) ?_
          refine x_sub [2, 3, 4, 5, 0] rfl ?_
          exact ih (v4 + 1) M o h hR
        · rw [if_neg c25] at h
          refine x_iload F dX8_nothingAgainst_28 0 rfl ?_
          refine x_aload_n F dX8_nothingAgainst_30 rfl 1 rfl ?_
          refine x_iload_n F dX8_nothingAgainst_31 rfl 4 rfl ?_
          refine x_iload F dX8_nothingAgainst_32 5 rfl ?_
          obtain ⟨k34, h⟩ := gdS h
          obtain ⟨⟨x34, M34⟩, c34, h⟩ := bdS h
          dsimp only at h
          refine x_callV F (As := [.int v3, .int v4]) (rest := [.int x19]) (res := (some (.int x34))) (ci := 8) (q := (RX8, TX8, 17)) rfl (by decide) k34 (k_X8_lawSign l b D cy N v0 v3 v4 M _ _ c34) wl_102 wl_103 wl_104 wl_75 wl_98 hd_X8_lawSign ⟨Nat.le_of_ble_eq_true rfl, Nat.le_of_ble_eq_true rfl⟩ ⟨Nat.le_refl _, Nat.le_refl _⟩ (Nat.le_of_ble_eq_true rfl) rfl dX8_nothingAgainst_34 ?_
          refine x_icmp_eq F (tgt := 42) dX8_nothingAgainst_37 (by decide) (fun c37 => ?_) (fun c37 => ?_)
          · rw [if_pos c37] at h
            refine x_iinc F (v := v4 + 1) (lv' := [(4, .int (v4 + 1)), (5, .int x19), (0, .ref (b + v0)), (1, .ref (b + v1)), (2, .int v2), (3, .int v3)]) dX8_nothingAgainst_42 5 rfl rfl (by decide) rfl ?_
            refine x_goto F (tgt := 3) dX8_nothingAgainst_45 (by decide) ?_
            refine x_sub [2, 3, 4, 5, 0] rfl ?_
            exact ih (v4 + 1) M34 o h hR
          · rw [if_neg c37] at h
            refine x_iconst F (v := 0) dX8_nothingAgainst_40 (by decide) ?_
            obtain rfl := Option.some.inj h
            obtain ⟨rfl, rfl⟩ := hR _ _ rfl
            exact x_zret F hr hl (by decide) dX8_nothingAgainst_41
  obtain ⟨o3, h3, h⟩ := bdS h
  refine x_sub [1, 2, 3, 4, 0] rfl ?_
  refine L3 v0 v1 v2 v3 N 0 M o3 h3 (fun r' M' e => ?_)
  · subst e
    try dsimp only at h
    obtain ⟨rfl, rfl⟩ := retS h; exact ⟨rfl, rfl⟩
theorem hd_X8_nothingAgainst : (yX8_nothingAgainst).cls = RX8 ∧ (yX8_nothingAgainst).cls ≠ "java/lang/invoke/MethodHandle" ∧ (yX8_nothingAgainst).cls ≠ "java/lang/invoke/VarHandle" ∧ (parseMethodDescriptor (yX8_nothingAgainst).desc).map (fun d => d.parameters.length) = some 3 := by decide +kernel
theorem dX8_canHaveHeld_0 : decode cX8_canHaveHeld 0 = .ok (.iload_n 2, 1) := by decide +kernel
theorem dX8_canHaveHeld_1 : decode cX8_canHaveHeld 1 = .ok (.istore 5, 2) := by decide +kernel
theorem dX8_canHaveHeld_3 : decode cX8_canHaveHeld 3 = .ok (.iload 5, 2) := by decide +kernel
theorem dX8_canHaveHeld_5 : decode cX8_canHaveHeld 5 = .ok (.aload_n 0, 1) := by decide +kernel
theorem dX8_canHaveHeld_6 : decode cX8_canHaveHeld 6 = .ok (.getfield 50, 3) := by decide +kernel
theorem dX8_canHaveHeld_9 : decode cX8_canHaveHeld 9 = .ok (.iload 4, 2) := by decide +kernel
theorem dX8_canHaveHeld_11 : decode cX8_canHaveHeld 11 = .ok (.iaload, 1) := by decide +kernel
theorem dX8_canHaveHeld_12 : decode cX8_canHaveHeld 12 = .ok (.iadd, 1) := by decide +kernel
theorem dX8_canHaveHeld_13 : decode cX8_canHaveHeld 13 = .ok (.iload_n 2, 1) := by decide +kernel
theorem dX8_canHaveHeld_14 : decode cX8_canHaveHeld 14 = .ok (.iload_n 3, 1) := by decide +kernel
theorem dX8_canHaveHeld_15 : decode cX8_canHaveHeld 15 = .ok (.iadd, 1) := by decide +kernel
theorem dX8_canHaveHeld_16 : decode cX8_canHaveHeld 16 = .ok (.if_icmp .gt 23, 3) := by decide +kernel
theorem dX8_canHaveHeld_19 : decode cX8_canHaveHeld 19 = .ok (.aload_n 0, 1) := by decide +kernel
theorem dX8_canHaveHeld_20 : decode cX8_canHaveHeld 20 = .ok (.aload_n 1, 1) := by decide +kernel
theorem dX8_canHaveHeld_21 : decode cX8_canHaveHeld 21 = .ok (.iload 5, 2) := by decide +kernel
theorem dX8_canHaveHeld_23 : decode cX8_canHaveHeld 23 = .ok (.iload 4, 2) := by decide +kernel
theorem dX8_canHaveHeld_25 : decode cX8_canHaveHeld 25 = .ok (.invokevirtual 165, 3) := by decide +kernel
theorem dX8_canHaveHeld_28 : decode cX8_canHaveHeld 28 = .ok (.ifCond .eq 5, 3) := by decide +kernel
theorem dX8_canHaveHeld_31 : decode cX8_canHaveHeld 31 = .ok (.iconst 1, 1) := by decide +kernel
theorem dX8_canHaveHeld_32 : decode cX8_canHaveHeld 32 = .ok (.ireturn, 1) := by decide +kernel
theorem dX8_canHaveHeld_33 : decode cX8_canHaveHeld 33 = .ok (.iinc 5 1, 3) := by decide +kernel
theorem dX8_canHaveHeld_36 : decode cX8_canHaveHeld 36 = .ok (.goto (-33), 3) := by decide +kernel
theorem dX8_canHaveHeld_39 : decode cX8_canHaveHeld 39 = .ok (.iconst 0, 1) := by decide +kernel
theorem dX8_canHaveHeld_40 : decode cX8_canHaveHeld 40 = .ok (.ireturn, 1) := by decide +kernel
def fX8_canHaveHeld_L3 (N : Nat) (v0 : Nat) (v1 : Nat) (v2 : Int32) (v3 : Int32) (v4 : Int32) : Nat → Int32 → Mem → Option (Int32 × Mem)
  | 0, _, _ => none
  | n + 1, v5, M => ((fR M 8 v0 12).bind fun x6 => ((aI M x6 v4).bind fun x11 => (if (v2 + v3) < (v5 + x11) then some (0, M) else (if mK M v0 = 9 then ((fX8_nothingAgainst N v0 v1 v5 v4 M).bind fun (x25, M25) => (if x25 = 0 then fX8_canHaveHeld_L3 N v0 v1 v2 v3 v4 n (v5 + 1) M25 else some (1, M25))) else none))))
def fX8_canHaveHeld (N : Nat) (v0 : Nat) (v1 : Nat) (v2 : Int32) (v3 : Int32) (v4 : Int32) (M : Mem) : Option (Int32 × Mem) := ((fX8_canHaveHeld_L3 N v0 v1 v2 v3 v4 N v2 M).bind fun o3 => some o3)
set_option maxHeartbeats 4000000 in
set_option maxRecDepth 100000 in
theorem k_X8_canHaveHeld (l : Launch) (b : Nat) (D : va_G) (cy : Nat → ClassId) (N : Nat) (v0 : Nat) (v1 : Nat) (v2 : Int32) (v3 : Int32) (v4 : Int32) (M : Mem) (r : Int32) (Mf : Mem) (h : fX8_canHaveHeld N v0 v1 v2 v3 v4 M = some (r, Mf)) : Ct l yX8_canHaveHeld cX8_canHaveHeld 6 (some .boolean) 3 0 0 b D cy [.ref (b + v0), .ref (b + v1), .int v2, .int v3, .int v4] M (some (.int r)) Mf := by
  refine Ct_of (own := RX8) (by decide) rfl (Nat.le_of_ble_eq_true rfl) ?_
  intro p e s m args below meth c F hr hl hmn
  unfold fX8_canHaveHeld at h
  show X p l e ({ frames := 3, cells := 0, slots := 0, locals := 100 * 3 }) s m args below meth c (MQ below (Qm b D cy (some (.int r)) Mf) args s 0 0 (fun q => b ≤ q)) 6 b D cy 0 0 M 0 [(0, .ref (b + v0)), (1, .ref (b + v1)), (2, .int v2), (3, .int v3), (4, .int v4)] []
  refine x_iload_n F dX8_canHaveHeld_0 rfl 2 rfl ?_
  refine x_istore F (lv' := [(5, .int v2), (0, .ref (b + v0)), (1, .ref (b + v1)), (2, .int v2), (3, .int v3), (4, .int v4)]) dX8_canHaveHeld_1 (by decide) rfl ?_
  have L3 : ∀ (v0 : Nat) (v1 : Nat) (v2 : Int32) (v3 : Int32) (v4 : Int32) (n : Nat) (v5 : Int32) (M : Mem) (o : Int32 × Mem), fX8_canHaveHeld_L3 N v0 v1 v2 v3 v4 n v5 M = some o → (∀ (r' : Int32) (M' : Mem), o = (r', M') → r' = r ∧ M' = Mf) → X p l e ({ frames := 3, cells := 0, slots := 0, locals := 100 * 3 }) s m args below meth c (MQ below (Qm b D cy (some (.int r)) Mf) args s 0 0 (fun q => b ≤ q)) 6 b D cy 0 0 M 3 [(0, .ref (b + v0)), (1, .ref (b + v1)), (2, .int v2), (3, .int v3), (4, .int v4), (5, .int v5)] [] := by
    intro v0 v1 v2 v3 v4 n
    induction n with
    | zero => intro v5 M o h; exact absurd h (by rw [fX8_canHaveHeld_L3]; exact fun z => by cases z)
    | succ n ih =>
      intro v5 M o h hR
      rw [fX8_canHaveHeld_L3] at h
      refine x_iload F dX8_canHaveHeld_3 5 rfl ?_
      refine x_aload_n F dX8_canHaveHeld_5 rfl 0 rfl ?_
      obtain ⟨x6, c6, h⟩ := bdS h
      refine x_getR F (ci := 8) (C := RX8) (T := TX8) (N := 17) rfl ⟨by decide, rfl⟩ inU8 12 (by decide) (fun _ _ _ => rfl) wl_101 c6 dX8_canHaveHeld_6 ?_
      refine x_iload F dX8_canHaveHeld_9 4 rfl ?_
      obtain ⟨x11, c11, h⟩ := bdS h
      refine x_aI F c11 dX8_canHaveHeld_11 ?_
      refine x_iadd F dX8_canHaveHeld_12 ?_
      refine x_iload_n F dX8_canHaveHeld_13 rfl 2 rfl ?_
      refine x_iload_n F dX8_canHaveHeld_14 rfl 3 rfl ?_
      refine x_iadd F dX8_canHaveHeld_15 ?_
      refine x_icmp_gt F (tgt := 39) dX8_canHaveHeld_16 (by decide) (fun c16 => ?_) (fun c16 => ?_)
      · rw [if_pos c16] at h
        refine x_iconst F (v := 0) dX8_canHaveHeld_39 (by decide) ?_
        obtain rfl := Option.some.inj h
        obtain ⟨rfl, rfl⟩ := hR _ _ rfl
        exact x_zret F hr hl (by decide) dX8_canHaveHeld_40
      · rw [if_neg c16] at h
        refine x_aload_n F dX8_canHaveHeld_19 rfl 0 rfl ?_
        refine x_aload_n F dX8_canHaveHeld_20 rfl 1 rfl ?_
        refine x_iload F dX8_canHaveHeld_21 5 rfl ?_
        refine x_iload F dX8_canHaveHeld_23 4 rfl ?_
        obtain ⟨k25, h⟩ := gdS h
        obtain ⟨⟨x25, M25⟩, c25, h⟩ := bdS h
        dsimp only at h
        refine x_callV F (As := [.ref (b + v1), .int v5, .int v4]) (rest := []) (res := (some (.int x25))) (ci := 8) (q := (RX8, TX8, 17)) rfl (by decide) k25 (k_X8_nothingAgainst l b D cy N v0 v1 v5 v4 M _ _ c25) wl_106 wl_107 wl_108 wl_75 wl_100 hd_X8_nothingAgainst ⟨Nat.le_of_ble_eq_true rfl, Nat.le_of_ble_eq_true rfl⟩ ⟨Nat.le_refl _, Nat.le_refl _⟩ (Nat.le_of_ble_eq_true rfl) rfl dX8_canHaveHeld_25 ?_
        refine x_if_eq F (tgt := 33) dX8_canHaveHeld_28 (by decide) (fun c28 => ?_) (fun c28 => ?_)
        · rw [if_pos c28] at h
          refine x_iinc F (v := v5 + 1) (lv' := [(5, .int (v5 + 1)), (0, .ref (b + v0)), (1, .ref (b + v1)), (2, .int v2), (3, .int v3), (4, .int v4)]) dX8_canHaveHeld_33 5 rfl rfl (by decide) rfl ?_
          refine x_goto F (tgt := 3) dX8_canHaveHeld_36 (by decide) ?_
          refine x_sub [1, 2, 3, 4, 5, 0] rfl ?_
          exact ih (v5 + 1) M25 o h hR
        · rw [if_neg c28] at h
          refine x_iconst F (v := 1) dX8_canHaveHeld_31 (by decide) ?_
          obtain rfl := Option.some.inj h
          obtain ⟨rfl, rfl⟩ := hR _ _ rfl
          exact x_zret F hr hl (by decide) dX8_canHaveHeld_32
  obtain ⟨o3, h3, h⟩ := bdS h
  refine x_sub [1, 2, 3, 4, 5, 0] rfl ?_
  refine L3 v0 v1 v2 v3 v4 N v2 M o3 h3 (fun r' M' e => ?_)
  · subst e
    try dsimp only at h
    obtain ⟨rfl, rfl⟩ := retS h; exact ⟨rfl, rfl⟩
theorem hd_X8_canHaveHeld : (yX8_canHaveHeld).cls = RX8 ∧ (yX8_canHaveHeld).cls ≠ "java/lang/invoke/MethodHandle" ∧ (yX8_canHaveHeld).cls ≠ "java/lang/invoke/VarHandle" ∧ (parseMethodDescriptor (yX8_canHaveHeld).desc).map (fun d => d.parameters.length) = some 4 := by decide +kernel
theorem dX8_lawsFitting_0 : decode cX8_lawsFitting 0 = .ok (.iconst 0, 1) := by decide +kernel
theorem dX8_lawsFitting_1 : decode cX8_lawsFitting 1 = .ok (.istore 4, 2) := by decide +kernel
theorem dX8_lawsFitting_3 : decode cX8_lawsFitting 3 = .ok (.iconst 0, 1) := by decide +kernel
theorem dX8_lawsFitting_4 : decode cX8_lawsFitting 4 = .ok (.istore 5, 2) := by decide +kernel
theorem dX8_lawsFitting_6 : decode cX8_lawsFitting 6 = .ok (.iload 5, 2) := by decide +kernel
theorem dX8_lawsFitting_8 : decode cX8_lawsFitting 8 = .ok (.aload_n 0, 1) := by decide +kernel
theorem dX8_lawsFitting_9 : decode cX8_lawsFitting 9 = .ok (.getfield 41, 3) := by decide +kernel
theorem dX8_lawsFitting_12 : decode cX8_lawsFitting 12 = .ok (.if_icmp .ge 30, 3) := by decide +kernel
theorem dX8_lawsFitting_15 : decode cX8_lawsFitting 15 = .ok (.aload_n 0, 1) := by decide +kernel
theorem dX8_lawsFitting_16 : decode cX8_lawsFitting 16 = .ok (.aload_n 1, 1) := by decide +kernel
theorem dX8_lawsFitting_17 : decode cX8_lawsFitting 17 = .ok (.iload_n 2, 1) := by decide +kernel
theorem dX8_lawsFitting_18 : decode cX8_lawsFitting 18 = .ok (.iload_n 3, 1) := by decide +kernel
theorem dX8_lawsFitting_19 : decode cX8_lawsFitting 19 = .ok (.iload 5, 2) := by decide +kernel
theorem dX8_lawsFitting_21 : decode cX8_lawsFitting 21 = .ok (.invokevirtual 161, 3) := by decide +kernel
theorem dX8_lawsFitting_24 : decode cX8_lawsFitting 24 = .ok (.ifCond .eq 12, 3) := by decide +kernel
theorem dX8_lawsFitting_27 : decode cX8_lawsFitting 27 = .ok (.iload 4, 2) := by decide +kernel
theorem dX8_lawsFitting_29 : decode cX8_lawsFitting 29 = .ok (.iconst 1, 1) := by decide +kernel
theorem dX8_lawsFitting_30 : decode cX8_lawsFitting 30 = .ok (.iload 5, 2) := by decide +kernel
theorem dX8_lawsFitting_32 : decode cX8_lawsFitting 32 = .ok (.ishl, 1) := by decide +kernel
theorem dX8_lawsFitting_33 : decode cX8_lawsFitting 33 = .ok (.ior, 1) := by decide +kernel
theorem dX8_lawsFitting_34 : decode cX8_lawsFitting 34 = .ok (.istore 4, 2) := by decide +kernel
theorem dX8_lawsFitting_36 : decode cX8_lawsFitting 36 = .ok (.iinc 5 1, 3) := by decide +kernel
theorem dX8_lawsFitting_39 : decode cX8_lawsFitting 39 = .ok (.goto (-33), 3) := by decide +kernel
theorem dX8_lawsFitting_42 : decode cX8_lawsFitting 42 = .ok (.iload 4, 2) := by decide +kernel
theorem dX8_lawsFitting_44 : decode cX8_lawsFitting 44 = .ok (.ireturn, 1) := by decide +kernel
def fX8_lawsFitting_L6 (N : Nat) (v0 : Nat) (v1 : Nat) (v2 : Int32) (v3 : Int32) : Nat → Int32 → Int32 → Mem → Option (Int32 × Mem)
  | 0, _, _, _ => none
  | n + 1, v4, v5, M => ((fI M 8 v0 9).bind fun x9 => (if x9 ≤ v5 then some (v4, M) else (if mK M v0 = 9 then ((fX8_canHaveHeld N v0 v1 v2 v3 v5 M).bind fun (x21, M21) => (if x21 = 0 then fX8_lawsFitting_L6 N v0 v1 v2 v3 n v4 (v5 + 1) M21 else fX8_lawsFitting_L6 N v0 v1 v2 v3 n (v4 ||| (1 <<< (v5 &&& 31))) (v5 + 1) M21)) else none)))
def fX8_lawsFitting (N : Nat) (v0 : Nat) (v1 : Nat) (v2 : Int32) (v3 : Int32) (M : Mem) : Option (Int32 × Mem) := ((fX8_lawsFitting_L6 N v0 v1 v2 v3 N 0 0 M).bind fun o6 => some o6)
set_option maxHeartbeats 4000000 in
set_option maxRecDepth 100000 in
theorem k_X8_lawsFitting (l : Launch) (b : Nat) (D : va_G) (cy : Nat → ClassId) (N : Nat) (v0 : Nat) (v1 : Nat) (v2 : Int32) (v3 : Int32) (M : Mem) (r : Int32) (Mf : Mem) (h : fX8_lawsFitting N v0 v1 v2 v3 M = some (r, Mf)) : Ct l yX8_lawsFitting cX8_lawsFitting 6 (some .int) 4 0 0 b D cy [.ref (b + v0), .ref (b + v1), .int v2, .int v3] M (some (.int r)) Mf := by
  refine Ct_of (own := RX8) (by decide) rfl (Nat.le_of_ble_eq_true rfl) ?_
  intro p e s m args below meth c F hr hl hmn
  unfold fX8_lawsFitting at h
  show X p l e ({ frames := 4, cells := 0, slots := 0, locals := 100 * 4 }) s m args below meth c (MQ below (Qm b D cy (some (.int r)) Mf) args s 0 0 (fun q => b ≤ q)) 6 b D cy 0 0 M 0 [(0, .ref (b + v0)), (1, .ref (b + v1)), (2, .int v2), (3, .int v3)] []
  refine x_iconst F (v := 0) dX8_lawsFitting_0 (by decide) ?_
  refine x_istore F (lv' := [(4, .int 0), (0, .ref (b + v0)), (1, .ref (b + v1)), (2, .int v2), (3, .int v3)]) dX8_lawsFitting_1 (by decide) rfl ?_
  refine x_iconst F (v := 0) dX8_lawsFitting_3 (by decide) ?_
  refine x_istore F (lv' := [(5, .int 0), (4, .int 0), (0, .ref (b + v0)), (1, .ref (b + v1)), (2, .int v2), (3, .int v3)]) dX8_lawsFitting_4 (by decide) rfl ?_
  have L6 : ∀ (v0 : Nat) (v1 : Nat) (v2 : Int32) (v3 : Int32) (n : Nat) (v4 : Int32) (v5 : Int32) (M : Mem) (o : Int32 × Mem), fX8_lawsFitting_L6 N v0 v1 v2 v3 n v4 v5 M = some o → (∀ (r' : Int32) (M' : Mem), o = (r', M') → r' = r ∧ M' = Mf) → X p l e ({ frames := 4, cells := 0, slots := 0, locals := 100 * 4 }) s m args below meth c (MQ below (Qm b D cy (some (.int r)) Mf) args s 0 0 (fun q => b ≤ q)) 6 b D cy 0 0 M 6 [(0, .ref (b + v0)), (1, .ref (b + v1)), (2, .int v2), (3, .int v3), (4, .int v4), (5, .int v5)] [] := by
    intro v0 v1 v2 v3 n
    induction n with
    | zero => intro v4 v5 M o h; exact absurd h (by rw [fX8_lawsFitting_L6]; exact fun z => by cases z)
    | succ n ih =>
      intro v4 v5 M o h hR
      rw [fX8_lawsFitting_L6] at h
      refine x_iload F dX8_lawsFitting_6 5 rfl ?_
      refine x_aload_n F dX8_lawsFitting_8 rfl 0 rfl ?_
      obtain ⟨x9, c9, h⟩ := bdS h
      refine x_getI F (ci := 8) (C := RX8) (T := TX8) (N := 17) rfl ⟨by decide, rfl⟩ inU8 9 (by decide) (fun _ _ _ => rfl) wl_110 c9 dX8_lawsFitting_9 ?_
      refine x_icmp_ge F (tgt := 42) dX8_lawsFitting_12 (by decide) (fun c12 => ?_) (fun c12 => ?_)
      · rw [if_pos c12] at h
        refine x_iload F dX8_lawsFitting_42 4 rfl ?_
        obtain rfl := Option.some.inj h
        obtain ⟨rfl, rfl⟩ := hR _ _ rfl
        exact x_iret F hr hl dX8_lawsFitting_44
      · rw [if_neg c12] at h
        refine x_aload_n F dX8_lawsFitting_15 rfl 0 rfl ?_
        refine x_aload_n F dX8_lawsFitting_16 rfl 1 rfl ?_
        refine x_iload_n F dX8_lawsFitting_17 rfl 2 rfl ?_
        refine x_iload_n F dX8_lawsFitting_18 rfl 3 rfl ?_
        refine x_iload F dX8_lawsFitting_19 5 rfl ?_
        obtain ⟨k21, h⟩ := gdS h
        obtain ⟨⟨x21, M21⟩, c21, h⟩ := bdS h
        dsimp only at h
        refine x_callV F (As := [.ref (b + v1), .int v2, .int v3, .int v5]) (rest := []) (res := (some (.int x21))) (ci := 8) (q := (RX8, TX8, 17)) rfl (by decide) k21 (k_X8_canHaveHeld l b D cy N v0 v1 v2 v3 v5 M _ _ c21) wl_111 wl_112 wl_113 wl_75 wl_105 hd_X8_canHaveHeld ⟨Nat.le_of_ble_eq_true rfl, Nat.le_of_ble_eq_true rfl⟩ ⟨Nat.le_refl _, Nat.le_refl _⟩ (Nat.le_of_ble_eq_true rfl) rfl dX8_lawsFitting_21 ?_
        refine x_if_eq F (tgt := 36) dX8_lawsFitting_24 (by decide) (fun c24 => ?_) (fun c24 => ?_)
        · rw [if_pos c24] at h
          refine x_iinc F (v := v5 + 1) (lv' := [(5, .int (v5 + 1)), (0, .ref (b + v0)), (1, .ref (b + v1)), (2, .int v2), (3, .int v3), (4, .int v4)]) dX8_lawsFitting_36 5 rfl rfl (by decide) rfl ?_
          refine x_goto F (tgt := 6) dX8_lawsFitting_39 (by decide) ?_
          refine x_sub [1, 2, 3, 4, 5, 0] rfl ?_
          exact ih v4 (v5 + 1) M21 o h hR
        · rw [if_neg c24] at h
          refine x_iload F dX8_lawsFitting_27 4 rfl ?_
          refine x_iconst F (v := 1) dX8_lawsFitting_29 (by decide) ?_
          refine x_iload F dX8_lawsFitting_30 5 rfl ?_
          refine x_ishl F dX8_lawsFitting_32 ?_
          refine x_ior F dX8_lawsFitting_33 ?_
          refine x_istore F (lv' := [(4, .int (v4 ||| (1 <<< (v5 &&& 31)))), (0, .ref (b + v0)), (1, .ref (b + v1)), (2, .int v2), (3, .int v3), (5, .int v5)]) dX8_lawsFitting_34 (by decide) rfl ?_
          refine x_iinc F (v := v5 + 1) (lv' := [(5, .int (v5 + 1)), (4, .int (v4 ||| (1 <<< (v5 &&& 31)))), (0, .ref (b + v0)), (1, .ref (b + v1)), (2, .int v2), (3, .int v3)]) dX8_lawsFitting_36 5 rfl rfl (by decide) rfl ?_
          refine x_goto F (tgt := 6) dX8_lawsFitting_39 (by decide) ?_
          refine x_sub [2, 3, 4, 5, 1, 0] rfl ?_
          exact ih (v4 ||| (1 <<< (v5 &&& 31))) (v5 + 1) M21 o h hR
  obtain ⟨o6, h6, h⟩ := bdS h
  refine x_sub [2, 3, 4, 5, 1, 0] rfl ?_
  refine L6 v0 v1 v2 v3 N 0 0 M o6 h6 (fun r' M' e => ?_)
  · subst e
    try dsimp only at h
    obtain ⟨rfl, rfl⟩ := retS h; exact ⟨rfl, rfl⟩
theorem hd_X8_lawsFitting : (yX8_lawsFitting).cls = RX8 ∧ (yX8_lawsFitting).cls ≠ "java/lang/invoke/MethodHandle" ∧ (yX8_lawsFitting).cls ≠ "java/lang/invoke/VarHandle" ∧ (parseMethodDescriptor (yX8_lawsFitting).desc).map (fun d => d.parameters.length) = some 3 := by decide +kernel
theorem hd_J6_bitCount_0f7a4 : (yJ6_bitCount_0f7a4).cls = RJ6 ∧ (yJ6_bitCount_0f7a4).cls ≠ "java/lang/invoke/MethodHandle" ∧ (yJ6_bitCount_0f7a4).cls ≠ "java/lang/invoke/VarHandle" ∧ (parseMethodDescriptor (yJ6_bitCount_0f7a4).desc).map (fun d => d.parameters.length) = some 1 := by decide +kernel
theorem dX0_mostLeftByAsking_0 : decode cX0_mostLeftByAsking 0 = .ok (.iconst 0, 1) := by decide +kernel
theorem dX0_mostLeftByAsking_1 : decode cX0_mostLeftByAsking 1 = .ok (.istore_n 3, 1) := by decide +kernel
theorem dX0_mostLeftByAsking_2 : decode cX0_mostLeftByAsking 2 = .ok (.iconst 0, 1) := by decide +kernel
theorem dX0_mostLeftByAsking_3 : decode cX0_mostLeftByAsking 3 = .ok (.istore 4, 2) := by decide +kernel
theorem dX0_mostLeftByAsking_5 : decode cX0_mostLeftByAsking 5 = .ok (.iload 4, 2) := by decide +kernel
theorem dX0_mostLeftByAsking_7 : decode cX0_mostLeftByAsking 7 = .ok (.bipush 9, 2) := by decide +kernel
theorem dX0_mostLeftByAsking_9 : decode cX0_mostLeftByAsking 9 = .ok (.if_icmp .gt 38, 3) := by decide +kernel
theorem dX0_mostLeftByAsking_12 : decode cX0_mostLeftByAsking 12 = .ok (.aload_n 0, 1) := by decide +kernel
theorem dX0_mostLeftByAsking_13 : decode cX0_mostLeftByAsking 13 = .ok (.getfield 30, 3) := by decide +kernel
theorem dX0_mostLeftByAsking_16 : decode cX0_mostLeftByAsking 16 = .ok (.iload_n 1, 1) := by decide +kernel
theorem dX0_mostLeftByAsking_17 : decode cX0_mostLeftByAsking 17 = .ok (.iload 4, 2) := by decide +kernel
theorem dX0_mostLeftByAsking_19 : decode cX0_mostLeftByAsking 19 = .ok (.iastore, 1) := by decide +kernel
theorem dX0_mostLeftByAsking_20 : decode cX0_mostLeftByAsking 20 = .ok (.iload_n 3, 1) := by decide +kernel
theorem dX0_mostLeftByAsking_21 : decode cX0_mostLeftByAsking 21 = .ok (.aload_n 0, 1) := by decide +kernel
theorem dX0_mostLeftByAsking_22 : decode cX0_mostLeftByAsking 22 = .ok (.getfield 46, 3) := by decide +kernel
theorem dX0_mostLeftByAsking_25 : decode cX0_mostLeftByAsking 25 = .ok (.aload_n 0, 1) := by decide +kernel
theorem dX0_mostLeftByAsking_26 : decode cX0_mostLeftByAsking 26 = .ok (.getfield 30, 3) := by decide +kernel
theorem dX0_mostLeftByAsking_29 : decode cX0_mostLeftByAsking 29 = .ok (.iconst 0, 1) := by decide +kernel
theorem dX0_mostLeftByAsking_30 : decode cX0_mostLeftByAsking 30 = .ok (.iload_n 2, 1) := by decide +kernel
theorem dX0_mostLeftByAsking_31 : decode cX0_mostLeftByAsking 31 = .ok (.invokevirtual 136, 3) := by decide +kernel
theorem dX0_mostLeftByAsking_34 : decode cX0_mostLeftByAsking 34 = .ok (.invokestatic 143, 3) := by decide +kernel
theorem dX0_mostLeftByAsking_37 : decode cX0_mostLeftByAsking 37 = .ok (.invokestatic 148, 3) := by decide +kernel
theorem dX0_mostLeftByAsking_40 : decode cX0_mostLeftByAsking 40 = .ok (.istore_n 3, 1) := by decide +kernel
theorem dX0_mostLeftByAsking_41 : decode cX0_mostLeftByAsking 41 = .ok (.iinc 4 1, 3) := by decide +kernel
theorem dX0_mostLeftByAsking_44 : decode cX0_mostLeftByAsking 44 = .ok (.goto (-39), 3) := by decide +kernel
theorem dX0_mostLeftByAsking_47 : decode cX0_mostLeftByAsking 47 = .ok (.aload_n 0, 1) := by decide +kernel
theorem dX0_mostLeftByAsking_48 : decode cX0_mostLeftByAsking 48 = .ok (.getfield 30, 3) := by decide +kernel
theorem dX0_mostLeftByAsking_51 : decode cX0_mostLeftByAsking 51 = .ok (.iload_n 1, 1) := by decide +kernel
theorem dX0_mostLeftByAsking_52 : decode cX0_mostLeftByAsking 52 = .ok (.iconst (-1), 1) := by decide +kernel
theorem dX0_mostLeftByAsking_53 : decode cX0_mostLeftByAsking 53 = .ok (.iastore, 1) := by decide +kernel
theorem dX0_mostLeftByAsking_54 : decode cX0_mostLeftByAsking 54 = .ok (.iload_n 3, 1) := by decide +kernel
theorem dX0_mostLeftByAsking_55 : decode cX0_mostLeftByAsking 55 = .ok (.ireturn, 1) := by decide +kernel
def fX0_mostLeftByAsking_L5 (N : Nat) (v0 : Nat) (v1 : Int32) (v2 : Int32) : Nat → Int32 → Int32 → Mem → Option (Int32 × Mem)
  | 0, _, _, _ => none
  | n + 1, v3, v4, M => (if 9 < v4 then some (v3, M) else ((fR M 0 v0 7).bind fun x13 => ((tI M x13 v1 v4).bind fun M19 => ((fR M19 0 v0 0).bind fun x22 => ((fR M19 0 v0 7).bind fun x26 => (if mK M19 x22 = 9 then ((fX8_lawsFitting N x22 x26 0 v2 M19).bind fun (x31, M31) => ((fJ6_bitCount_0f7a4 N x31 M31).bind fun (x34, M34) => fX0_mostLeftByAsking_L5 N v0 v1 v2 n (if v3 < x34 then x34 else v3) (v4 + 1) M34)) else none))))))
def fX0_mostLeftByAsking (N : Nat) (v0 : Nat) (v1 : Int32) (v2 : Int32) (M : Mem) : Option (Int32 × Mem) := ((fX0_mostLeftByAsking_L5 N v0 v1 v2 N 0 0 M).bind fun o5 => match o5 with | (w3_5, M5) => ((fR M5 0 v0 7).bind fun x48 => ((tI M5 x48 v1 ((-1))).bind fun M53 => some (w3_5, M53))))
set_option maxHeartbeats 4000000 in
set_option maxRecDepth 100000 in
theorem k_X0_mostLeftByAsking (l : Launch) (b : Nat) (D : va_G) (cy : Nat → ClassId) (N : Nat) (v0 : Nat) (v1 : Int32) (v2 : Int32) (M : Mem) (r : Int32) (Mf : Mem) (h : fX0_mostLeftByAsking N v0 v1 v2 M = some (r, Mf)) : Ct l yX0_mostLeftByAsking cX0_mostLeftByAsking 5 (some .int) 5 0 0 b D cy [.ref (b + v0), .int v1, .int v2] M (some (.int r)) Mf := by
  refine Ct_of (own := RX0) (by decide) rfl (Nat.le_of_ble_eq_true rfl) ?_
  intro p e s m args below meth c F hr hl hmn
  unfold fX0_mostLeftByAsking at h
  show X p l e ({ frames := 5, cells := 0, slots := 0, locals := 100 * 5 }) s m args below meth c (MQ below (Qm b D cy (some (.int r)) Mf) args s 0 0 (fun q => b ≤ q)) 5 b D cy 0 0 M 0 [(0, .ref (b + v0)), (1, .int v1), (2, .int v2)] []
  refine x_iconst F (v := 0) dX0_mostLeftByAsking_0 (by decide) ?_
  refine x_istore_n F (lv' := [(3, .int 0), (0, .ref (b + v0)), (1, .int v1), (2, .int v2)]) dX0_mostLeftByAsking_1 rfl (by decide) rfl ?_
  refine x_iconst F (v := 0) dX0_mostLeftByAsking_2 (by decide) ?_
  refine x_istore F (lv' := [(4, .int 0), (3, .int 0), (0, .ref (b + v0)), (1, .int v1), (2, .int v2)]) dX0_mostLeftByAsking_3 (by decide) rfl ?_
  have L5 : ∀ (v0 : Nat) (v1 : Int32) (v2 : Int32) (n : Nat) (v3 : Int32) (v4 : Int32) (M : Mem) (o : Int32 × Mem), fX0_mostLeftByAsking_L5 N v0 v1 v2 n v3 v4 M = some o → (∀ (w3 : Int32) (M' : Mem), o = (w3, M') → X p l e ({ frames := 5, cells := 0, slots := 0, locals := 100 * 5 }) s m args below meth c (MQ below (Qm b D cy (some (.int r)) Mf) args s 0 0 (fun q => b ≤ q)) 5 b D cy 0 0 M' 47 [(0, .ref (b + v0)), (1, .int v1), (3, .int w3)] []) → X p l e ({ frames := 5, cells := 0, slots := 0, locals := 100 * 5 }) s m args below meth c (MQ below (Qm b D cy (some (.int r)) Mf) args s 0 0 (fun q => b ≤ q)) 5 b D cy 0 0 M 5 [(0, .ref (b + v0)), (1, .int v1), (2, .int v2), (3, .int v3), (4, .int v4)] [] := by
    intro v0 v1 v2 n
    induction n with
    | zero => intro v3 v4 M o h; exact absurd h (by rw [fX0_mostLeftByAsking_L5]; exact fun z => by cases z)
    | succ n ih =>
      intro v3 v4 M o h hE
      rw [fX0_mostLeftByAsking_L5] at h
      refine x_iload F dX0_mostLeftByAsking_5 4 rfl ?_
      refine x_bipush F (v := 9) dX0_mostLeftByAsking_7 (by decide) ?_
      refine x_icmp_gt F (tgt := 47) dX0_mostLeftByAsking_9 (by decide) (fun c9 => ?_) (fun c9 => ?_)
      · rw [if_pos c9] at h
        obtain rfl := Option.some.inj h
        refine x_sub [0, 1, 3] rfl ?_
        exact hE _ _ rfl
      · rw [if_neg c9] at h
        refine x_aload_n F dX0_mostLeftByAsking_12 rfl 0 rfl ?_
        obtain ⟨x13, c13, h⟩ := bdS h
        refine x_getR F (ci := 0) (C := RX0) (T := TX0) (N := 12) rfl ⟨by decide, rfl⟩ inU0 7 (by decide) (fun _ _ _ => rfl) wl_12 c13 dX0_mostLeftByAsking_13 ?_
        refine x_iload_n F dX0_mostLeftByAsking_16 rfl 1 rfl ?_
        refine x_iload F dX0_mostLeftByAsking_17 4 rfl ?_
        obtain ⟨M19, c19, h⟩ := bdS h
        refine x_tI F c19 dX0_mostLeftByAsking_19 ?_
        refine x_iload_n F dX0_mostLeftByAsking_20 rfl 3 rfl ?_
        refine x_aload_n F dX0_mostLeftByAsking_21 rfl 0 rfl ?_
        obtain ⟨x22, c22, h⟩ := bdS h
        refine x_getR F (ci := 0) (C := RX0) (T := TX0) (N := 12) rfl ⟨by decide, rfl⟩ inU0 0 (by decide) (fun _ _ _ => rfl) wl_17 c22 dX0_mostLeftByAsking_22 ?_
        refine x_aload_n F dX0_mostLeftByAsking_25 rfl 0 rfl ?_
        obtain ⟨x26, c26, h⟩ := bdS h
        refine x_getR F (ci := 0) (C := RX0) (T := TX0) (N := 12) rfl ⟨by decide, rfl⟩ inU0 7 (by decide) (fun _ _ _ => rfl) wl_12 c26 dX0_mostLeftByAsking_26 ?_
        refine x_iconst F (v := 0) dX0_mostLeftByAsking_29 (by decide) ?_
        refine x_iload_n F dX0_mostLeftByAsking_30 rfl 2 rfl ?_
        obtain ⟨k31, h⟩ := gdS h
        obtain ⟨⟨x31, M31⟩, c31, h⟩ := bdS h
        dsimp only at h
        refine x_callV F (As := [.ref (b + x26), .int 0, .int v2]) (rest := [.int v3]) (res := (some (.int x31))) (ci := 8) (q := (RX8, TX8, 17)) rfl (by decide) k31 (k_X8_lawsFitting l b D cy N x22 x26 0 v2 M19 _ _ c31) wl_122 wl_123 wl_124 wl_75 wl_109 hd_X8_lawsFitting ⟨Nat.le_of_ble_eq_true rfl, Nat.le_of_ble_eq_true rfl⟩ ⟨Nat.le_refl _, Nat.le_refl _⟩ (Nat.le_of_ble_eq_true rfl) rfl dX0_mostLeftByAsking_31 ?_
        obtain ⟨⟨x34, M34⟩, c34, h⟩ := bdS h
        dsimp only at h
        refine x_callS F (As := [.int x31]) (rest := [.int v3]) (res := (some (.int x34))) (k_J6_bitCount_0f7a4 l b D cy N x31 M31 _ _ c34) wl_125 wl_126 wl_127 wl_114 (hd_J6_bitCount_0f7a4).2 ⟨Nat.le_of_ble_eq_true rfl, Nat.le_of_ble_eq_true rfl⟩ ⟨Nat.le_refl _, Nat.le_refl _⟩ (Nat.le_of_ble_eq_true rfl) rfl dX0_mostLeftByAsking_34 ?_
        refine x_max F wl_118 wl_119 wl_120 wl_121 (Nat.le_of_ble_eq_true rfl) (Nat.le_of_ble_eq_true rfl) ⟨Nat.le_refl _, Nat.le_refl _⟩ dX0_mostLeftByAsking_37 ?_
        refine x_istore_n F (lv' := [(3, .int (if v3 < x34 then x34 else v3)), (0, .ref (b + v0)), (1, .int v1), (2, .int v2), (4, .int v4)]) dX0_mostLeftByAsking_40 rfl (by decide) rfl ?_
        refine x_iinc F (v := v4 + 1) (lv' := [(4, .int (v4 + 1)), (3, .int (if v3 < x34 then x34 else v3)), (0, .ref (b + v0)), (1, .int v1), (2, .int v2)]) dX0_mostLeftByAsking_41 4 rfl rfl (by decide) rfl ?_
        refine x_goto F (tgt := 5) dX0_mostLeftByAsking_44 (by decide) ?_
        refine x_sub [2, 3, 4, 1, 0] rfl ?_
        exact ih (if v3 < x34 then x34 else v3) (v4 + 1) M34 o h hE
  obtain ⟨o5, h5, h⟩ := bdS h
  refine x_sub [2, 3, 4, 1, 0] rfl ?_
  refine L5 v0 v1 v2 N 0 0 M o5 h5 (fun w3_5 M5 e => ?_)
  · subst e
    dsimp only at h
    refine x_aload_n F dX0_mostLeftByAsking_47 rfl 0 rfl ?_
    obtain ⟨x48, c48, h⟩ := bdS h
    refine x_getR F (ci := 0) (C := RX0) (T := TX0) (N := 12) rfl ⟨by decide, rfl⟩ inU0 7 (by decide) (fun _ _ _ => rfl) wl_12 c48 dX0_mostLeftByAsking_48 ?_
    refine x_iload_n F dX0_mostLeftByAsking_51 rfl 1 rfl ?_
    refine x_iconst F (v := (-1)) dX0_mostLeftByAsking_52 (by decide) ?_
    obtain ⟨M53, c53, h⟩ := bdS h
    refine x_tI F c53 dX0_mostLeftByAsking_53 ?_
    refine x_iload_n F dX0_mostLeftByAsking_54 rfl 2 rfl ?_
    obtain ⟨rfl, rfl⟩ := retS h
    exact x_iret F hr hl dX0_mostLeftByAsking_55
theorem hd_X0_mostLeftByAsking : (yX0_mostLeftByAsking).cls = RX0 ∧ (yX0_mostLeftByAsking).cls ≠ "java/lang/invoke/MethodHandle" ∧ (yX0_mostLeftByAsking).cls ≠ "java/lang/invoke/VarHandle" ∧ (parseMethodDescriptor (yX0_mostLeftByAsking).desc).map (fun d => d.parameters.length) = some 2 := by decide +kernel
theorem dX0_bestPlaceToAsk_0 : decode cX0_bestPlaceToAsk 0 = .ok (.aload_n 0, 1) := by decide +kernel
theorem dX0_bestPlaceToAsk_1 : decode cX0_bestPlaceToAsk 1 = .ok (.getfield 46, 3) := by decide +kernel
theorem dX0_bestPlaceToAsk_4 : decode cX0_bestPlaceToAsk 4 = .ok (.aload_n 0, 1) := by decide +kernel
theorem dX0_bestPlaceToAsk_5 : decode cX0_bestPlaceToAsk 5 = .ok (.getfield 11, 3) := by decide +kernel
theorem dX0_bestPlaceToAsk_8 : decode cX0_bestPlaceToAsk 8 = .ok (.iload_n 1, 1) := by decide +kernel
theorem dX0_bestPlaceToAsk_9 : decode cX0_bestPlaceToAsk 9 = .ok (.iconst 0, 1) := by decide +kernel
theorem dX0_bestPlaceToAsk_10 : decode cX0_bestPlaceToAsk 10 = .ok (.invokestatic 67, 3) := by decide +kernel
theorem dX0_bestPlaceToAsk_13 : decode cX0_bestPlaceToAsk 13 = .ok (.aload_n 0, 1) := by decide +kernel
theorem dX0_bestPlaceToAsk_14 : decode cX0_bestPlaceToAsk 14 = .ok (.getfield 46, 3) := by decide +kernel
theorem dX0_bestPlaceToAsk_17 : decode cX0_bestPlaceToAsk 17 = .ok (.getfield 117, 3) := by decide +kernel
theorem dX0_bestPlaceToAsk_20 : decode cX0_bestPlaceToAsk 20 = .ok (.iload_n 1, 1) := by decide +kernel
theorem dX0_bestPlaceToAsk_21 : decode cX0_bestPlaceToAsk 21 = .ok (.iaload, 1) := by decide +kernel
theorem dX0_bestPlaceToAsk_22 : decode cX0_bestPlaceToAsk 22 = .ok (.invokevirtual 136, 3) := by decide +kernel
theorem dX0_bestPlaceToAsk_25 : decode cX0_bestPlaceToAsk 25 = .ok (.ifCond .ne 5, 3) := by decide +kernel
theorem dX0_bestPlaceToAsk_28 : decode cX0_bestPlaceToAsk 28 = .ok (.iconst (-1), 1) := by decide +kernel
theorem dX0_bestPlaceToAsk_29 : decode cX0_bestPlaceToAsk 29 = .ok (.ireturn, 1) := by decide +kernel
theorem dX0_bestPlaceToAsk_30 : decode cX0_bestPlaceToAsk 30 = .ok (.aload_n 0, 1) := by decide +kernel
theorem dX0_bestPlaceToAsk_31 : decode cX0_bestPlaceToAsk 31 = .ok (.getfield 11, 3) := by decide +kernel
theorem dX0_bestPlaceToAsk_34 : decode cX0_bestPlaceToAsk 34 = .ok (.iload_n 1, 1) := by decide +kernel
theorem dX0_bestPlaceToAsk_35 : decode cX0_bestPlaceToAsk 35 = .ok (.iconst 0, 1) := by decide +kernel
theorem dX0_bestPlaceToAsk_36 : decode cX0_bestPlaceToAsk 36 = .ok (.invokestatic 67, 3) := by decide +kernel
theorem dX0_bestPlaceToAsk_39 : decode cX0_bestPlaceToAsk 39 = .ok (.aload_n 0, 1) := by decide +kernel
theorem dX0_bestPlaceToAsk_40 : decode cX0_bestPlaceToAsk 40 = .ok (.getfield 30, 3) := by decide +kernel
theorem dX0_bestPlaceToAsk_43 : decode cX0_bestPlaceToAsk 43 = .ok (.iconst 0, 1) := by decide +kernel
theorem dX0_bestPlaceToAsk_44 : decode cX0_bestPlaceToAsk 44 = .ok (.bipush 12, 2) := by decide +kernel
theorem dX0_bestPlaceToAsk_46 : decode cX0_bestPlaceToAsk 46 = .ok (.invokestatic 56, 3) := by decide +kernel
theorem dX0_bestPlaceToAsk_49 : decode cX0_bestPlaceToAsk 49 = .ok (.iconst (-1), 1) := by decide +kernel
theorem dX0_bestPlaceToAsk_50 : decode cX0_bestPlaceToAsk 50 = .ok (.istore_n 2, 1) := by decide +kernel
theorem dX0_bestPlaceToAsk_51 : decode cX0_bestPlaceToAsk 51 = .ok (.bipush 7, 2) := by decide +kernel
theorem dX0_bestPlaceToAsk_53 : decode cX0_bestPlaceToAsk 53 = .ok (.istore_n 3, 1) := by decide +kernel
theorem dX0_bestPlaceToAsk_54 : decode cX0_bestPlaceToAsk 54 = .ok (.iconst 0, 1) := by decide +kernel
theorem dX0_bestPlaceToAsk_55 : decode cX0_bestPlaceToAsk 55 = .ok (.istore 4, 2) := by decide +kernel
theorem dX0_bestPlaceToAsk_57 : decode cX0_bestPlaceToAsk 57 = .ok (.iload 4, 2) := by decide +kernel
theorem dX0_bestPlaceToAsk_59 : decode cX0_bestPlaceToAsk 59 = .ok (.aload_n 0, 1) := by decide +kernel
theorem dX0_bestPlaceToAsk_60 : decode cX0_bestPlaceToAsk 60 = .ok (.getfield 46, 3) := by decide +kernel
theorem dX0_bestPlaceToAsk_63 : decode cX0_bestPlaceToAsk 63 = .ok (.getfield 117, 3) := by decide +kernel
theorem dX0_bestPlaceToAsk_66 : decode cX0_bestPlaceToAsk 66 = .ok (.iload_n 1, 1) := by decide +kernel
theorem dX0_bestPlaceToAsk_67 : decode cX0_bestPlaceToAsk 67 = .ok (.iaload, 1) := by decide +kernel
theorem dX0_bestPlaceToAsk_68 : decode cX0_bestPlaceToAsk 68 = .ok (.if_icmp .ge 49, 3) := by decide +kernel
theorem dX0_bestPlaceToAsk_71 : decode cX0_bestPlaceToAsk 71 = .ok (.aload_n 0, 1) := by decide +kernel
theorem dX0_bestPlaceToAsk_72 : decode cX0_bestPlaceToAsk 72 = .ok (.getfield 30, 3) := by decide +kernel
theorem dX0_bestPlaceToAsk_75 : decode cX0_bestPlaceToAsk 75 = .ok (.iload 4, 2) := by decide +kernel
theorem dX0_bestPlaceToAsk_77 : decode cX0_bestPlaceToAsk 77 = .ok (.iaload, 1) := by decide +kernel
theorem dX0_bestPlaceToAsk_78 : decode cX0_bestPlaceToAsk 78 = .ok (.iconst (-1), 1) := by decide +kernel
theorem dX0_bestPlaceToAsk_79 : decode cX0_bestPlaceToAsk 79 = .ok (.if_icmp .ne 32, 3) := by decide +kernel
theorem dX0_bestPlaceToAsk_82 : decode cX0_bestPlaceToAsk 82 = .ok (.aload_n 0, 1) := by decide +kernel
theorem dX0_bestPlaceToAsk_83 : decode cX0_bestPlaceToAsk 83 = .ok (.iload 4, 2) := by decide +kernel
theorem dX0_bestPlaceToAsk_85 : decode cX0_bestPlaceToAsk 85 = .ok (.aload_n 0, 1) := by decide +kernel
theorem dX0_bestPlaceToAsk_86 : decode cX0_bestPlaceToAsk 86 = .ok (.getfield 46, 3) := by decide +kernel
theorem dX0_bestPlaceToAsk_89 : decode cX0_bestPlaceToAsk 89 = .ok (.getfield 117, 3) := by decide +kernel
theorem dX0_bestPlaceToAsk_92 : decode cX0_bestPlaceToAsk 92 = .ok (.iload_n 1, 1) := by decide +kernel
theorem dX0_bestPlaceToAsk_93 : decode cX0_bestPlaceToAsk 93 = .ok (.iaload, 1) := by decide +kernel
theorem dX0_bestPlaceToAsk_94 : decode cX0_bestPlaceToAsk 94 = .ok (.invokevirtual 140, 3) := by decide +kernel
theorem dX0_bestPlaceToAsk_97 : decode cX0_bestPlaceToAsk 97 = .ok (.istore 5, 2) := by decide +kernel
theorem dX0_bestPlaceToAsk_99 : decode cX0_bestPlaceToAsk 99 = .ok (.iload 5, 2) := by decide +kernel
theorem dX0_bestPlaceToAsk_101 : decode cX0_bestPlaceToAsk 101 = .ok (.iload_n 3, 1) := by decide +kernel
theorem dX0_bestPlaceToAsk_102 : decode cX0_bestPlaceToAsk 102 = .ok (.if_icmp .ge 9, 3) := by decide +kernel
theorem dX0_bestPlaceToAsk_105 : decode cX0_bestPlaceToAsk 105 = .ok (.iload 5, 2) := by decide +kernel
theorem dX0_bestPlaceToAsk_107 : decode cX0_bestPlaceToAsk 107 = .ok (.istore_n 3, 1) := by decide +kernel
theorem dX0_bestPlaceToAsk_108 : decode cX0_bestPlaceToAsk 108 = .ok (.iload 4, 2) := by decide +kernel
theorem dX0_bestPlaceToAsk_110 : decode cX0_bestPlaceToAsk 110 = .ok (.istore_n 2, 1) := by decide +kernel
theorem dX0_bestPlaceToAsk_111 : decode cX0_bestPlaceToAsk 111 = .ok (.iinc 4 1, 3) := by decide +kernel
theorem dX0_bestPlaceToAsk_114 : decode cX0_bestPlaceToAsk 114 = .ok (.goto (-57), 3) := by decide +kernel
theorem dX0_bestPlaceToAsk_117 : decode cX0_bestPlaceToAsk 117 = .ok (.iload_n 2, 1) := by decide +kernel
theorem dX0_bestPlaceToAsk_118 : decode cX0_bestPlaceToAsk 118 = .ok (.ireturn, 1) := by decide +kernel
def fX0_bestPlaceToAsk_L57 (N : Nat) (v0 : Nat) (v1 : Int32) : Nat → Int32 → Int32 → Int32 → Mem → Option (Int32 × Mem)
  | 0, _, _, _, _ => none
  | n + 1, v2, v3, v4, M => ((fR M 0 v0 0).bind fun x60 => ((fR M 8 x60 3).bind fun x63 => ((aI M x63 v1).bind fun x67 => (if x67 ≤ v4 then some (v2, M) else ((fR M 0 v0 7).bind fun x72 => ((aI M x72 v4).bind fun x77 => (if x77 = ((-1)) then ((fR M 0 v0 0).bind fun x86 => ((fR M 8 x86 3).bind fun x89 => ((aI M x89 v1).bind fun x93 => (if mK M v0 = 1 then ((fX0_mostLeftByAsking N v0 v4 x93 M).bind fun (x94, M94) => (if v3 ≤ x94 then fX0_bestPlaceToAsk_L57 N v0 v1 n v2 v3 (v4 + 1) M94 else fX0_bestPlaceToAsk_L57 N v0 v1 n v4 x94 (v4 + 1) M94)) else none)))) else fX0_bestPlaceToAsk_L57 N v0 v1 n v2 v3 (v4 + 1) M)))))))
def fX0_bestPlaceToAsk (N : Nat) (v0 : Nat) (v1 : Int32) (M : Mem) : Option (Int32 × Mem) := ((fR M 0 v0 0).bind fun x1 => ((fR M 0 v0 1).bind fun x5 => ((fX10_placeIndex N v1 0 M).bind fun (x10, M10) => ((fR M10 0 v0 0).bind fun x14 => ((fR M10 8 x14 3).bind fun x17 => ((aI M10 x17 v1).bind fun x21 => (if mK M10 x1 = 9 then ((fX8_lawsFitting N x1 x5 x10 x21 M10).bind fun (x22, M22) => (if x22 = 0 then some ((-1), M22) else ((fR M22 0 v0 1).bind fun x31 => ((fX10_placeIndex N v1 0 M22).bind fun (x36, M36) => ((fR M36 0 v0 7).bind fun x40 => ((cI M36 x31 x36 x40 0 12).bind fun M46 => ((fX0_bestPlaceToAsk_L57 N v0 v1 N ((-1)) 7 0 M46).bind fun o57 => some o57))))))) else none)))))))
set_option maxHeartbeats 4000000 in
set_option maxRecDepth 100000 in
theorem k_X0_bestPlaceToAsk (l : Launch) (b : Nat) (D : va_G) (cy : Nat → ClassId) (N : Nat) (v0 : Nat) (v1 : Int32) (M : Mem) (r : Int32) (Mf : Mem) (h : fX0_bestPlaceToAsk N v0 v1 M = some (r, Mf)) : Ct l yX0_bestPlaceToAsk cX0_bestPlaceToAsk 6 (some .int) 6 0 0 b D cy [.ref (b + v0), .int v1] M (some (.int r)) Mf := by
  refine Ct_of (own := RX0) (by decide) rfl (Nat.le_of_ble_eq_true rfl) ?_
  intro p e s m args below meth c F hr hl hmn
  unfold fX0_bestPlaceToAsk at h
  show X p l e ({ frames := 6, cells := 0, slots := 0, locals := 100 * 6 }) s m args below meth c (MQ below (Qm b D cy (some (.int r)) Mf) args s 0 0 (fun q => b ≤ q)) 6 b D cy 0 0 M 0 [(0, .ref (b + v0)), (1, .int v1)] []
  refine x_aload_n F dX0_bestPlaceToAsk_0 rfl 0 rfl ?_
  obtain ⟨x1, c1, h⟩ := bdS h
  refine x_getR F (ci := 0) (C := RX0) (T := TX0) (N := 12) rfl ⟨by decide, rfl⟩ inU0 0 (by decide) (fun _ _ _ => rfl) wl_17 c1 dX0_bestPlaceToAsk_1 ?_
  refine x_aload_n F dX0_bestPlaceToAsk_4 rfl 0 rfl ?_
  obtain ⟨x5, c5, h⟩ := bdS h
  refine x_getR F (ci := 0) (C := RX0) (T := TX0) (N := 12) rfl ⟨by decide, rfl⟩ inU0 1 (by decide) (fun _ _ _ => rfl) wl_6 c5 dX0_bestPlaceToAsk_5 ?_
  refine x_iload_n F dX0_bestPlaceToAsk_8 rfl 1 rfl ?_
  refine x_iconst F (v := 0) dX0_bestPlaceToAsk_9 (by decide) ?_
  obtain ⟨⟨x10, M10⟩, c10, h⟩ := bdS h
  dsimp only at h
  refine x_callSN F (As := [.int v1, .int 0]) (rest := [.ref (b + x5), .ref (b + x1)]) (res := (some (.int x10))) (host := RX10) (k_X10_placeIndex l b D cy N v1 0 M _ _ c10) wl_27 (by decide +kernel) wl_31 wl_30 (hd_X10_placeIndex).2 ⟨Nat.le_of_ble_eq_true rfl, Nat.le_of_ble_eq_true rfl⟩ ⟨Nat.le_refl _, Nat.le_refl _⟩ (Nat.le_of_ble_eq_true rfl) rfl dX0_bestPlaceToAsk_10 ?_
  refine x_aload_n F dX0_bestPlaceToAsk_13 rfl 0 rfl ?_
  obtain ⟨x14, c14, h⟩ := bdS h
  refine x_getR F (ci := 0) (C := RX0) (T := TX0) (N := 12) rfl ⟨by decide, rfl⟩ inU0 0 (by decide) (fun _ _ _ => rfl) wl_17 c14 dX0_bestPlaceToAsk_14 ?_
  obtain ⟨x17, c17, h⟩ := bdS h
  refine x_getR F (ci := 8) (C := RX8) (T := TX8) (N := 17) rfl ⟨by decide, rfl⟩ inU8 3 (by decide) (fun _ _ _ => rfl) wl_58 c17 dX0_bestPlaceToAsk_17 ?_
  refine x_iload_n F dX0_bestPlaceToAsk_20 rfl 1 rfl ?_
  obtain ⟨x21, c21, h⟩ := bdS h
  refine x_aI F c21 dX0_bestPlaceToAsk_21 ?_
  obtain ⟨k22, h⟩ := gdS h
  obtain ⟨⟨x22, M22⟩, c22, h⟩ := bdS h
  dsimp only at h
  refine x_callV F (As := [.ref (b + x5), .int x10, .int x21]) (rest := []) (res := (some (.int x22))) (ci := 8) (q := (RX8, TX8, 17)) rfl (by decide) k22 (k_X8_lawsFitting l b D cy N x1 x5 x10 x21 M10 _ _ c22) wl_122 wl_123 wl_124 wl_75 wl_109 hd_X8_lawsFitting ⟨Nat.le_of_ble_eq_true rfl, Nat.le_of_ble_eq_true rfl⟩ ⟨Nat.le_refl _, Nat.le_refl _⟩ (Nat.le_of_ble_eq_true rfl) rfl dX0_bestPlaceToAsk_22 ?_
  refine x_if_ne F (tgt := 30) dX0_bestPlaceToAsk_25 (by decide) (fun c25 => ?_) (fun c25 => ?_)
  · rw [if_neg c25] at h
    refine x_aload_n F dX0_bestPlaceToAsk_30 rfl 0 rfl ?_
    obtain ⟨x31, c31, h⟩ := bdS h
    refine x_getR F (ci := 0) (C := RX0) (T := TX0) (N := 12) rfl ⟨by decide, rfl⟩ inU0 1 (by decide) (fun _ _ _ => rfl) wl_6 c31 dX0_bestPlaceToAsk_31 ?_
    refine x_iload_n F dX0_bestPlaceToAsk_34 rfl 1 rfl ?_
    refine x_iconst F (v := 0) dX0_bestPlaceToAsk_35 (by decide) ?_
    obtain ⟨⟨x36, M36⟩, c36, h⟩ := bdS h
    dsimp only at h
    refine x_callSN F (As := [.int v1, .int 0]) (rest := [.ref (b + x31)]) (res := (some (.int x36))) (host := RX10) (k_X10_placeIndex l b D cy N v1 0 M22 _ _ c36) wl_27 (by decide +kernel) wl_31 wl_30 (hd_X10_placeIndex).2 ⟨Nat.le_of_ble_eq_true rfl, Nat.le_of_ble_eq_true rfl⟩ ⟨Nat.le_refl _, Nat.le_refl _⟩ (Nat.le_of_ble_eq_true rfl) rfl dX0_bestPlaceToAsk_36 ?_
    refine x_aload_n F dX0_bestPlaceToAsk_39 rfl 0 rfl ?_
    obtain ⟨x40, c40, h⟩ := bdS h
    refine x_getR F (ci := 0) (C := RX0) (T := TX0) (N := 12) rfl ⟨by decide, rfl⟩ inU0 7 (by decide) (fun _ _ _ => rfl) wl_12 c40 dX0_bestPlaceToAsk_40 ?_
    refine x_iconst F (v := 0) dX0_bestPlaceToAsk_43 (by decide) ?_
    refine x_bipush F (v := 12) dX0_bestPlaceToAsk_44 (by decide) ?_
    obtain ⟨M46, c46, h⟩ := bdS h
    refine x_cI F wl_23 wl_24 wl_25 wl_26 (Nat.le_of_ble_eq_true rfl) (by decide +kernel) c46 dX0_bestPlaceToAsk_46 ?_
    refine x_iconst F (v := (-1)) dX0_bestPlaceToAsk_49 (by decide) ?_
    refine x_istore_n F (lv' := [(2, .int ((-1))), (0, .ref (b + v0)), (1, .int v1)]) dX0_bestPlaceToAsk_50 rfl (by decide) rfl ?_
    refine x_bipush F (v := 7) dX0_bestPlaceToAsk_51 (by decide) ?_
    refine x_istore_n F (lv' := [(3, .int 7), (2, .int ((-1))), (0, .ref (b + v0)), (1, .int v1)]) dX0_bestPlaceToAsk_53 rfl (by decide) rfl ?_
    refine x_iconst F (v := 0) dX0_bestPlaceToAsk_54 (by decide) ?_
    refine x_istore F (lv' := [(4, .int 0), (3, .int 7), (2, .int ((-1))), (0, .ref (b + v0)), (1, .int v1)]) dX0_bestPlaceToAsk_55 (by decide) rfl ?_
    have L57 : ∀ (v0 : Nat) (v1 : Int32) (n : Nat) (v2 : Int32) (v3 : Int32) (v4 : Int32) (M : Mem) (o : Int32 × Mem), fX0_bestPlaceToAsk_L57 N v0 v1 n v2 v3 v4 M = some o → (∀ (r' : Int32) (M' : Mem), o = (r', M') → r' = r ∧ M' = Mf) → X p l e ({ frames := 6, cells := 0, slots := 0, locals := 100 * 6 }) s m args below meth c (MQ below (Qm b D cy (some (.int r)) Mf) args s 0 0 (fun q => b ≤ q)) 6 b D cy 0 0 M 57 [(0, .ref (b + v0)), (1, .int v1), (2, .int v2), (3, .int v3), (4, .int v4)] [] := by
      intro v0 v1 n
      induction n with
      | zero => intro v2 v3 v4 M o h; exact absurd h (by rw [fX0_bestPlaceToAsk_L57]; exact fun z => by cases z)
      | succ n ih =>
        intro v2 v3 v4 M o h hR
        rw [fX0_bestPlaceToAsk_L57] at h
        refine x_iload F dX0_bestPlaceToAsk_57 4 rfl ?_
        refine x_aload_n F dX0_bestPlaceToAsk_59 rfl 0 rfl ?_
        obtain ⟨x60, c60, h⟩ := bdS h
        refine x_getR F (ci := 0) (C := RX0) (T := TX0) (N := 12) rfl ⟨by decide, rfl⟩ inU0 0 (by decide) (fun _ _ _ => rfl) wl_17 c60 dX0_bestPlaceToAsk_60 ?_
        obtain ⟨x63, c63, h⟩ := bdS h
        refine x_getR F (ci := 8) (C := RX8) (T := TX8) (N := 17) rfl ⟨by decide, rfl⟩ inU8 3 (by decide) (fun _ _ _ => rfl) wl_58 c63 dX0_bestPlaceToAsk_63 ?_
        refine x_iload_n F dX0_bestPlaceToAsk_66 rfl 1 rfl ?_
        obtain ⟨x67, c67, h⟩ := bdS h
        refine x_aI F c67 dX0_bestPlaceToAsk_67 ?_
        refine x_icmp_ge F (tgt := 117) dX0_bestPlaceToAsk_68 (by decide) (fun c68 => ?_) (fun c68 => ?_)
        · rw [if_pos c68] at h
          refine x_iload_n F dX0_bestPlaceToAsk_117 rfl 2 rfl ?_
          obtain rfl := Option.some.inj h
          obtain ⟨rfl, rfl⟩ := hR _ _ rfl
          exact x_iret F hr hl dX0_bestPlaceToAsk_118
        · rw [if_neg c68] at h
          refine x_aload_n F dX0_bestPlaceToAsk_71 rfl 0 rfl ?_
          obtain ⟨x72, c72, h⟩ := bdS h
          refine x_getR F (ci := 0) (C := RX0) (T := TX0) (N := 12) rfl ⟨by decide, rfl⟩ inU0 7 (by decide) (fun _ _ _ => rfl) wl_12 c72 dX0_bestPlaceToAsk_72 ?_
          refine x_iload F dX0_bestPlaceToAsk_75 4 rfl ?_
          obtain ⟨x77, c77, h⟩ := bdS h
          refine x_aI F c77 dX0_bestPlaceToAsk_77 ?_
          refine x_iconst F (v := (-1)) dX0_bestPlaceToAsk_78 (by decide) ?_
          refine x_icmp_ne F (tgt := 111) dX0_bestPlaceToAsk_79 (by decide) (fun c79 => ?_) (fun c79 => ?_)
          · rw [if_neg c79] at h
            refine x_iinc F (v := v4 + 1) (lv' := [(4, .int (v4 + 1)), (0, .ref (b + v0)), (1, .int v1), (2, .int v2), (3, .int v3)]) dX0_bestPlaceToAsk_111 4 rfl rfl (by decide) rfl ?_
            refine x_goto F (tgt := 57) dX0_bestPlaceToAsk_114 (by decide) ?_
            refine x_sub [1, 2, 3, 4, 0] rfl ?_
            exact ih v2 v3 (v4 + 1) M o h hR
          · rw [if_pos c79] at h
            refine x_aload_n F dX0_bestPlaceToAsk_82 rfl 0 rfl ?_
            refine x_iload F dX0_bestPlaceToAsk_83 4 rfl ?_
            refine x_aload_n F dX0_bestPlaceToAsk_85 rfl 0 rfl ?_
            obtain ⟨x86, c86, h⟩ := bdS h
            refine x_getR F (ci := 0) (C := RX0) (T := TX0) (N := 12) rfl ⟨by decide, rfl⟩ inU0 0 (by decide) (fun _ _ _ => rfl) wl_17 c86 dX0_bestPlaceToAsk_86 ?_
            obtain ⟨x89, c89, h⟩ := bdS h
            refine x_getR F (ci := 8) (C := RX8) (T := TX8) (N := 17) rfl ⟨by decide, rfl⟩ inU8 3 (by decide) (fun _ _ _ => rfl) wl_58 c89 dX0_bestPlaceToAsk_89 ?_
            refine x_iload_n F dX0_bestPlaceToAsk_92 rfl 1 rfl ?_
            obtain ⟨x93, c93, h⟩ := bdS h
            refine x_aI F c93 dX0_bestPlaceToAsk_93 ?_
            obtain ⟨k94, h⟩ := gdS h
            obtain ⟨⟨x94, M94⟩, c94, h⟩ := bdS h
            dsimp only at h
            refine x_callV F (As := [.int v4, .int x93]) (rest := []) (res := (some (.int x94))) (ci := 0) (q := (RX0, TX0, 12)) rfl (by decide) k94 (k_X0_mostLeftByAsking l b D cy N v0 v4 x93 M _ _ c94) wl_129 wl_130 wl_131 wl_52 wl_128 hd_X0_mostLeftByAsking ⟨Nat.le_of_ble_eq_true rfl, Nat.le_of_ble_eq_true rfl⟩ ⟨Nat.le_refl _, Nat.le_refl _⟩ (Nat.le_of_ble_eq_true rfl) rfl dX0_bestPlaceToAsk_94 ?_
            refine x_istore F (lv' := [(5, .int x94), (0, .ref (b + v0)), (1, .int v1), (2, .int v2), (3, .int v3), (4, .int v4)]) dX0_bestPlaceToAsk_97 (by decide) rfl ?_
            refine x_iload F dX0_bestPlaceToAsk_99 0 rfl ?_
            refine x_iload_n F dX0_bestPlaceToAsk_101 rfl 4 rfl ?_
            refine x_icmp_ge F (tgt := 111) dX0_bestPlaceToAsk_102 (by decide) (fun c102 => ?_) (fun c102 => ?_)
            · rw [if_pos c102] at h
              refine x_iinc F (v := v4 + 1) (lv' := [(4, .int (v4 + 1)), (5, .int x94), (0, .ref (b + v0)), (1, .int v1), (2, .int v2), (3, .int v3)]) dX0_bestPlaceToAsk_111 5 rfl rfl (by decide) rfl ?_
              refine x_goto F (tgt := 57) dX0_bestPlaceToAsk_114 (by decide) ?_
              refine x_sub [2, 3, 4, 5, 0] rfl ?_
              exact ih v2 v3 (v4 + 1) M94 o h hR
            · rw [if_neg c102] at h
              refine x_iload F dX0_bestPlaceToAsk_105 0 rfl ?_
              refine x_istore_n F (lv' := [(3, .int x94), (5, .int x94), (0, .ref (b + v0)), (1, .int v1), (2, .int v2), (4, .int v4)]) dX0_bestPlaceToAsk_107 rfl (by decide) rfl ?_
              refine x_iload F dX0_bestPlaceToAsk_108 5 rfl ?_
              refine x_istore_n F (lv' := [(2, .int v4), (3, .int x94), (5, .int x94), (0, .ref (b + v0)), (1, .int v1), (4, .int v4)]) dX0_bestPlaceToAsk_110 rfl (by decide) rfl ?_
              refine x_iinc F (v := v4 + 1) (lv' := [(4, .int (v4 + 1)), (2, .int v4), (3, .int x94), (5, .int x94), (0, .ref (b + v0)), (1, .int v1)]) dX0_bestPlaceToAsk_111 5 rfl rfl (by decide) rfl ?_
              refine x_goto F (tgt := 57) dX0_bestPlaceToAsk_114 (by decide) ?_
              refine x_sub [4, 5, 1, 2, 0] rfl ?_
              exact ih v4 x94 (v4 + 1) M94 o h hR
    obtain ⟨o57, h57, h⟩ := bdS h
    refine x_sub [3, 4, 2, 1, 0] rfl ?_
    refine L57 v0 v1 N ((-1)) 7 0 M46 o57 h57 (fun r' M' e => ?_)
    · subst e
      try dsimp only at h
      obtain ⟨rfl, rfl⟩ := retS h; exact ⟨rfl, rfl⟩
  · rw [if_pos c25] at h
    refine x_iconst F (v := (-1)) dX0_bestPlaceToAsk_28 (by decide) ?_
    obtain ⟨rfl, rfl⟩ := retS h
    exact x_iret F hr hl dX0_bestPlaceToAsk_29
theorem dX9_findKeyword_0 : decode cX9_findKeyword 0 = .ok (.iconst 0, 1) := by decide +kernel
theorem dX9_findKeyword_1 : decode cX9_findKeyword 1 = .ok (.istore_n 1, 1) := by decide +kernel
theorem dX9_findKeyword_2 : decode cX9_findKeyword 2 = .ok (.iload_n 1, 1) := by decide +kernel
theorem dX9_findKeyword_3 : decode cX9_findKeyword 3 = .ok (.bipush 20, 2) := by decide +kernel
theorem dX9_findKeyword_5 : decode cX9_findKeyword 5 = .ok (.if_icmp .ge 28, 3) := by decide +kernel
theorem dX9_findKeyword_8 : decode cX9_findKeyword 8 = .ok (.aload_n 0, 1) := by decide +kernel
theorem dX9_findKeyword_9 : decode cX9_findKeyword 9 = .ok (.getfield 15, 3) := by decide +kernel
theorem dX9_findKeyword_12 : decode cX9_findKeyword 12 = .ok (.iload_n 1, 1) := by decide +kernel
theorem dX9_findKeyword_13 : decode cX9_findKeyword 13 = .ok (.laload, 1) := by decide +kernel
theorem dX9_findKeyword_14 : decode cX9_findKeyword 14 = .ok (.aload_n 0, 1) := by decide +kernel
theorem dX9_findKeyword_15 : decode cX9_findKeyword 15 = .ok (.getfield 38, 3) := by decide +kernel
theorem dX9_findKeyword_18 : decode cX9_findKeyword 18 = .ok (.lcmp, 1) := by decide +kernel
theorem dX9_findKeyword_19 : decode cX9_findKeyword 19 = .ok (.ifCond .ne 8, 3) := by decide +kernel
theorem dX9_findKeyword_22 : decode cX9_findKeyword 22 = .ok (.aload_n 0, 1) := by decide +kernel
theorem dX9_findKeyword_23 : decode cX9_findKeyword 23 = .ok (.iload_n 1, 1) := by decide +kernel
theorem dX9_findKeyword_24 : decode cX9_findKeyword 24 = .ok (.putfield 42, 3) := by decide +kernel
theorem dX9_findKeyword_27 : decode cX9_findKeyword 27 = .ok (.iinc 1 1, 3) := by decide +kernel
theorem dX9_findKeyword_30 : decode cX9_findKeyword 30 = .ok (.goto (-28), 3) := by decide +kernel
theorem dX9_findKeyword_33 : decode cX9_findKeyword 33 = .ok (.return_, 1) := by decide +kernel
def fX9_findKeyword_L2 (N : Nat) (v0 : Nat) : Nat → Int32 → Mem → Option (Mem)
  | 0, _, _ => none
  | n + 1, v1, M => (if 20 ≤ v1 then some M else ((fR M 9 v0 1).bind fun x9 => ((aL M x9 v1).bind fun x13 => ((fL M 9 v0 8).bind fun x15 => (if (lg_cmp x13 x15) = 0 then ((pI M 9 v0 9 v1).bind fun M24 => fX9_findKeyword_L2 N v0 n (v1 + 1) M24) else fX9_findKeyword_L2 N v0 n (v1 + 1) M)))))
def fX9_findKeyword (N : Nat) (v0 : Nat) (M : Mem) : Option (Unit × Mem) := ((fX9_findKeyword_L2 N v0 N 0 M).bind fun o2 => some ((), o2))
set_option maxHeartbeats 4000000 in
set_option maxRecDepth 100000 in
theorem k_X9_findKeyword (l : Launch) (b : Nat) (D : va_G) (cy : Nat → ClassId) (N : Nat) (v0 : Nat) (M : Mem) (r : Unit) (Mf : Mem) (h : fX9_findKeyword N v0 M = some (r, Mf)) : Ct l yX9_findKeyword cX9_findKeyword 2 none 1 0 0 b D cy [.ref (b + v0)] M none Mf := by
  refine Ct_of (own := RX9) (by decide) rfl (Nat.le_of_ble_eq_true rfl) ?_
  intro p e s m args below meth c F hr hl hmn
  unfold fX9_findKeyword at h
  show X p l e ({ frames := 1, cells := 0, slots := 0, locals := 100 * 1 }) s m args below meth c (MQ below (Qm b D cy none Mf) args s 0 0 (fun q => b ≤ q)) 2 b D cy 0 0 M 0 [(0, .ref (b + v0))] []
  refine x_iconst F (v := 0) dX9_findKeyword_0 (by decide) ?_
  refine x_istore_n F (lv' := [(1, .int 0), (0, .ref (b + v0))]) dX9_findKeyword_1 rfl (by decide) rfl ?_
  have L2 : ∀ (v0 : Nat) (n : Nat) (v1 : Int32) (M : Mem) (o : Mem), fX9_findKeyword_L2 N v0 n v1 M = some o → X p l e ({ frames := 1, cells := 0, slots := 0, locals := 100 * 1 }) s m args below meth c (MQ below (Qm b D cy none Mf) args s 0 0 (fun q => b ≤ q)) 2 b D cy 0 0 o 33 [] [] → X p l e ({ frames := 1, cells := 0, slots := 0, locals := 100 * 1 }) s m args below meth c (MQ below (Qm b D cy none Mf) args s 0 0 (fun q => b ≤ q)) 2 b D cy 0 0 M 2 [(0, .ref (b + v0)), (1, .int v1)] [] := by
    intro v0 n
    induction n with
    | zero => intro v1 M o h; exact absurd h (by rw [fX9_findKeyword_L2]; exact fun z => by cases z)
    | succ n ih =>
      intro v1 M o h hE
      rw [fX9_findKeyword_L2] at h
      refine x_iload_n F dX9_findKeyword_2 rfl 1 rfl ?_
      refine x_bipush F (v := 20) dX9_findKeyword_3 (by decide) ?_
      refine x_icmp_ge F (tgt := 33) dX9_findKeyword_5 (by decide) (fun c5 => ?_) (fun c5 => ?_)
      · rw [if_pos c5] at h
        obtain rfl := Option.some.inj h
        refine x_sub [] rfl ?_
        exact hE
      · rw [if_neg c5] at h
        refine x_aload_n F dX9_findKeyword_8 rfl 0 rfl ?_
        obtain ⟨x9, c9, h⟩ := bdS h
        refine x_getR F (ci := 9) (C := RX9) (T := TX9) (N := 12) rfl ⟨by decide, rfl⟩ inU9 1 (by decide) (fun _ _ _ => rfl) wl_157 c9 dX9_findKeyword_9 ?_
        refine x_iload_n F dX9_findKeyword_12 rfl 1 rfl ?_
        obtain ⟨x13, c13, h⟩ := bdS h
        refine x_aL F c13 dX9_findKeyword_13 ?_
        refine x_aload_n F dX9_findKeyword_14 rfl 0 rfl ?_
        obtain ⟨x15, c15, h⟩ := bdS h
        refine x_getL F (ci := 9) (C := RX9) (T := TX9) (N := 12) rfl ⟨by decide, rfl⟩ inU9 8 (by decide) (fun _ _ _ => rfl) wl_151 c15 dX9_findKeyword_15 ?_
        refine x_lcmp F dX9_findKeyword_18 ?_
        refine x_if_ne F (tgt := 27) dX9_findKeyword_19 (by decide) (fun c19 => ?_) (fun c19 => ?_)
        · rw [if_neg c19] at h
          refine x_iinc F (v := v1 + 1) (lv' := [(1, .int (v1 + 1)), (0, .ref (b + v0))]) dX9_findKeyword_27 1 rfl rfl (by decide) rfl ?_
          refine x_goto F (tgt := 2) dX9_findKeyword_30 (by decide) ?_
          refine x_sub [1, 0] rfl ?_
          exact ih (v1 + 1) M o h hE
        · rw [if_pos c19] at h
          refine x_aload_n F dX9_findKeyword_22 rfl 0 rfl ?_
          refine x_iload_n F dX9_findKeyword_23 rfl 1 rfl ?_
          obtain ⟨M24, c24, h⟩ := bdS h
          refine x_putI F (ci := 9) (C := RX9) (T := TX9) (N := 12) rfl ⟨by decide, rfl⟩ inU9 tyX9_ok nmX9 9 (by decide) rfl rfl wl_158 c24 dX9_findKeyword_24 ?_
          refine x_iinc F (v := v1 + 1) (lv' := [(1, .int (v1 + 1)), (0, .ref (b + v0))]) dX9_findKeyword_27 1 rfl rfl (by decide) rfl ?_
          refine x_goto F (tgt := 2) dX9_findKeyword_30 (by decide) ?_
          refine x_sub [1, 0] rfl ?_
          exact ih (v1 + 1) M24 o h hE
  obtain ⟨o2, h2, h⟩ := bdS h
  refine x_sub [1, 0] rfl ?_
  refine L2 v0 N 0 M o2 h2 ?_
  obtain ⟨rfl, rfl⟩ := retS h
  exact x_vret F hr hl dX9_findKeyword_33
